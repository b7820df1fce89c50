/-! the law from its entry to its loop -/
theorem rrA.grow {X : gs_X} {σ : gs_St} {G : List Nat} {rr nr : Nat} {cw : Nat → Nat} {Q : List Rl} {E : List En} {Lt : List Nat} {sa : Nat} {nw : Bool} {rc fc : Nat} (h : rrA X σ [] rr nr cw Q E Lt sa nw rc fc none) (hG : ∀ q ∈ G, σ q = none) : rrA X σ G rr nr cw Q E Lt sa nw rc fc none := by
  obtain ⟨ρ, dv, bk, tu, ma, la, cm, ac, ai, ab, lc, li, lb, mc, mi, mb, va, co, ru, sr, v, sf, cf, fR, dw, ⟨r1, r2, r3, x0, hdv, k0, k2, k3, x2, r9, r10, r11, r12, r13, r14, r15⟩, hd⟩ := h
  refine ⟨ρ, dv, bk, tu, ma, la, cm, ac, ai, ab, lc, li, lb, mc, mi, mb, va, co, ru, sr, v, sf, cf, fR, dw, ⟨r1, r2, r3, x0, hdv, k0, k2, k3, x2, r9, r10, r11, r12, r13, r14, fun q hq hg => ?_⟩, hd⟩
  obtain ⟨cs, ci, cr, ds, vs, a9, b9, c9, z9, g1, g2, g3, g4, g5, g6, g7, g8, g9, g10, g11, g12, g13, -⟩ := hdv
  have z := hG q hg
  simp only [List.mem_cons, List.not_mem_nil, or_false] at hq
  rcases hq with rfl | rfl | rfl | rfl | rfl | rfl | rfl | rfl | rfl | rfl | rfl | rfl | rfl | rfl | rfl | rfl | rfl | rfl <;> first | (rw [x0] at z; cases z) | (rw [g1] at z; cases z) | (rw [k0] at z; cases z) | (rw [g2] at z; cases z) | (rw [g12] at z; cases z) | (rw [g6] at z; cases z) | (rw [g8] at z; cases z) | (rw [g3] at z; cases z) | (rw [g4] at z; cases z) | (rw [g5] at z; cases z) | (rw [g7] at z; cases z) | (rw [g9] at z; cases z) | (rw [g10] at z; cases z) | (rw [g11] at z; cases z) | (rw [g13] at z; cases z) | (rw [x2] at z; cases z) | (rw [k2] at z; cases z) | (rw [k3] at z; cases z)
theorem rrA.move {X : gs_X} {σ τ : gs_St} {G : List Nat} {rr nr : Nat} {cw : Nat → Nat} {Q : List Rl} {E : List En} {Lt : List Nat} {sa : Nat} {nw : Bool} {rc fc : Nat} (h : rrA X σ G rr nr cw Q E Lt sa nw rc fc none) (kO : ∀ q e, σ q = some e → τ q = some e) : rrA X τ G rr nr cw Q E Lt sa nw rc fc none := by
  obtain ⟨ρ, dv, bk, tu, ma, la, cm, ac, ai, ab, lc, li, lb, mc, mi, mb, va, co, ru, sr, v, sf, cf, fR, dw, ⟨r1, r2, r3, x0, hdv, k0, k2, k3, x2, r9, r10, r11, r12, r13, r14, r15⟩, hd⟩ := h
  have hdv' : dvA X τ dv bk tu ma la cm ac ai ab lc li lb mc mi mb va E Lt v sa nw rc := by
    obtain ⟨cs, ci, cr, ds, vs, a9, b9, c9, z9, d0, t0, t1, t2, t3, l0, l1, m0, m1, m2, m3, q0, q1, r⟩ := hdv
    exact ⟨cs, ci, cr, ds, vs, a9, b9, c9, z9, kO _ _ d0, kO _ _ t0, kO _ _ t1, kO _ _ t2, kO _ _ t3, kO _ _ l0, kO _ _ l1, kO _ _ m0, kO _ _ m1, kO _ _ m2, kO _ _ m3, kO _ _ q0, kO _ _ q1, r⟩
  exact ⟨ρ, dv, bk, tu, ma, la, cm, ac, ai, ab, lc, li, lb, mc, mi, mb, va, co, ru, sr, v, sf, cf, fR, dw, ⟨r1, r2, r3, kO _ _ x0, hdv', kO _ _ k0, kO _ _ k2, kO _ _ k3, kO _ _ x2, r9, r10, r11, r12, fun q e z => ⟨kO q e (r13 q e z).1, (r13 q e z).2⟩, r14, r15⟩, hd⟩
theorem frm.up_new {A : List Nat} {σ τ : gs_St} {q : Nat} {v : va_E} (h : frm A σ τ) (hq : τ q = none) : frm A σ (gs_up τ q v) := fun a e ha z => by
  have := h a e ha z
  unfold gs_up
  by_cases hh : a = q
  · rw [hh, hq] at this; cases this
  · rw [if_neg hh]; exact this
set_option maxHeartbeats 4000000 in
set_option maxRecDepth 100000 in
theorem whole_from {RL : RLT} (pe : PE RL) (hinit : RL 0 (fun _ => 0) [] [] [] 0 true 0 0 none [] [] [] none) {p : Program} {e : Env} {s : State} {m : MethodId} {below : List Frame} {meth : Method} {c : Code} (l : Launch) {sb L : Nat} {xs : Nat → Int32} (htr : l.stackTraces = false) (hL : L ≤ 3072) (C0 : lw_At p s m meth c sb L xs) : W p l e room_1 s m #[Value.ref sb] below meth c s.heap [] 0 0 (lw_Z below #[Value.ref sb] s) (entryFrame m ([Value.ref sb] : List Value).toArray 7) := by
  obtain ⟨X, hXX, hK, hE, hzE⟩ := gs_start C0
  obtain ⟨hx, hb, hr, hml, hown, hts0, hX, hbl, hlocks, hgv⟩ := id C0
  have ht : ∀ w ∈ gs_w, w.before #[Value.ref sb] s = true := fun w h => hts0 w (List.mem_filter.mp h).1
  have hts : ∀ w ∈ (Cond.initialized "RuleRoundsLaw") :: gs_w, w.before #[Value.ref sb] s = true := fun w h => by
    rcases List.mem_cons.mp h with z | z
    · rw [z]; exact ht _ w_0
    · exact ht w z
  have hz : X.2.2 ≤ s.heap.size := Nat.le_of_eq hzE
  have hA : ∀ q : Nat, s.heap.size ≤ q → gs_A X q := fun q h => Nat.le_trans hz h
  have hbA : ¬ gs_A X sb := fun h => by have h : X.2.2 ≤ sb := h; have hbl : sb < s.heap.size := hbl; omega
  have hS : va_S (gs_A X) s.heap s.heap [] := va_S.rf
  have hG : gs_H X (fun _ => none) s.heap := ⟨[], (fun a e h => by simp at h), ⟨(fun i j p q h => by simp at h), (fun a e h => by simp at h)⟩, fun a e h => by cases h⟩
  have hl := lv_entry ([.ref sb]) (n := 7) (Nat.le_of_ble_eq_true rfl)
  rw [lg_entry_eq]
  generalize (lg_sl ([.ref sb]) ++ List.replicate (7 - (lg_sl ([.ref sb])).length) Slot.unset).toArray = ls at hl ⊢
  have hl : lv_has ls 7 [(0, .ref sb)] := hl
  refine gs_new (fs := [.null, .null, .null, .null, .int 0, .null]) hx hb ht hown hK hG hS hA k_RR w_16 w_17 w_1 (fun j hj => by (rcases (show j = 0 ∨ j = 1 ∨ j = 2 ∨ j = 3 ∨ j = 4 ∨ j = 5 by omega) with rfl | rfl | rfl | rfl | rfl | rfl <;> rfl)) (by decide) (by decide) d_LA_law_0 (fun rr H hq1 hG hS => ?_)
  obtain ⟨σ1, e1⟩ : ∃ zq, zq = gs_up (fun _ => none) rr (gs_ob 0 [.null, .null, .null, .null, .int 0, .null]) := ⟨_, rfl⟩
  have hG : gs_H X (gs_up (fun _ => none) rr (gs_ob 0 [.null, .null, .null, .null, .int 0, .null])) H := hG
  rw [← e1] at hG
  have x1 : σ1 rr = some (gs_ob 0 [.null, .null, .null, .null, .int 0, .null]) := by rw [e1]; exact gs_us
  refine lv_dup hx hb d_LA_law_3 rfl ?_
  refine gs_callIv (As := []) (rest := [.ref rr]) ⟨hx, hb, hml, hown, hts⟩ hK hE hz hG hS (c_rr_init (G := []) l (fun q h => by cases h) (fun h => by cases h) x1) mI_RR_init w_18 rfl hl.1 rfl (Nat.le_of_ble_eq_true rfl) ⟨by decide, by decide⟩ ⟨by decide, by decide⟩ d_LA_law_4 (fun σ2 H locs hp hG hS => ?_)
  obtain ⟨hR2, -⟩ := hp
  refine lv_astore_n (lv' := [(1, .ref rr), (0, .ref sb)]) hx hb d_LA_law_7 rfl hl (by decide) rfl (fun ls hl => ?_)
  refine gs_new (fs := [.int 0, .int 0, .null, .null, .int 0, .null, .null, .int 0, .null, .null, .null, .null, .null, .null, .int 0, .int 0, .int 0, .int 0, .null, .null, .null, .null, .null, .null, .null, .int 0, .int 0, .int 0, .null, .null, .null]) hx hb ht hown hK hG hS hA k_MO w_655 w_656 w_6 (fun j hj => by (rcases (show j = 0 ∨ j = 1 ∨ j = 2 ∨ j = 3 ∨ j = 4 ∨ j = 5 ∨ j = 6 ∨ j = 7 ∨ j = 8 ∨ j = 9 ∨ j = 10 ∨ j = 11 ∨ j = 12 ∨ j = 13 ∨ j = 14 ∨ j = 15 ∨ j = 16 ∨ j = 17 ∨ j = 18 ∨ j = 19 ∨ j = 20 ∨ j = 21 ∨ j = 22 ∨ j = 23 ∨ j = 24 ∨ j = 25 ∨ j = 26 ∨ j = 27 ∨ j = 28 ∨ j = 29 ∨ j = 30 by omega) with rfl | rfl | rfl | rfl | rfl | rfl | rfl | rfl | rfl | rfl | rfl | rfl | rfl | rfl | rfl | rfl | rfl | rfl | rfl | rfl | rfl | rfl | rfl | rfl | rfl | rfl | rfl | rfl | rfl | rfl | rfl <;> rfl)) (by decide) (by decide) d_LA_law_8 (fun mo H hq3 hG hS => ?_)
  obtain ⟨σ3, e3⟩ : ∃ zq, zq = gs_up σ2 mo (gs_ob 7 [.int 0, .int 0, .null, .null, .int 0, .null, .null, .int 0, .null, .null, .null, .null, .null, .null, .int 0, .int 0, .int 0, .int 0, .null, .null, .null, .null, .null, .null, .null, .int 0, .int 0, .int 0, .null, .null, .null]) := ⟨_, rfl⟩
  rw [← e3] at hG
  have x3 : σ3 mo = some (gs_ob 7 [.int 0, .int 0, .null, .null, .int 0, .null, .null, .int 0, .null, .null, .null, .null, .null, .null, .int 0, .int 0, .int 0, .int 0, .null, .null, .null, .null, .null, .null, .null, .int 0, .int 0, .int 0, .null, .null, .null]) := by rw [e3]; exact gs_us
  have f3 : frm [] σ2 σ3 := by rw [e3]; exact frm.up_new frm.rf hq3
  refine lv_dup hx hb d_LA_law_11 rfl ?_
  refine gs_callIv (As := []) (rest := [.ref mo]) ⟨hx, hb, hml, hown, hts⟩ hK hE hz hG hS (c_MO_init l X σ3 mo x3) mI_MO_init w_657 rfl hl.1 rfl (Nat.le_of_ble_eq_true rfl) ⟨by decide, by decide⟩ ⟨by decide, by decide⟩ d_LA_law_12 (fun σ4 H locs hp hG hS => ?_)
  obtain ⟨A, hM4, f4, hn4⟩ := hp
  refine lv_astore_n (lv' := [(2, .ref mo), (1, .ref rr), (0, .ref sb)]) hx hb d_LA_law_15 rfl hl (by decide) rfl (fun ls hl => ?_)
  refine lv_iconst (v := nI 1) hx hb d_LA_law_16 (by decide) ?_
  refine gs_newl hx hb ht hK hG hS hA w_756 (by decide) (by decide) (by decide) d_LA_law_17 (fun out H hq5 hG hS => ?_)
  obtain ⟨σ5, e5⟩ : ∃ zq, zq = gs_up σ4 out (gs_la X 1 (fun _ => 0)) := ⟨_, rfl⟩
  rw [← e5] at hG
  have ho : σ5 out = some (gs_la X 1 (fun _ => 0)) := by rw [e5]; exact gs_us
  have f5 : frm [] σ4 σ5 := by rw [e5]; exact frm.up_new frm.rf hq5
  refine lv_astore_n (lv' := [(3, .ref out), (2, .ref mo), (1, .ref rr), (0, .ref sb)]) hx hb d_LA_law_19 rfl hl (by decide) rfl (fun ls hl => ?_)
  refine lv_iconst (v := nI 0) hx hb d_LA_law_20 (by decide) ?_
  refine lv_istore (lv' := [(4, .int (nI 0)), (3, .ref out), (2, .ref mo), (1, .ref rr), (0, .ref sb)]) hx hb d_LA_law_21 hl (by decide) rfl (fun ls hl => ?_)
  have hM5 : moA X σ5 mo A 0 0 (fun _ => 0) [] [] 0 0 [] none := hM4.kept (fun q _ e he => f5 q e (fun z => by cases z) he)
  obtain ⟨Z, m4, -⟩ := hM4.cell
  have n2 : ∀ q, σ3 q = none → σ2 q = none := fun q h => by
    cases h2 : σ2 q with
    | none => rfl
    | some e => rw [f3 q e (fun z => by cases z) h2] at h; cases h
  have hfresh : ∀ q ∈ out :: aM mo A, σ2 q = none := fun q hq => by
    rcases List.mem_cons.mp hq with rfl | hq
    · refine n2 _ ?_
      cases h3 : σ3 q with
      | none => rfl
      | some e =>
        have hne : q ∉ [mo] := fun z => by
          rcases List.mem_cons.mp z with rfl | z
          · rw [m4] at hq5; cases hq5
          · cases z
        rw [f4 q e hne h3] at hq5; cases hq5
    · rcases List.mem_cons.mp hq with rfl | hq
      · exact hq3
      · exact n2 _ (hn4 q hq)
  have hR2' := hR2.grow hfresh
  have f25 : ∀ q e, σ2 q = some e → σ5 q = some e := fun q e he => f5 q e (fun z => by cases z) (f4 q e (fun z => by
    rcases List.mem_cons.mp z with rfl | z
    · rw [hq3] at he; cases he
    · cases z) (f3 q e (fun z => by cases z) he))
  have hR5 : rrA X σ5 (out :: aM mo A) rr 0 (fun _ => 0) [] [] [] 0 true 0 0 none := hR2'.move f25
  refine W.widen (k := 42) (n := 103743) (by decide) (by decide) ?_
  exact law_loop pe l htr C0 hL hXX hK hE hz hbA hzE (L + 7) 0 42 103743 σ5 H locs (by omega) (by omega) ⟨0, _, [], [], [], 0, true, 0, 0, none, [], [], [], none, 0, _, hR5, hM5, hinit, ho⟩ (by omega) (by omega) hG hS ls hl
