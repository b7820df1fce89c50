set_option maxHeartbeats 4000000 in
set_option maxRecDepth 100000 in
/-- Deriving.deriveBy -/
theorem c_DE_deriveBy (l : Launch) (X : gs_X) (σ : gs_St) (dv bk tu ma la cm ac ai ab lc li lb mc mi mb va co ru sr nr nq a hd ho ck kf num : Nat) (x5 x6 x7 sc : Int32) (L Lt : List Nat) (cs ds : Nat → Int32) (R : Rl) (rdy : Nat) (nw : Bool) (fR fH fC : Nat → Option Nat) (vs : Nat → Int32) (v : Nat → Nat) (C : List En) (a9 b9 c9 : Nat → Int32)
    (hs : L.Pairwise (· ≤ ·)) (hn : L.length ≤ 301) (hcs : ∀ j x, L[j]? = some x → cs j = nI x ∧ x < 2 ^ 30) (hs2 : Lt.Pairwise (· ≤ ·)) (hn2 : Lt.length ≤ 301) (hds : ∀ j x, Lt[j]? = some x → ds j = nI x ∧ x < 2 ^ 30) (hRB : ruB R) (hhr : R.1.2.2.2.2 = nI rdy) (hr3 : rdy ≤ 3) (hnum : num < 24) (hfR : fR num = some a) (e1 : tu ≠ cm) (e2 : la ≠ cm) (e3 : ac ≠ mc) (e4 : ac ≠ mi) (e5 : ac ≠ mb) (e6 : lc ≠ mc) (e7 : lc ≠ mi) (e8 : lc ≠ mb) (n1 : mc ≠ mi) (n2 : mc ≠ mb) (n3 : mi ≠ mb) (hx6 : x6 = bI nw) (hv : vOK vs v) (hB : tuB C) (hR : tuR C a9 b9 c9) (d0 : σ dv = some (gs_ob 1 [.ref bk, .ref tu, .ref ma, .ref la, .ref cm, .int x5, .int x6, .int x7])) (k0 : σ bk = some (gs_ob 5 [.ref co, .ref ru, .ref sr, .int (nI nr), .int (nI nq), .int sc])) (k2 : σ ru = some (gs_qa X 2 24 fR)) (r0 : σ a = some (gs_ob 4 [.ref hd, .ref ho, .ref ck, .int (nI R.2.1.length), .int (nI R.2.2.length), .ref kf])) (r1 : σ hd = some (itE R.1)) (r2 : σ ho = some (gs_qa X 3 3 fH)) (r3 : σ ck = some (gs_qa X 3 6 fC)) (t0 : σ tu = some (gs_ob 6 [.ref ac, .ref ai, .ref ab, .int (nI L.length)])) (t1 : σ ac = some (gs_ia X 301 cs)) (l0 : σ la = some (gs_ob 6 [.ref lc, .ref li, .ref lb, .int (nI Lt.length)])) (l1 : σ lc = some (gs_ia X 301 ds)) (q0 : σ ma = some (gs_ob 3 [.ref tu, .ref va])) (q1 : σ va = some (gs_ia X 8 vs)) (m0 : σ cm = some (gs_ob 6 [.ref mc, .ref mi, .ref mb, .int (nI C.length)])) (m1 : σ mc = some (gs_ia X 301 a9)) (m2 : σ mi = some (gs_ia X 301 b9)) (m3 : σ mb = some (gs_ia X 301 c9)) (rh : ∀ i t, R.2.1[i]? = some t → ∃ b, fH i = some b ∧ σ b = some (itE t)) (rk : ∀ i t, R.2.2[i]? = some t → ∃ b, fC i = some b ∧ σ b = some (itE t)) : gs_Mv l X y_DE_deriveBy b_DE_deriveBy 3 ({ frames := 6 + R.2.1.length, cells := 0, slots := 0, locals := 330 + 60 * R.2.1.length }) σ [.ref dv, .int (nI num)] (fun σ' => ∃ vs' a' b' c', σ' = dvS X σ va vs' cm mc mi mb (dvB L Lt num R rdy nw v C).2.length a' b' c' ∧ vOK vs' (dvB L Lt num R rdy nw v C).1 ∧ tuR (dvB L Lt num R rdy nw v C).2 a' b' c' ∧ tuB (dvB L Lt num R rdy nw v C).2) := by
  refine Met.ofW (cc := b_DE_deriveBy) (maxL := 3) (ret := none) (by decide) rfl ?_
  intro p e s m args below meth c s₁ B₀ hml hv
  obtain ⟨rfl, hK, hG, hz, hE⟩ := hv
  have hx := B₀.exec
  have hb := B₀.bytes
  have hr := B₀.returns
  have hts := atoms_spec (ws := gs_ws y_DE_deriveBy b_DE_deriveBy 3 none) B₀.pre
  have ht : ∀ w ∈ gs_w, w.before _ s = true := fun w h => hts w (List.mem_cons_of_mem _ h)
  have hown : s.vm.findClass R_DE = some m.cls := findClass_of_methodNamed B₀.named
  have hlocks := B₀.notSynchronized
  have hA : ∀ q : Nat, s.heap.size ≤ q → gs_A X q := fun q h => Nat.le_trans hz h
  have hS : va_S (gs_A X) s.heap s.heap [] := va_S.rf
  have hl := lv_entry ([.ref dv, .int (nI num)]) (n := 3) (Nat.le_of_ble_eq_true rfl)
  rw [lg_entry_eq]
  generalize (lg_sl ([.ref dv, .int (nI num)]) ++ List.replicate (3 - (lg_sl ([.ref dv, .int (nI num)])).length) Slot.unset).toArray = ls at hl ⊢
  have hl : lv_has ls 3 [(0, .ref dv), (1, .int (nI num))] := hl
  have w1 : va ≠ cm := gs_ne q1 m0 (by simp)
  have w2 : va ≠ mc := gs_ne q1 m1 (by simp)
  have w3 : va ≠ mi := gs_ne q1 m2 (by simp)
  have w4 : va ≠ mb := gs_ne q1 m3 (by simp)
  have hk3 := hRB.2.1
  obtain ⟨rk3, hk4⟩ : ∃ z, z = R.2.1.length := ⟨_, rfl⟩
  have loop : ∀ (fl : Nat) (i : Nat) (vs1 : Nat → Int32) (v1 : Nat → Nat) (C1 : List En) (a19 b19 c19 : Nat → Int32) (σ1 : gs_St), (i ≤ R.2.1.length) → ((v1, C1) = (List.range i).foldl (dvP L Lt num R rdy) (v, C)) → (nw = false) → (vOK vs1 v1) → (tuB C1) → (tuR C1 a19 b19 c19) → (σ1 = dvS X σ va vs1 cm mc mi mb C1.length a19 b19 c19) → R.2.1.length - i < fl → (σ1 dv = some (gs_ob 1 [.ref bk, .ref tu, .ref ma, .ref la, .ref cm, .int x5, .int x6, .int x7])) → (σ1 bk = some (gs_ob 5 [.ref co, .ref ru, .ref sr, .int (nI nr), .int (nI nq), .int sc])) → (σ1 ru = some (gs_qa X 2 24 fR)) → (σ1 a = some (gs_ob 4 [.ref hd, .ref ho, .ref ck, .int (nI R.2.1.length), .int (nI R.2.2.length), .ref kf])) → (σ1 hd = some (itE R.1)) → (σ1 ho = some (gs_qa X 3 3 fH)) → (σ1 ck = some (gs_qa X 3 6 fC)) → (σ1 tu = some (gs_ob 6 [.ref ac, .ref ai, .ref ab, .int (nI L.length)])) → (σ1 ac = some (gs_ia X 301 cs)) → (σ1 la = some (gs_ob 6 [.ref lc, .ref li, .ref lb, .int (nI Lt.length)])) → (σ1 lc = some (gs_ia X 301 ds)) → (σ1 ma = some (gs_ob 3 [.ref tu, .ref va])) → (σ1 va = some (gs_ia X 8 vs1)) → (σ1 cm = some (gs_ob 6 [.ref mc, .ref mi, .ref mb, .int (nI C1.length)])) → (σ1 mc = some (gs_ia X 301 a19)) → (σ1 mi = some (gs_ia X 301 b19)) → (σ1 mb = some (gs_ia X 301 c19)) → ∀ (H : Heap) (locs : List Loc), gs_H X σ1 H → va_S (gs_A X) s.heap H locs → ∀ ls, lv_has ls 3 [(2, .int (nI i)), (0, .ref dv), (1, .int (nI num))] → W p l e ({ frames := 6 + R.2.1.length, cells := 0, slots := 0, locals := 330 + 60 * R.2.1.length } : Room) s m ([.ref dv, .int (nI num)] : List Value).toArray below meth c H locs 0 0 (MQ below (va_Qv (fun σ' => ∃ vs' a' b' c', σ' = dvS X σ va vs' cm mc mi mb (dvB L Lt num R rdy nw v C).2.length a' b' c' ∧ vOK vs' (dvB L Lt num R rdy nw v C).1 ∧ tuR (dvB L Lt num R rdy nw v C).2 a' b' c' ∧ tuB (dvB L Lt num R rdy nw v C).2) (gs_U X) (gs_A X)) ([.ref dv, .int (nI num)] : List Value).toArray s 0 0 (gs_A X)) (F0 m 18 ls []) := by
    intro fl
    induction fl with
    | zero => intro i vs1 v1 C1 a19 b19 c19 σ1 _ _ _ _ _ _ _ h9; omega
    | succ fl ih =>
      intro i vs1 v1 C1 a19 b19 c19 σ1 hi hst hnw hv1 hB1 hR1 eσ1 hmu y0 y1 y2 y3 y4 y5 y6 y7 y8 y9 y10 y11 y12 y13 y14 y15 y16 H locs hG hS ls hl
      have rh2 : ∀ i t, R.2.1[i]? = some t → ∃ b, fH i = some b ∧ σ1 b = some (itE t) := fun i t z => by obtain ⟨b, z1, z2⟩ := rh i t z; exact ⟨b, z1, by rw [eσ1, dvS_n (gs_ne z2 q1 (by simp)) (gs_ne z2 m0 (by simp)) (gs_ne z2 m1 (by simp)) (gs_ne z2 m2 (by simp)) (gs_ne z2 m3 (by simp))]; exact z2⟩
      have rk2 : ∀ i t, R.2.2[i]? = some t → ∃ b, fC i = some b ∧ σ1 b = some (itE t) := fun i t z => by obtain ⟨b, z1, z2⟩ := rk i t z; exact ⟨b, z1, by rw [eσ1, dvS_n (gs_ne z2 q1 (by simp)) (gs_ne z2 m0 (by simp)) (gs_ne z2 m1 (by simp)) (gs_ne z2 m2 (by simp)) (gs_ne z2 m3 (by simp))]; exact z2⟩
      refine lv_iload_n hx hb d_DE_deriveBy_18 rfl (lv_at hl 0 rfl) ?_
      refine lv_aload_n hx hb d_DE_deriveBy_19 rfl (lv_at hl 1 rfl) ?_
      refine gs_get hx hb ht hown hK hG k_DE y0 0 (by decide) w_111 rfl d_DE_deriveBy_20 ?_
      refine gs_get hx hb ht hown hK hG k_RB y1 1 (by decide) w_35 rfl d_DE_deriveBy_23 ?_
      refine lv_iload_n hx hb d_DE_deriveBy_26 rfl (lv_at hl 2 rfl) ?_
      refine gs_aald hx hb hK hG 2 y2 rfl (j := num) (by omega) (by omega) d_DE_deriveBy_27 ?_
      refine gs_topr (show va_rf (fR num) = .ref a by rw [hfR]; rfl) ?_
      refine gs_get hx hb ht hown hK hG k_RU y3 3 (by decide) w_505 rfl d_DE_deriveBy_28 ?_
      refine lv_icmp_ge (tgt := 48) hx hb d_DE_deriveBy_31 (by decide) (fun c_31 => ?_) (fun c_31 => ?_)
      · have c_31 : R.2.1.length ≤ i := (nI_leI (by omega) (by omega)).mp c_31
        have hie : i = R.2.1.length := by omega
        rw [hie] at hst
        have hres : dvB L Lt num R rdy nw v C = (v1, C1) := by unfold dvB; rw [if_neg (by rw [hnw]; decide), ← hst]
        exact gs_vret hx hb hr hK hE hz hG hS hlocks (by first | decide | omega | (dsimp only [headSpec]; omega)) (by first | decide | omega | (dsimp only [headSpec]; omega)) (⟨vs1, a19, b19, c19, (by rw [hres]; exact eσ1), (by rw [hres]; exact hv1), (by rw [hres]; exact hR1), (by rw [hres]; exact hB1)⟩) d_DE_deriveBy_48
      · have c_31 : ¬ R.2.1.length ≤ i := mt (nI_leI (by omega) (by omega)).mpr c_31
        refine lv_aload_n hx hb d_DE_deriveBy_34 rfl (lv_at hl 1 rfl) ?_
        refine lv_iload_n hx hb d_DE_deriveBy_35 rfl (lv_at hl 2 rfl) ?_
        refine lv_iconst (v := nI 0) hx hb d_DE_deriveBy_36 (by decide) ?_
        refine lv_iload_n hx hb d_DE_deriveBy_37 rfl (lv_at hl 0 rfl) ?_
        refine gs_callVi (As := [.int (nI num), .int (nI 0), .int (nI i)]) (rest := []) ⟨hx, hb, hml, hown, hts⟩ hK hE hz hG hS (c_DE_deriveFrom l X dv bk tu ma la cm ac ai ab lc li lb mc mi mb va co ru sr nr nq a hd ho ck kf num x5 x6 x7 sc L Lt cs ds R rdy (nI i) fR fH fC hs hn hcs hs2 hn2 hds hRB hhr hr3 hnum hfR e1 e2 e3 e4 e5 e6 e7 e8 n1 n2 n3 R.2.1.length 0 (by omega) σ1 vs1 v1 C1 a19 b19 c19 hv1 hB1 hR1 y0 y1 y2 y3 y4 y5 y6 y7 y8 y9 y10 y11 y12 y13 y14 y15 y16 rh2 rk2) mV_DE_deriveFrom w_176 y0 rfl rfl hl.1 rfl (Nat.le_of_ble_eq_true rfl) ⟨(by first | decide | omega | (dsimp only [headSpec]; omega)), (by first | decide | omega | (dsimp only [headSpec]; omega))⟩ ⟨(by first | decide | omega | (dsimp only [headSpec]; omega)), (by first | decide | omega | (dsimp only [headSpec]; omega))⟩ d_DE_deriveBy_38 (fun r_38 σ_38 H locs hp_38 hG hS => ?_)
        obtain ⟨vs3, a3, b3, c3, ev3, hv3, hR3, hB3, er3⟩ := hp_38
        refine gs_top er3 ?_
        rw [ev3] at hG
        unfold dvS tu4 at hG
        obtain ⟨σ_1, eσ_1⟩ : ∃ zq, zq = gs_up σ1 va (gs_ia X 8 vs3) := ⟨_, rfl⟩
        have hc_2 : σ_1 dv = some (gs_ob 1 [.ref bk, .ref tu, .ref ma, .ref la, .ref cm, .int x5, .int x6, .int x7]) := by rw [eσ_1]; exact gs_ku (gs_ne y0 y12 (by simp)) y0
        have hc_3 : σ_1 bk = some (gs_ob 5 [.ref co, .ref ru, .ref sr, .int (nI nr), .int (nI nq), .int sc]) := by rw [eσ_1]; exact gs_ku (gs_ne y1 y12 (by simp)) y1
        have hc_4 : σ_1 ru = some (gs_qa X 2 24 fR) := by rw [eσ_1]; exact gs_ku (gs_ne y2 y12 (by simp)) y2
        have hc_5 : σ_1 a = some (gs_ob 4 [.ref hd, .ref ho, .ref ck, .int (nI R.2.1.length), .int (nI R.2.2.length), .ref kf]) := by rw [eσ_1]; exact gs_ku (gs_ne y3 y12 (by simp)) y3
        have hc_6 : σ_1 hd = some (gs_ob 2 [.int (nI R.1.1.1), .int (nI R.1.1.2.1), .int (nI R.1.1.2.2), .int (nI R.1.2.1.1), .int (nI R.1.2.1.2.1), .int (nI R.1.2.1.2.2), .int (nI R.1.2.2.1), .int (nI R.1.2.2.2.1), .int R.1.2.2.2.2]) := by rw [eσ_1]; exact gs_ku (gs_ne y4 y12 (by simp)) y4
        have hc_7 : σ_1 ho = some (gs_qa X 3 3 fH) := by rw [eσ_1]; exact gs_ku (gs_ne y5 y12 (by simp)) y5
        have hc_8 : σ_1 ck = some (gs_qa X 3 6 fC) := by rw [eσ_1]; exact gs_ku (gs_ne y6 y12 (by simp)) y6
        have hc_9 : σ_1 tu = some (gs_ob 6 [.ref ac, .ref ai, .ref ab, .int (nI L.length)]) := by rw [eσ_1]; exact gs_ku (gs_ne y7 y12 (by simp)) y7
        have hc_10 : σ_1 ac = some (gs_ia X 301 cs) := by rw [eσ_1]; exact gs_ku (gs_ne y8 y12 (by simp)) y8
        have hc_11 : σ_1 la = some (gs_ob 6 [.ref lc, .ref li, .ref lb, .int (nI Lt.length)]) := by rw [eσ_1]; exact gs_ku (gs_ne y9 y12 (by simp)) y9
        have hc_12 : σ_1 lc = some (gs_ia X 301 ds) := by rw [eσ_1]; exact gs_ku (gs_ne y10 y12 (by simp)) y10
        have hc_13 : σ_1 ma = some (gs_ob 3 [.ref tu, .ref va]) := by rw [eσ_1]; exact gs_ku (gs_ne y11 y12 (by simp)) y11
        have hc_14 : σ_1 cm = some (gs_ob 6 [.ref mc, .ref mi, .ref mb, .int (nI C1.length)]) := by rw [eσ_1]; exact gs_ku (gs_ne y13 y12 (by simp)) y13
        have hc_15 : σ_1 mc = some (gs_ia X 301 a19) := by rw [eσ_1]; exact gs_ku (gs_ne y14 y12 (by simp)) y14
        have hc_16 : σ_1 mi = some (gs_ia X 301 b19) := by rw [eσ_1]; exact gs_ku (gs_ne y15 y12 (by simp)) y15
        have hc_17 : σ_1 mb = some (gs_ia X 301 c19) := by rw [eσ_1]; exact gs_ku (gs_ne y16 y12 (by simp)) y16
        have hc_18 : σ_1 va = some (gs_ia X 8 vs3) := by rw [eσ_1]; exact gs_us
        obtain ⟨σ_19, eσ_19⟩ : ∃ zq, zq = gs_up σ_1 mc (gs_ia X 301 a3) := ⟨_, rfl⟩
        have hc_20 : σ_19 dv = some (gs_ob 1 [.ref bk, .ref tu, .ref ma, .ref la, .ref cm, .int x5, .int x6, .int x7]) := by rw [eσ_19]; exact gs_ku (gs_ne hc_2 hc_15 (by simp)) hc_2
        have hc_21 : σ_19 bk = some (gs_ob 5 [.ref co, .ref ru, .ref sr, .int (nI nr), .int (nI nq), .int sc]) := by rw [eσ_19]; exact gs_ku (gs_ne hc_3 hc_15 (by simp)) hc_3
        have hc_22 : σ_19 ru = some (gs_qa X 2 24 fR) := by rw [eσ_19]; exact gs_ku (gs_ne hc_4 hc_15 (by simp)) hc_4
        have hc_23 : σ_19 a = some (gs_ob 4 [.ref hd, .ref ho, .ref ck, .int (nI R.2.1.length), .int (nI R.2.2.length), .ref kf]) := by rw [eσ_19]; exact gs_ku (gs_ne hc_5 hc_15 (by simp)) hc_5
        have hc_24 : σ_19 hd = some (gs_ob 2 [.int (nI R.1.1.1), .int (nI R.1.1.2.1), .int (nI R.1.1.2.2), .int (nI R.1.2.1.1), .int (nI R.1.2.1.2.1), .int (nI R.1.2.1.2.2), .int (nI R.1.2.2.1), .int (nI R.1.2.2.2.1), .int R.1.2.2.2.2]) := by rw [eσ_19]; exact gs_ku (gs_ne hc_6 hc_15 (by simp)) hc_6
        have hc_25 : σ_19 ho = some (gs_qa X 3 3 fH) := by rw [eσ_19]; exact gs_ku (gs_ne hc_7 hc_15 (by simp)) hc_7
        have hc_26 : σ_19 ck = some (gs_qa X 3 6 fC) := by rw [eσ_19]; exact gs_ku (gs_ne hc_8 hc_15 (by simp)) hc_8
        have hc_27 : σ_19 tu = some (gs_ob 6 [.ref ac, .ref ai, .ref ab, .int (nI L.length)]) := by rw [eσ_19]; exact gs_ku (gs_ne hc_9 hc_15 (by simp)) hc_9
        have hc_28 : σ_19 ac = some (gs_ia X 301 cs) := by rw [eσ_19]; exact gs_ku e3 hc_10
        have hc_29 : σ_19 la = some (gs_ob 6 [.ref lc, .ref li, .ref lb, .int (nI Lt.length)]) := by rw [eσ_19]; exact gs_ku (gs_ne hc_11 hc_15 (by simp)) hc_11
        have hc_30 : σ_19 lc = some (gs_ia X 301 ds) := by rw [eσ_19]; exact gs_ku e6 hc_12
        have hc_31 : σ_19 ma = some (gs_ob 3 [.ref tu, .ref va]) := by rw [eσ_19]; exact gs_ku (gs_ne hc_13 hc_15 (by simp)) hc_13
        have hc_32 : σ_19 cm = some (gs_ob 6 [.ref mc, .ref mi, .ref mb, .int (nI C1.length)]) := by rw [eσ_19]; exact gs_ku (gs_ne hc_14 hc_15 (by simp)) hc_14
        have hc_33 : σ_19 mi = some (gs_ia X 301 b19) := by rw [eσ_19]; exact gs_ku (Ne.symm n1) hc_16
        have hc_34 : σ_19 mb = some (gs_ia X 301 c19) := by rw [eσ_19]; exact gs_ku (Ne.symm n2) hc_17
        have hc_35 : σ_19 va = some (gs_ia X 8 vs3) := by rw [eσ_19]; exact gs_ku (gs_ne hc_18 hc_15 (by simp)) hc_18
        have hc_36 : σ_19 mc = some (gs_ia X 301 a3) := by rw [eσ_19]; exact gs_us
        obtain ⟨σ_37, eσ_37⟩ : ∃ zq, zq = gs_up σ_19 mi (gs_ia X 301 b3) := ⟨_, rfl⟩
        have hc_38 : σ_37 dv = some (gs_ob 1 [.ref bk, .ref tu, .ref ma, .ref la, .ref cm, .int x5, .int x6, .int x7]) := by rw [eσ_37]; exact gs_ku (gs_ne hc_20 hc_33 (by simp)) hc_20
        have hc_39 : σ_37 bk = some (gs_ob 5 [.ref co, .ref ru, .ref sr, .int (nI nr), .int (nI nq), .int sc]) := by rw [eσ_37]; exact gs_ku (gs_ne hc_21 hc_33 (by simp)) hc_21
        have hc_40 : σ_37 ru = some (gs_qa X 2 24 fR) := by rw [eσ_37]; exact gs_ku (gs_ne hc_22 hc_33 (by simp)) hc_22
        have hc_41 : σ_37 a = some (gs_ob 4 [.ref hd, .ref ho, .ref ck, .int (nI R.2.1.length), .int (nI R.2.2.length), .ref kf]) := by rw [eσ_37]; exact gs_ku (gs_ne hc_23 hc_33 (by simp)) hc_23
        have hc_42 : σ_37 hd = some (gs_ob 2 [.int (nI R.1.1.1), .int (nI R.1.1.2.1), .int (nI R.1.1.2.2), .int (nI R.1.2.1.1), .int (nI R.1.2.1.2.1), .int (nI R.1.2.1.2.2), .int (nI R.1.2.2.1), .int (nI R.1.2.2.2.1), .int R.1.2.2.2.2]) := by rw [eσ_37]; exact gs_ku (gs_ne hc_24 hc_33 (by simp)) hc_24
        have hc_43 : σ_37 ho = some (gs_qa X 3 3 fH) := by rw [eσ_37]; exact gs_ku (gs_ne hc_25 hc_33 (by simp)) hc_25
        have hc_44 : σ_37 ck = some (gs_qa X 3 6 fC) := by rw [eσ_37]; exact gs_ku (gs_ne hc_26 hc_33 (by simp)) hc_26
        have hc_45 : σ_37 tu = some (gs_ob 6 [.ref ac, .ref ai, .ref ab, .int (nI L.length)]) := by rw [eσ_37]; exact gs_ku (gs_ne hc_27 hc_33 (by simp)) hc_27
        have hc_46 : σ_37 ac = some (gs_ia X 301 cs) := by rw [eσ_37]; exact gs_ku e4 hc_28
        have hc_47 : σ_37 la = some (gs_ob 6 [.ref lc, .ref li, .ref lb, .int (nI Lt.length)]) := by rw [eσ_37]; exact gs_ku (gs_ne hc_29 hc_33 (by simp)) hc_29
        have hc_48 : σ_37 lc = some (gs_ia X 301 ds) := by rw [eσ_37]; exact gs_ku e7 hc_30
        have hc_49 : σ_37 ma = some (gs_ob 3 [.ref tu, .ref va]) := by rw [eσ_37]; exact gs_ku (gs_ne hc_31 hc_33 (by simp)) hc_31
        have hc_50 : σ_37 cm = some (gs_ob 6 [.ref mc, .ref mi, .ref mb, .int (nI C1.length)]) := by rw [eσ_37]; exact gs_ku (gs_ne hc_32 hc_33 (by simp)) hc_32
        have hc_51 : σ_37 mb = some (gs_ia X 301 c19) := by rw [eσ_37]; exact gs_ku (Ne.symm n3) hc_34
        have hc_52 : σ_37 va = some (gs_ia X 8 vs3) := by rw [eσ_37]; exact gs_ku (gs_ne hc_35 hc_33 (by simp)) hc_35
        have hc_53 : σ_37 mc = some (gs_ia X 301 a3) := by rw [eσ_37]; exact gs_ku n1 hc_36
        have hc_54 : σ_37 mi = some (gs_ia X 301 b3) := by rw [eσ_37]; exact gs_us
        obtain ⟨σ_55, eσ_55⟩ : ∃ zq, zq = gs_up σ_37 mb (gs_ia X 301 c3) := ⟨_, rfl⟩
        have hc_56 : σ_55 dv = some (gs_ob 1 [.ref bk, .ref tu, .ref ma, .ref la, .ref cm, .int x5, .int x6, .int x7]) := by rw [eσ_55]; exact gs_ku (gs_ne hc_38 hc_51 (by simp)) hc_38
        have hc_57 : σ_55 bk = some (gs_ob 5 [.ref co, .ref ru, .ref sr, .int (nI nr), .int (nI nq), .int sc]) := by rw [eσ_55]; exact gs_ku (gs_ne hc_39 hc_51 (by simp)) hc_39
        have hc_58 : σ_55 ru = some (gs_qa X 2 24 fR) := by rw [eσ_55]; exact gs_ku (gs_ne hc_40 hc_51 (by simp)) hc_40
        have hc_59 : σ_55 a = some (gs_ob 4 [.ref hd, .ref ho, .ref ck, .int (nI R.2.1.length), .int (nI R.2.2.length), .ref kf]) := by rw [eσ_55]; exact gs_ku (gs_ne hc_41 hc_51 (by simp)) hc_41
        have hc_60 : σ_55 hd = some (gs_ob 2 [.int (nI R.1.1.1), .int (nI R.1.1.2.1), .int (nI R.1.1.2.2), .int (nI R.1.2.1.1), .int (nI R.1.2.1.2.1), .int (nI R.1.2.1.2.2), .int (nI R.1.2.2.1), .int (nI R.1.2.2.2.1), .int R.1.2.2.2.2]) := by rw [eσ_55]; exact gs_ku (gs_ne hc_42 hc_51 (by simp)) hc_42
        have hc_61 : σ_55 ho = some (gs_qa X 3 3 fH) := by rw [eσ_55]; exact gs_ku (gs_ne hc_43 hc_51 (by simp)) hc_43
        have hc_62 : σ_55 ck = some (gs_qa X 3 6 fC) := by rw [eσ_55]; exact gs_ku (gs_ne hc_44 hc_51 (by simp)) hc_44
        have hc_63 : σ_55 tu = some (gs_ob 6 [.ref ac, .ref ai, .ref ab, .int (nI L.length)]) := by rw [eσ_55]; exact gs_ku (gs_ne hc_45 hc_51 (by simp)) hc_45
        have hc_64 : σ_55 ac = some (gs_ia X 301 cs) := by rw [eσ_55]; exact gs_ku e5 hc_46
        have hc_65 : σ_55 la = some (gs_ob 6 [.ref lc, .ref li, .ref lb, .int (nI Lt.length)]) := by rw [eσ_55]; exact gs_ku (gs_ne hc_47 hc_51 (by simp)) hc_47
        have hc_66 : σ_55 lc = some (gs_ia X 301 ds) := by rw [eσ_55]; exact gs_ku e8 hc_48
        have hc_67 : σ_55 ma = some (gs_ob 3 [.ref tu, .ref va]) := by rw [eσ_55]; exact gs_ku (gs_ne hc_49 hc_51 (by simp)) hc_49
        have hc_68 : σ_55 cm = some (gs_ob 6 [.ref mc, .ref mi, .ref mb, .int (nI C1.length)]) := by rw [eσ_55]; exact gs_ku (gs_ne hc_50 hc_51 (by simp)) hc_50
        have hc_69 : σ_55 va = some (gs_ia X 8 vs3) := by rw [eσ_55]; exact gs_ku (gs_ne hc_52 hc_51 (by simp)) hc_52
        have hc_70 : σ_55 mc = some (gs_ia X 301 a3) := by rw [eσ_55]; exact gs_ku n2 hc_53
        have hc_71 : σ_55 mi = some (gs_ia X 301 b3) := by rw [eσ_55]; exact gs_ku n3 hc_54
        have hc_72 : σ_55 mb = some (gs_ia X 301 c3) := by rw [eσ_55]; exact gs_us
        obtain ⟨σ_73, eσ_73⟩ : ∃ zq, zq = gs_up σ_55 cm (gs_ob 6 [.ref mc, .ref mi, .ref mb, .int (nI ((dvF L Lt num R rdy (nI i) R.2.1.length 0 v1 C1).2.2.length))]) := ⟨_, rfl⟩
        have hc_74 : σ_73 dv = some (gs_ob 1 [.ref bk, .ref tu, .ref ma, .ref la, .ref cm, .int x5, .int x6, .int x7]) := by rw [eσ_73]; exact gs_ku (gs_ne hc_56 hc_68 (by simp)) hc_56
        have hc_75 : σ_73 bk = some (gs_ob 5 [.ref co, .ref ru, .ref sr, .int (nI nr), .int (nI nq), .int sc]) := by rw [eσ_73]; exact gs_ku (gs_ne hc_57 hc_68 (by simp)) hc_57
        have hc_76 : σ_73 ru = some (gs_qa X 2 24 fR) := by rw [eσ_73]; exact gs_ku (gs_ne hc_58 hc_68 (by simp)) hc_58
        have hc_77 : σ_73 a = some (gs_ob 4 [.ref hd, .ref ho, .ref ck, .int (nI R.2.1.length), .int (nI R.2.2.length), .ref kf]) := by rw [eσ_73]; exact gs_ku (gs_ne hc_59 hc_68 (by simp)) hc_59
        have hc_78 : σ_73 hd = some (gs_ob 2 [.int (nI R.1.1.1), .int (nI R.1.1.2.1), .int (nI R.1.1.2.2), .int (nI R.1.2.1.1), .int (nI R.1.2.1.2.1), .int (nI R.1.2.1.2.2), .int (nI R.1.2.2.1), .int (nI R.1.2.2.2.1), .int R.1.2.2.2.2]) := by rw [eσ_73]; exact gs_ku (gs_ne hc_60 hc_68 (by simp)) hc_60
        have hc_79 : σ_73 ho = some (gs_qa X 3 3 fH) := by rw [eσ_73]; exact gs_ku (gs_ne hc_61 hc_68 (by simp)) hc_61
        have hc_80 : σ_73 ck = some (gs_qa X 3 6 fC) := by rw [eσ_73]; exact gs_ku (gs_ne hc_62 hc_68 (by simp)) hc_62
        have hc_81 : σ_73 tu = some (gs_ob 6 [.ref ac, .ref ai, .ref ab, .int (nI L.length)]) := by rw [eσ_73]; exact gs_ku e1 hc_63
        have hc_82 : σ_73 ac = some (gs_ia X 301 cs) := by rw [eσ_73]; exact gs_ku (gs_ne hc_64 hc_68 (by simp)) hc_64
        have hc_83 : σ_73 la = some (gs_ob 6 [.ref lc, .ref li, .ref lb, .int (nI Lt.length)]) := by rw [eσ_73]; exact gs_ku e2 hc_65
        have hc_84 : σ_73 lc = some (gs_ia X 301 ds) := by rw [eσ_73]; exact gs_ku (gs_ne hc_66 hc_68 (by simp)) hc_66
        have hc_85 : σ_73 ma = some (gs_ob 3 [.ref tu, .ref va]) := by rw [eσ_73]; exact gs_ku (gs_ne hc_67 hc_68 (by simp)) hc_67
        have hc_86 : σ_73 va = some (gs_ia X 8 vs3) := by rw [eσ_73]; exact gs_ku (gs_ne hc_69 hc_68 (by simp)) hc_69
        have hc_87 : σ_73 mc = some (gs_ia X 301 a3) := by rw [eσ_73]; exact gs_ku (gs_ne hc_70 hc_68 (by simp)) hc_70
        have hc_88 : σ_73 mi = some (gs_ia X 301 b3) := by rw [eσ_73]; exact gs_ku (gs_ne hc_71 hc_68 (by simp)) hc_71
        have hc_89 : σ_73 mb = some (gs_ia X 301 c3) := by rw [eσ_73]; exact gs_ku (gs_ne hc_72 hc_68 (by simp)) hc_72
        have hc_90 : σ_73 cm = some (gs_ob 6 [.ref mc, .ref mi, .ref mb, .int (nI ((dvF L Lt num R rdy (nI i) R.2.1.length 0 v1 C1).2.2.length))]) := by rw [eσ_73]; exact gs_us
        rw [← eσ_1, ← eσ_19, ← eσ_37, ← eσ_55, ← eσ_73] at hG
        have eq3 : σ_73 = dvS X σ va vs3 cm mc mi mb (dvF L Lt num R rdy (nI i) R.2.1.length 0 v1 C1).2.2.length a3 b3 c3 := by
          have z : σ_73 = dvS X σ1 va vs3 cm mc mi mb (dvF L Lt num R rdy (nI i) R.2.1.length 0 v1 C1).2.2.length a3 b3 c3 := by simp only [*]; rfl
          rw [z, eσ1]; exact dvS_dvS w1 w2 w3 w4
        refine lv_pop hx hb d_DE_deriveBy_41 rfl ?_
        refine lv_iinc (v := (nI (i + 1))) (lv' := [(2, .int (nI (i + 1))), (0, .ref dv), (1, .int (nI num))]) hx hb d_DE_deriveBy_42 hl (k := 0) rfl (by exact nI_1 _) (by decide) rfl (fun ls hl => ?_)
        refine lv_goto (tgt := 18) hx hb d_DE_deriveBy_45 (by decide) ?_
        exact ih (i + 1) vs3 _ _ a3 b3 c3 σ_73 (by omega) (by rw [range_snoc, List.foldl_append, ← hst]; rfl) hnw hv3 hB3 hR3 eq3 (by omega) hc_74 hc_75 hc_76 hc_77 hc_78 hc_79 hc_80 hc_81 hc_82 hc_83 hc_84 hc_85 hc_86 hc_90 hc_87 hc_88 hc_89 H locs hG hS ls (lv_sub hl [0, 1, 2] rfl)
  refine lv_aload_n hx hb d_DE_deriveBy_0 rfl (lv_at hl 0 rfl) ?_
  refine gs_get hx hb ht hown hK hG k_DE d0 6 (by decide) w_117 rfl d_DE_deriveBy_1 ?_
  refine gs_top (show x6 = (bI nw) from hx6) ?_
  refine lv_if_eq (tgt := 16) hx hb d_DE_deriveBy_4 (by decide) (fun c_4 => ?_) (fun c_4 => ?_)
  · refine lv_iconst (v := nI 0) hx hb d_DE_deriveBy_16 (by decide) ?_
    refine lv_istore_n (lv' := [(2, .int (nI 0)), (0, .ref dv), (1, .int (nI num))]) hx hb d_DE_deriveBy_17 rfl hl (by decide) rfl (fun ls hl => ?_)
    exact loop (R.2.1.length + 1) 0 vs v C a9 b9 c9 σ (by omega) rfl (bI_0 c_4) hv hB hR (dvS_same q1 m0 m1 m2 m3).symm (by omega) d0 k0 k2 r0 r1 r2 r3 t0 t1 l0 l1 q0 q1 m0 m1 m2 m3 _ _ hG hS ls (lv_sub hl [0, 1, 2] rfl)
  · refine lv_aload_n hx hb d_DE_deriveBy_7 rfl (lv_at hl 0 rfl) ?_
    refine lv_iload_n hx hb d_DE_deriveBy_8 rfl (lv_at hl 1 rfl) ?_
    refine lv_iconst (v := nI 0) hx hb d_DE_deriveBy_9 (by decide) ?_
    refine lv_iconst (v := -1) hx hb d_DE_deriveBy_10 (by decide) ?_
    refine gs_callVi (As := [.int (nI num), .int (nI 0), .int (-1)]) (rest := []) ⟨hx, hb, hml, hown, hts⟩ hK hE hz hG hS (c_DE_deriveFrom l X dv bk tu ma la cm ac ai ab lc li lb mc mi mb va co ru sr nr nq a hd ho ck kf num x5 x6 x7 sc L Lt cs ds R rdy (-1) fR fH fC hs hn hcs hs2 hn2 hds hRB hhr hr3 hnum hfR e1 e2 e3 e4 e5 e6 e7 e8 n1 n2 n3 R.2.1.length 0 (by omega) σ vs v C a9 b9 c9 hv hB hR d0 k0 k2 r0 r1 r2 r3 t0 t1 l0 l1 q0 q1 m0 m1 m2 m3 rh rk) mV_DE_deriveFrom w_176 d0 rfl rfl hl.1 rfl (Nat.le_of_ble_eq_true rfl) ⟨(by first | decide | omega | (dsimp only [headSpec]; omega)), (by first | decide | omega | (dsimp only [headSpec]; omega))⟩ ⟨(by first | decide | omega | (dsimp only [headSpec]; omega)), (by first | decide | omega | (dsimp only [headSpec]; omega))⟩ d_DE_deriveBy_11 (fun r_11 σ_11 H locs hp_11 hG hS => ?_)
    obtain ⟨vs3, a3, b3, c3, ev3, hv3, hR3, hB3, er3⟩ := hp_11
    refine gs_top er3 ?_
    rw [ev3] at hG
    refine lv_pop hx hb d_DE_deriveBy_14 rfl ?_
    have hres : dvB L Lt num R rdy nw v C = (dvF L Lt num R rdy (-1) R.2.1.length 0 v C).2 := by unfold dvB; rw [if_pos (bI_n0 c_4)]
    exact gs_vret hx hb hr hK hE hz hG hS hlocks (by first | decide | omega | (dsimp only [headSpec]; omega)) (by first | decide | omega | (dsimp only [headSpec]; omega)) (⟨vs3, a3, b3, c3, (by rw [hres]), (by rw [hres]; exact hv3), (by rw [hres]; exact hR3), (by rw [hres]; exact hB3)⟩) d_DE_deriveBy_15
