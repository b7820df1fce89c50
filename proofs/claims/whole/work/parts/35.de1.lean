set_option maxHeartbeats 4000000 in
set_option maxRecDepth 100000 in
theorem c_DE_isTooMuch (l : Launch) (X : gs_X) (σ : gs_St) (dv bk tu ma la cm ac ai ab mc mi mb n k : Nat) (x5 x6 x7 : Int32)
    (d0 : σ dv = some (gs_ob 1 [.ref bk, .ref tu, .ref ma, .ref la, .ref cm, .int x5, .int x6, .int x7])) (t0 : σ tu = some (gs_ob 6 [.ref ac, .ref ai, .ref ab, .int (nI n)])) (m0 : σ cm = some (gs_ob 6 [.ref mc, .ref mi, .ref mb, .int (nI k)])) (hn : n ≤ 301) (hk : k ≤ 301) : gs_Mi l X y_DE_isTooMuch b_DE_isTooMuch 1 (some .boolean) ({ frames := 0, cells := 0, slots := 0, locals := 0 }) σ [.ref dv] (fun r σ' => σ' = σ ∧ r = bI (decide (300 < n + k))) := by
  refine Met.ofW (cc := b_DE_isTooMuch) (maxL := 1) (ret := (some .boolean)) (by decide) rfl ?_
  intro p e s m args below meth c s₁ B₀ hml hv
  obtain ⟨rfl, hK, hG, hz, hE⟩ := hv
  have hx := B₀.exec
  have hb := B₀.bytes
  have hr := B₀.returns
  have hts := atoms_spec (ws := gs_ws y_DE_isTooMuch b_DE_isTooMuch 1 (some .boolean)) B₀.pre
  have ht : ∀ w ∈ gs_w, w.before _ s = true := fun w h => hts w (List.mem_cons_of_mem _ h)
  have hown : s.vm.findClass R_DE = some m.cls := findClass_of_methodNamed B₀.named
  have hlocks := B₀.notSynchronized
  have hA : ∀ q : Nat, s.heap.size ≤ q → gs_A X q := fun q h => Nat.le_trans hz h
  have hS : va_S (gs_A X) s.heap s.heap [] := va_S.rf
  have hl := lv_entry ([.ref dv]) (n := 1) (Nat.le_of_ble_eq_true rfl)
  rw [lg_entry_eq]
  generalize (lg_sl ([.ref dv]) ++ List.replicate (1 - (lg_sl ([.ref dv])).length) Slot.unset).toArray = ls at hl ⊢
  have hl : lv_has ls 1 [(0, .ref dv)] := hl
  refine lv_aload_n hx hb d_DE_isTooMuch_0 rfl (lv_at hl 0 rfl) ?_
  refine gs_get hx hb ht hown hK hG k_DE d0 1 (by decide) w_112 rfl d_DE_isTooMuch_1 ?_
  refine gs_get hx hb ht hown hK hG k_TU t0 3 (by decide) w_78 rfl d_DE_isTooMuch_4 ?_
  refine lv_aload_n hx hb d_DE_isTooMuch_7 rfl (lv_at hl 0 rfl) ?_
  refine gs_get hx hb ht hown hK hG k_DE d0 4 (by decide) w_115 rfl d_DE_isTooMuch_8 ?_
  refine gs_get hx hb ht hown hK hG k_TU m0 3 (by decide) w_78 rfl d_DE_isTooMuch_11 ?_
  refine lv_iadd hx hb d_DE_isTooMuch_14 ?_
  refine gs_top (nI_add n k) ?_
  refine lv_sipush (v := nI 300) hx hb d_DE_isTooMuch_15 (by decide) ?_
  refine lv_icmp_le (tgt := 25) hx hb d_DE_isTooMuch_18 (by decide) (fun c_18 => ?_) (fun c_18 => ?_)
  · have c_18 : (n + k) ≤ 300 := (nI_leI (by omega) (by omega)).mp c_18
    refine lv_iconst (v := nI 0) hx hb d_DE_isTooMuch_25 (by decide) ?_
    exact gs_iret (v := (nI 0)) hx hb hr rfl hK hE hz hG hS hlocks (by first | decide | omega | (dsimp only [headSpec]; omega)) (by first | decide | omega | (dsimp only [headSpec]; omega)) (⟨rfl, by rw [decide_eq_false (by omega)]; rfl⟩) d_DE_isTooMuch_26
  · have c_18 : ¬ (n + k) ≤ 300 := mt (nI_leI (by omega) (by omega)).mpr c_18
    refine lv_iconst (v := nI 1) hx hb d_DE_isTooMuch_21 (by decide) ?_
    refine lv_goto (tgt := 26) hx hb d_DE_isTooMuch_22 (by decide) ?_
    exact gs_iret (v := (nI 1)) hx hb hr rfl hK hE hz hG hS hlocks (by first | decide | omega | (dsimp only [headSpec]; omega)) (by first | decide | omega | (dsimp only [headSpec]; omega)) (⟨rfl, by rw [decide_eq_true (by omega)]; rfl⟩) d_DE_isTooMuch_26
set_option maxHeartbeats 4000000 in
set_option maxRecDepth 100000 in
theorem c_DE_isKnown (l : Launch) (X : gs_X) (σ : gs_St) (dv bk tu ma la cm ac ai ab mc mi mb cd : Nat) (x5 x6 x7 : Int32) (L : List Nat) (cs : Nat → Int32) (C : List En) (ms mt mr : Nat → Int32)
    (d0 : σ dv = some (gs_ob 1 [.ref bk, .ref tu, .ref ma, .ref la, .ref cm, .int x5, .int x6, .int x7])) (hs : L.Pairwise (· ≤ ·)) (hn : L.length ≤ 301) (hcs : ∀ j x, L[j]? = some x → cs j = nI x ∧ x < 2 ^ 30) (hB : tuB C) (hR : tuR C ms mt mr) (hcd : cd < 2 ^ 30) (t0 : σ tu = some (gs_ob 6 [.ref ac, .ref ai, .ref ab, .int (nI L.length)])) (t1 : σ ac = some (gs_ia X 301 cs)) (m0 : σ cm = some (gs_ob 6 [.ref mc, .ref mi, .ref mb, .int (nI C.length)])) (m1 : σ mc = some (gs_ia X 301 ms)) : gs_Mi l X y_DE_isKnown b_DE_isKnown 2 (some .boolean) ({ frames := 2, cells := 0, slots := 0, locals := 46 }) σ [.ref dv, .int (nI cd)] (fun r σ' => σ' = σ ∧ r = bI (kwn L C cd)) := by
  refine Met.ofW (cc := b_DE_isKnown) (maxL := 2) (ret := (some .boolean)) (by decide) rfl ?_
  intro p e s m args below meth c s₁ B₀ hml hv
  obtain ⟨rfl, hK, hG, hz, hE⟩ := hv
  have hx := B₀.exec
  have hb := B₀.bytes
  have hr := B₀.returns
  have hts := atoms_spec (ws := gs_ws y_DE_isKnown b_DE_isKnown 2 (some .boolean)) B₀.pre
  have ht : ∀ w ∈ gs_w, w.before _ s = true := fun w h => hts w (List.mem_cons_of_mem _ h)
  have hown : s.vm.findClass R_DE = some m.cls := findClass_of_methodNamed B₀.named
  have hlocks := B₀.notSynchronized
  have hA : ∀ q : Nat, s.heap.size ≤ q → gs_A X q := fun q h => Nat.le_trans hz h
  have hS : va_S (gs_A X) s.heap s.heap [] := va_S.rf
  have hl := lv_entry ([.ref dv, .int (nI cd)]) (n := 2) (Nat.le_of_ble_eq_true rfl)
  rw [lg_entry_eq]
  generalize (lg_sl ([.ref dv, .int (nI cd)]) ++ List.replicate (2 - (lg_sl ([.ref dv, .int (nI cd)])).length) Slot.unset).toArray = ls at hl ⊢
  have hl : lv_has ls 2 [(0, .ref dv), (1, .int (nI cd))] := hl
  refine lv_aload_n hx hb d_DE_isKnown_0 rfl (lv_at hl 0 rfl) ?_
  refine gs_get hx hb ht hown hK hG k_DE d0 1 (by decide) w_112 rfl d_DE_isKnown_1 ?_
  refine lv_iload_n hx hb d_DE_isKnown_4 rfl (lv_at hl 1 rfl) ?_
  refine gs_callVi (As := [.int (nI cd)]) (rest := []) ⟨hx, hb, hml, hown, hts⟩ hK hE hz hG hS (c_TU_contains l X σ tu ac ai ab L cs cd hs hn hcs (by omega) t0 t1) mV_TU_contains w_196 t0 rfl rfl hl.1 rfl (Nat.le_of_ble_eq_true rfl) ⟨(by first | decide | omega | (dsimp only [headSpec]; omega)), (by first | decide | omega | (dsimp only [headSpec]; omega))⟩ ⟨(by first | decide | omega | (dsimp only [headSpec]; omega)), (by first | decide | omega | (dsimp only [headSpec]; omega))⟩ d_DE_isKnown_5 (fun r_5 σ_5 H locs hp_5 hG hS => ?_)
  rw [hp_5.1] at hG
  refine gs_top (show r_5 = (bI (decide (cd ∈ L))) from hp_5.2) ?_
  refine lv_if_ne (tgt := 22) hx hb d_DE_isKnown_8 (by decide) (fun c_8 => ?_) (fun c_8 => ?_)
  · refine lv_iconst (v := nI 1) hx hb d_DE_isKnown_22 (by decide) ?_
    refine lv_goto (tgt := 27) hx hb d_DE_isKnown_23 (by decide) ?_
    exact gs_iret (v := (nI 1)) hx hb hr rfl hK hE hz hG hS hlocks (by first | decide | omega | (dsimp only [headSpec]; omega)) (by first | decide | omega | (dsimp only [headSpec]; omega)) (⟨rfl, by first | (have e := bI_n0 c_8; simp only [kwn, e, Bool.true_or]; rfl) | (have e := bI_0 c_8; have e2 := bI_n0 c_19; simp only [kwn, e, e2, Bool.or_true]; rfl) | (have e := bI_0 c_8; have e2 := bI_0 c_19; simp only [kwn, e, e2, Bool.or_false]; rfl)⟩) d_DE_isKnown_27
  · refine lv_aload_n hx hb d_DE_isKnown_11 rfl (lv_at hl 0 rfl) ?_
    refine gs_get hx hb ht hown hK hG k_DE d0 4 (by decide) w_115 rfl d_DE_isKnown_12 ?_
    refine lv_iload_n hx hb d_DE_isKnown_15 rfl (lv_at hl 1 rfl) ?_
    refine gs_callVi (As := [.int (nI cd)]) (rest := []) ⟨hx, hb, hml, hown, hts⟩ hK hE hz hG hS (c_TU_contains l X σ cm mc mi mb (cds C) ms cd hB.1 (by rw [List.length_map]; exact hB.2.1) (hR.cds hB.2.2) (by omega) (by rw [List.length_map]; exact m0) m1) mV_TU_contains w_196 m0 rfl rfl hl.1 rfl (Nat.le_of_ble_eq_true rfl) ⟨(by first | decide | omega | (dsimp only [headSpec]; omega)), (by first | decide | omega | (dsimp only [headSpec]; omega))⟩ ⟨(by first | decide | omega | (dsimp only [headSpec]; omega)), (by first | decide | omega | (dsimp only [headSpec]; omega))⟩ d_DE_isKnown_16 (fun r_16 σ_16 H locs hp_16 hG hS => ?_)
    rw [hp_16.1] at hG
    refine gs_top (show r_16 = (bI (decide (cd ∈ cds C))) from hp_16.2) ?_
    refine lv_if_eq (tgt := 26) hx hb d_DE_isKnown_19 (by decide) (fun c_19 => ?_) (fun c_19 => ?_)
    · refine lv_iconst (v := nI 0) hx hb d_DE_isKnown_26 (by decide) ?_
      exact gs_iret (v := (nI 0)) hx hb hr rfl hK hE hz hG hS hlocks (by first | decide | omega | (dsimp only [headSpec]; omega)) (by first | decide | omega | (dsimp only [headSpec]; omega)) (⟨rfl, by first | (have e := bI_n0 c_8; simp only [kwn, e, Bool.true_or]; rfl) | (have e := bI_0 c_8; have e2 := bI_n0 c_19; simp only [kwn, e, e2, Bool.or_true]; rfl) | (have e := bI_0 c_8; have e2 := bI_0 c_19; simp only [kwn, e, e2, Bool.or_false]; rfl)⟩) d_DE_isKnown_27
    · refine lv_iconst (v := nI 1) hx hb d_DE_isKnown_22 (by decide) ?_
      refine lv_goto (tgt := 27) hx hb d_DE_isKnown_23 (by decide) ?_
      exact gs_iret (v := (nI 1)) hx hb hr rfl hK hE hz hG hS hlocks (by first | decide | omega | (dsimp only [headSpec]; omega)) (by first | decide | omega | (dsimp only [headSpec]; omega)) (⟨rfl, by first | (have e := bI_n0 c_8; simp only [kwn, e, Bool.true_or]; rfl) | (have e := bI_0 c_8; have e2 := bI_n0 c_19; simp only [kwn, e, e2, Bool.or_true]; rfl) | (have e := bI_0 c_8; have e2 := bI_0 c_19; simp only [kwn, e, e2, Bool.or_false]; rfl)⟩) d_DE_isKnown_27
