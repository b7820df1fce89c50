set_option maxHeartbeats 4000000 in
set_option maxRecDepth 100000 in
/-- Tuples.contains writes nothing -/
theorem c_TU_contains_p (l : Launch) (X : gs_X) (σ : gs_St) (h ac ai ab : Nat) (L : List Nat) (cs : Nat → Int32) (cd : Nat)
    (hs : L.Pairwise (· ≤ ·)) (hn : L.length ≤ 301) (hcs : ∀ j x, L[j]? = some x → cs j = nI x ∧ x < 2 ^ 30) (hcd : cd < 2 ^ 30) (h0 : σ h = some (gs_ob 6 [.ref ac, .ref ai, .ref ab, .int (nI L.length)])) (h1 : σ ac = some (gs_ia X 301 cs)) : gs_Mp l X y_TU_contains b_TU_contains 3 (some .boolean) ({ frames := 1, cells := 0, slots := 0, locals := 24 }) σ [.ref h, .int (nI cd)] (fun r => r = bI (decide (cd ∈ L))) := by
  refine Met.ofW (cc := b_TU_contains) (maxL := 3) (ret := (some .boolean)) (by decide) rfl ?_
  intro p e s m args below meth c s₁ B₀ hml hv
  obtain ⟨rfl, hK, hG, hz, hE⟩ := hv
  have hx := B₀.exec
  have hb := B₀.bytes
  have hr := B₀.returns
  have hts := atoms_spec (ws := gs_ws y_TU_contains b_TU_contains 3 (some .boolean)) B₀.pre
  have ht : ∀ w ∈ gs_w, w.before _ s = true := fun w h => hts w (List.mem_cons_of_mem _ h)
  have hown : s.vm.findClass R_TU = some m.cls := findClass_of_methodNamed B₀.named
  have hlocks := B₀.notSynchronized
  have hA : ∀ q : Nat, s.heap.size ≤ q → gs_A X q := fun q h => Nat.le_trans hz h
  have hS : va_S (gs_A X) s.heap s.heap [] := va_S.rf
  have hl := lv_entry ([.ref h, .int (nI cd)]) (n := 3) (Nat.le_of_ble_eq_true rfl)
  rw [lg_entry_eq]
  generalize (lg_sl ([.ref h, .int (nI cd)]) ++ List.replicate (3 - (lg_sl ([.ref h, .int (nI cd)])).length) Slot.unset).toArray = ls at hl ⊢
  have hl : lv_has ls 3 [(0, .ref h), (1, .int (nI cd))] := hl
  have hcl := cb_le L cd
  have hmem := mem_cb hs cd
  refine lv_aload_n hx hb d_TU_contains_0 rfl (lv_at hl 0 rfl) ?_
  refine lv_iload_n hx hb d_TU_contains_1 rfl (lv_at hl 1 rfl) ?_
  refine gs_callVp (As := [.int (nI cd)]) (rest := []) ⟨hx, hb, hml, hown, hts⟩ hK hE hz hG hS (c_TU_placeOf_p l X σ h ac ai ab L cs cd hs hn hcs (by omega) h0 h1) ⟨rfl, rfl⟩ mV_TU_placeOf w_200 h0 rfl rfl hl.1 rfl (Nat.le_of_ble_eq_true rfl) ⟨(by first | decide | omega | (dsimp only [headSpec]; omega)), (by first | decide | omega | (dsimp only [headSpec]; omega))⟩ ⟨(by first | decide | omega | (dsimp only [headSpec]; omega)), (by first | decide | omega | (dsimp only [headSpec]; omega))⟩ d_TU_contains_2 (fun r_2 hp_2 => ?_)
  refine gs_top (show r_2 = (nI (cb L cd)) from hp_2) ?_
  refine lv_istore_n (lv' := [(2, .int (nI (cb L cd))), (0, .ref h), (1, .int (nI cd))]) hx hb d_TU_contains_5 rfl hl (by decide) rfl (fun ls hl => ?_)
  refine lv_iload_n hx hb d_TU_contains_6 rfl (lv_at hl 0 rfl) ?_
  refine lv_aload_n hx hb d_TU_contains_7 rfl (lv_at hl 1 rfl) ?_
  refine gs_get hx hb ht hown hK hG k_TU h0 3 (by decide) w_77 rfl d_TU_contains_8 ?_
  refine lv_icmp_ge (tgt := 28) hx hb d_TU_contains_11 (by decide) (fun c_11 => ?_) (fun c_11 => ?_)
  · have c_11 : L.length ≤ (cb L cd) := (nI_leI (by omega) (by omega)).mp c_11
    refine lv_iconst (v := nI 0) hx hb d_TU_contains_28 (by decide) ?_
    exact gs_iretp (v := (nI 0)) hx hb hr rfl hlocks (Nat.zero_le _) (Nat.zero_le _) (by rw [decide_eq_false (fun z => by have z2 := hmem.mp z; first | (rw [List.getElem?_eq_none (by omega)] at z2; cases z2) | (rw [hx9] at z2; exact c_21 (Option.some.inj z2)))]; rfl) d_TU_contains_29
  · have c_11 : ¬ L.length ≤ (cb L cd) := mt (nI_leI (by omega) (by omega)).mpr c_11
    refine lv_aload_n hx hb d_TU_contains_14 rfl (lv_at hl 1 rfl) ?_
    refine gs_get hx hb ht hown hK hG k_TU h0 0 (by decide) w_68 rfl d_TU_contains_15 ?_
    refine lv_iload_n hx hb d_TU_contains_18 rfl (lv_at hl 0 rfl) ?_
    obtain ⟨x, hx9⟩ := get_ex (L := L) (j := cb L cd) (by omega)
    obtain ⟨hx1, hx2⟩ := hcs _ _ hx9
    refine gs_iald hx hb hK hG h1 (j := cb L cd) (by omega) (by omega) d_TU_contains_19 ?_
    refine gs_top (show (cs (cb L cd)) = (nI x) from hx1) ?_
    refine lv_iload_n hx hb d_TU_contains_20 rfl (lv_at hl 2 rfl) ?_
    refine lv_icmp_ne (tgt := 28) hx hb d_TU_contains_21 (by decide) (fun c_21 => ?_) (fun c_21 => ?_)
    · have c_21 : ¬ x = cd := mt (nI_eq (by omega) (by omega)).mpr c_21
      refine lv_iconst (v := nI 0) hx hb d_TU_contains_28 (by decide) ?_
      exact gs_iretp (v := (nI 0)) hx hb hr rfl hlocks (Nat.zero_le _) (Nat.zero_le _) (by rw [decide_eq_false (fun z => by have z2 := hmem.mp z; first | (rw [List.getElem?_eq_none (by omega)] at z2; cases z2) | (rw [hx9] at z2; exact c_21 (Option.some.inj z2)))]; rfl) d_TU_contains_29
    · have c_21 : x = cd :=  (nI_eq (by omega) (by omega)).mp c_21
      refine lv_iconst (v := nI 1) hx hb d_TU_contains_24 (by decide) ?_
      refine lv_goto (tgt := 29) hx hb d_TU_contains_25 (by decide) ?_
      exact gs_iretp (v := (nI 1)) hx hb hr rfl hlocks (Nat.zero_le _) (Nat.zero_le _) (by rw [decide_eq_true (hmem.mpr (by rw [hx9, c_21]))]; rfl) d_TU_contains_29
set_option maxHeartbeats 4000000 in
set_option maxRecDepth 100000 in
/-- RuleRounds.strata -/
theorem c_RR_strata (l : Launch) (X : gs_X) (σ : gs_St) (rr bk tu ma dv co ru sr nr nq fc : Nat) (sc : Int32) (dw : Value)
    (x0 : σ rr = some (gs_ob 0 [.ref bk, .ref tu, .ref ma, .ref dv, .int (nI fc), dw])) (x1 : σ bk = some (gs_ob 5 [.ref co, .ref ru, .ref sr, .int (nI nr), .int (nI nq), .int sc])) (hnr : nr ≤ 12) : gs_Mp l X y_RR_strata b_RR_strata 1 (some .int) ({ frames := 0, cells := 0, slots := 0, locals := 0 }) σ [.ref rr] (fun r => r = sc) := by
  refine Met.ofW (cc := b_RR_strata) (maxL := 1) (ret := (some .int)) (by decide) rfl ?_
  intro p e s m args below meth c s₁ B₀ hml hv
  obtain ⟨rfl, hK, hG, hz, hE⟩ := hv
  have hx := B₀.exec
  have hb := B₀.bytes
  have hr := B₀.returns
  have hts := atoms_spec (ws := gs_ws y_RR_strata b_RR_strata 1 (some .int)) B₀.pre
  have ht : ∀ w ∈ gs_w, w.before _ s = true := fun w h => hts w (List.mem_cons_of_mem _ h)
  have hown : s.vm.findClass R_RR = some m.cls := findClass_of_methodNamed B₀.named
  have hlocks := B₀.notSynchronized
  have hA : ∀ q : Nat, s.heap.size ≤ q → gs_A X q := fun q h => Nat.le_trans hz h
  have hS : va_S (gs_A X) s.heap s.heap [] := va_S.rf
  have hl := lv_entry ([.ref rr]) (n := 1) (Nat.le_of_ble_eq_true rfl)
  rw [lg_entry_eq]
  generalize (lg_sl ([.ref rr]) ++ List.replicate (1 - (lg_sl ([.ref rr])).length) Slot.unset).toArray = ls at hl ⊢
  have hl : lv_has ls 1 [(0, .ref rr)] := hl
  refine lv_aload_n hx hb d_RR_strata_0 rfl (lv_at hl 0 rfl) ?_
  refine gs_get hx hb ht hown hK hG k_RR x0 0 (by decide) w_137 rfl d_RR_strata_1 ?_
  refine gs_get hx hb ht hown hK hG k_RB x1 5 (by decide) w_47 rfl d_RR_strata_4 ?_
  exact gs_iretp (v := sc) hx hb hr rfl hlocks (Nat.zero_le _) (Nat.zero_le _) (rfl) d_RR_strata_7
set_option maxHeartbeats 4000000 in
set_option maxRecDepth 100000 in
/-- RuleRounds.rounds -/
theorem c_RR_rounds (l : Launch) (X : gs_X) (σ : gs_St) (rr bk tu ma dv co ru sr nr nq fc : Nat) (sc : Int32) (dw : Value) (la cm rc : Nat) (x5 x6 : Int32)
    (x0 : σ rr = some (gs_ob 0 [.ref bk, .ref tu, .ref ma, .ref dv, .int (nI fc), dw])) (x1 : σ bk = some (gs_ob 5 [.ref co, .ref ru, .ref sr, .int (nI nr), .int (nI nq), .int sc])) (hnr : nr ≤ 12) (x3 : σ dv = some (gs_ob 1 [.ref bk, .ref tu, .ref ma, .ref la, .ref cm, .int x5, .int x6, .int (nI rc)])) : gs_Mp l X y_RR_rounds b_RR_rounds 1 (some .int) ({ frames := 0, cells := 0, slots := 0, locals := 0 }) σ [.ref rr] (fun r => r = nI rc) := by
  refine Met.ofW (cc := b_RR_rounds) (maxL := 1) (ret := (some .int)) (by decide) rfl ?_
  intro p e s m args below meth c s₁ B₀ hml hv
  obtain ⟨rfl, hK, hG, hz, hE⟩ := hv
  have hx := B₀.exec
  have hb := B₀.bytes
  have hr := B₀.returns
  have hts := atoms_spec (ws := gs_ws y_RR_rounds b_RR_rounds 1 (some .int)) B₀.pre
  have ht : ∀ w ∈ gs_w, w.before _ s = true := fun w h => hts w (List.mem_cons_of_mem _ h)
  have hown : s.vm.findClass R_RR = some m.cls := findClass_of_methodNamed B₀.named
  have hlocks := B₀.notSynchronized
  have hA : ∀ q : Nat, s.heap.size ≤ q → gs_A X q := fun q h => Nat.le_trans hz h
  have hS : va_S (gs_A X) s.heap s.heap [] := va_S.rf
  have hl := lv_entry ([.ref rr]) (n := 1) (Nat.le_of_ble_eq_true rfl)
  rw [lg_entry_eq]
  generalize (lg_sl ([.ref rr]) ++ List.replicate (1 - (lg_sl ([.ref rr])).length) Slot.unset).toArray = ls at hl ⊢
  have hl : lv_has ls 1 [(0, .ref rr)] := hl
  refine lv_aload_n hx hb d_RR_rounds_0 rfl (lv_at hl 0 rfl) ?_
  refine gs_get hx hb ht hown hK hG k_RR x0 3 (by decide) w_140 rfl d_RR_rounds_1 ?_
  refine gs_get hx hb ht hown hK hG k_DE x3 7 (by decide) w_119 rfl d_RR_rounds_4 ?_
  exact gs_iretp (v := (nI rc)) hx hb hr rfl hlocks (Nat.zero_le _) (Nat.zero_le _) (rfl) d_RR_rounds_7
set_option maxHeartbeats 4000000 in
set_option maxRecDepth 100000 in
/-- RuleRounds.stratum -/
theorem c_RR_stratum (l : Launch) (X : gs_X) (σ : gs_St) (rr bk tu ma dv co ru sr nr nq fc : Nat) (sc : Int32) (dw : Value) (rl : Nat) (sf : Nat → Int32) (S : Nat → Nat)
    (x0 : σ rr = some (gs_ob 0 [.ref bk, .ref tu, .ref ma, .ref dv, .int (nI fc), dw])) (x1 : σ bk = some (gs_ob 5 [.ref co, .ref ru, .ref sr, .int (nI nr), .int (nI nq), .int sc])) (hnr : nr ≤ 12) (hrl : rl < nr) (x4 : σ sr = some (gs_ia X 12 sf)) (hsf : sf rl = nI (S rl)) (hok : ¬ sc = -3) : gs_Mp l X y_RR_stratum b_RR_stratum 2 (some .int) ({ frames := 1, cells := 0, slots := 0, locals := 21 }) σ [.ref rr, .int (nI rl)] (fun r => r = nI (S rl)) := by
  refine Met.ofW (cc := b_RR_stratum) (maxL := 2) (ret := (some .int)) (by decide) rfl ?_
  intro p e s m args below meth c s₁ B₀ hml hv
  obtain ⟨rfl, hK, hG, hz, hE⟩ := hv
  have hx := B₀.exec
  have hb := B₀.bytes
  have hr := B₀.returns
  have hts := atoms_spec (ws := gs_ws y_RR_stratum b_RR_stratum 2 (some .int)) B₀.pre
  have ht : ∀ w ∈ gs_w, w.before _ s = true := fun w h => hts w (List.mem_cons_of_mem _ h)
  have hown : s.vm.findClass R_RR = some m.cls := findClass_of_methodNamed B₀.named
  have hlocks := B₀.notSynchronized
  have hA : ∀ q : Nat, s.heap.size ≤ q → gs_A X q := fun q h => Nat.le_trans hz h
  have hS : va_S (gs_A X) s.heap s.heap [] := va_S.rf
  have hl := lv_entry ([.ref rr, .int (nI rl)]) (n := 2) (Nat.le_of_ble_eq_true rfl)
  rw [lg_entry_eq]
  generalize (lg_sl ([.ref rr, .int (nI rl)]) ++ List.replicate (2 - (lg_sl ([.ref rr, .int (nI rl)])).length) Slot.unset).toArray = ls at hl ⊢
  have hl : lv_has ls 2 [(0, .ref rr), (1, .int (nI rl))] := hl
  refine lv_aload_n hx hb d_RR_stratum_0 rfl (lv_at hl 0 rfl) ?_
  refine lv_iload_n hx hb d_RR_stratum_1 rfl (lv_at hl 1 rfl) ?_
  refine gs_callVpv (As := [.int (nI rl)]) (rest := []) ⟨hx, hb, hml, hown, hts⟩ hK hE hz hG hS (c_RR_requireRelation l X σ rr bk tu ma dv co ru sr nr nq fc sc dw (nI rl) x0 x1 hnr (wi_nI hrl (by omega))) ⟨rfl, rfl⟩ mV_RR_requireRelation w_391 x0 rfl rfl hl.1 rfl (Nat.le_of_ble_eq_true rfl) ⟨(by first | decide | omega | (dsimp only [headSpec]; omega)), (by first | decide | omega | (dsimp only [headSpec]; omega))⟩ ⟨(by first | decide | omega | (dsimp only [headSpec]; omega)), (by first | decide | omega | (dsimp only [headSpec]; omega))⟩ d_RR_stratum_2 ?_
  refine lv_aload_n hx hb d_RR_stratum_5 rfl (lv_at hl 0 rfl) ?_
  refine gs_get hx hb ht hown hK hG k_RR x0 0 (by decide) w_137 rfl d_RR_stratum_6 ?_
  refine gs_get hx hb ht hown hK hG k_RB x1 5 (by decide) w_47 rfl d_RR_stratum_9 ?_
  refine lv_bipush (v := -3) hx hb d_RR_stratum_12 (by decide) ?_
  refine lv_icmp_ne (tgt := 27) hx hb d_RR_stratum_14 (by decide) (fun c_14 => ?_) (fun c_14 => ?_)
  · refine lv_aload_n hx hb d_RR_stratum_27 rfl (lv_at hl 0 rfl) ?_
    refine gs_get hx hb ht hown hK hG k_RR x0 0 (by decide) w_137 rfl d_RR_stratum_28 ?_
    refine gs_get hx hb ht hown hK hG k_RB x1 2 (by decide) w_39 rfl d_RR_stratum_31 ?_
    refine lv_iload_n hx hb d_RR_stratum_34 rfl (lv_at hl 1 rfl) ?_
    refine gs_iald hx hb hK hG x4 (j := rl) (by omega) (by omega) d_RR_stratum_35 ?_
    refine gs_top (show (sf rl) = (nI (S rl)) from hsf) ?_
    exact gs_iretp (v := (nI (S rl))) hx hb hr rfl hlocks (Nat.zero_le _) (Nat.zero_le _) (rfl) d_RR_stratum_36
  · exact absurd c_14 hok
set_option maxHeartbeats 4000000 in
set_option maxRecDepth 100000 in
/-- RuleRounds.stratum, with a cycle -/
theorem c_RR_stratum_t (l : Launch) (X : gs_X) (σ : gs_St) (rr bk tu ma dv co ru sr nr nq fc : Nat) (sc : Int32) (dw : Value) (rl : Nat)
    (htr : l.stackTraces = false) (x0 : σ rr = some (gs_ob 0 [.ref bk, .ref tu, .ref ma, .ref dv, .int (nI fc), dw])) (x1 : σ bk = some (gs_ob 5 [.ref co, .ref ru, .ref sr, .int (nI nr), .int (nI nq), .int sc])) (hnr : nr ≤ 12) (hrl : rl < nr) (hok : sc = -3) : gs_Mt l X y_RR_stratum b_RR_stratum 2 (some .int) ({ frames := 6, cells := 1, slots := 6, locals := 90 }) σ [.ref rr, .int (nI rl)] xS := by
  refine gs_MetT.ofW (cc := b_RR_stratum) (maxL := 2) (ret := (some .int)) (by decide) rfl ?_
  intro p e s m args below meth c s₁ B₀ hml hv
  obtain ⟨rfl, hK, hG, hz, hE⟩ := hv
  have hx := B₀.exec
  have hb := B₀.bytes
  have hr := B₀.returns
  have hts := atoms_spec (ws := gs_ws y_RR_stratum b_RR_stratum 2 (some .int)) B₀.pre
  have ht : ∀ w ∈ gs_w, w.before _ s = true := fun w h => hts w (List.mem_cons_of_mem _ h)
  have hown : s.vm.findClass R_RR = some m.cls := findClass_of_methodNamed B₀.named
  have hlocks := B₀.notSynchronized
  have hout9 : ∀ pc, ∀ x ∈ c.exceptionTable.toList, covers x pc = false := covers_of_empty (B₀.noHandlers (hts _ List.mem_cons_self))
  have hA : ∀ q : Nat, s.heap.size ≤ q → gs_A X q := fun q h => Nat.le_trans hz h
  have hS : va_S (gs_A X) s.heap s.heap [] := va_S.rf
  have hl := lv_entry ([.ref rr, .int (nI rl)]) (n := 2) (Nat.le_of_ble_eq_true rfl)
  rw [lg_entry_eq]
  generalize (lg_sl ([.ref rr, .int (nI rl)]) ++ List.replicate (2 - (lg_sl ([.ref rr, .int (nI rl)])).length) Slot.unset).toArray = ls at hl ⊢
  have hl : lv_has ls 2 [(0, .ref rr), (1, .int (nI rl))] := hl
  refine lv_aload_n hx hb d_RR_stratum_0 rfl (lv_at hl 0 rfl) ?_
  refine lv_iload_n hx hb d_RR_stratum_1 rfl (lv_at hl 1 rfl) ?_
  refine gs_callVpv (As := [.int (nI rl)]) (rest := []) ⟨hx, hb, hml, hown, hts⟩ hK hE hz hG hS (c_RR_requireRelation l X σ rr bk tu ma dv co ru sr nr nq fc sc dw (nI rl) x0 x1 hnr (wi_nI hrl (by omega))) ⟨rfl, rfl⟩ mV_RR_requireRelation w_391 x0 rfl rfl hl.1 rfl (Nat.le_of_ble_eq_true rfl) ⟨(by first | decide | omega | (dsimp only [headSpec]; omega)), (by first | decide | omega | (dsimp only [headSpec]; omega))⟩ ⟨(by first | decide | omega | (dsimp only [headSpec]; omega)), (by first | decide | omega | (dsimp only [headSpec]; omega))⟩ d_RR_stratum_2 ?_
  refine lv_aload_n hx hb d_RR_stratum_5 rfl (lv_at hl 0 rfl) ?_
  refine gs_get hx hb ht hown hK hG k_RR x0 0 (by decide) w_137 rfl d_RR_stratum_6 ?_
  refine gs_get hx hb ht hown hK hG k_RB x1 5 (by decide) w_47 rfl d_RR_stratum_9 ?_
  refine lv_bipush (v := -3) hx hb d_RR_stratum_12 (by decide) ?_
  refine lv_icmp_ne (tgt := 27) hx hb d_RR_stratum_14 (by decide) (fun c_14 => ?_) (fun c_14 => ?_)
  · exact absurd hok c_14
  · exact gs_thrS hx hb hml htr hown ht hK hE hz hG (List.mem_of_getElem? (i := 11) rfl) hl.1 d_RR_stratum_17 d_RR_stratum_20 d_RR_stratum_21 d_RR_stratum_23 d_RR_stratum_26 (hout9 _) ⟨(by first | decide | omega | (dsimp only [headSpec]; omega)), (by first | decide | omega | (dsimp only [headSpec]; omega)), (by first | decide | omega | (dsimp only [headSpec]; omega)), (by first | decide | omega | (dsimp only [headSpec]; omega))⟩ ⟨(by first | decide | omega | (dsimp only [headSpec]; omega)), (by first | decide | omega | (dsimp only [headSpec]; omega))⟩ hlocks
set_option maxHeartbeats 4000000 in
set_option maxRecDepth 100000 in
/-- RuleRounds.stratum of no relation -/
theorem c_RR_stratum_r (l : Launch) (X : gs_X) (σ : gs_St) (rr bk tu ma dv co ru sr nr nq fc : Nat) (sc : Int32) (dw : Value) (x : Int32)
    (htr : l.stackTraces = false) (x0 : σ rr = some (gs_ob 0 [.ref bk, .ref tu, .ref ma, .ref dv, .int (nI fc), dw])) (x1 : σ bk = some (gs_ob 5 [.ref co, .ref ru, .ref sr, .int (nI nr), .int (nI nq), .int sc])) (hnr : nr ≤ 12) (hok : wi nr x = false) : gs_Mt l X y_RR_stratum b_RR_stratum 2 (some .int) ({ frames := 7, cells := 1, slots := 6, locals := 111 }) σ [.ref rr, .int x] xI := by
  refine gs_MetT.ofW (cc := b_RR_stratum) (maxL := 2) (ret := (some .int)) (by decide) rfl ?_
  intro p e s m args below meth c s₁ B₀ hml hv
  obtain ⟨rfl, hK, hG, hz, hE⟩ := hv
  have hx := B₀.exec
  have hb := B₀.bytes
  have hr := B₀.returns
  have hts := atoms_spec (ws := gs_ws y_RR_stratum b_RR_stratum 2 (some .int)) B₀.pre
  have ht : ∀ w ∈ gs_w, w.before _ s = true := fun w h => hts w (List.mem_cons_of_mem _ h)
  have hown : s.vm.findClass R_RR = some m.cls := findClass_of_methodNamed B₀.named
  have hlocks := B₀.notSynchronized
  have hout9 : ∀ pc, ∀ x ∈ c.exceptionTable.toList, covers x pc = false := covers_of_empty (B₀.noHandlers (hts _ List.mem_cons_self))
  have hA : ∀ q : Nat, s.heap.size ≤ q → gs_A X q := fun q h => Nat.le_trans hz h
  have hS : va_S (gs_A X) s.heap s.heap [] := va_S.rf
  have hl := lv_entry ([.ref rr, .int x]) (n := 2) (Nat.le_of_ble_eq_true rfl)
  rw [lg_entry_eq]
  generalize (lg_sl ([.ref rr, .int x]) ++ List.replicate (2 - (lg_sl ([.ref rr, .int x])).length) Slot.unset).toArray = ls at hl ⊢
  have hl : lv_has ls 2 [(0, .ref rr), (1, .int x)] := hl
  refine lv_aload_n hx hb d_RR_stratum_0 rfl (lv_at hl 0 rfl) ?_
  refine lv_iload_n hx hb d_RR_stratum_1 rfl (lv_at hl 1 rfl) ?_
  exact gs_callVt (As := [.int x]) (rest := []) ⟨hx, hb, hml, hown, hts⟩ hK hE hz hG (c_RR_requireRelation_t l X σ rr bk tu ma dv co ru sr nr nq fc sc dw x htr x0 x1 hnr hok) mV_RR_requireRelation w_391 x0 rfl rfl hl.1 rfl (Nat.le_of_ble_eq_true rfl) ⟨(by first | decide | omega | (dsimp only [headSpec]; omega)), (by first | decide | omega | (dsimp only [headSpec]; omega))⟩ ⟨(by first | decide | omega | (dsimp only [headSpec]; omega)), (by first | decide | omega | (dsimp only [headSpec]; omega))⟩ d_RR_stratum_2 ⟨(by first | decide | omega | (dsimp only [headSpec]; omega)), (by first | decide | omega | (dsimp only [headSpec]; omega))⟩ (hout9 _) hlocks
set_option maxHeartbeats 4000000 in
set_option maxRecDepth 100000 in
/-- RuleRounds.count -/
theorem c_RR_count (l : Launch) (X : gs_X) (σ : gs_St) (rr bk tu ma dv co ru sr nr nq fc : Nat) (sc : Int32) (dw : Value) (ac ai ab : Nat) (L : List Nat) (cs : Nat → Int32) (rl : Nat)
    (x0 : σ rr = some (gs_ob 0 [.ref bk, .ref tu, .ref ma, .ref dv, .int (nI fc), dw])) (x1 : σ bk = some (gs_ob 5 [.ref co, .ref ru, .ref sr, .int (nI nr), .int (nI nq), .int sc])) (hnr : nr ≤ 12) (hs : L.Pairwise (· ≤ ·)) (hn : L.length ≤ 301) (hcs : ∀ j x, L[j]? = some x → cs j = nI x ∧ x < 2 ^ 30) (h0 : σ tu = some (gs_ob 6 [.ref ac, .ref ai, .ref ab, .int (nI L.length)])) (h1 : σ ac = some (gs_ia X 301 cs)) (hrl : rl < nr) : gs_Mp l X y_RR_count b_RR_count 2 (some .int) ({ frames := 2, cells := 0, slots := 0, locals := 45 }) σ [.ref rr, .int (nI rl)] (fun r => r = nI (cb L ((rl + 1) * 262144) - cb L (rl * 262144))) := by
  refine Met.ofW (cc := b_RR_count) (maxL := 2) (ret := (some .int)) (by decide) rfl ?_
  intro p e s m args below meth c s₁ B₀ hml hv
  obtain ⟨rfl, hK, hG, hz, hE⟩ := hv
  have hx := B₀.exec
  have hb := B₀.bytes
  have hr := B₀.returns
  have hts := atoms_spec (ws := gs_ws y_RR_count b_RR_count 2 (some .int)) B₀.pre
  have ht : ∀ w ∈ gs_w, w.before _ s = true := fun w h => hts w (List.mem_cons_of_mem _ h)
  have hown : s.vm.findClass R_RR = some m.cls := findClass_of_methodNamed B₀.named
  have hlocks := B₀.notSynchronized
  have hA : ∀ q : Nat, s.heap.size ≤ q → gs_A X q := fun q h => Nat.le_trans hz h
  have hS : va_S (gs_A X) s.heap s.heap [] := va_S.rf
  have hl := lv_entry ([.ref rr, .int (nI rl)]) (n := 2) (Nat.le_of_ble_eq_true rfl)
  rw [lg_entry_eq]
  generalize (lg_sl ([.ref rr, .int (nI rl)]) ++ List.replicate (2 - (lg_sl ([.ref rr, .int (nI rl)])).length) Slot.unset).toArray = ls at hl ⊢
  have hl : lv_has ls 2 [(0, .ref rr), (1, .int (nI rl))] := hl
  refine lv_aload_n hx hb d_RR_count_0 rfl (lv_at hl 0 rfl) ?_
  refine lv_iload_n hx hb d_RR_count_1 rfl (lv_at hl 1 rfl) ?_
  refine gs_callVpv (As := [.int (nI rl)]) (rest := []) ⟨hx, hb, hml, hown, hts⟩ hK hE hz hG hS (c_RR_requireRelation l X σ rr bk tu ma dv co ru sr nr nq fc sc dw (nI rl) x0 x1 hnr (wi_nI hrl (by omega))) ⟨rfl, rfl⟩ mV_RR_requireRelation w_391 x0 rfl rfl hl.1 rfl (Nat.le_of_ble_eq_true rfl) ⟨(by first | decide | omega | (dsimp only [headSpec]; omega)), (by first | decide | omega | (dsimp only [headSpec]; omega))⟩ ⟨(by first | decide | omega | (dsimp only [headSpec]; omega)), (by first | decide | omega | (dsimp only [headSpec]; omega))⟩ d_RR_count_2 ?_
  refine lv_aload_n hx hb d_RR_count_5 rfl (lv_at hl 0 rfl) ?_
  refine lv_iload_n hx hb d_RR_count_6 rfl (lv_at hl 1 rfl) ?_
  refine gs_callVp (As := [.int (nI rl)]) (rest := []) ⟨hx, hb, hml, hown, hts⟩ hK hE hz hG hS (c_RR_sizeOf l X σ rr bk tu ma dv fc dw ac ai ab L cs rl x0 hs hn hcs h0 h1 (by omega)) ⟨rfl, rfl⟩ mV_RR_sizeOf w_597 x0 rfl rfl hl.1 rfl (Nat.le_of_ble_eq_true rfl) ⟨(by first | decide | omega | (dsimp only [headSpec]; omega)), (by first | decide | omega | (dsimp only [headSpec]; omega))⟩ ⟨(by first | decide | omega | (dsimp only [headSpec]; omega)), (by first | decide | omega | (dsimp only [headSpec]; omega))⟩ d_RR_count_7 (fun r_7 hp_7 => ?_)
  refine gs_top (show r_7 = (nI (cb L ((rl + 1) * 262144) - cb L (rl * 262144))) from hp_7) ?_
  exact gs_iretp (v := (nI (cb L ((rl + 1) * 262144) - cb L (rl * 262144)))) hx hb hr rfl hlocks (Nat.zero_le _) (Nat.zero_le _) (rfl) d_RR_count_10
set_option maxHeartbeats 4000000 in
set_option maxRecDepth 100000 in
/-- RuleRounds.count of no relation -/
theorem c_RR_count_r (l : Launch) (X : gs_X) (σ : gs_St) (rr bk tu ma dv co ru sr nr nq fc : Nat) (sc : Int32) (dw : Value) (x : Int32)
    (htr : l.stackTraces = false) (x0 : σ rr = some (gs_ob 0 [.ref bk, .ref tu, .ref ma, .ref dv, .int (nI fc), dw])) (x1 : σ bk = some (gs_ob 5 [.ref co, .ref ru, .ref sr, .int (nI nr), .int (nI nq), .int sc])) (hnr : nr ≤ 12) (hok : wi nr x = false) : gs_Mt l X y_RR_count b_RR_count 2 (some .int) ({ frames := 7, cells := 1, slots := 6, locals := 111 }) σ [.ref rr, .int x] xI := by
  refine gs_MetT.ofW (cc := b_RR_count) (maxL := 2) (ret := (some .int)) (by decide) rfl ?_
  intro p e s m args below meth c s₁ B₀ hml hv
  obtain ⟨rfl, hK, hG, hz, hE⟩ := hv
  have hx := B₀.exec
  have hb := B₀.bytes
  have hr := B₀.returns
  have hts := atoms_spec (ws := gs_ws y_RR_count b_RR_count 2 (some .int)) B₀.pre
  have ht : ∀ w ∈ gs_w, w.before _ s = true := fun w h => hts w (List.mem_cons_of_mem _ h)
  have hown : s.vm.findClass R_RR = some m.cls := findClass_of_methodNamed B₀.named
  have hlocks := B₀.notSynchronized
  have hout9 : ∀ pc, ∀ x ∈ c.exceptionTable.toList, covers x pc = false := covers_of_empty (B₀.noHandlers (hts _ List.mem_cons_self))
  have hA : ∀ q : Nat, s.heap.size ≤ q → gs_A X q := fun q h => Nat.le_trans hz h
  have hS : va_S (gs_A X) s.heap s.heap [] := va_S.rf
  have hl := lv_entry ([.ref rr, .int x]) (n := 2) (Nat.le_of_ble_eq_true rfl)
  rw [lg_entry_eq]
  generalize (lg_sl ([.ref rr, .int x]) ++ List.replicate (2 - (lg_sl ([.ref rr, .int x])).length) Slot.unset).toArray = ls at hl ⊢
  have hl : lv_has ls 2 [(0, .ref rr), (1, .int x)] := hl
  refine lv_aload_n hx hb d_RR_count_0 rfl (lv_at hl 0 rfl) ?_
  refine lv_iload_n hx hb d_RR_count_1 rfl (lv_at hl 1 rfl) ?_
  exact gs_callVt (As := [.int x]) (rest := []) ⟨hx, hb, hml, hown, hts⟩ hK hE hz hG (c_RR_requireRelation_t l X σ rr bk tu ma dv co ru sr nr nq fc sc dw x htr x0 x1 hnr hok) mV_RR_requireRelation w_391 x0 rfl rfl hl.1 rfl (Nat.le_of_ble_eq_true rfl) ⟨(by first | decide | omega | (dsimp only [headSpec]; omega)), (by first | decide | omega | (dsimp only [headSpec]; omega))⟩ ⟨(by first | decide | omega | (dsimp only [headSpec]; omega)), (by first | decide | omega | (dsimp only [headSpec]; omega))⟩ d_RR_count_2 ⟨(by first | decide | omega | (dsimp only [headSpec]; omega)), (by first | decide | omega | (dsimp only [headSpec]; omega))⟩ (hout9 _) hlocks
set_option maxHeartbeats 4000000 in
set_option maxRecDepth 100000 in
/-- RuleRounds.has -/
theorem c_RR_has (l : Launch) (X : gs_X) (σ : gs_St) (rr bk tu ma dv co ru sr nr nq fc : Nat) (sc : Int32) (dw : Value) (cf : Nat → Int32) (cw : Nat → Nat) (rl : Nat) (ac ai ab : Nat) (L : List Nat) (cs : Nat → Int32) (a b c9 : Nat)
    (x0 : σ rr = some (gs_ob 0 [.ref bk, .ref tu, .ref ma, .ref dv, .int (nI fc), dw])) (x1 : σ bk = some (gs_ob 5 [.ref co, .ref ru, .ref sr, .int (nI nr), .int (nI nq), .int sc])) (hnr : nr ≤ 12) (x2 : σ co = some (gs_ia X 12 cf)) (hrl : rl < nr) (hcf : cf rl = nI (cw rl)) (hcw : cw rl ≤ 3) (hs : L.Pairwise (· ≤ ·)) (hn : L.length ≤ 301) (hcs : ∀ j x, L[j]? = some x → cs j = nI x ∧ x < 2 ^ 30) (h0 : σ tu = some (gs_ob 6 [.ref ac, .ref ai, .ref ab, .int (nI L.length)])) (h1 : σ ac = some (gs_ia X 301 cs)) (ha : a < 64) (hb9 : b < 64) (hc9 : c9 < 64) (hok : wi3 64 (cw rl) (nI a) (nI b) (nI c9) = true) : gs_Mp l X y_RR_has b_RR_has 5 (some .boolean) ({ frames := 3, cells := 0, slots := 0, locals := 69 }) σ [.ref rr, .int (nI rl), .int (nI a), .int (nI b), .int (nI c9)] (fun r => r = bI (decide ((((rl * 64 + a) * 64 + b) * 64 + c9) ∈ L))) := by
  refine Met.ofW (cc := b_RR_has) (maxL := 5) (ret := (some .boolean)) (by decide) rfl ?_
  intro p e s m args below meth c s₁ B₀ hml hv
  obtain ⟨rfl, hK, hG, hz, hE⟩ := hv
  have hx := B₀.exec
  have hb := B₀.bytes
  have hr := B₀.returns
  have hts := atoms_spec (ws := gs_ws y_RR_has b_RR_has 5 (some .boolean)) B₀.pre
  have ht : ∀ w ∈ gs_w, w.before _ s = true := fun w h => hts w (List.mem_cons_of_mem _ h)
  have hown : s.vm.findClass R_RR = some m.cls := findClass_of_methodNamed B₀.named
  have hlocks := B₀.notSynchronized
  have hA : ∀ q : Nat, s.heap.size ≤ q → gs_A X q := fun q h => Nat.le_trans hz h
  have hS : va_S (gs_A X) s.heap s.heap [] := va_S.rf
  have hl := lv_entry ([.ref rr, .int (nI rl), .int (nI a), .int (nI b), .int (nI c9)]) (n := 5) (Nat.le_of_ble_eq_true rfl)
  rw [lg_entry_eq]
  generalize (lg_sl ([.ref rr, .int (nI rl), .int (nI a), .int (nI b), .int (nI c9)]) ++ List.replicate (5 - (lg_sl ([.ref rr, .int (nI rl), .int (nI a), .int (nI b), .int (nI c9)])).length) Slot.unset).toArray = ls at hl ⊢
  have hl : lv_has ls 5 [(0, .ref rr), (1, .int (nI rl)), (2, .int (nI a)), (3, .int (nI b)), (4, .int (nI c9))] := hl
  refine lv_aload_n hx hb d_RR_has_0 rfl (lv_at hl 0 rfl) ?_
  refine lv_iload_n hx hb d_RR_has_1 rfl (lv_at hl 1 rfl) ?_
  refine lv_iload_n hx hb d_RR_has_2 rfl (lv_at hl 2 rfl) ?_
  refine lv_iload_n hx hb d_RR_has_3 rfl (lv_at hl 3 rfl) ?_
  refine lv_iload hx hb d_RR_has_4 (lv_at hl 4 rfl) ?_
  refine gs_callVpv (As := [.int (nI rl), .int (nI a), .int (nI b), .int (nI c9)]) (rest := []) ⟨hx, hb, hml, hown, hts⟩ hK hE hz hG hS (c_RR_requireTuple l X σ rr bk tu ma dv co ru sr nr nq fc sc dw cf cw rl (nI a) (nI b) (nI c9) x0 x1 hnr x2 hrl hcf hcw hok) ⟨rfl, rfl⟩ mV_RR_requireTuple w_387 x0 rfl rfl hl.1 rfl (Nat.le_of_ble_eq_true rfl) ⟨(by first | decide | omega | (dsimp only [headSpec]; omega)), (by first | decide | omega | (dsimp only [headSpec]; omega))⟩ ⟨(by first | decide | omega | (dsimp only [headSpec]; omega)), (by first | decide | omega | (dsimp only [headSpec]; omega))⟩ d_RR_has_6 ?_
  refine lv_aload_n hx hb d_RR_has_9 rfl (lv_at hl 0 rfl) ?_
  refine gs_get hx hb ht hown hK hG k_RR x0 1 (by decide) w_138 rfl d_RR_has_10 ?_
  refine lv_iload_n hx hb d_RR_has_13 rfl (lv_at hl 1 rfl) ?_
  refine lv_iload_n hx hb d_RR_has_14 rfl (lv_at hl 2 rfl) ?_
  refine lv_iload_n hx hb d_RR_has_15 rfl (lv_at hl 3 rfl) ?_
  refine lv_iload hx hb d_RR_has_16 (lv_at hl 4 rfl) ?_
  refine gs_callSp (As := [.int (nI rl), .int (nI a), .int (nI b), .int (nI c9)]) (rest := [.ref tu]) ⟨hx, hb, hml, hown, hts⟩ hK hE hz hG hS (c_RR_codeOf l X σ rl a b c9) ⟨rfl, rfl⟩ mS_RR_codeOf w_403 rfl hl.1 rfl (Nat.le_of_ble_eq_true rfl) ⟨(by first | decide | omega | (dsimp only [headSpec]; omega)), (by first | decide | omega | (dsimp only [headSpec]; omega))⟩ ⟨(by first | decide | omega | (dsimp only [headSpec]; omega)), (by first | decide | omega | (dsimp only [headSpec]; omega))⟩ d_RR_has_18 (fun r_18 hp_18 => ?_)
  refine gs_top (show r_18 = (nI (((rl * 64 + a) * 64 + b) * 64 + c9)) from hp_18) ?_
  refine gs_callVp (As := [.int (nI (((rl * 64 + a) * 64 + b) * 64 + c9))]) (rest := []) ⟨hx, hb, hml, hown, hts⟩ hK hE hz hG hS (c_TU_contains_p l X σ tu ac ai ab L cs (((rl * 64 + a) * 64 + b) * 64 + c9) hs hn hcs (by omega) h0 h1) ⟨rfl, rfl⟩ mV_TU_contains w_609 h0 rfl rfl hl.1 rfl (Nat.le_of_ble_eq_true rfl) ⟨(by first | decide | omega | (dsimp only [headSpec]; omega)), (by first | decide | omega | (dsimp only [headSpec]; omega))⟩ ⟨(by first | decide | omega | (dsimp only [headSpec]; omega)), (by first | decide | omega | (dsimp only [headSpec]; omega))⟩ d_RR_has_21 (fun r_21 hp_21 => ?_)
  refine gs_top (show r_21 = (bI (decide ((((rl * 64 + a) * 64 + b) * 64 + c9) ∈ L))) from hp_21) ?_
  exact gs_iretp (v := (bI (decide ((((rl * 64 + a) * 64 + b) * 64 + c9) ∈ L)))) hx hb hr (bI_nar _) hlocks (Nat.zero_le _) (Nat.zero_le _) (rfl) d_RR_has_24
set_option maxHeartbeats 4000000 in
set_option maxRecDepth 100000 in
/-- RuleRounds.has of no tuple -/
theorem c_RR_has_t (l : Launch) (X : gs_X) (σ : gs_St) (rr bk tu ma dv co ru sr nr nq fc : Nat) (sc : Int32) (dw : Value) (cf : Nat → Int32) (cw : Nat → Nat) (rl : Nat) (x y z : Int32)
    (htr : l.stackTraces = false) (x0 : σ rr = some (gs_ob 0 [.ref bk, .ref tu, .ref ma, .ref dv, .int (nI fc), dw])) (x1 : σ bk = some (gs_ob 5 [.ref co, .ref ru, .ref sr, .int (nI nr), .int (nI nq), .int sc])) (hnr : nr ≤ 12) (x2 : σ co = some (gs_ia X 12 cf)) (hrl : rl < nr) (hcf : cf rl = nI (cw rl)) (hcw : cw rl ≤ 3) (hok : wi3 64 (cw rl) x y z = false) : gs_Mt l X y_RR_has b_RR_has 5 (some .boolean) ({ frames := 7, cells := 1, slots := 6, locals := 114 }) σ [.ref rr, .int (nI rl), .int x, .int y, .int z] xI := by
  refine gs_MetT.ofW (cc := b_RR_has) (maxL := 5) (ret := (some .boolean)) (by decide) rfl ?_
  intro p e s m args below meth c s₁ B₀ hml hv
  obtain ⟨rfl, hK, hG, hz, hE⟩ := hv
  have hx := B₀.exec
  have hb := B₀.bytes
  have hr := B₀.returns
  have hts := atoms_spec (ws := gs_ws y_RR_has b_RR_has 5 (some .boolean)) B₀.pre
  have ht : ∀ w ∈ gs_w, w.before _ s = true := fun w h => hts w (List.mem_cons_of_mem _ h)
  have hown : s.vm.findClass R_RR = some m.cls := findClass_of_methodNamed B₀.named
  have hlocks := B₀.notSynchronized
  have hout9 : ∀ pc, ∀ x ∈ c.exceptionTable.toList, covers x pc = false := covers_of_empty (B₀.noHandlers (hts _ List.mem_cons_self))
  have hA : ∀ q : Nat, s.heap.size ≤ q → gs_A X q := fun q h => Nat.le_trans hz h
  have hS : va_S (gs_A X) s.heap s.heap [] := va_S.rf
  have hl := lv_entry ([.ref rr, .int (nI rl), .int x, .int y, .int z]) (n := 5) (Nat.le_of_ble_eq_true rfl)
  rw [lg_entry_eq]
  generalize (lg_sl ([.ref rr, .int (nI rl), .int x, .int y, .int z]) ++ List.replicate (5 - (lg_sl ([.ref rr, .int (nI rl), .int x, .int y, .int z])).length) Slot.unset).toArray = ls at hl ⊢
  have hl : lv_has ls 5 [(0, .ref rr), (1, .int (nI rl)), (2, .int x), (3, .int y), (4, .int z)] := hl
  refine lv_aload_n hx hb d_RR_has_0 rfl (lv_at hl 0 rfl) ?_
  refine lv_iload_n hx hb d_RR_has_1 rfl (lv_at hl 1 rfl) ?_
  refine lv_iload_n hx hb d_RR_has_2 rfl (lv_at hl 2 rfl) ?_
  refine lv_iload_n hx hb d_RR_has_3 rfl (lv_at hl 3 rfl) ?_
  refine lv_iload hx hb d_RR_has_4 (lv_at hl 4 rfl) ?_
  exact gs_callVt (As := [.int (nI rl), .int x, .int y, .int z]) (rest := []) ⟨hx, hb, hml, hown, hts⟩ hK hE hz hG (c_RR_requireTuple_t l X σ rr bk tu ma dv co ru sr nr nq fc sc dw cf cw rl x y z htr x0 x1 hnr x2 hrl hcf hcw hok) mV_RR_requireTuple w_387 x0 rfl rfl hl.1 rfl (Nat.le_of_ble_eq_true rfl) ⟨(by first | decide | omega | (dsimp only [headSpec]; omega)), (by first | decide | omega | (dsimp only [headSpec]; omega))⟩ ⟨(by first | decide | omega | (dsimp only [headSpec]; omega)), (by first | decide | omega | (dsimp only [headSpec]; omega))⟩ d_RR_has_6 ⟨(by first | decide | omega | (dsimp only [headSpec]; omega)), (by first | decide | omega | (dsimp only [headSpec]; omega))⟩ (hout9 _) hlocks
set_option maxHeartbeats 4000000 in
set_option maxRecDepth 100000 in
/-- RuleRounds.has of no relation -/
theorem c_RR_has_r (l : Launch) (X : gs_X) (σ : gs_St) (rr bk tu ma dv co ru sr nr nq fc : Nat) (sc : Int32) (dw : Value) (x x2 y z : Int32)
    (htr : l.stackTraces = false) (x0 : σ rr = some (gs_ob 0 [.ref bk, .ref tu, .ref ma, .ref dv, .int (nI fc), dw])) (x1 : σ bk = some (gs_ob 5 [.ref co, .ref ru, .ref sr, .int (nI nr), .int (nI nq), .int sc])) (hnr : nr ≤ 12) (hok : wi nr x = false) : gs_Mt l X y_RR_has b_RR_has 5 (some .boolean) ({ frames := 8, cells := 1, slots := 6, locals := 135 }) σ [.ref rr, .int x, .int x2, .int y, .int z] xI := by
  refine gs_MetT.ofW (cc := b_RR_has) (maxL := 5) (ret := (some .boolean)) (by decide) rfl ?_
  intro p e s m args below meth c s₁ B₀ hml hv
  obtain ⟨rfl, hK, hG, hz, hE⟩ := hv
  have hx := B₀.exec
  have hb := B₀.bytes
  have hr := B₀.returns
  have hts := atoms_spec (ws := gs_ws y_RR_has b_RR_has 5 (some .boolean)) B₀.pre
  have ht : ∀ w ∈ gs_w, w.before _ s = true := fun w h => hts w (List.mem_cons_of_mem _ h)
  have hown : s.vm.findClass R_RR = some m.cls := findClass_of_methodNamed B₀.named
  have hlocks := B₀.notSynchronized
  have hout9 : ∀ pc, ∀ x ∈ c.exceptionTable.toList, covers x pc = false := covers_of_empty (B₀.noHandlers (hts _ List.mem_cons_self))
  have hA : ∀ q : Nat, s.heap.size ≤ q → gs_A X q := fun q h => Nat.le_trans hz h
  have hS : va_S (gs_A X) s.heap s.heap [] := va_S.rf
  have hl := lv_entry ([.ref rr, .int x, .int x2, .int y, .int z]) (n := 5) (Nat.le_of_ble_eq_true rfl)
  rw [lg_entry_eq]
  generalize (lg_sl ([.ref rr, .int x, .int x2, .int y, .int z]) ++ List.replicate (5 - (lg_sl ([.ref rr, .int x, .int x2, .int y, .int z])).length) Slot.unset).toArray = ls at hl ⊢
  have hl : lv_has ls 5 [(0, .ref rr), (1, .int x), (2, .int x2), (3, .int y), (4, .int z)] := hl
  refine lv_aload_n hx hb d_RR_has_0 rfl (lv_at hl 0 rfl) ?_
  refine lv_iload_n hx hb d_RR_has_1 rfl (lv_at hl 1 rfl) ?_
  refine lv_iload_n hx hb d_RR_has_2 rfl (lv_at hl 2 rfl) ?_
  refine lv_iload_n hx hb d_RR_has_3 rfl (lv_at hl 3 rfl) ?_
  refine lv_iload hx hb d_RR_has_4 (lv_at hl 4 rfl) ?_
  exact gs_callVt (As := [.int x, .int x2, .int y, .int z]) (rest := []) ⟨hx, hb, hml, hown, hts⟩ hK hE hz hG (c_RR_requireTuple_r l X σ rr bk tu ma dv co ru sr nr nq fc sc dw x x2 y z htr x0 x1 hnr hok) mV_RR_requireTuple w_387 x0 rfl rfl hl.1 rfl (Nat.le_of_ble_eq_true rfl) ⟨(by first | decide | omega | (dsimp only [headSpec]; omega)), (by first | decide | omega | (dsimp only [headSpec]; omega))⟩ ⟨(by first | decide | omega | (dsimp only [headSpec]; omega)), (by first | decide | omega | (dsimp only [headSpec]; omega))⟩ d_RR_has_6 ⟨(by first | decide | omega | (dsimp only [headSpec]; omega)), (by first | decide | omega | (dsimp only [headSpec]; omega))⟩ (hout9 _) hlocks
