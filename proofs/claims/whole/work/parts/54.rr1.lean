set_option maxHeartbeats 4000000 in
set_option maxRecDepth 100000 in
/-- RuleRounds.isWithin -/
theorem c_RR_isWithin (l : Launch) (X : gs_X) (σ : gs_St) (b : Nat) (x : Int32)
     : gs_Mp l X y_RR_isWithin b_RR_isWithin 2 (some .boolean) ({ frames := 0, cells := 0, slots := 0, locals := 0 }) σ [.int (nI b), .int x] (fun r => r = bI (wi b x)) := by
  refine Met.ofW (cc := b_RR_isWithin) (maxL := 2) (ret := (some .boolean)) (by decide) rfl ?_
  intro p e s m args below meth c s₁ B₀ hml hv
  obtain ⟨rfl, hK, hG, hz, hE⟩ := hv
  have hx := B₀.exec
  have hb := B₀.bytes
  have hr := B₀.returns
  have hts := atoms_spec (ws := gs_ws y_RR_isWithin b_RR_isWithin 2 (some .boolean)) B₀.pre
  have ht : ∀ w ∈ gs_w, w.before _ s = true := fun w h => hts w (List.mem_cons_of_mem _ h)
  have hown : s.vm.findClass R_RR = some m.cls := findClass_of_methodNamed B₀.named
  have hlocks := B₀.notSynchronized
  have hA : ∀ q : Nat, s.heap.size ≤ q → gs_A X q := fun q h => Nat.le_trans hz h
  have hS : va_S (gs_A X) s.heap s.heap [] := va_S.rf
  have hl := lv_entry ([.int (nI b), .int x]) (n := 2) (Nat.le_of_ble_eq_true rfl)
  rw [lg_entry_eq]
  generalize (lg_sl ([.int (nI b), .int x]) ++ List.replicate (2 - (lg_sl ([.int (nI b), .int x])).length) Slot.unset).toArray = ls at hl ⊢
  have hl : lv_has ls 2 [(0, .int (nI b)), (1, .int x)] := hl
  refine lv_iload_n hx hb d_RR_isWithin_0 rfl (lv_at hl 1 rfl) ?_
  refine lv_if_lt (tgt := 13) hx hb d_RR_isWithin_1 (by decide) (fun c_1 => ?_) (fun c_1 => ?_)
  · refine lv_iconst (v := nI 0) hx hb d_RR_isWithin_13 (by decide) ?_
    exact gs_iretp (v := (nI 0)) hx hb hr rfl hlocks (Nat.zero_le _) (Nat.zero_le _) (by unfold wi; first | (rw [decide_eq_true c_1]; rfl) | (rw [decide_eq_false c_1, decide_eq_false (Int32.not_lt.mpr c_6)]; rfl) | (rw [decide_eq_false c_1, decide_eq_true (Int32.not_le.mp c_6)]; rfl)) d_RR_isWithin_14
  · refine lv_iload_n hx hb d_RR_isWithin_4 rfl (lv_at hl 1 rfl) ?_
    refine lv_iload_n hx hb d_RR_isWithin_5 rfl (lv_at hl 0 rfl) ?_
    refine lv_icmp_ge (tgt := 13) hx hb d_RR_isWithin_6 (by decide) (fun c_6 => ?_) (fun c_6 => ?_)
    · refine lv_iconst (v := nI 0) hx hb d_RR_isWithin_13 (by decide) ?_
      exact gs_iretp (v := (nI 0)) hx hb hr rfl hlocks (Nat.zero_le _) (Nat.zero_le _) (by unfold wi; first | (rw [decide_eq_true c_1]; rfl) | (rw [decide_eq_false c_1, decide_eq_false (Int32.not_lt.mpr c_6)]; rfl) | (rw [decide_eq_false c_1, decide_eq_true (Int32.not_le.mp c_6)]; rfl)) d_RR_isWithin_14
    · refine lv_iconst (v := nI 1) hx hb d_RR_isWithin_9 (by decide) ?_
      refine lv_goto (tgt := 14) hx hb d_RR_isWithin_10 (by decide) ?_
      exact gs_iretp (v := (nI 1)) hx hb hr rfl hlocks (Nat.zero_le _) (Nat.zero_le _) (by unfold wi; first | (rw [decide_eq_true c_1]; rfl) | (rw [decide_eq_false c_1, decide_eq_false (Int32.not_lt.mpr c_6)]; rfl) | (rw [decide_eq_false c_1, decide_eq_true (Int32.not_le.mp c_6)]; rfl)) d_RR_isWithin_14
set_option maxHeartbeats 4000000 in
set_option maxRecDepth 100000 in
/-- RuleRounds.areWithin -/
theorem c_RR_areWithin (l : Launch) (X : gs_X) (σ : gs_St) (b w : Nat) (x y z : Int32)
    (hw : w ≤ 3) : gs_Mp l X y_RR_areWithin b_RR_areWithin 5 (some .boolean) ({ frames := 1, cells := 0, slots := 0, locals := 21 }) σ [.int (nI b), .int (nI w), .int x, .int y, .int z] (fun r => r = bI (wi3 b w x y z)) := by
  refine Met.ofW (cc := b_RR_areWithin) (maxL := 5) (ret := (some .boolean)) (by decide) rfl ?_
  intro p e s m args below meth c s₁ B₀ hml hv
  obtain ⟨rfl, hK, hG, hz, hE⟩ := hv
  have hx := B₀.exec
  have hb := B₀.bytes
  have hr := B₀.returns
  have hts := atoms_spec (ws := gs_ws y_RR_areWithin b_RR_areWithin 5 (some .boolean)) B₀.pre
  have ht : ∀ w ∈ gs_w, w.before _ s = true := fun w h => hts w (List.mem_cons_of_mem _ h)
  have hown : s.vm.findClass R_RR = some m.cls := findClass_of_methodNamed B₀.named
  have hlocks := B₀.notSynchronized
  have hA : ∀ q : Nat, s.heap.size ≤ q → gs_A X q := fun q h => Nat.le_trans hz h
  have hS : va_S (gs_A X) s.heap s.heap [] := va_S.rf
  have hl := lv_entry ([.int (nI b), .int (nI w), .int x, .int y, .int z]) (n := 5) (Nat.le_of_ble_eq_true rfl)
  rw [lg_entry_eq]
  generalize (lg_sl ([.int (nI b), .int (nI w), .int x, .int y, .int z]) ++ List.replicate (5 - (lg_sl ([.int (nI b), .int (nI w), .int x, .int y, .int z])).length) Slot.unset).toArray = ls at hl ⊢
  have hl : lv_has ls 5 [(0, .int (nI b)), (1, .int (nI w)), (2, .int x), (3, .int y), (4, .int z)] := hl
  refine lv_iload_n hx hb d_RR_areWithin_0 rfl (lv_at hl 0 rfl) ?_
  refine lv_iload_n hx hb d_RR_areWithin_1 rfl (lv_at hl 2 rfl) ?_
  refine gs_callSp (As := [.int (nI b), .int x]) (rest := []) ⟨hx, hb, hml, hown, hts⟩ hK hE hz hG hS (c_RR_isWithin l X σ b x) ⟨rfl, rfl⟩ mS_RR_isWithin w_399 rfl hl.1 rfl (Nat.le_of_ble_eq_true rfl) ⟨(by first | decide | omega | (dsimp only [headSpec]; omega)), (by first | decide | omega | (dsimp only [headSpec]; omega))⟩ ⟨(by first | decide | omega | (dsimp only [headSpec]; omega)), (by first | decide | omega | (dsimp only [headSpec]; omega))⟩ d_RR_areWithin_2 (fun r_2 hp_2 => ?_)
  refine gs_top (show r_2 = (bI (wi b x)) from hp_2) ?_
  refine lv_if_eq (tgt := 47) hx hb d_RR_areWithin_5 (by decide) (fun c_5 => ?_) (fun c_5 => ?_)
  · refine lv_iconst (v := nI 0) hx hb d_RR_areWithin_47 (by decide) ?_
    exact gs_iretp (v := (nI 0)) hx hb hr rfl hlocks (Nat.zero_le _) (Nat.zero_le _) (by unfold wi3; first | (rw [bI_0 c_5]; rfl) | (rw [bI_n0 c_5, if_neg (show ¬ 1 < w by omega), bI_0 c_22]; rfl) | (rw [bI_n0 c_5, if_neg (show ¬ 1 < w by omega), bI_n0 c_22, if_neg (show ¬ 2 < w by omega), bI_0 c_40]; rfl) | (rw [bI_n0 c_5, if_neg (show ¬ 1 < w by omega), bI_n0 c_22, if_neg (show ¬ 2 < w by omega), bI_n0 c_40]; rfl) | (rw [bI_n0 c_5, if_neg (show ¬ 1 < w by omega), bI_n0 c_22, if_pos (show 2 < w by omega), bI_0 c_40]; rfl) | (rw [bI_n0 c_5, if_neg (show ¬ 1 < w by omega), bI_n0 c_22, if_pos (show 2 < w by omega), bI_n0 c_40]; rfl) | (rw [bI_n0 c_5, if_pos (show 1 < w by omega), bI_0 c_22]; rfl) | (rw [bI_n0 c_5, if_pos (show 1 < w by omega), bI_n0 c_22, if_neg (show ¬ 2 < w by omega), bI_0 c_40]; rfl) | (rw [bI_n0 c_5, if_pos (show 1 < w by omega), bI_n0 c_22, if_neg (show ¬ 2 < w by omega), bI_n0 c_40]; rfl) | (rw [bI_n0 c_5, if_pos (show 1 < w by omega), bI_n0 c_22, if_pos (show 2 < w by omega), bI_0 c_40]; rfl) | (rw [bI_n0 c_5, if_pos (show 1 < w by omega), bI_n0 c_22, if_pos (show 2 < w by omega), bI_n0 c_40]; rfl)) d_RR_areWithin_48
  · refine lv_iload_n hx hb d_RR_areWithin_8 rfl (lv_at hl 1 rfl) ?_
    refine lv_iconst (v := nI 1) hx hb d_RR_areWithin_9 (by decide) ?_
    refine lv_icmp_le (tgt := 17) hx hb d_RR_areWithin_10 (by decide) (fun c_10 => ?_) (fun c_10 => ?_)
    · have c_10 : w ≤ 1 := (nI_leI (by omega) (by omega)).mp c_10
      refine lv_iconst (v := nI 1) hx hb d_RR_areWithin_17 (by decide) ?_
      refine lv_iload_n hx hb d_RR_areWithin_18 rfl (lv_at hl 3 rfl) ?_
      refine gs_callSp (As := [.int (nI 1), .int y]) (rest := []) ⟨hx, hb, hml, hown, hts⟩ hK hE hz hG hS (c_RR_isWithin l X σ 1 y) ⟨rfl, rfl⟩ mS_RR_isWithin w_399 rfl hl.1 rfl (Nat.le_of_ble_eq_true rfl) ⟨(by first | decide | omega | (dsimp only [headSpec]; omega)), (by first | decide | omega | (dsimp only [headSpec]; omega))⟩ ⟨(by first | decide | omega | (dsimp only [headSpec]; omega)), (by first | decide | omega | (dsimp only [headSpec]; omega))⟩ d_RR_areWithin_19 (fun r_19 hp_19 => ?_)
      refine gs_top (show r_19 = (bI (wi 1 y)) from hp_19) ?_
      refine lv_if_eq (tgt := 47) hx hb d_RR_areWithin_22 (by decide) (fun c_22 => ?_) (fun c_22 => ?_)
      · refine lv_iconst (v := nI 0) hx hb d_RR_areWithin_47 (by decide) ?_
        exact gs_iretp (v := (nI 0)) hx hb hr rfl hlocks (Nat.zero_le _) (Nat.zero_le _) (by unfold wi3; first | (rw [bI_0 c_5]; rfl) | (rw [bI_n0 c_5, if_neg (show ¬ 1 < w by omega), bI_0 c_22]; rfl) | (rw [bI_n0 c_5, if_neg (show ¬ 1 < w by omega), bI_n0 c_22, if_neg (show ¬ 2 < w by omega), bI_0 c_40]; rfl) | (rw [bI_n0 c_5, if_neg (show ¬ 1 < w by omega), bI_n0 c_22, if_neg (show ¬ 2 < w by omega), bI_n0 c_40]; rfl) | (rw [bI_n0 c_5, if_neg (show ¬ 1 < w by omega), bI_n0 c_22, if_pos (show 2 < w by omega), bI_0 c_40]; rfl) | (rw [bI_n0 c_5, if_neg (show ¬ 1 < w by omega), bI_n0 c_22, if_pos (show 2 < w by omega), bI_n0 c_40]; rfl) | (rw [bI_n0 c_5, if_pos (show 1 < w by omega), bI_0 c_22]; rfl) | (rw [bI_n0 c_5, if_pos (show 1 < w by omega), bI_n0 c_22, if_neg (show ¬ 2 < w by omega), bI_0 c_40]; rfl) | (rw [bI_n0 c_5, if_pos (show 1 < w by omega), bI_n0 c_22, if_neg (show ¬ 2 < w by omega), bI_n0 c_40]; rfl) | (rw [bI_n0 c_5, if_pos (show 1 < w by omega), bI_n0 c_22, if_pos (show 2 < w by omega), bI_0 c_40]; rfl) | (rw [bI_n0 c_5, if_pos (show 1 < w by omega), bI_n0 c_22, if_pos (show 2 < w by omega), bI_n0 c_40]; rfl)) d_RR_areWithin_48
      · refine lv_iload_n hx hb d_RR_areWithin_25 rfl (lv_at hl 1 rfl) ?_
        refine lv_iconst (v := nI 2) hx hb d_RR_areWithin_26 (by decide) ?_
        refine lv_icmp_le (tgt := 34) hx hb d_RR_areWithin_27 (by decide) (fun c_27 => ?_) (fun c_27 => ?_)
        · have c_27 : w ≤ 2 := (nI_leI (by omega) (by omega)).mp c_27
          refine lv_iconst (v := nI 1) hx hb d_RR_areWithin_34 (by decide) ?_
          refine lv_iload hx hb d_RR_areWithin_35 (lv_at hl 4 rfl) ?_
          refine gs_callSp (As := [.int (nI 1), .int z]) (rest := []) ⟨hx, hb, hml, hown, hts⟩ hK hE hz hG hS (c_RR_isWithin l X σ 1 z) ⟨rfl, rfl⟩ mS_RR_isWithin w_399 rfl hl.1 rfl (Nat.le_of_ble_eq_true rfl) ⟨(by first | decide | omega | (dsimp only [headSpec]; omega)), (by first | decide | omega | (dsimp only [headSpec]; omega))⟩ ⟨(by first | decide | omega | (dsimp only [headSpec]; omega)), (by first | decide | omega | (dsimp only [headSpec]; omega))⟩ d_RR_areWithin_37 (fun r_37 hp_37 => ?_)
          refine gs_top (show r_37 = (bI (wi 1 z)) from hp_37) ?_
          refine lv_if_eq (tgt := 47) hx hb d_RR_areWithin_40 (by decide) (fun c_40 => ?_) (fun c_40 => ?_)
          · refine lv_iconst (v := nI 0) hx hb d_RR_areWithin_47 (by decide) ?_
            exact gs_iretp (v := (nI 0)) hx hb hr rfl hlocks (Nat.zero_le _) (Nat.zero_le _) (by unfold wi3; first | (rw [bI_0 c_5]; rfl) | (rw [bI_n0 c_5, if_neg (show ¬ 1 < w by omega), bI_0 c_22]; rfl) | (rw [bI_n0 c_5, if_neg (show ¬ 1 < w by omega), bI_n0 c_22, if_neg (show ¬ 2 < w by omega), bI_0 c_40]; rfl) | (rw [bI_n0 c_5, if_neg (show ¬ 1 < w by omega), bI_n0 c_22, if_neg (show ¬ 2 < w by omega), bI_n0 c_40]; rfl) | (rw [bI_n0 c_5, if_neg (show ¬ 1 < w by omega), bI_n0 c_22, if_pos (show 2 < w by omega), bI_0 c_40]; rfl) | (rw [bI_n0 c_5, if_neg (show ¬ 1 < w by omega), bI_n0 c_22, if_pos (show 2 < w by omega), bI_n0 c_40]; rfl) | (rw [bI_n0 c_5, if_pos (show 1 < w by omega), bI_0 c_22]; rfl) | (rw [bI_n0 c_5, if_pos (show 1 < w by omega), bI_n0 c_22, if_neg (show ¬ 2 < w by omega), bI_0 c_40]; rfl) | (rw [bI_n0 c_5, if_pos (show 1 < w by omega), bI_n0 c_22, if_neg (show ¬ 2 < w by omega), bI_n0 c_40]; rfl) | (rw [bI_n0 c_5, if_pos (show 1 < w by omega), bI_n0 c_22, if_pos (show 2 < w by omega), bI_0 c_40]; rfl) | (rw [bI_n0 c_5, if_pos (show 1 < w by omega), bI_n0 c_22, if_pos (show 2 < w by omega), bI_n0 c_40]; rfl)) d_RR_areWithin_48
          · refine lv_iconst (v := nI 1) hx hb d_RR_areWithin_43 (by decide) ?_
            refine lv_goto (tgt := 48) hx hb d_RR_areWithin_44 (by decide) ?_
            exact gs_iretp (v := (nI 1)) hx hb hr rfl hlocks (Nat.zero_le _) (Nat.zero_le _) (by unfold wi3; first | (rw [bI_0 c_5]; rfl) | (rw [bI_n0 c_5, if_neg (show ¬ 1 < w by omega), bI_0 c_22]; rfl) | (rw [bI_n0 c_5, if_neg (show ¬ 1 < w by omega), bI_n0 c_22, if_neg (show ¬ 2 < w by omega), bI_0 c_40]; rfl) | (rw [bI_n0 c_5, if_neg (show ¬ 1 < w by omega), bI_n0 c_22, if_neg (show ¬ 2 < w by omega), bI_n0 c_40]; rfl) | (rw [bI_n0 c_5, if_neg (show ¬ 1 < w by omega), bI_n0 c_22, if_pos (show 2 < w by omega), bI_0 c_40]; rfl) | (rw [bI_n0 c_5, if_neg (show ¬ 1 < w by omega), bI_n0 c_22, if_pos (show 2 < w by omega), bI_n0 c_40]; rfl) | (rw [bI_n0 c_5, if_pos (show 1 < w by omega), bI_0 c_22]; rfl) | (rw [bI_n0 c_5, if_pos (show 1 < w by omega), bI_n0 c_22, if_neg (show ¬ 2 < w by omega), bI_0 c_40]; rfl) | (rw [bI_n0 c_5, if_pos (show 1 < w by omega), bI_n0 c_22, if_neg (show ¬ 2 < w by omega), bI_n0 c_40]; rfl) | (rw [bI_n0 c_5, if_pos (show 1 < w by omega), bI_n0 c_22, if_pos (show 2 < w by omega), bI_0 c_40]; rfl) | (rw [bI_n0 c_5, if_pos (show 1 < w by omega), bI_n0 c_22, if_pos (show 2 < w by omega), bI_n0 c_40]; rfl)) d_RR_areWithin_48
        · have c_27 : ¬ w ≤ 2 := mt (nI_leI (by omega) (by omega)).mpr c_27
          refine lv_iload_n hx hb d_RR_areWithin_30 rfl (lv_at hl 0 rfl) ?_
          refine lv_goto (tgt := 35) hx hb d_RR_areWithin_31 (by decide) ?_
          refine lv_iload hx hb d_RR_areWithin_35 (lv_at hl 4 rfl) ?_
          refine gs_callSp (As := [.int (nI b), .int z]) (rest := []) ⟨hx, hb, hml, hown, hts⟩ hK hE hz hG hS (c_RR_isWithin l X σ b z) ⟨rfl, rfl⟩ mS_RR_isWithin w_399 rfl hl.1 rfl (Nat.le_of_ble_eq_true rfl) ⟨(by first | decide | omega | (dsimp only [headSpec]; omega)), (by first | decide | omega | (dsimp only [headSpec]; omega))⟩ ⟨(by first | decide | omega | (dsimp only [headSpec]; omega)), (by first | decide | omega | (dsimp only [headSpec]; omega))⟩ d_RR_areWithin_37 (fun r_37 hp_37 => ?_)
          refine gs_top (show r_37 = (bI (wi b z)) from hp_37) ?_
          refine lv_if_eq (tgt := 47) hx hb d_RR_areWithin_40 (by decide) (fun c_40 => ?_) (fun c_40 => ?_)
          · refine lv_iconst (v := nI 0) hx hb d_RR_areWithin_47 (by decide) ?_
            exact gs_iretp (v := (nI 0)) hx hb hr rfl hlocks (Nat.zero_le _) (Nat.zero_le _) (by unfold wi3; first | (rw [bI_0 c_5]; rfl) | (rw [bI_n0 c_5, if_neg (show ¬ 1 < w by omega), bI_0 c_22]; rfl) | (rw [bI_n0 c_5, if_neg (show ¬ 1 < w by omega), bI_n0 c_22, if_neg (show ¬ 2 < w by omega), bI_0 c_40]; rfl) | (rw [bI_n0 c_5, if_neg (show ¬ 1 < w by omega), bI_n0 c_22, if_neg (show ¬ 2 < w by omega), bI_n0 c_40]; rfl) | (rw [bI_n0 c_5, if_neg (show ¬ 1 < w by omega), bI_n0 c_22, if_pos (show 2 < w by omega), bI_0 c_40]; rfl) | (rw [bI_n0 c_5, if_neg (show ¬ 1 < w by omega), bI_n0 c_22, if_pos (show 2 < w by omega), bI_n0 c_40]; rfl) | (rw [bI_n0 c_5, if_pos (show 1 < w by omega), bI_0 c_22]; rfl) | (rw [bI_n0 c_5, if_pos (show 1 < w by omega), bI_n0 c_22, if_neg (show ¬ 2 < w by omega), bI_0 c_40]; rfl) | (rw [bI_n0 c_5, if_pos (show 1 < w by omega), bI_n0 c_22, if_neg (show ¬ 2 < w by omega), bI_n0 c_40]; rfl) | (rw [bI_n0 c_5, if_pos (show 1 < w by omega), bI_n0 c_22, if_pos (show 2 < w by omega), bI_0 c_40]; rfl) | (rw [bI_n0 c_5, if_pos (show 1 < w by omega), bI_n0 c_22, if_pos (show 2 < w by omega), bI_n0 c_40]; rfl)) d_RR_areWithin_48
          · refine lv_iconst (v := nI 1) hx hb d_RR_areWithin_43 (by decide) ?_
            refine lv_goto (tgt := 48) hx hb d_RR_areWithin_44 (by decide) ?_
            exact gs_iretp (v := (nI 1)) hx hb hr rfl hlocks (Nat.zero_le _) (Nat.zero_le _) (by unfold wi3; first | (rw [bI_0 c_5]; rfl) | (rw [bI_n0 c_5, if_neg (show ¬ 1 < w by omega), bI_0 c_22]; rfl) | (rw [bI_n0 c_5, if_neg (show ¬ 1 < w by omega), bI_n0 c_22, if_neg (show ¬ 2 < w by omega), bI_0 c_40]; rfl) | (rw [bI_n0 c_5, if_neg (show ¬ 1 < w by omega), bI_n0 c_22, if_neg (show ¬ 2 < w by omega), bI_n0 c_40]; rfl) | (rw [bI_n0 c_5, if_neg (show ¬ 1 < w by omega), bI_n0 c_22, if_pos (show 2 < w by omega), bI_0 c_40]; rfl) | (rw [bI_n0 c_5, if_neg (show ¬ 1 < w by omega), bI_n0 c_22, if_pos (show 2 < w by omega), bI_n0 c_40]; rfl) | (rw [bI_n0 c_5, if_pos (show 1 < w by omega), bI_0 c_22]; rfl) | (rw [bI_n0 c_5, if_pos (show 1 < w by omega), bI_n0 c_22, if_neg (show ¬ 2 < w by omega), bI_0 c_40]; rfl) | (rw [bI_n0 c_5, if_pos (show 1 < w by omega), bI_n0 c_22, if_neg (show ¬ 2 < w by omega), bI_n0 c_40]; rfl) | (rw [bI_n0 c_5, if_pos (show 1 < w by omega), bI_n0 c_22, if_pos (show 2 < w by omega), bI_0 c_40]; rfl) | (rw [bI_n0 c_5, if_pos (show 1 < w by omega), bI_n0 c_22, if_pos (show 2 < w by omega), bI_n0 c_40]; rfl)) d_RR_areWithin_48
    · have c_10 : ¬ w ≤ 1 := mt (nI_leI (by omega) (by omega)).mpr c_10
      refine lv_iload_n hx hb d_RR_areWithin_13 rfl (lv_at hl 0 rfl) ?_
      refine lv_goto (tgt := 18) hx hb d_RR_areWithin_14 (by decide) ?_
      refine lv_iload_n hx hb d_RR_areWithin_18 rfl (lv_at hl 3 rfl) ?_
      refine gs_callSp (As := [.int (nI b), .int y]) (rest := []) ⟨hx, hb, hml, hown, hts⟩ hK hE hz hG hS (c_RR_isWithin l X σ b y) ⟨rfl, rfl⟩ mS_RR_isWithin w_399 rfl hl.1 rfl (Nat.le_of_ble_eq_true rfl) ⟨(by first | decide | omega | (dsimp only [headSpec]; omega)), (by first | decide | omega | (dsimp only [headSpec]; omega))⟩ ⟨(by first | decide | omega | (dsimp only [headSpec]; omega)), (by first | decide | omega | (dsimp only [headSpec]; omega))⟩ d_RR_areWithin_19 (fun r_19 hp_19 => ?_)
      refine gs_top (show r_19 = (bI (wi b y)) from hp_19) ?_
      refine lv_if_eq (tgt := 47) hx hb d_RR_areWithin_22 (by decide) (fun c_22 => ?_) (fun c_22 => ?_)
      · refine lv_iconst (v := nI 0) hx hb d_RR_areWithin_47 (by decide) ?_
        exact gs_iretp (v := (nI 0)) hx hb hr rfl hlocks (Nat.zero_le _) (Nat.zero_le _) (by unfold wi3; first | (rw [bI_0 c_5]; rfl) | (rw [bI_n0 c_5, if_neg (show ¬ 1 < w by omega), bI_0 c_22]; rfl) | (rw [bI_n0 c_5, if_neg (show ¬ 1 < w by omega), bI_n0 c_22, if_neg (show ¬ 2 < w by omega), bI_0 c_40]; rfl) | (rw [bI_n0 c_5, if_neg (show ¬ 1 < w by omega), bI_n0 c_22, if_neg (show ¬ 2 < w by omega), bI_n0 c_40]; rfl) | (rw [bI_n0 c_5, if_neg (show ¬ 1 < w by omega), bI_n0 c_22, if_pos (show 2 < w by omega), bI_0 c_40]; rfl) | (rw [bI_n0 c_5, if_neg (show ¬ 1 < w by omega), bI_n0 c_22, if_pos (show 2 < w by omega), bI_n0 c_40]; rfl) | (rw [bI_n0 c_5, if_pos (show 1 < w by omega), bI_0 c_22]; rfl) | (rw [bI_n0 c_5, if_pos (show 1 < w by omega), bI_n0 c_22, if_neg (show ¬ 2 < w by omega), bI_0 c_40]; rfl) | (rw [bI_n0 c_5, if_pos (show 1 < w by omega), bI_n0 c_22, if_neg (show ¬ 2 < w by omega), bI_n0 c_40]; rfl) | (rw [bI_n0 c_5, if_pos (show 1 < w by omega), bI_n0 c_22, if_pos (show 2 < w by omega), bI_0 c_40]; rfl) | (rw [bI_n0 c_5, if_pos (show 1 < w by omega), bI_n0 c_22, if_pos (show 2 < w by omega), bI_n0 c_40]; rfl)) d_RR_areWithin_48
      · refine lv_iload_n hx hb d_RR_areWithin_25 rfl (lv_at hl 1 rfl) ?_
        refine lv_iconst (v := nI 2) hx hb d_RR_areWithin_26 (by decide) ?_
        refine lv_icmp_le (tgt := 34) hx hb d_RR_areWithin_27 (by decide) (fun c_27 => ?_) (fun c_27 => ?_)
        · have c_27 : w ≤ 2 := (nI_leI (by omega) (by omega)).mp c_27
          refine lv_iconst (v := nI 1) hx hb d_RR_areWithin_34 (by decide) ?_
          refine lv_iload hx hb d_RR_areWithin_35 (lv_at hl 4 rfl) ?_
          refine gs_callSp (As := [.int (nI 1), .int z]) (rest := []) ⟨hx, hb, hml, hown, hts⟩ hK hE hz hG hS (c_RR_isWithin l X σ 1 z) ⟨rfl, rfl⟩ mS_RR_isWithin w_399 rfl hl.1 rfl (Nat.le_of_ble_eq_true rfl) ⟨(by first | decide | omega | (dsimp only [headSpec]; omega)), (by first | decide | omega | (dsimp only [headSpec]; omega))⟩ ⟨(by first | decide | omega | (dsimp only [headSpec]; omega)), (by first | decide | omega | (dsimp only [headSpec]; omega))⟩ d_RR_areWithin_37 (fun r_37 hp_37 => ?_)
          refine gs_top (show r_37 = (bI (wi 1 z)) from hp_37) ?_
          refine lv_if_eq (tgt := 47) hx hb d_RR_areWithin_40 (by decide) (fun c_40 => ?_) (fun c_40 => ?_)
          · refine lv_iconst (v := nI 0) hx hb d_RR_areWithin_47 (by decide) ?_
            exact gs_iretp (v := (nI 0)) hx hb hr rfl hlocks (Nat.zero_le _) (Nat.zero_le _) (by unfold wi3; first | (rw [bI_0 c_5]; rfl) | (rw [bI_n0 c_5, if_neg (show ¬ 1 < w by omega), bI_0 c_22]; rfl) | (rw [bI_n0 c_5, if_neg (show ¬ 1 < w by omega), bI_n0 c_22, if_neg (show ¬ 2 < w by omega), bI_0 c_40]; rfl) | (rw [bI_n0 c_5, if_neg (show ¬ 1 < w by omega), bI_n0 c_22, if_neg (show ¬ 2 < w by omega), bI_n0 c_40]; rfl) | (rw [bI_n0 c_5, if_neg (show ¬ 1 < w by omega), bI_n0 c_22, if_pos (show 2 < w by omega), bI_0 c_40]; rfl) | (rw [bI_n0 c_5, if_neg (show ¬ 1 < w by omega), bI_n0 c_22, if_pos (show 2 < w by omega), bI_n0 c_40]; rfl) | (rw [bI_n0 c_5, if_pos (show 1 < w by omega), bI_0 c_22]; rfl) | (rw [bI_n0 c_5, if_pos (show 1 < w by omega), bI_n0 c_22, if_neg (show ¬ 2 < w by omega), bI_0 c_40]; rfl) | (rw [bI_n0 c_5, if_pos (show 1 < w by omega), bI_n0 c_22, if_neg (show ¬ 2 < w by omega), bI_n0 c_40]; rfl) | (rw [bI_n0 c_5, if_pos (show 1 < w by omega), bI_n0 c_22, if_pos (show 2 < w by omega), bI_0 c_40]; rfl) | (rw [bI_n0 c_5, if_pos (show 1 < w by omega), bI_n0 c_22, if_pos (show 2 < w by omega), bI_n0 c_40]; rfl)) d_RR_areWithin_48
          · refine lv_iconst (v := nI 1) hx hb d_RR_areWithin_43 (by decide) ?_
            refine lv_goto (tgt := 48) hx hb d_RR_areWithin_44 (by decide) ?_
            exact gs_iretp (v := (nI 1)) hx hb hr rfl hlocks (Nat.zero_le _) (Nat.zero_le _) (by unfold wi3; first | (rw [bI_0 c_5]; rfl) | (rw [bI_n0 c_5, if_neg (show ¬ 1 < w by omega), bI_0 c_22]; rfl) | (rw [bI_n0 c_5, if_neg (show ¬ 1 < w by omega), bI_n0 c_22, if_neg (show ¬ 2 < w by omega), bI_0 c_40]; rfl) | (rw [bI_n0 c_5, if_neg (show ¬ 1 < w by omega), bI_n0 c_22, if_neg (show ¬ 2 < w by omega), bI_n0 c_40]; rfl) | (rw [bI_n0 c_5, if_neg (show ¬ 1 < w by omega), bI_n0 c_22, if_pos (show 2 < w by omega), bI_0 c_40]; rfl) | (rw [bI_n0 c_5, if_neg (show ¬ 1 < w by omega), bI_n0 c_22, if_pos (show 2 < w by omega), bI_n0 c_40]; rfl) | (rw [bI_n0 c_5, if_pos (show 1 < w by omega), bI_0 c_22]; rfl) | (rw [bI_n0 c_5, if_pos (show 1 < w by omega), bI_n0 c_22, if_neg (show ¬ 2 < w by omega), bI_0 c_40]; rfl) | (rw [bI_n0 c_5, if_pos (show 1 < w by omega), bI_n0 c_22, if_neg (show ¬ 2 < w by omega), bI_n0 c_40]; rfl) | (rw [bI_n0 c_5, if_pos (show 1 < w by omega), bI_n0 c_22, if_pos (show 2 < w by omega), bI_0 c_40]; rfl) | (rw [bI_n0 c_5, if_pos (show 1 < w by omega), bI_n0 c_22, if_pos (show 2 < w by omega), bI_n0 c_40]; rfl)) d_RR_areWithin_48
        · have c_27 : ¬ w ≤ 2 := mt (nI_leI (by omega) (by omega)).mpr c_27
          refine lv_iload_n hx hb d_RR_areWithin_30 rfl (lv_at hl 0 rfl) ?_
          refine lv_goto (tgt := 35) hx hb d_RR_areWithin_31 (by decide) ?_
          refine lv_iload hx hb d_RR_areWithin_35 (lv_at hl 4 rfl) ?_
          refine gs_callSp (As := [.int (nI b), .int z]) (rest := []) ⟨hx, hb, hml, hown, hts⟩ hK hE hz hG hS (c_RR_isWithin l X σ b z) ⟨rfl, rfl⟩ mS_RR_isWithin w_399 rfl hl.1 rfl (Nat.le_of_ble_eq_true rfl) ⟨(by first | decide | omega | (dsimp only [headSpec]; omega)), (by first | decide | omega | (dsimp only [headSpec]; omega))⟩ ⟨(by first | decide | omega | (dsimp only [headSpec]; omega)), (by first | decide | omega | (dsimp only [headSpec]; omega))⟩ d_RR_areWithin_37 (fun r_37 hp_37 => ?_)
          refine gs_top (show r_37 = (bI (wi b z)) from hp_37) ?_
          refine lv_if_eq (tgt := 47) hx hb d_RR_areWithin_40 (by decide) (fun c_40 => ?_) (fun c_40 => ?_)
          · refine lv_iconst (v := nI 0) hx hb d_RR_areWithin_47 (by decide) ?_
            exact gs_iretp (v := (nI 0)) hx hb hr rfl hlocks (Nat.zero_le _) (Nat.zero_le _) (by unfold wi3; first | (rw [bI_0 c_5]; rfl) | (rw [bI_n0 c_5, if_neg (show ¬ 1 < w by omega), bI_0 c_22]; rfl) | (rw [bI_n0 c_5, if_neg (show ¬ 1 < w by omega), bI_n0 c_22, if_neg (show ¬ 2 < w by omega), bI_0 c_40]; rfl) | (rw [bI_n0 c_5, if_neg (show ¬ 1 < w by omega), bI_n0 c_22, if_neg (show ¬ 2 < w by omega), bI_n0 c_40]; rfl) | (rw [bI_n0 c_5, if_neg (show ¬ 1 < w by omega), bI_n0 c_22, if_pos (show 2 < w by omega), bI_0 c_40]; rfl) | (rw [bI_n0 c_5, if_neg (show ¬ 1 < w by omega), bI_n0 c_22, if_pos (show 2 < w by omega), bI_n0 c_40]; rfl) | (rw [bI_n0 c_5, if_pos (show 1 < w by omega), bI_0 c_22]; rfl) | (rw [bI_n0 c_5, if_pos (show 1 < w by omega), bI_n0 c_22, if_neg (show ¬ 2 < w by omega), bI_0 c_40]; rfl) | (rw [bI_n0 c_5, if_pos (show 1 < w by omega), bI_n0 c_22, if_neg (show ¬ 2 < w by omega), bI_n0 c_40]; rfl) | (rw [bI_n0 c_5, if_pos (show 1 < w by omega), bI_n0 c_22, if_pos (show 2 < w by omega), bI_0 c_40]; rfl) | (rw [bI_n0 c_5, if_pos (show 1 < w by omega), bI_n0 c_22, if_pos (show 2 < w by omega), bI_n0 c_40]; rfl)) d_RR_areWithin_48
          · refine lv_iconst (v := nI 1) hx hb d_RR_areWithin_43 (by decide) ?_
            refine lv_goto (tgt := 48) hx hb d_RR_areWithin_44 (by decide) ?_
            exact gs_iretp (v := (nI 1)) hx hb hr rfl hlocks (Nat.zero_le _) (Nat.zero_le _) (by unfold wi3; first | (rw [bI_0 c_5]; rfl) | (rw [bI_n0 c_5, if_neg (show ¬ 1 < w by omega), bI_0 c_22]; rfl) | (rw [bI_n0 c_5, if_neg (show ¬ 1 < w by omega), bI_n0 c_22, if_neg (show ¬ 2 < w by omega), bI_0 c_40]; rfl) | (rw [bI_n0 c_5, if_neg (show ¬ 1 < w by omega), bI_n0 c_22, if_neg (show ¬ 2 < w by omega), bI_n0 c_40]; rfl) | (rw [bI_n0 c_5, if_neg (show ¬ 1 < w by omega), bI_n0 c_22, if_pos (show 2 < w by omega), bI_0 c_40]; rfl) | (rw [bI_n0 c_5, if_neg (show ¬ 1 < w by omega), bI_n0 c_22, if_pos (show 2 < w by omega), bI_n0 c_40]; rfl) | (rw [bI_n0 c_5, if_pos (show 1 < w by omega), bI_0 c_22]; rfl) | (rw [bI_n0 c_5, if_pos (show 1 < w by omega), bI_n0 c_22, if_neg (show ¬ 2 < w by omega), bI_0 c_40]; rfl) | (rw [bI_n0 c_5, if_pos (show 1 < w by omega), bI_n0 c_22, if_neg (show ¬ 2 < w by omega), bI_n0 c_40]; rfl) | (rw [bI_n0 c_5, if_pos (show 1 < w by omega), bI_n0 c_22, if_pos (show 2 < w by omega), bI_0 c_40]; rfl) | (rw [bI_n0 c_5, if_pos (show 1 < w by omega), bI_n0 c_22, if_pos (show 2 < w by omega), bI_n0 c_40]; rfl)) d_RR_areWithin_48
set_option maxHeartbeats 4000000 in
set_option maxRecDepth 100000 in
/-- RuleRounds.codeOf -/
theorem c_RR_codeOf (l : Launch) (X : gs_X) (σ : gs_St) (r a b c9 : Nat)
     : gs_Mp l X y_RR_codeOf b_RR_codeOf 4 (some .int) ({ frames := 0, cells := 0, slots := 0, locals := 0 }) σ [.int (nI r), .int (nI a), .int (nI b), .int (nI c9)] (fun z => z = nI (((r * 64 + a) * 64 + b) * 64 + c9)) := by
  refine Met.ofW (cc := b_RR_codeOf) (maxL := 4) (ret := (some .int)) (by decide) rfl ?_
  intro p e s m args below meth c s₁ B₀ hml hv
  obtain ⟨rfl, hK, hG, hz, hE⟩ := hv
  have hx := B₀.exec
  have hb := B₀.bytes
  have hr := B₀.returns
  have hts := atoms_spec (ws := gs_ws y_RR_codeOf b_RR_codeOf 4 (some .int)) B₀.pre
  have ht : ∀ w ∈ gs_w, w.before _ s = true := fun w h => hts w (List.mem_cons_of_mem _ h)
  have hown : s.vm.findClass R_RR = some m.cls := findClass_of_methodNamed B₀.named
  have hlocks := B₀.notSynchronized
  have hA : ∀ q : Nat, s.heap.size ≤ q → gs_A X q := fun q h => Nat.le_trans hz h
  have hS : va_S (gs_A X) s.heap s.heap [] := va_S.rf
  have hl := lv_entry ([.int (nI r), .int (nI a), .int (nI b), .int (nI c9)]) (n := 4) (Nat.le_of_ble_eq_true rfl)
  rw [lg_entry_eq]
  generalize (lg_sl ([.int (nI r), .int (nI a), .int (nI b), .int (nI c9)]) ++ List.replicate (4 - (lg_sl ([.int (nI r), .int (nI a), .int (nI b), .int (nI c9)])).length) Slot.unset).toArray = ls at hl ⊢
  have hl : lv_has ls 4 [(0, .int (nI r)), (1, .int (nI a)), (2, .int (nI b)), (3, .int (nI c9))] := hl
  refine lv_iload_n hx hb d_RR_codeOf_0 rfl (lv_at hl 0 rfl) ?_
  refine lv_bipush (v := nI 64) hx hb d_RR_codeOf_1 (by decide) ?_
  refine lv_imul hx hb d_RR_codeOf_3 ?_
  refine gs_top (pk_mul r 64) ?_
  refine lv_iload_n hx hb d_RR_codeOf_4 rfl (lv_at hl 1 rfl) ?_
  refine lv_iadd hx hb d_RR_codeOf_5 ?_
  refine gs_top (nI_add (r * 64) a) ?_
  refine lv_bipush (v := nI 64) hx hb d_RR_codeOf_6 (by decide) ?_
  refine lv_imul hx hb d_RR_codeOf_8 ?_
  refine gs_top (pk_mul ((r * 64) + a) 64) ?_
  refine lv_iload_n hx hb d_RR_codeOf_9 rfl (lv_at hl 2 rfl) ?_
  refine lv_iadd hx hb d_RR_codeOf_10 ?_
  refine gs_top (nI_add (((r * 64) + a) * 64) b) ?_
  refine lv_bipush (v := nI 64) hx hb d_RR_codeOf_11 (by decide) ?_
  refine lv_imul hx hb d_RR_codeOf_13 ?_
  refine gs_top (pk_mul ((((r * 64) + a) * 64) + b) 64) ?_
  refine lv_iload_n hx hb d_RR_codeOf_14 rfl (lv_at hl 3 rfl) ?_
  refine lv_iadd hx hb d_RR_codeOf_15 ?_
  refine gs_top (nI_add (((((r * 64) + a) * 64) + b) * 64) c9) ?_
  exact gs_iretp (v := (nI ((((((r * 64) + a) * 64) + b) * 64) + c9))) hx hb hr rfl hlocks (Nat.zero_le _) (Nat.zero_le _) (rfl) d_RR_codeOf_16
set_option maxHeartbeats 4000000 in
set_option maxRecDepth 100000 in
/-- RuleRounds.requireRelation, where there is one -/
theorem c_RR_requireRelation (l : Launch) (X : gs_X) (σ : gs_St) (rr bk tu ma dv co ru sr nr nq fc : Nat) (sc : Int32) (dw : Value) (x : Int32)
    (x0 : σ rr = some (gs_ob 0 [.ref bk, .ref tu, .ref ma, .ref dv, .int (nI fc), dw])) (x1 : σ bk = some (gs_ob 5 [.ref co, .ref ru, .ref sr, .int (nI nr), .int (nI nq), .int sc])) (hnr : nr ≤ 12) (hok : wi nr x = true) : gs_Mpv l X y_RR_requireRelation b_RR_requireRelation 2 ({ frames := 0, cells := 0, slots := 0, locals := 0 }) σ [.ref rr, .int x] := by
  refine Met.ofW (cc := b_RR_requireRelation) (maxL := 2) (ret := none) (by decide) rfl ?_
  intro p e s m args below meth c s₁ B₀ hml hv
  obtain ⟨rfl, hK, hG, hz, hE⟩ := hv
  have hx := B₀.exec
  have hb := B₀.bytes
  have hr := B₀.returns
  have hts := atoms_spec (ws := gs_ws y_RR_requireRelation b_RR_requireRelation 2 none) B₀.pre
  have ht : ∀ w ∈ gs_w, w.before _ s = true := fun w h => hts w (List.mem_cons_of_mem _ h)
  have hown : s.vm.findClass R_RR = some m.cls := findClass_of_methodNamed B₀.named
  have hlocks := B₀.notSynchronized
  have hA : ∀ q : Nat, s.heap.size ≤ q → gs_A X q := fun q h => Nat.le_trans hz h
  have hS : va_S (gs_A X) s.heap s.heap [] := va_S.rf
  have hl := lv_entry ([.ref rr, .int x]) (n := 2) (Nat.le_of_ble_eq_true rfl)
  rw [lg_entry_eq]
  generalize (lg_sl ([.ref rr, .int x]) ++ List.replicate (2 - (lg_sl ([.ref rr, .int x])).length) Slot.unset).toArray = ls at hl ⊢
  have hl : lv_has ls 2 [(0, .ref rr), (1, .int x)] := hl
  refine lv_iload_n hx hb d_RR_requireRelation_0 rfl (lv_at hl 1 rfl) ?_
  refine lv_if_lt (tgt := 15) hx hb d_RR_requireRelation_1 (by decide) (fun c_1 => ?_) (fun c_1 => ?_)
  · exact absurd hok (by unfold wi; first | (rw [decide_eq_false c_1, decide_eq_false c_12]; decide) | simp [c_1])
  · refine lv_iload_n hx hb d_RR_requireRelation_4 rfl (lv_at hl 1 rfl) ?_
    refine lv_aload_n hx hb d_RR_requireRelation_5 rfl (lv_at hl 0 rfl) ?_
    refine gs_get hx hb ht hown hK hG k_RR x0 0 (by decide) w_137 rfl d_RR_requireRelation_6 ?_
    refine gs_get hx hb ht hown hK hG k_RB x1 3 (by decide) w_41 rfl d_RR_requireRelation_9 ?_
    refine lv_icmp_lt (tgt := 25) hx hb d_RR_requireRelation_12 (by decide) (fun c_12 => ?_) (fun c_12 => ?_)
    · exact gs_vretp hx hb hr hlocks (Nat.zero_le _) (Nat.zero_le _) d_RR_requireRelation_25
    · exact absurd hok (by unfold wi; first | (rw [decide_eq_false c_1, decide_eq_false c_12]; decide) | simp [c_1])
set_option maxHeartbeats 4000000 in
set_option maxRecDepth 100000 in
/-- RuleRounds.requireRelation, where there is none -/
theorem c_RR_requireRelation_t (l : Launch) (X : gs_X) (σ : gs_St) (rr bk tu ma dv co ru sr nr nq fc : Nat) (sc : Int32) (dw : Value) (x : Int32)
    (htr : l.stackTraces = false) (x0 : σ rr = some (gs_ob 0 [.ref bk, .ref tu, .ref ma, .ref dv, .int (nI fc), dw])) (x1 : σ bk = some (gs_ob 5 [.ref co, .ref ru, .ref sr, .int (nI nr), .int (nI nq), .int sc])) (hnr : nr ≤ 12) (hok : wi nr x = false) : gs_Mt l X y_RR_requireRelation b_RR_requireRelation 2 none ({ frames := 6, cells := 1, slots := 6, locals := 90 }) σ [.ref rr, .int x] xI := by
  refine gs_MetT.ofW (cc := b_RR_requireRelation) (maxL := 2) (ret := none) (by decide) rfl ?_
  intro p e s m args below meth c s₁ B₀ hml hv
  obtain ⟨rfl, hK, hG, hz, hE⟩ := hv
  have hx := B₀.exec
  have hb := B₀.bytes
  have hr := B₀.returns
  have hts := atoms_spec (ws := gs_ws y_RR_requireRelation b_RR_requireRelation 2 none) B₀.pre
  have ht : ∀ w ∈ gs_w, w.before _ s = true := fun w h => hts w (List.mem_cons_of_mem _ h)
  have hown : s.vm.findClass R_RR = some m.cls := findClass_of_methodNamed B₀.named
  have hlocks := B₀.notSynchronized
  have hout9 : ∀ pc, ∀ x ∈ c.exceptionTable.toList, covers x pc = false := covers_of_empty (B₀.noHandlers (hts _ List.mem_cons_self))
  have hA : ∀ q : Nat, s.heap.size ≤ q → gs_A X q := fun q h => Nat.le_trans hz h
  have hS : va_S (gs_A X) s.heap s.heap [] := va_S.rf
  have hl := lv_entry ([.ref rr, .int x]) (n := 2) (Nat.le_of_ble_eq_true rfl)
  rw [lg_entry_eq]
  generalize (lg_sl ([.ref rr, .int x]) ++ List.replicate (2 - (lg_sl ([.ref rr, .int x])).length) Slot.unset).toArray = ls at hl ⊢
  have hl : lv_has ls 2 [(0, .ref rr), (1, .int x)] := hl
  refine lv_iload_n hx hb d_RR_requireRelation_0 rfl (lv_at hl 1 rfl) ?_
  refine lv_if_lt (tgt := 15) hx hb d_RR_requireRelation_1 (by decide) (fun c_1 => ?_) (fun c_1 => ?_)
  · exact gs_thrI hx hb hml htr hown ht hK hE hz hG (List.mem_of_getElem? (i := 2) rfl) hl.1 d_RR_requireRelation_15 d_RR_requireRelation_18 d_RR_requireRelation_19 d_RR_requireRelation_21 d_RR_requireRelation_24 (hout9 _) ⟨(by first | decide | omega | (dsimp only [headSpec]; omega)), (by first | decide | omega | (dsimp only [headSpec]; omega)), (by first | decide | omega | (dsimp only [headSpec]; omega)), (by first | decide | omega | (dsimp only [headSpec]; omega))⟩ ⟨(by first | decide | omega | (dsimp only [headSpec]; omega)), (by first | decide | omega | (dsimp only [headSpec]; omega))⟩ hlocks
  · refine lv_iload_n hx hb d_RR_requireRelation_4 rfl (lv_at hl 1 rfl) ?_
    refine lv_aload_n hx hb d_RR_requireRelation_5 rfl (lv_at hl 0 rfl) ?_
    refine gs_get hx hb ht hown hK hG k_RR x0 0 (by decide) w_137 rfl d_RR_requireRelation_6 ?_
    refine gs_get hx hb ht hown hK hG k_RB x1 3 (by decide) w_41 rfl d_RR_requireRelation_9 ?_
    refine lv_icmp_lt (tgt := 25) hx hb d_RR_requireRelation_12 (by decide) (fun c_12 => ?_) (fun c_12 => ?_)
    · exact absurd hok (by unfold wi; rw [decide_eq_false c_1, decide_eq_true c_12]; decide)
    · exact gs_thrI hx hb hml htr hown ht hK hE hz hG (List.mem_of_getElem? (i := 2) rfl) hl.1 d_RR_requireRelation_15 d_RR_requireRelation_18 d_RR_requireRelation_19 d_RR_requireRelation_21 d_RR_requireRelation_24 (hout9 _) ⟨(by first | decide | omega | (dsimp only [headSpec]; omega)), (by first | decide | omega | (dsimp only [headSpec]; omega)), (by first | decide | omega | (dsimp only [headSpec]; omega)), (by first | decide | omega | (dsimp only [headSpec]; omega))⟩ ⟨(by first | decide | omega | (dsimp only [headSpec]; omega)), (by first | decide | omega | (dsimp only [headSpec]; omega))⟩ hlocks
set_option maxHeartbeats 4000000 in
set_option maxRecDepth 100000 in
/-- RR_requireTuple, where it is one -/
theorem c_RR_requireTuple (l : Launch) (X : gs_X) (σ : gs_St) (rr bk tu ma dv co ru sr nr nq fc : Nat) (sc : Int32) (dw : Value) (cf : Nat → Int32) (cw : Nat → Nat) (rl : Nat) (x y z : Int32)
    (x0 : σ rr = some (gs_ob 0 [.ref bk, .ref tu, .ref ma, .ref dv, .int (nI fc), dw])) (x1 : σ bk = some (gs_ob 5 [.ref co, .ref ru, .ref sr, .int (nI nr), .int (nI nq), .int sc])) (hnr : nr ≤ 12) (x2 : σ co = some (gs_ia X 12 cf)) (hrl : rl < nr) (hcf : cf rl = nI (cw rl)) (hcw : cw rl ≤ 3) (hok : wi3 64 (cw rl) x y z = true) : gs_Mpv l X y_RR_requireTuple b_RR_requireTuple 5 ({ frames := 2, cells := 0, slots := 0, locals := 45 }) σ [.ref rr, .int (nI rl), .int x, .int y, .int z] := by
  refine Met.ofW (cc := b_RR_requireTuple) (maxL := 5) (ret := none) (by decide) rfl ?_
  intro p e s m args below meth c s₁ B₀ hml hv
  obtain ⟨rfl, hK, hG, hz, hE⟩ := hv
  have hx := B₀.exec
  have hb := B₀.bytes
  have hr := B₀.returns
  have hts := atoms_spec (ws := gs_ws y_RR_requireTuple b_RR_requireTuple 5 none) B₀.pre
  have ht : ∀ w ∈ gs_w, w.before _ s = true := fun w h => hts w (List.mem_cons_of_mem _ h)
  have hown : s.vm.findClass R_RR = some m.cls := findClass_of_methodNamed B₀.named
  have hlocks := B₀.notSynchronized
  have hA : ∀ q : Nat, s.heap.size ≤ q → gs_A X q := fun q h => Nat.le_trans hz h
  have hS : va_S (gs_A X) s.heap s.heap [] := va_S.rf
  have hl := lv_entry ([.ref rr, .int (nI rl), .int x, .int y, .int z]) (n := 5) (Nat.le_of_ble_eq_true rfl)
  rw [lg_entry_eq]
  generalize (lg_sl ([.ref rr, .int (nI rl), .int x, .int y, .int z]) ++ List.replicate (5 - (lg_sl ([.ref rr, .int (nI rl), .int x, .int y, .int z])).length) Slot.unset).toArray = ls at hl ⊢
  have hl : lv_has ls 5 [(0, .ref rr), (1, .int (nI rl)), (2, .int x), (3, .int y), (4, .int z)] := hl
  refine lv_aload_n hx hb d_RR_requireTuple_0 rfl (lv_at hl 0 rfl) ?_
  refine lv_iload_n hx hb d_RR_requireTuple_1 rfl (lv_at hl 1 rfl) ?_
  refine gs_callVpv (As := [.int (nI rl)]) (rest := []) ⟨hx, hb, hml, hown, hts⟩ hK hE hz hG hS (c_RR_requireRelation l X σ rr bk tu ma dv co ru sr nr nq fc sc dw (nI rl) x0 x1 hnr (wi_nI hrl (by omega))) ⟨rfl, rfl⟩ mV_RR_requireRelation w_391 x0 rfl rfl hl.1 rfl (Nat.le_of_ble_eq_true rfl) ⟨(by first | decide | omega | (dsimp only [headSpec]; omega)), (by first | decide | omega | (dsimp only [headSpec]; omega))⟩ ⟨(by first | decide | omega | (dsimp only [headSpec]; omega)), (by first | decide | omega | (dsimp only [headSpec]; omega))⟩ d_RR_requireTuple_2 ?_
  refine lv_bipush (v := nI 64) hx hb d_RR_requireTuple_5 (by decide) ?_
  refine lv_aload_n hx hb d_RR_requireTuple_7 rfl (lv_at hl 0 rfl) ?_
  refine gs_get hx hb ht hown hK hG k_RR x0 0 (by decide) w_137 rfl d_RR_requireTuple_8 ?_
  refine gs_get hx hb ht hown hK hG k_RB x1 0 (by decide) w_33 rfl d_RR_requireTuple_11 ?_
  refine lv_iload_n hx hb d_RR_requireTuple_14 rfl (lv_at hl 1 rfl) ?_
  refine gs_iald hx hb hK hG x2 (j := rl) (by omega) (by omega) d_RR_requireTuple_15 ?_
  refine gs_top (show (cf rl) = (nI (cw rl)) from hcf) ?_
  refine lv_iload_n hx hb d_RR_requireTuple_16 rfl (lv_at hl 2 rfl) ?_
  refine lv_iload_n hx hb d_RR_requireTuple_17 rfl (lv_at hl 3 rfl) ?_
  refine lv_iload hx hb d_RR_requireTuple_18 (lv_at hl 4 rfl) ?_
  refine gs_callSp (As := [.int (nI 64), .int (nI (cw rl)), .int x, .int y, .int z]) (rest := []) ⟨hx, hb, hml, hown, hts⟩ hK hE hz hG hS (c_RR_areWithin l X σ 64 (cw rl) x y z hcw) ⟨rfl, rfl⟩ mS_RR_areWithin w_396 rfl hl.1 rfl (Nat.le_of_ble_eq_true rfl) ⟨(by first | decide | omega | (dsimp only [headSpec]; omega)), (by first | decide | omega | (dsimp only [headSpec]; omega))⟩ ⟨(by first | decide | omega | (dsimp only [headSpec]; omega)), (by first | decide | omega | (dsimp only [headSpec]; omega))⟩ d_RR_requireTuple_20 (fun r_20 hp_20 => ?_)
  refine gs_top (show r_20 = (bI (wi3 64 (cw rl) x y z)) from hp_20) ?_
  refine lv_if_ne (tgt := 36) hx hb d_RR_requireTuple_23 (by decide) (fun c_23 => ?_) (fun c_23 => ?_)
  · exact gs_vretp hx hb hr hlocks (Nat.zero_le _) (Nat.zero_le _) d_RR_requireTuple_36
  · exact absurd ((bI_0 c_23).symm.trans hok) (by decide)
set_option maxHeartbeats 4000000 in
set_option maxRecDepth 100000 in
/-- RR_requireTuple, where it is none -/
theorem c_RR_requireTuple_t (l : Launch) (X : gs_X) (σ : gs_St) (rr bk tu ma dv co ru sr nr nq fc : Nat) (sc : Int32) (dw : Value) (cf : Nat → Int32) (cw : Nat → Nat) (rl : Nat) (x y z : Int32)
    (htr : l.stackTraces = false) (x0 : σ rr = some (gs_ob 0 [.ref bk, .ref tu, .ref ma, .ref dv, .int (nI fc), dw])) (x1 : σ bk = some (gs_ob 5 [.ref co, .ref ru, .ref sr, .int (nI nr), .int (nI nq), .int sc])) (hnr : nr ≤ 12) (x2 : σ co = some (gs_ia X 12 cf)) (hrl : rl < nr) (hcf : cf rl = nI (cw rl)) (hcw : cw rl ≤ 3) (hok : wi3 64 (cw rl) x y z = false) : gs_Mt l X y_RR_requireTuple b_RR_requireTuple 5 none ({ frames := 6, cells := 1, slots := 6, locals := 90 }) σ [.ref rr, .int (nI rl), .int x, .int y, .int z] xI := by
  refine gs_MetT.ofW (cc := b_RR_requireTuple) (maxL := 5) (ret := none) (by decide) rfl ?_
  intro p e s m args below meth c s₁ B₀ hml hv
  obtain ⟨rfl, hK, hG, hz, hE⟩ := hv
  have hx := B₀.exec
  have hb := B₀.bytes
  have hr := B₀.returns
  have hts := atoms_spec (ws := gs_ws y_RR_requireTuple b_RR_requireTuple 5 none) B₀.pre
  have ht : ∀ w ∈ gs_w, w.before _ s = true := fun w h => hts w (List.mem_cons_of_mem _ h)
  have hown : s.vm.findClass R_RR = some m.cls := findClass_of_methodNamed B₀.named
  have hlocks := B₀.notSynchronized
  have hout9 : ∀ pc, ∀ x ∈ c.exceptionTable.toList, covers x pc = false := covers_of_empty (B₀.noHandlers (hts _ List.mem_cons_self))
  have hA : ∀ q : Nat, s.heap.size ≤ q → gs_A X q := fun q h => Nat.le_trans hz h
  have hS : va_S (gs_A X) s.heap s.heap [] := va_S.rf
  have hl := lv_entry ([.ref rr, .int (nI rl), .int x, .int y, .int z]) (n := 5) (Nat.le_of_ble_eq_true rfl)
  rw [lg_entry_eq]
  generalize (lg_sl ([.ref rr, .int (nI rl), .int x, .int y, .int z]) ++ List.replicate (5 - (lg_sl ([.ref rr, .int (nI rl), .int x, .int y, .int z])).length) Slot.unset).toArray = ls at hl ⊢
  have hl : lv_has ls 5 [(0, .ref rr), (1, .int (nI rl)), (2, .int x), (3, .int y), (4, .int z)] := hl
  refine lv_aload_n hx hb d_RR_requireTuple_0 rfl (lv_at hl 0 rfl) ?_
  refine lv_iload_n hx hb d_RR_requireTuple_1 rfl (lv_at hl 1 rfl) ?_
  refine gs_callVpv (As := [.int (nI rl)]) (rest := []) ⟨hx, hb, hml, hown, hts⟩ hK hE hz hG hS (c_RR_requireRelation l X σ rr bk tu ma dv co ru sr nr nq fc sc dw (nI rl) x0 x1 hnr (wi_nI hrl (by omega))) ⟨rfl, rfl⟩ mV_RR_requireRelation w_391 x0 rfl rfl hl.1 rfl (Nat.le_of_ble_eq_true rfl) ⟨(by first | decide | omega | (dsimp only [headSpec]; omega)), (by first | decide | omega | (dsimp only [headSpec]; omega))⟩ ⟨(by first | decide | omega | (dsimp only [headSpec]; omega)), (by first | decide | omega | (dsimp only [headSpec]; omega))⟩ d_RR_requireTuple_2 ?_
  refine lv_bipush (v := nI 64) hx hb d_RR_requireTuple_5 (by decide) ?_
  refine lv_aload_n hx hb d_RR_requireTuple_7 rfl (lv_at hl 0 rfl) ?_
  refine gs_get hx hb ht hown hK hG k_RR x0 0 (by decide) w_137 rfl d_RR_requireTuple_8 ?_
  refine gs_get hx hb ht hown hK hG k_RB x1 0 (by decide) w_33 rfl d_RR_requireTuple_11 ?_
  refine lv_iload_n hx hb d_RR_requireTuple_14 rfl (lv_at hl 1 rfl) ?_
  refine gs_iald hx hb hK hG x2 (j := rl) (by omega) (by omega) d_RR_requireTuple_15 ?_
  refine gs_top (show (cf rl) = (nI (cw rl)) from hcf) ?_
  refine lv_iload_n hx hb d_RR_requireTuple_16 rfl (lv_at hl 2 rfl) ?_
  refine lv_iload_n hx hb d_RR_requireTuple_17 rfl (lv_at hl 3 rfl) ?_
  refine lv_iload hx hb d_RR_requireTuple_18 (lv_at hl 4 rfl) ?_
  refine gs_callSp (As := [.int (nI 64), .int (nI (cw rl)), .int x, .int y, .int z]) (rest := []) ⟨hx, hb, hml, hown, hts⟩ hK hE hz hG hS (c_RR_areWithin l X σ 64 (cw rl) x y z hcw) ⟨rfl, rfl⟩ mS_RR_areWithin w_396 rfl hl.1 rfl (Nat.le_of_ble_eq_true rfl) ⟨(by first | decide | omega | (dsimp only [headSpec]; omega)), (by first | decide | omega | (dsimp only [headSpec]; omega))⟩ ⟨(by first | decide | omega | (dsimp only [headSpec]; omega)), (by first | decide | omega | (dsimp only [headSpec]; omega))⟩ d_RR_requireTuple_20 (fun r_20 hp_20 => ?_)
  refine gs_top (show r_20 = (bI (wi3 64 (cw rl) x y z)) from hp_20) ?_
  refine lv_if_ne (tgt := 36) hx hb d_RR_requireTuple_23 (by decide) (fun c_23 => ?_) (fun c_23 => ?_)
  · exact absurd ((bI_n0 c_23).symm.trans hok) (by decide)
  · exact gs_thrI hx hb hml htr hown ht hK hE hz hG (List.mem_of_getElem? (i := 3) rfl) hl.1 d_RR_requireTuple_26 d_RR_requireTuple_29 d_RR_requireTuple_30 d_RR_requireTuple_32 d_RR_requireTuple_35 (hout9 _) ⟨(by first | decide | omega | (dsimp only [headSpec]; omega)), (by first | decide | omega | (dsimp only [headSpec]; omega)), (by first | decide | omega | (dsimp only [headSpec]; omega)), (by first | decide | omega | (dsimp only [headSpec]; omega))⟩ ⟨(by first | decide | omega | (dsimp only [headSpec]; omega)), (by first | decide | omega | (dsimp only [headSpec]; omega))⟩ hlocks
set_option maxHeartbeats 4000000 in
set_option maxRecDepth 100000 in
/-- RR_requireTuple, where there is no such relation -/
theorem c_RR_requireTuple_r (l : Launch) (X : gs_X) (σ : gs_St) (rr bk tu ma dv co ru sr nr nq fc : Nat) (sc : Int32) (dw : Value) (x x2 y z : Int32)
    (htr : l.stackTraces = false) (x0 : σ rr = some (gs_ob 0 [.ref bk, .ref tu, .ref ma, .ref dv, .int (nI fc), dw])) (x1 : σ bk = some (gs_ob 5 [.ref co, .ref ru, .ref sr, .int (nI nr), .int (nI nq), .int sc])) (hnr : nr ≤ 12) (hok : wi nr x = false) : gs_Mt l X y_RR_requireTuple b_RR_requireTuple 5 none ({ frames := 7, cells := 1, slots := 6, locals := 111 }) σ [.ref rr, .int x, .int x2, .int y, .int z] xI := by
  refine gs_MetT.ofW (cc := b_RR_requireTuple) (maxL := 5) (ret := none) (by decide) rfl ?_
  intro p e s m args below meth c s₁ B₀ hml hv
  obtain ⟨rfl, hK, hG, hz, hE⟩ := hv
  have hx := B₀.exec
  have hb := B₀.bytes
  have hr := B₀.returns
  have hts := atoms_spec (ws := gs_ws y_RR_requireTuple b_RR_requireTuple 5 none) B₀.pre
  have ht : ∀ w ∈ gs_w, w.before _ s = true := fun w h => hts w (List.mem_cons_of_mem _ h)
  have hown : s.vm.findClass R_RR = some m.cls := findClass_of_methodNamed B₀.named
  have hlocks := B₀.notSynchronized
  have hout9 : ∀ pc, ∀ x ∈ c.exceptionTable.toList, covers x pc = false := covers_of_empty (B₀.noHandlers (hts _ List.mem_cons_self))
  have hA : ∀ q : Nat, s.heap.size ≤ q → gs_A X q := fun q h => Nat.le_trans hz h
  have hS : va_S (gs_A X) s.heap s.heap [] := va_S.rf
  have hl := lv_entry ([.ref rr, .int x, .int x2, .int y, .int z]) (n := 5) (Nat.le_of_ble_eq_true rfl)
  rw [lg_entry_eq]
  generalize (lg_sl ([.ref rr, .int x, .int x2, .int y, .int z]) ++ List.replicate (5 - (lg_sl ([.ref rr, .int x, .int x2, .int y, .int z])).length) Slot.unset).toArray = ls at hl ⊢
  have hl : lv_has ls 5 [(0, .ref rr), (1, .int x), (2, .int x2), (3, .int y), (4, .int z)] := hl
  refine lv_aload_n hx hb d_RR_requireTuple_0 rfl (lv_at hl 0 rfl) ?_
  refine lv_iload_n hx hb d_RR_requireTuple_1 rfl (lv_at hl 1 rfl) ?_
  exact gs_callVt (As := [.int x]) (rest := []) ⟨hx, hb, hml, hown, hts⟩ hK hE hz hG (c_RR_requireRelation_t l X σ rr bk tu ma dv co ru sr nr nq fc sc dw x htr x0 x1 hnr hok) mV_RR_requireRelation w_391 x0 rfl rfl hl.1 rfl (Nat.le_of_ble_eq_true rfl) ⟨(by first | decide | omega | (dsimp only [headSpec]; omega)), (by first | decide | omega | (dsimp only [headSpec]; omega))⟩ ⟨(by first | decide | omega | (dsimp only [headSpec]; omega)), (by first | decide | omega | (dsimp only [headSpec]; omega))⟩ d_RR_requireTuple_2 ⟨(by first | decide | omega | (dsimp only [headSpec]; omega)), (by first | decide | omega | (dsimp only [headSpec]; omega))⟩ (hout9 _) hlocks
set_option maxHeartbeats 4000000 in
set_option maxRecDepth 100000 in
/-- RR_requireTerms, where it is one -/
theorem c_RR_requireTerms (l : Launch) (X : gs_X) (σ : gs_St) (rr bk tu ma dv co ru sr nr nq fc : Nat) (sc : Int32) (dw : Value) (cf : Nat → Int32) (cw : Nat → Nat) (rl : Nat) (x y z : Int32)
    (x0 : σ rr = some (gs_ob 0 [.ref bk, .ref tu, .ref ma, .ref dv, .int (nI fc), dw])) (x1 : σ bk = some (gs_ob 5 [.ref co, .ref ru, .ref sr, .int (nI nr), .int (nI nq), .int sc])) (hnr : nr ≤ 12) (x2 : σ co = some (gs_ia X 12 cf)) (hrl : rl < nr) (hcf : cf rl = nI (cw rl)) (hcw : cw rl ≤ 3) (hok : wi3 72 (cw rl) x y z = true) : gs_Mpv l X y_RR_requireTerms b_RR_requireTerms 5 ({ frames := 2, cells := 0, slots := 0, locals := 45 }) σ [.ref rr, .int (nI rl), .int x, .int y, .int z] := by
  refine Met.ofW (cc := b_RR_requireTerms) (maxL := 5) (ret := none) (by decide) rfl ?_
  intro p e s m args below meth c s₁ B₀ hml hv
  obtain ⟨rfl, hK, hG, hz, hE⟩ := hv
  have hx := B₀.exec
  have hb := B₀.bytes
  have hr := B₀.returns
  have hts := atoms_spec (ws := gs_ws y_RR_requireTerms b_RR_requireTerms 5 none) B₀.pre
  have ht : ∀ w ∈ gs_w, w.before _ s = true := fun w h => hts w (List.mem_cons_of_mem _ h)
  have hown : s.vm.findClass R_RR = some m.cls := findClass_of_methodNamed B₀.named
  have hlocks := B₀.notSynchronized
  have hA : ∀ q : Nat, s.heap.size ≤ q → gs_A X q := fun q h => Nat.le_trans hz h
  have hS : va_S (gs_A X) s.heap s.heap [] := va_S.rf
  have hl := lv_entry ([.ref rr, .int (nI rl), .int x, .int y, .int z]) (n := 5) (Nat.le_of_ble_eq_true rfl)
  rw [lg_entry_eq]
  generalize (lg_sl ([.ref rr, .int (nI rl), .int x, .int y, .int z]) ++ List.replicate (5 - (lg_sl ([.ref rr, .int (nI rl), .int x, .int y, .int z])).length) Slot.unset).toArray = ls at hl ⊢
  have hl : lv_has ls 5 [(0, .ref rr), (1, .int (nI rl)), (2, .int x), (3, .int y), (4, .int z)] := hl
  refine lv_aload_n hx hb d_RR_requireTerms_0 rfl (lv_at hl 0 rfl) ?_
  refine lv_iload_n hx hb d_RR_requireTerms_1 rfl (lv_at hl 1 rfl) ?_
  refine gs_callVpv (As := [.int (nI rl)]) (rest := []) ⟨hx, hb, hml, hown, hts⟩ hK hE hz hG hS (c_RR_requireRelation l X σ rr bk tu ma dv co ru sr nr nq fc sc dw (nI rl) x0 x1 hnr (wi_nI hrl (by omega))) ⟨rfl, rfl⟩ mV_RR_requireRelation w_391 x0 rfl rfl hl.1 rfl (Nat.le_of_ble_eq_true rfl) ⟨(by first | decide | omega | (dsimp only [headSpec]; omega)), (by first | decide | omega | (dsimp only [headSpec]; omega))⟩ ⟨(by first | decide | omega | (dsimp only [headSpec]; omega)), (by first | decide | omega | (dsimp only [headSpec]; omega))⟩ d_RR_requireTerms_2 ?_
  refine lv_bipush (v := nI 72) hx hb d_RR_requireTerms_5 (by decide) ?_
  refine lv_aload_n hx hb d_RR_requireTerms_7 rfl (lv_at hl 0 rfl) ?_
  refine gs_get hx hb ht hown hK hG k_RR x0 0 (by decide) w_137 rfl d_RR_requireTerms_8 ?_
  refine gs_get hx hb ht hown hK hG k_RB x1 0 (by decide) w_33 rfl d_RR_requireTerms_11 ?_
  refine lv_iload_n hx hb d_RR_requireTerms_14 rfl (lv_at hl 1 rfl) ?_
  refine gs_iald hx hb hK hG x2 (j := rl) (by omega) (by omega) d_RR_requireTerms_15 ?_
  refine gs_top (show (cf rl) = (nI (cw rl)) from hcf) ?_
  refine lv_iload_n hx hb d_RR_requireTerms_16 rfl (lv_at hl 2 rfl) ?_
  refine lv_iload_n hx hb d_RR_requireTerms_17 rfl (lv_at hl 3 rfl) ?_
  refine lv_iload hx hb d_RR_requireTerms_18 (lv_at hl 4 rfl) ?_
  refine gs_callSp (As := [.int (nI 72), .int (nI (cw rl)), .int x, .int y, .int z]) (rest := []) ⟨hx, hb, hml, hown, hts⟩ hK hE hz hG hS (c_RR_areWithin l X σ 72 (cw rl) x y z hcw) ⟨rfl, rfl⟩ mS_RR_areWithin w_396 rfl hl.1 rfl (Nat.le_of_ble_eq_true rfl) ⟨(by first | decide | omega | (dsimp only [headSpec]; omega)), (by first | decide | omega | (dsimp only [headSpec]; omega))⟩ ⟨(by first | decide | omega | (dsimp only [headSpec]; omega)), (by first | decide | omega | (dsimp only [headSpec]; omega))⟩ d_RR_requireTerms_20 (fun r_20 hp_20 => ?_)
  refine gs_top (show r_20 = (bI (wi3 72 (cw rl) x y z)) from hp_20) ?_
  refine lv_if_ne (tgt := 36) hx hb d_RR_requireTerms_23 (by decide) (fun c_23 => ?_) (fun c_23 => ?_)
  · exact gs_vretp hx hb hr hlocks (Nat.zero_le _) (Nat.zero_le _) d_RR_requireTerms_36
  · exact absurd ((bI_0 c_23).symm.trans hok) (by decide)
set_option maxHeartbeats 4000000 in
set_option maxRecDepth 100000 in
/-- RR_requireTerms, where it is none -/
theorem c_RR_requireTerms_t (l : Launch) (X : gs_X) (σ : gs_St) (rr bk tu ma dv co ru sr nr nq fc : Nat) (sc : Int32) (dw : Value) (cf : Nat → Int32) (cw : Nat → Nat) (rl : Nat) (x y z : Int32)
    (htr : l.stackTraces = false) (x0 : σ rr = some (gs_ob 0 [.ref bk, .ref tu, .ref ma, .ref dv, .int (nI fc), dw])) (x1 : σ bk = some (gs_ob 5 [.ref co, .ref ru, .ref sr, .int (nI nr), .int (nI nq), .int sc])) (hnr : nr ≤ 12) (x2 : σ co = some (gs_ia X 12 cf)) (hrl : rl < nr) (hcf : cf rl = nI (cw rl)) (hcw : cw rl ≤ 3) (hok : wi3 72 (cw rl) x y z = false) : gs_Mt l X y_RR_requireTerms b_RR_requireTerms 5 none ({ frames := 6, cells := 1, slots := 6, locals := 90 }) σ [.ref rr, .int (nI rl), .int x, .int y, .int z] xI := by
  refine gs_MetT.ofW (cc := b_RR_requireTerms) (maxL := 5) (ret := none) (by decide) rfl ?_
  intro p e s m args below meth c s₁ B₀ hml hv
  obtain ⟨rfl, hK, hG, hz, hE⟩ := hv
  have hx := B₀.exec
  have hb := B₀.bytes
  have hr := B₀.returns
  have hts := atoms_spec (ws := gs_ws y_RR_requireTerms b_RR_requireTerms 5 none) B₀.pre
  have ht : ∀ w ∈ gs_w, w.before _ s = true := fun w h => hts w (List.mem_cons_of_mem _ h)
  have hown : s.vm.findClass R_RR = some m.cls := findClass_of_methodNamed B₀.named
  have hlocks := B₀.notSynchronized
  have hout9 : ∀ pc, ∀ x ∈ c.exceptionTable.toList, covers x pc = false := covers_of_empty (B₀.noHandlers (hts _ List.mem_cons_self))
  have hA : ∀ q : Nat, s.heap.size ≤ q → gs_A X q := fun q h => Nat.le_trans hz h
  have hS : va_S (gs_A X) s.heap s.heap [] := va_S.rf
  have hl := lv_entry ([.ref rr, .int (nI rl), .int x, .int y, .int z]) (n := 5) (Nat.le_of_ble_eq_true rfl)
  rw [lg_entry_eq]
  generalize (lg_sl ([.ref rr, .int (nI rl), .int x, .int y, .int z]) ++ List.replicate (5 - (lg_sl ([.ref rr, .int (nI rl), .int x, .int y, .int z])).length) Slot.unset).toArray = ls at hl ⊢
  have hl : lv_has ls 5 [(0, .ref rr), (1, .int (nI rl)), (2, .int x), (3, .int y), (4, .int z)] := hl
  refine lv_aload_n hx hb d_RR_requireTerms_0 rfl (lv_at hl 0 rfl) ?_
  refine lv_iload_n hx hb d_RR_requireTerms_1 rfl (lv_at hl 1 rfl) ?_
  refine gs_callVpv (As := [.int (nI rl)]) (rest := []) ⟨hx, hb, hml, hown, hts⟩ hK hE hz hG hS (c_RR_requireRelation l X σ rr bk tu ma dv co ru sr nr nq fc sc dw (nI rl) x0 x1 hnr (wi_nI hrl (by omega))) ⟨rfl, rfl⟩ mV_RR_requireRelation w_391 x0 rfl rfl hl.1 rfl (Nat.le_of_ble_eq_true rfl) ⟨(by first | decide | omega | (dsimp only [headSpec]; omega)), (by first | decide | omega | (dsimp only [headSpec]; omega))⟩ ⟨(by first | decide | omega | (dsimp only [headSpec]; omega)), (by first | decide | omega | (dsimp only [headSpec]; omega))⟩ d_RR_requireTerms_2 ?_
  refine lv_bipush (v := nI 72) hx hb d_RR_requireTerms_5 (by decide) ?_
  refine lv_aload_n hx hb d_RR_requireTerms_7 rfl (lv_at hl 0 rfl) ?_
  refine gs_get hx hb ht hown hK hG k_RR x0 0 (by decide) w_137 rfl d_RR_requireTerms_8 ?_
  refine gs_get hx hb ht hown hK hG k_RB x1 0 (by decide) w_33 rfl d_RR_requireTerms_11 ?_
  refine lv_iload_n hx hb d_RR_requireTerms_14 rfl (lv_at hl 1 rfl) ?_
  refine gs_iald hx hb hK hG x2 (j := rl) (by omega) (by omega) d_RR_requireTerms_15 ?_
  refine gs_top (show (cf rl) = (nI (cw rl)) from hcf) ?_
  refine lv_iload_n hx hb d_RR_requireTerms_16 rfl (lv_at hl 2 rfl) ?_
  refine lv_iload_n hx hb d_RR_requireTerms_17 rfl (lv_at hl 3 rfl) ?_
  refine lv_iload hx hb d_RR_requireTerms_18 (lv_at hl 4 rfl) ?_
  refine gs_callSp (As := [.int (nI 72), .int (nI (cw rl)), .int x, .int y, .int z]) (rest := []) ⟨hx, hb, hml, hown, hts⟩ hK hE hz hG hS (c_RR_areWithin l X σ 72 (cw rl) x y z hcw) ⟨rfl, rfl⟩ mS_RR_areWithin w_396 rfl hl.1 rfl (Nat.le_of_ble_eq_true rfl) ⟨(by first | decide | omega | (dsimp only [headSpec]; omega)), (by first | decide | omega | (dsimp only [headSpec]; omega))⟩ ⟨(by first | decide | omega | (dsimp only [headSpec]; omega)), (by first | decide | omega | (dsimp only [headSpec]; omega))⟩ d_RR_requireTerms_20 (fun r_20 hp_20 => ?_)
  refine gs_top (show r_20 = (bI (wi3 72 (cw rl) x y z)) from hp_20) ?_
  refine lv_if_ne (tgt := 36) hx hb d_RR_requireTerms_23 (by decide) (fun c_23 => ?_) (fun c_23 => ?_)
  · exact absurd ((bI_n0 c_23).symm.trans hok) (by decide)
  · exact gs_thrI hx hb hml htr hown ht hK hE hz hG (List.mem_of_getElem? (i := 5) rfl) hl.1 d_RR_requireTerms_26 d_RR_requireTerms_29 d_RR_requireTerms_30 d_RR_requireTerms_32 d_RR_requireTerms_35 (hout9 _) ⟨(by first | decide | omega | (dsimp only [headSpec]; omega)), (by first | decide | omega | (dsimp only [headSpec]; omega)), (by first | decide | omega | (dsimp only [headSpec]; omega)), (by first | decide | omega | (dsimp only [headSpec]; omega))⟩ ⟨(by first | decide | omega | (dsimp only [headSpec]; omega)), (by first | decide | omega | (dsimp only [headSpec]; omega))⟩ hlocks
set_option maxHeartbeats 4000000 in
set_option maxRecDepth 100000 in
/-- RR_requireTerms, where there is no such relation -/
theorem c_RR_requireTerms_r (l : Launch) (X : gs_X) (σ : gs_St) (rr bk tu ma dv co ru sr nr nq fc : Nat) (sc : Int32) (dw : Value) (x x2 y z : Int32)
    (htr : l.stackTraces = false) (x0 : σ rr = some (gs_ob 0 [.ref bk, .ref tu, .ref ma, .ref dv, .int (nI fc), dw])) (x1 : σ bk = some (gs_ob 5 [.ref co, .ref ru, .ref sr, .int (nI nr), .int (nI nq), .int sc])) (hnr : nr ≤ 12) (hok : wi nr x = false) : gs_Mt l X y_RR_requireTerms b_RR_requireTerms 5 none ({ frames := 7, cells := 1, slots := 6, locals := 111 }) σ [.ref rr, .int x, .int x2, .int y, .int z] xI := by
  refine gs_MetT.ofW (cc := b_RR_requireTerms) (maxL := 5) (ret := none) (by decide) rfl ?_
  intro p e s m args below meth c s₁ B₀ hml hv
  obtain ⟨rfl, hK, hG, hz, hE⟩ := hv
  have hx := B₀.exec
  have hb := B₀.bytes
  have hr := B₀.returns
  have hts := atoms_spec (ws := gs_ws y_RR_requireTerms b_RR_requireTerms 5 none) B₀.pre
  have ht : ∀ w ∈ gs_w, w.before _ s = true := fun w h => hts w (List.mem_cons_of_mem _ h)
  have hown : s.vm.findClass R_RR = some m.cls := findClass_of_methodNamed B₀.named
  have hlocks := B₀.notSynchronized
  have hout9 : ∀ pc, ∀ x ∈ c.exceptionTable.toList, covers x pc = false := covers_of_empty (B₀.noHandlers (hts _ List.mem_cons_self))
  have hA : ∀ q : Nat, s.heap.size ≤ q → gs_A X q := fun q h => Nat.le_trans hz h
  have hS : va_S (gs_A X) s.heap s.heap [] := va_S.rf
  have hl := lv_entry ([.ref rr, .int x, .int x2, .int y, .int z]) (n := 5) (Nat.le_of_ble_eq_true rfl)
  rw [lg_entry_eq]
  generalize (lg_sl ([.ref rr, .int x, .int x2, .int y, .int z]) ++ List.replicate (5 - (lg_sl ([.ref rr, .int x, .int x2, .int y, .int z])).length) Slot.unset).toArray = ls at hl ⊢
  have hl : lv_has ls 5 [(0, .ref rr), (1, .int x), (2, .int x2), (3, .int y), (4, .int z)] := hl
  refine lv_aload_n hx hb d_RR_requireTerms_0 rfl (lv_at hl 0 rfl) ?_
  refine lv_iload_n hx hb d_RR_requireTerms_1 rfl (lv_at hl 1 rfl) ?_
  exact gs_callVt (As := [.int x]) (rest := []) ⟨hx, hb, hml, hown, hts⟩ hK hE hz hG (c_RR_requireRelation_t l X σ rr bk tu ma dv co ru sr nr nq fc sc dw x htr x0 x1 hnr hok) mV_RR_requireRelation w_391 x0 rfl rfl hl.1 rfl (Nat.le_of_ble_eq_true rfl) ⟨(by first | decide | omega | (dsimp only [headSpec]; omega)), (by first | decide | omega | (dsimp only [headSpec]; omega))⟩ ⟨(by first | decide | omega | (dsimp only [headSpec]; omega)), (by first | decide | omega | (dsimp only [headSpec]; omega))⟩ d_RR_requireTerms_2 ⟨(by first | decide | omega | (dsimp only [headSpec]; omega)), (by first | decide | omega | (dsimp only [headSpec]; omega))⟩ (hout9 _) hlocks
set_option maxHeartbeats 4000000 in
set_option maxRecDepth 100000 in
/-- RuleRounds.requireComparison, where it is one -/
theorem c_RR_requireComparison (l : Launch) (X : gs_X) (σ : gs_St) (r x y z : Int32)
    (h0 : r = 0) (hok : wi3 72 2 x y z = true) : gs_Mpv l X y_RR_requireComparison b_RR_requireComparison 4 ({ frames := 2, cells := 0, slots := 0, locals := 45 }) σ [.int r, .int x, .int y, .int z] := by
  refine Met.ofW (cc := b_RR_requireComparison) (maxL := 4) (ret := none) (by decide) rfl ?_
  intro p e s m args below meth c s₁ B₀ hml hv
  obtain ⟨rfl, hK, hG, hz, hE⟩ := hv
  have hx := B₀.exec
  have hb := B₀.bytes
  have hr := B₀.returns
  have hts := atoms_spec (ws := gs_ws y_RR_requireComparison b_RR_requireComparison 4 none) B₀.pre
  have ht : ∀ w ∈ gs_w, w.before _ s = true := fun w h => hts w (List.mem_cons_of_mem _ h)
  have hown : s.vm.findClass R_RR = some m.cls := findClass_of_methodNamed B₀.named
  have hlocks := B₀.notSynchronized
  have hA : ∀ q : Nat, s.heap.size ≤ q → gs_A X q := fun q h => Nat.le_trans hz h
  have hS : va_S (gs_A X) s.heap s.heap [] := va_S.rf
  have hl := lv_entry ([.int r, .int x, .int y, .int z]) (n := 4) (Nat.le_of_ble_eq_true rfl)
  rw [lg_entry_eq]
  generalize (lg_sl ([.int r, .int x, .int y, .int z]) ++ List.replicate (4 - (lg_sl ([.int r, .int x, .int y, .int z])).length) Slot.unset).toArray = ls at hl ⊢
  have hl : lv_has ls 4 [(0, .int r), (1, .int x), (2, .int y), (3, .int z)] := hl
  refine lv_iload_n hx hb d_RR_requireComparison_0 rfl (lv_at hl 0 rfl) ?_
  refine lv_if_ne (tgt := 16) hx hb d_RR_requireComparison_1 (by decide) (fun c_1 => ?_) (fun c_1 => ?_)
  · first | exact absurd h0 c_1 | exact absurd ((bI_0 c_13).symm.trans hok) (by decide)
  · refine lv_bipush (v := nI 72) hx hb d_RR_requireComparison_4 (by decide) ?_
    refine lv_iconst (v := nI 2) hx hb d_RR_requireComparison_6 (by decide) ?_
    refine lv_iload_n hx hb d_RR_requireComparison_7 rfl (lv_at hl 1 rfl) ?_
    refine lv_iload_n hx hb d_RR_requireComparison_8 rfl (lv_at hl 2 rfl) ?_
    refine lv_iload_n hx hb d_RR_requireComparison_9 rfl (lv_at hl 3 rfl) ?_
    refine gs_callSp (As := [.int (nI 72), .int (nI 2), .int x, .int y, .int z]) (rest := []) ⟨hx, hb, hml, hown, hts⟩ hK hE hz hG hS (c_RR_areWithin l X σ 72 2 x y z (by decide)) ⟨rfl, rfl⟩ mS_RR_areWithin w_396 rfl hl.1 rfl (Nat.le_of_ble_eq_true rfl) ⟨(by first | decide | omega | (dsimp only [headSpec]; omega)), (by first | decide | omega | (dsimp only [headSpec]; omega))⟩ ⟨(by first | decide | omega | (dsimp only [headSpec]; omega)), (by first | decide | omega | (dsimp only [headSpec]; omega))⟩ d_RR_requireComparison_10 (fun r_10 hp_10 => ?_)
    refine gs_top (show r_10 = (bI (wi3 72 2 x y z)) from hp_10) ?_
    refine lv_if_ne (tgt := 26) hx hb d_RR_requireComparison_13 (by decide) (fun c_13 => ?_) (fun c_13 => ?_)
    · exact gs_vretp hx hb hr hlocks (Nat.zero_le _) (Nat.zero_le _) d_RR_requireComparison_26
    · first | exact absurd h0 c_1 | exact absurd ((bI_0 c_13).symm.trans hok) (by decide)
set_option maxHeartbeats 4000000 in
set_option maxRecDepth 100000 in
/-- RuleRounds.requireComparison, where it is none -/
theorem c_RR_requireComparison_t (l : Launch) (X : gs_X) (σ : gs_St) (r x y z : Int32)
    (htr : l.stackTraces = false) (hok : ¬ (r = 0 ∧ wi3 72 2 x y z = true)) : gs_Mt l X y_RR_requireComparison b_RR_requireComparison 4 none ({ frames := 6, cells := 1, slots := 6, locals := 90 }) σ [.int r, .int x, .int y, .int z] xI := by
  refine gs_MetT.ofW (cc := b_RR_requireComparison) (maxL := 4) (ret := none) (by decide) rfl ?_
  intro p e s m args below meth c s₁ B₀ hml hv
  obtain ⟨rfl, hK, hG, hz, hE⟩ := hv
  have hx := B₀.exec
  have hb := B₀.bytes
  have hr := B₀.returns
  have hts := atoms_spec (ws := gs_ws y_RR_requireComparison b_RR_requireComparison 4 none) B₀.pre
  have ht : ∀ w ∈ gs_w, w.before _ s = true := fun w h => hts w (List.mem_cons_of_mem _ h)
  have hown : s.vm.findClass R_RR = some m.cls := findClass_of_methodNamed B₀.named
  have hlocks := B₀.notSynchronized
  have hout9 : ∀ pc, ∀ x ∈ c.exceptionTable.toList, covers x pc = false := covers_of_empty (B₀.noHandlers (hts _ List.mem_cons_self))
  have hA : ∀ q : Nat, s.heap.size ≤ q → gs_A X q := fun q h => Nat.le_trans hz h
  have hS : va_S (gs_A X) s.heap s.heap [] := va_S.rf
  have hl := lv_entry ([.int r, .int x, .int y, .int z]) (n := 4) (Nat.le_of_ble_eq_true rfl)
  rw [lg_entry_eq]
  generalize (lg_sl ([.int r, .int x, .int y, .int z]) ++ List.replicate (4 - (lg_sl ([.int r, .int x, .int y, .int z])).length) Slot.unset).toArray = ls at hl ⊢
  have hl : lv_has ls 4 [(0, .int r), (1, .int x), (2, .int y), (3, .int z)] := hl
  refine lv_iload_n hx hb d_RR_requireComparison_0 rfl (lv_at hl 0 rfl) ?_
  refine lv_if_ne (tgt := 16) hx hb d_RR_requireComparison_1 (by decide) (fun c_1 => ?_) (fun c_1 => ?_)
  · exact gs_thrI hx hb hml htr hown ht hK hE hz hG (List.mem_of_getElem? (i := 7) rfl) hl.1 d_RR_requireComparison_16 d_RR_requireComparison_19 d_RR_requireComparison_20 d_RR_requireComparison_22 d_RR_requireComparison_25 (hout9 _) ⟨(by first | decide | omega | (dsimp only [headSpec]; omega)), (by first | decide | omega | (dsimp only [headSpec]; omega)), (by first | decide | omega | (dsimp only [headSpec]; omega)), (by first | decide | omega | (dsimp only [headSpec]; omega))⟩ ⟨(by first | decide | omega | (dsimp only [headSpec]; omega)), (by first | decide | omega | (dsimp only [headSpec]; omega))⟩ hlocks
  · refine lv_bipush (v := nI 72) hx hb d_RR_requireComparison_4 (by decide) ?_
    refine lv_iconst (v := nI 2) hx hb d_RR_requireComparison_6 (by decide) ?_
    refine lv_iload_n hx hb d_RR_requireComparison_7 rfl (lv_at hl 1 rfl) ?_
    refine lv_iload_n hx hb d_RR_requireComparison_8 rfl (lv_at hl 2 rfl) ?_
    refine lv_iload_n hx hb d_RR_requireComparison_9 rfl (lv_at hl 3 rfl) ?_
    refine gs_callSp (As := [.int (nI 72), .int (nI 2), .int x, .int y, .int z]) (rest := []) ⟨hx, hb, hml, hown, hts⟩ hK hE hz hG hS (c_RR_areWithin l X σ 72 2 x y z (by decide)) ⟨rfl, rfl⟩ mS_RR_areWithin w_396 rfl hl.1 rfl (Nat.le_of_ble_eq_true rfl) ⟨(by first | decide | omega | (dsimp only [headSpec]; omega)), (by first | decide | omega | (dsimp only [headSpec]; omega))⟩ ⟨(by first | decide | omega | (dsimp only [headSpec]; omega)), (by first | decide | omega | (dsimp only [headSpec]; omega))⟩ d_RR_requireComparison_10 (fun r_10 hp_10 => ?_)
    refine gs_top (show r_10 = (bI (wi3 72 2 x y z)) from hp_10) ?_
    refine lv_if_ne (tgt := 26) hx hb d_RR_requireComparison_13 (by decide) (fun c_13 => ?_) (fun c_13 => ?_)
    · exact absurd ⟨c_1, bI_n0 c_13⟩ hok
    · exact gs_thrI hx hb hml htr hown ht hK hE hz hG (List.mem_of_getElem? (i := 7) rfl) hl.1 d_RR_requireComparison_16 d_RR_requireComparison_19 d_RR_requireComparison_20 d_RR_requireComparison_22 d_RR_requireComparison_25 (hout9 _) ⟨(by first | decide | omega | (dsimp only [headSpec]; omega)), (by first | decide | omega | (dsimp only [headSpec]; omega)), (by first | decide | omega | (dsimp only [headSpec]; omega)), (by first | decide | omega | (dsimp only [headSpec]; omega))⟩ ⟨(by first | decide | omega | (dsimp only [headSpec]; omega)), (by first | decide | omega | (dsimp only [headSpec]; omega))⟩ hlocks
