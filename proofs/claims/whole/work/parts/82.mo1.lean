set_option maxHeartbeats 4000000 in
set_option maxRecDepth 100000 in
/-- the reference: thrown -/
theorem c_MO_thrown (l : Launch) (X : gs_X) (σ : gs_St) (mo : Nat) (A Z : Nat → Nat)
    (m0 : σ mo = some (moE A Z)) : gs_Mp l X y_MO_thrown b_MO_thrown 1 (some .int) ({ frames := 0, cells := 0, slots := 0, locals := 0 }) σ [.ref mo] (fun r => r = nI (Z 0)) := by
  refine Met.ofW (cc := b_MO_thrown) (maxL := 1) (ret := (some .int)) (by decide) rfl ?_
  intro p e s m args below meth c s₁ B₀ hml hv
  obtain ⟨rfl, hK, hG, hz, hE⟩ := hv
  have hx := B₀.exec
  have hb := B₀.bytes
  have hr := B₀.returns
  have hts := atoms_spec (ws := gs_ws y_MO_thrown b_MO_thrown 1 (some .int)) B₀.pre
  have ht : ∀ w ∈ gs_w, w.before _ s = true := fun w h => hts w (List.mem_cons_of_mem _ h)
  have hown : s.vm.findClass R_MO = some m.cls := findClass_of_methodNamed B₀.named
  have hlocks := B₀.notSynchronized
  have hA : ∀ q : Nat, s.heap.size ≤ q → gs_A X q := fun q h => Nat.le_trans hz h
  have hS : va_S (gs_A X) s.heap s.heap [] := va_S.rf
  have hl := lv_entry ([.ref mo]) (n := 1) (Nat.le_of_ble_eq_true rfl)
  rw [lg_entry_eq]
  generalize (lg_sl ([.ref mo]) ++ List.replicate (1 - (lg_sl ([.ref mo])).length) Slot.unset).toArray = ls at hl ⊢
  have hl : lv_has ls 1 [(0, .ref mo)] := hl
  refine lv_aload_n hx hb d_MO_thrown_0 rfl (lv_at hl 0 rfl) ?_
  refine gs_get hx hb ht hown hK hG k_MO m0 0 (by decide) w_662 rfl d_MO_thrown_1 ?_
  exact gs_iretp (v := (nI (Z 0))) hx hb hr rfl hlocks (Nat.zero_le _) (Nat.zero_le _) (rfl) d_MO_thrown_4
set_option maxHeartbeats 4000000 in
set_option maxRecDepth 100000 in
/-- the reference: rounds -/
theorem c_MO_rounds (l : Launch) (X : gs_X) (σ : gs_St) (mo : Nat) (A Z : Nat → Nat)
    (m0 : σ mo = some (moE A Z)) : gs_Mi l X y_MO_rounds b_MO_rounds 1 (some .int) ({ frames := 0, cells := 0, slots := 0, locals := 0 }) σ [.ref mo] (fun r σ' => σ' mo = some (moE A (va_up Z 0 0)) ∧ frm [mo] σ σ' ∧ r = nI (Z 26)) := by
  refine Met.ofW (cc := b_MO_rounds) (maxL := 1) (ret := (some .int)) (by decide) rfl ?_
  intro p e s m args below meth c s₁ B₀ hml hv
  obtain ⟨rfl, hK, hG, hz, hE⟩ := hv
  have hx := B₀.exec
  have hb := B₀.bytes
  have hr := B₀.returns
  have hts := atoms_spec (ws := gs_ws y_MO_rounds b_MO_rounds 1 (some .int)) B₀.pre
  have ht : ∀ w ∈ gs_w, w.before _ s = true := fun w h => hts w (List.mem_cons_of_mem _ h)
  have hown : s.vm.findClass R_MO = some m.cls := findClass_of_methodNamed B₀.named
  have hlocks := B₀.notSynchronized
  have hA : ∀ q : Nat, s.heap.size ≤ q → gs_A X q := fun q h => Nat.le_trans hz h
  have hS : va_S (gs_A X) s.heap s.heap [] := va_S.rf
  have hl := lv_entry ([.ref mo]) (n := 1) (Nat.le_of_ble_eq_true rfl)
  rw [lg_entry_eq]
  generalize (lg_sl ([.ref mo]) ++ List.replicate (1 - (lg_sl ([.ref mo])).length) Slot.unset).toArray = ls at hl ⊢
  have hl : lv_has ls 1 [(0, .ref mo)] := hl
  have fr0 : frm [mo] σ σ := frm.rf
  refine lv_aload_n hx hb d_MO_rounds_0 rfl (lv_at hl 0 rfl) ?_
  refine lv_iconst (v := nI 0) hx hb d_MO_rounds_1 (by decide) ?_
  refine gs_put hx hb ht hown hK hG hS k_MO m0 0 (by decide) w_662 rfl rfl rfl (Nat.le_of_ble_eq_true rfl) d_MO_rounds_2 (fun H locs hG hS => ?_)
  have hG : gs_H X (gs_up σ mo (moE A (va_up Z 0 0))) H := hG
  obtain ⟨σ_1, eσ_1⟩ : ∃ zq, zq = gs_up σ mo (moE A (va_up Z 0 0)) := ⟨_, rfl⟩
  rw [← eσ_1] at hG
  have hc_2 : σ_1 mo = some (moE A (va_up Z 0 0)) := by rw [eσ_1]; exact gs_us
  have fr_3 : frm [mo] σ σ_1 := by rw [eσ_1]; exact fr0.up (by simp)
  refine lv_aload_n hx hb d_MO_rounds_5 rfl (lv_at hl 0 rfl) ?_
  refine gs_get hx hb ht hown hK hG k_MO hc_2 26 (by decide) w_688 rfl d_MO_rounds_6 ?_
  exact gs_iret (v := (nI (Z 26))) hx hb hr rfl hK hE hz hG hS hlocks (by first | decide | omega | (dsimp only [headSpec]; omega)) (by first | decide | omega | (dsimp only [headSpec]; omega)) (⟨hc_2, fr_3, rfl⟩) d_MO_rounds_9
set_option maxHeartbeats 4000000 in
set_option maxRecDepth 100000 in
/-- the reference: number -/
theorem c_MO_number (l : Launch) (X : gs_X) (σ : gs_St) (a b c9 : Nat)
     : gs_Mp l X y_MO_number b_MO_number 3 (some .int) ({ frames := 0, cells := 0, slots := 0, locals := 0 }) σ [.int (nI a), .int (nI b), .int (nI c9)] (fun z => z = nI (a * 4096 + b * 64 + c9)) := by
  refine Met.ofW (cc := b_MO_number) (maxL := 3) (ret := (some .int)) (by decide) rfl ?_
  intro p e s m args below meth c s₁ B₀ hml hv
  obtain ⟨rfl, hK, hG, hz, hE⟩ := hv
  have hx := B₀.exec
  have hb := B₀.bytes
  have hr := B₀.returns
  have hts := atoms_spec (ws := gs_ws y_MO_number b_MO_number 3 (some .int)) B₀.pre
  have ht : ∀ w ∈ gs_w, w.before _ s = true := fun w h => hts w (List.mem_cons_of_mem _ h)
  have hown : s.vm.findClass R_MO = some m.cls := findClass_of_methodNamed B₀.named
  have hlocks := B₀.notSynchronized
  have hA : ∀ q : Nat, s.heap.size ≤ q → gs_A X q := fun q h => Nat.le_trans hz h
  have hS : va_S (gs_A X) s.heap s.heap [] := va_S.rf
  have hl := lv_entry ([.int (nI a), .int (nI b), .int (nI c9)]) (n := 3) (Nat.le_of_ble_eq_true rfl)
  rw [lg_entry_eq]
  generalize (lg_sl ([.int (nI a), .int (nI b), .int (nI c9)]) ++ List.replicate (3 - (lg_sl ([.int (nI a), .int (nI b), .int (nI c9)])).length) Slot.unset).toArray = ls at hl ⊢
  have hl : lv_has ls 3 [(0, .int (nI a)), (1, .int (nI b)), (2, .int (nI c9))] := hl
  refine lv_iload_n hx hb d_MO_number_0 rfl (lv_at hl 0 rfl) ?_
  refine lv_sipush (v := nI 4096) hx hb d_MO_number_1 (by decide) ?_
  refine lv_imul hx hb d_MO_number_4 ?_
  refine gs_top (pk_mul a 4096) ?_
  refine lv_iload_n hx hb d_MO_number_5 rfl (lv_at hl 1 rfl) ?_
  refine lv_bipush (v := nI 64) hx hb d_MO_number_6 (by decide) ?_
  refine lv_imul hx hb d_MO_number_8 ?_
  refine gs_top (pk_mul b 64) ?_
  refine lv_iadd hx hb d_MO_number_9 ?_
  refine gs_top (nI_add (a * 4096) (b * 64)) ?_
  refine lv_iload_n hx hb d_MO_number_10 rfl (lv_at hl 2 rfl) ?_
  refine lv_iadd hx hb d_MO_number_11 ?_
  refine gs_top (nI_add ((a * 4096) + (b * 64)) c9) ?_
  exact gs_iretp (v := (nI (((a * 4096) + (b * 64)) + c9))) hx hb hr rfl hlocks (Nat.zero_le _) (Nat.zero_le _) (rfl) d_MO_number_12
set_option maxHeartbeats 4000000 in
set_option maxRecDepth 100000 in
/-- the reference: fits -/
theorem c_MO_fits (l : Launch) (X : gs_X) (σ : gs_St) (mo : Nat) (A Z : Nat → Nat) (f2 : Nat → Int32) (rl w b : Nat) (x y z : Int32)
    (m0 : σ mo = some (moE A Z)) (m2 : σ (A 2) = some (gs_ia X 12 f2)) (hnr : Z 1 ≤ 12) (hrl : rl < Z 1) (hw : f2 rl = nI w) (hw3 : w ≤ 3) : gs_Mp l X y_MO_fits b_MO_fits 8 (some .boolean) ({ frames := 0, cells := 0, slots := 0, locals := 0 }) σ [.ref mo, .int (nI rl), .int x, .int y, .int z, .int (nI b)] (fun r => r = bI (wi3 b w x y z)) := by
  refine Met.ofW (cc := b_MO_fits) (maxL := 8) (ret := (some .boolean)) (by decide) rfl ?_
  intro p e s m args below meth c s₁ B₀ hml hv
  obtain ⟨rfl, hK, hG, hz, hE⟩ := hv
  have hx := B₀.exec
  have hb := B₀.bytes
  have hr := B₀.returns
  have hts := atoms_spec (ws := gs_ws y_MO_fits b_MO_fits 8 (some .boolean)) B₀.pre
  have ht : ∀ w ∈ gs_w, w.before _ s = true := fun w h => hts w (List.mem_cons_of_mem _ h)
  have hown : s.vm.findClass R_MO = some m.cls := findClass_of_methodNamed B₀.named
  have hlocks := B₀.notSynchronized
  have hA : ∀ q : Nat, s.heap.size ≤ q → gs_A X q := fun q h => Nat.le_trans hz h
  have hS : va_S (gs_A X) s.heap s.heap [] := va_S.rf
  have hl := lv_entry ([.ref mo, .int (nI rl), .int x, .int y, .int z, .int (nI b)]) (n := 8) (Nat.le_of_ble_eq_true rfl)
  rw [lg_entry_eq]
  generalize (lg_sl ([.ref mo, .int (nI rl), .int x, .int y, .int z, .int (nI b)]) ++ List.replicate (8 - (lg_sl ([.ref mo, .int (nI rl), .int x, .int y, .int z, .int (nI b)])).length) Slot.unset).toArray = ls at hl ⊢
  have hl : lv_has ls 8 [(0, .ref mo), (1, .int (nI rl)), (2, .int x), (3, .int y), (4, .int z), (5, .int (nI b))] := hl
  have j95 : ∀ ls, lv_has ls 8 [(7, .int (bI (wi (if 2 < w then b else 1) z))), (6, .int (bI (wi (if 1 < w then b else 1) y))), (0, .ref mo), (1, .int (nI rl)), (2, .int x), (3, .int y), (4, .int z), (5, .int (nI b))] → W p l e ({ frames := 0, cells := 0, slots := 0, locals := 0 } : Room) s m ([.ref mo, .int (nI rl), .int x, .int y, .int z, .int (nI b)] : List Value).toArray below meth c s.heap [] 0 0 (MQ below (gs_Qp (fun r => r = bI (wi3 b w x y z))) ([.ref mo, .int (nI rl), .int x, .int y, .int z, .int (nI b)] : List Value).toArray s 0 0 (fun _ => False)) (F0 m 95 ls []) := by
    intro ls hl
    refine lv_iload_n hx hb d_MO_fits_95 rfl (lv_at hl 4 rfl) ?_
    refine lv_if_lt (tgt := 119) hx hb d_MO_fits_96 (by decide) (fun c_96 => ?_) (fun c_96 => ?_)
    · refine lv_iconst (v := nI 0) hx hb d_MO_fits_119 (by decide) ?_
      exact gs_iretp (v := (nI 0)) hx hb hr rfl hlocks (Nat.zero_le _) (Nat.zero_le _) (by unfold wi3; first | (rw [wi_neg c_96]; rfl) | (rw [wi_ge c_102]; rfl) | (rw [bI_0 c_107, Bool.and_false]; rfl) | (rw [bI_0 c_112, Bool.and_false]; rfl)) d_MO_fits_120
    · refine lv_iload_n hx hb d_MO_fits_99 rfl (lv_at hl 4 rfl) ?_
      refine lv_iload hx hb d_MO_fits_100 (lv_at hl 7 rfl) ?_
      refine lv_icmp_ge (tgt := 119) hx hb d_MO_fits_102 (by decide) (fun c_102 => ?_) (fun c_102 => ?_)
      · refine lv_iconst (v := nI 0) hx hb d_MO_fits_119 (by decide) ?_
        exact gs_iretp (v := (nI 0)) hx hb hr rfl hlocks (Nat.zero_le _) (Nat.zero_le _) (by unfold wi3; first | (rw [wi_neg c_96]; rfl) | (rw [wi_ge c_102]; rfl) | (rw [bI_0 c_107, Bool.and_false]; rfl) | (rw [bI_0 c_112, Bool.and_false]; rfl)) d_MO_fits_120
      · refine lv_iload hx hb d_MO_fits_105 (lv_at hl 1 rfl) ?_
        refine lv_if_eq (tgt := 119) hx hb d_MO_fits_107 (by decide) (fun c_107 => ?_) (fun c_107 => ?_)
        · refine lv_iconst (v := nI 0) hx hb d_MO_fits_119 (by decide) ?_
          exact gs_iretp (v := (nI 0)) hx hb hr rfl hlocks (Nat.zero_le _) (Nat.zero_le _) (by unfold wi3; first | (rw [wi_neg c_96]; rfl) | (rw [wi_ge c_102]; rfl) | (rw [bI_0 c_107, Bool.and_false]; rfl) | (rw [bI_0 c_112, Bool.and_false]; rfl)) d_MO_fits_120
        · refine lv_iload hx hb d_MO_fits_110 (lv_at hl 0 rfl) ?_
          refine lv_if_eq (tgt := 119) hx hb d_MO_fits_112 (by decide) (fun c_112 => ?_) (fun c_112 => ?_)
          · refine lv_iconst (v := nI 0) hx hb d_MO_fits_119 (by decide) ?_
            exact gs_iretp (v := (nI 0)) hx hb hr rfl hlocks (Nat.zero_le _) (Nat.zero_le _) (by unfold wi3; first | (rw [wi_neg c_96]; rfl) | (rw [wi_ge c_102]; rfl) | (rw [bI_0 c_107, Bool.and_false]; rfl) | (rw [bI_0 c_112, Bool.and_false]; rfl)) d_MO_fits_120
          · refine lv_iconst (v := nI 1) hx hb d_MO_fits_115 (by decide) ?_
            refine lv_goto (tgt := 120) hx hb d_MO_fits_116 (by decide) ?_
            exact gs_iretp (v := (nI 1)) hx hb hr rfl hlocks (Nat.zero_le _) (Nat.zero_le _) (by unfold wi3; rw [wi_in c_96 c_102, bI_n0 c_107, bI_n0 c_112]; rfl) d_MO_fits_120
  have j53 : ∀ ls, lv_has ls 8 [(6, .int (bI (wi (if 1 < w then b else 1) y))), (0, .ref mo), (1, .int (nI rl)), (2, .int x), (3, .int y), (4, .int z), (5, .int (nI b))] → W p l e ({ frames := 0, cells := 0, slots := 0, locals := 0 } : Room) s m ([.ref mo, .int (nI rl), .int x, .int y, .int z, .int (nI b)] : List Value).toArray below meth c s.heap [] 0 0 (MQ below (gs_Qp (fun r => r = bI (wi3 b w x y z))) ([.ref mo, .int (nI rl), .int x, .int y, .int z, .int (nI b)] : List Value).toArray s 0 0 (fun _ => False)) (F0 m 53 ls []) := by
    intro ls hl
    refine lv_aload_n hx hb d_MO_fits_53 rfl (lv_at hl 1 rfl) ?_
    refine gs_get hx hb ht hown hK hG k_MO m0 2 (by decide) w_664 rfl d_MO_fits_54 ?_
    refine lv_iload_n hx hb d_MO_fits_57 rfl (lv_at hl 2 rfl) ?_
    refine gs_iald hx hb hK hG m2 (j := rl) (by omega) (by omega) d_MO_fits_58 ?_
    refine gs_top (show (f2 rl) = (nI w) from hw) ?_
    refine lv_iconst (v := nI 2) hx hb d_MO_fits_59 (by decide) ?_
    refine lv_icmp_le (tgt := 83) hx hb d_MO_fits_60 (by decide) (fun c_60 => ?_) (fun c_60 => ?_)
    · have c_60 : w ≤ 2 := (nI_leI (by omega) (by omega)).mp c_60
      refine lv_iload hx hb d_MO_fits_83 (lv_at hl 5 rfl) ?_
      refine lv_if_ne (tgt := 92) hx hb d_MO_fits_85 (by decide) (fun c_85 => ?_) (fun c_85 => ?_)
      · refine lv_iconst (v := nI 0) hx hb d_MO_fits_92 (by decide) ?_
        refine lv_istore (lv' := [(7, .int (nI 0)), (6, .int (bI (wi (if 1 < w then b else 1) y))), (0, .ref mo), (1, .int (nI rl)), (2, .int x), (3, .int y), (4, .int z), (5, .int (nI b))]) hx hb d_MO_fits_93 hl (by decide) rfl (fun ls hl => ?_)
        exact j95 ls (by rw [show bI (wi (if 2 < w then b else 1) z) = nI 0 from by first | (rw [if_pos (by omega), wi_neg c_65]; rfl) | (rw [if_pos (by omega), wi_ge c_72]; rfl) | (rw [if_neg (by omega), wi_one, decide_eq_false c_85]; rfl)]; exact hl)
      · refine lv_iconst (v := nI 1) hx hb d_MO_fits_88 (by decide) ?_
        refine lv_goto (tgt := 93) hx hb d_MO_fits_89 (by decide) ?_
        refine lv_istore (lv' := [(7, .int (nI 1)), (6, .int (bI (wi (if 1 < w then b else 1) y))), (0, .ref mo), (1, .int (nI rl)), (2, .int x), (3, .int y), (4, .int z), (5, .int (nI b))]) hx hb d_MO_fits_93 hl (by decide) rfl (fun ls hl => ?_)
        exact j95 ls (by rw [show bI (wi (if 2 < w then b else 1) z) = nI 1 from by first | (rw [if_pos (by omega), wi_in c_65 c_72]; rfl) | (rw [if_neg (by omega), wi_one, decide_eq_true c_85]; rfl)]; exact hl)
    · have c_60 : ¬ w ≤ 2 := mt (nI_leI (by omega) (by omega)).mpr c_60
      refine lv_iload hx hb d_MO_fits_63 (lv_at hl 5 rfl) ?_
      refine lv_if_lt (tgt := 79) hx hb d_MO_fits_65 (by decide) (fun c_65 => ?_) (fun c_65 => ?_)
      · refine lv_iconst (v := nI 0) hx hb d_MO_fits_79 (by decide) ?_
        refine lv_goto (tgt := 93) hx hb d_MO_fits_80 (by decide) ?_
        refine lv_istore (lv' := [(7, .int (nI 0)), (6, .int (bI (wi (if 1 < w then b else 1) y))), (0, .ref mo), (1, .int (nI rl)), (2, .int x), (3, .int y), (4, .int z), (5, .int (nI b))]) hx hb d_MO_fits_93 hl (by decide) rfl (fun ls hl => ?_)
        exact j95 ls (by rw [show bI (wi (if 2 < w then b else 1) z) = nI 0 from by first | (rw [if_pos (by omega), wi_neg c_65]; rfl) | (rw [if_pos (by omega), wi_ge c_72]; rfl) | (rw [if_neg (by omega), wi_one, decide_eq_false c_85]; rfl)]; exact hl)
      · refine lv_iload hx hb d_MO_fits_68 (lv_at hl 5 rfl) ?_
        refine lv_iload hx hb d_MO_fits_70 (lv_at hl 6 rfl) ?_
        refine lv_icmp_ge (tgt := 79) hx hb d_MO_fits_72 (by decide) (fun c_72 => ?_) (fun c_72 => ?_)
        · refine lv_iconst (v := nI 0) hx hb d_MO_fits_79 (by decide) ?_
          refine lv_goto (tgt := 93) hx hb d_MO_fits_80 (by decide) ?_
          refine lv_istore (lv' := [(7, .int (nI 0)), (6, .int (bI (wi (if 1 < w then b else 1) y))), (0, .ref mo), (1, .int (nI rl)), (2, .int x), (3, .int y), (4, .int z), (5, .int (nI b))]) hx hb d_MO_fits_93 hl (by decide) rfl (fun ls hl => ?_)
          exact j95 ls (by rw [show bI (wi (if 2 < w then b else 1) z) = nI 0 from by first | (rw [if_pos (by omega), wi_neg c_65]; rfl) | (rw [if_pos (by omega), wi_ge c_72]; rfl) | (rw [if_neg (by omega), wi_one, decide_eq_false c_85]; rfl)]; exact hl)
        · refine lv_iconst (v := nI 1) hx hb d_MO_fits_75 (by decide) ?_
          refine lv_goto (tgt := 93) hx hb d_MO_fits_76 (by decide) ?_
          refine lv_istore (lv' := [(7, .int (nI 1)), (6, .int (bI (wi (if 1 < w then b else 1) y))), (0, .ref mo), (1, .int (nI rl)), (2, .int x), (3, .int y), (4, .int z), (5, .int (nI b))]) hx hb d_MO_fits_93 hl (by decide) rfl (fun ls hl => ?_)
          exact j95 ls (by rw [show bI (wi (if 2 < w then b else 1) z) = nI 1 from by first | (rw [if_pos (by omega), wi_in c_65 c_72]; rfl) | (rw [if_neg (by omega), wi_one, decide_eq_true c_85]; rfl)]; exact hl)
  refine lv_iload_n hx hb d_MO_fits_0 rfl (lv_at hl 1 rfl) ?_
  refine lv_if_lt (tgt := 12) hx hb d_MO_fits_1 (by decide) (fun c_1 => ?_) (fun c_1 => ?_)
  · exact absurd c_1 (nI_pos (by omega))
    
  · refine lv_iload_n hx hb d_MO_fits_4 rfl (lv_at hl 1 rfl) ?_
    refine lv_aload_n hx hb d_MO_fits_5 rfl (lv_at hl 0 rfl) ?_
    refine gs_get hx hb ht hown hK hG k_MO m0 1 (by decide) w_663 rfl d_MO_fits_6 ?_
    refine lv_icmp_lt (tgt := 14) hx hb d_MO_fits_9 (by decide) (fun c_9 => ?_) (fun c_9 => ?_)
    · have c_9 : rl < (Z 1) := (nI_ltI (by omega) (by omega)).mp c_9
      refine lv_aload_n hx hb d_MO_fits_14 rfl (lv_at hl 0 rfl) ?_
      refine gs_get hx hb ht hown hK hG k_MO m0 2 (by decide) w_664 rfl d_MO_fits_15 ?_
      refine lv_iload_n hx hb d_MO_fits_18 rfl (lv_at hl 1 rfl) ?_
      refine gs_iald hx hb hK hG m2 (j := rl) (by omega) (by omega) d_MO_fits_19 ?_
      refine gs_top (show (f2 rl) = (nI w) from hw) ?_
      refine lv_iconst (v := nI 1) hx hb d_MO_fits_20 (by decide) ?_
      refine lv_icmp_le (tgt := 42) hx hb d_MO_fits_21 (by decide) (fun c_21 => ?_) (fun c_21 => ?_)
      · have c_21 : w ≤ 1 := (nI_leI (by omega) (by omega)).mp c_21
        refine lv_iload_n hx hb d_MO_fits_42 rfl (lv_at hl 3 rfl) ?_
        refine lv_if_ne (tgt := 50) hx hb d_MO_fits_43 (by decide) (fun c_43 => ?_) (fun c_43 => ?_)
        · refine lv_iconst (v := nI 0) hx hb d_MO_fits_50 (by decide) ?_
          refine lv_istore (lv' := [(6, .int (nI 0)), (0, .ref mo), (1, .int (nI rl)), (2, .int x), (3, .int y), (4, .int z), (5, .int (nI b))]) hx hb d_MO_fits_51 hl (by decide) rfl (fun ls hl => ?_)
          exact j53 ls (by rw [show bI (wi (if 1 < w then b else 1) y) = nI 0 from by first | (rw [if_pos (by omega), wi_neg c_25]; rfl) | (rw [if_pos (by omega), wi_ge c_31]; rfl) | (rw [if_neg (by omega), wi_one, decide_eq_false c_43]; rfl)]; exact hl)
        · refine lv_iconst (v := nI 1) hx hb d_MO_fits_46 (by decide) ?_
          refine lv_goto (tgt := 51) hx hb d_MO_fits_47 (by decide) ?_
          refine lv_istore (lv' := [(6, .int (nI 1)), (0, .ref mo), (1, .int (nI rl)), (2, .int x), (3, .int y), (4, .int z), (5, .int (nI b))]) hx hb d_MO_fits_51 hl (by decide) rfl (fun ls hl => ?_)
          exact j53 ls (by rw [show bI (wi (if 1 < w then b else 1) y) = nI 1 from by first | (rw [if_pos (by omega), wi_in c_25 c_31]; rfl) | (rw [if_neg (by omega), wi_one, decide_eq_true c_43]; rfl)]; exact hl)
      · have c_21 : ¬ w ≤ 1 := mt (nI_leI (by omega) (by omega)).mpr c_21
        refine lv_iload_n hx hb d_MO_fits_24 rfl (lv_at hl 3 rfl) ?_
        refine lv_if_lt (tgt := 38) hx hb d_MO_fits_25 (by decide) (fun c_25 => ?_) (fun c_25 => ?_)
        · refine lv_iconst (v := nI 0) hx hb d_MO_fits_38 (by decide) ?_
          refine lv_goto (tgt := 51) hx hb d_MO_fits_39 (by decide) ?_
          refine lv_istore (lv' := [(6, .int (nI 0)), (0, .ref mo), (1, .int (nI rl)), (2, .int x), (3, .int y), (4, .int z), (5, .int (nI b))]) hx hb d_MO_fits_51 hl (by decide) rfl (fun ls hl => ?_)
          exact j53 ls (by rw [show bI (wi (if 1 < w then b else 1) y) = nI 0 from by first | (rw [if_pos (by omega), wi_neg c_25]; rfl) | (rw [if_pos (by omega), wi_ge c_31]; rfl) | (rw [if_neg (by omega), wi_one, decide_eq_false c_43]; rfl)]; exact hl)
        · refine lv_iload_n hx hb d_MO_fits_28 rfl (lv_at hl 3 rfl) ?_
          refine lv_iload hx hb d_MO_fits_29 (lv_at hl 5 rfl) ?_
          refine lv_icmp_ge (tgt := 38) hx hb d_MO_fits_31 (by decide) (fun c_31 => ?_) (fun c_31 => ?_)
          · refine lv_iconst (v := nI 0) hx hb d_MO_fits_38 (by decide) ?_
            refine lv_goto (tgt := 51) hx hb d_MO_fits_39 (by decide) ?_
            refine lv_istore (lv' := [(6, .int (nI 0)), (0, .ref mo), (1, .int (nI rl)), (2, .int x), (3, .int y), (4, .int z), (5, .int (nI b))]) hx hb d_MO_fits_51 hl (by decide) rfl (fun ls hl => ?_)
            exact j53 ls (by rw [show bI (wi (if 1 < w then b else 1) y) = nI 0 from by first | (rw [if_pos (by omega), wi_neg c_25]; rfl) | (rw [if_pos (by omega), wi_ge c_31]; rfl) | (rw [if_neg (by omega), wi_one, decide_eq_false c_43]; rfl)]; exact hl)
          · refine lv_iconst (v := nI 1) hx hb d_MO_fits_34 (by decide) ?_
            refine lv_goto (tgt := 51) hx hb d_MO_fits_35 (by decide) ?_
            refine lv_istore (lv' := [(6, .int (nI 1)), (0, .ref mo), (1, .int (nI rl)), (2, .int x), (3, .int y), (4, .int z), (5, .int (nI b))]) hx hb d_MO_fits_51 hl (by decide) rfl (fun ls hl => ?_)
            exact j53 ls (by rw [show bI (wi (if 1 < w then b else 1) y) = nI 1 from by first | (rw [if_pos (by omega), wi_in c_25 c_31]; rfl) | (rw [if_neg (by omega), wi_one, decide_eq_true c_43]; rfl)]; exact hl)
    · have c_9 : ¬ rl < (Z 1) := mt (nI_ltI (by omega) (by omega)).mpr c_9
      omega
set_option maxHeartbeats 4000000 in
set_option maxRecDepth 100000 in
/-- the reference: fits, no such relation -/
theorem c_MO_fits_r (l : Launch) (X : gs_X) (σ : gs_St) (mo : Nat) (A Z : Nat → Nat) (b : Nat) (r x y z : Int32)
    (m0 : σ mo = some (moE A Z)) (hok : wi (Z 1) r = false) : gs_Mp l X y_MO_fits b_MO_fits 8 (some .boolean) ({ frames := 0, cells := 0, slots := 0, locals := 0 }) σ [.ref mo, .int r, .int x, .int y, .int z, .int (nI b)] (fun r => r = nI 0) := by
  refine Met.ofW (cc := b_MO_fits) (maxL := 8) (ret := (some .boolean)) (by decide) rfl ?_
  intro p e s m args below meth c s₁ B₀ hml hv
  obtain ⟨rfl, hK, hG, hz, hE⟩ := hv
  have hx := B₀.exec
  have hb := B₀.bytes
  have hr := B₀.returns
  have hts := atoms_spec (ws := gs_ws y_MO_fits b_MO_fits 8 (some .boolean)) B₀.pre
  have ht : ∀ w ∈ gs_w, w.before _ s = true := fun w h => hts w (List.mem_cons_of_mem _ h)
  have hown : s.vm.findClass R_MO = some m.cls := findClass_of_methodNamed B₀.named
  have hlocks := B₀.notSynchronized
  have hA : ∀ q : Nat, s.heap.size ≤ q → gs_A X q := fun q h => Nat.le_trans hz h
  have hS : va_S (gs_A X) s.heap s.heap [] := va_S.rf
  have hl := lv_entry ([.ref mo, .int r, .int x, .int y, .int z, .int (nI b)]) (n := 8) (Nat.le_of_ble_eq_true rfl)
  rw [lg_entry_eq]
  generalize (lg_sl ([.ref mo, .int r, .int x, .int y, .int z, .int (nI b)]) ++ List.replicate (8 - (lg_sl ([.ref mo, .int r, .int x, .int y, .int z, .int (nI b)])).length) Slot.unset).toArray = ls at hl ⊢
  have hl : lv_has ls 8 [(0, .ref mo), (1, .int r), (2, .int x), (3, .int y), (4, .int z), (5, .int (nI b))] := hl
  refine lv_iload_n hx hb d_MO_fits_0 rfl (lv_at hl 1 rfl) ?_
  refine lv_if_lt (tgt := 12) hx hb d_MO_fits_1 (by decide) (fun c_1 => ?_) (fun c_1 => ?_)
  · refine lv_iconst (v := nI 0) hx hb d_MO_fits_12 (by decide) ?_
    exact gs_iretp (v := (nI 0)) hx hb hr rfl hlocks (Nat.zero_le _) (Nat.zero_le _) (rfl) d_MO_fits_13
  · refine lv_iload_n hx hb d_MO_fits_4 rfl (lv_at hl 1 rfl) ?_
    refine lv_aload_n hx hb d_MO_fits_5 rfl (lv_at hl 0 rfl) ?_
    refine gs_get hx hb ht hown hK hG k_MO m0 1 (by decide) w_663 rfl d_MO_fits_6 ?_
    refine lv_icmp_lt (tgt := 14) hx hb d_MO_fits_9 (by decide) (fun c_9 => ?_) (fun c_9 => ?_)
    · exact absurd hok (by unfold wi; rw [decide_eq_false c_1, decide_eq_true c_9]; decide)
    · refine lv_iconst (v := nI 0) hx hb d_MO_fits_12 (by decide) ?_
      exact gs_iretp (v := (nI 0)) hx hb hr rfl hlocks (Nat.zero_le _) (Nat.zero_le _) (rfl) d_MO_fits_13
set_option maxHeartbeats 4000000 in
set_option maxRecDepth 100000 in
/-- the reference: there -/
theorem c_MO_there (l : Launch) (X : gs_X) (σ : gs_St) (mo : Nat) (A Z : Nat → Nat) (f12 : Nat → Int64) (r t : Nat)
    (m0 : σ mo = some (moE A Z)) (m12 : σ (A 12) = some (gs_la X 49152 f12)) (hr : r < 12) (ht9 : t < 262144) : gs_Mp l X y_MO_there b_MO_there 3 (some .boolean) ({ frames := 0, cells := 0, slots := 0, locals := 0 }) σ [.ref mo, .int (nI r), .int (nI t)] (fun z => z = bI (gB f12 (262144 * r + t))) := by
  refine Met.ofW (cc := b_MO_there) (maxL := 3) (ret := (some .boolean)) (by decide) rfl ?_
  intro p e s m args below meth c s₁ B₀ hml hv
  obtain ⟨rfl, hK, hG, hz, hE⟩ := hv
  have hx := B₀.exec
  have hb := B₀.bytes
  have hr := B₀.returns
  have hts := atoms_spec (ws := gs_ws y_MO_there b_MO_there 3 (some .boolean)) B₀.pre
  have ht : ∀ w ∈ gs_w, w.before _ s = true := fun w h => hts w (List.mem_cons_of_mem _ h)
  have hown : s.vm.findClass R_MO = some m.cls := findClass_of_methodNamed B₀.named
  have hlocks := B₀.notSynchronized
  have hA : ∀ q : Nat, s.heap.size ≤ q → gs_A X q := fun q h => Nat.le_trans hz h
  have hS : va_S (gs_A X) s.heap s.heap [] := va_S.rf
  have hl := lv_entry ([.ref mo, .int (nI r), .int (nI t)]) (n := 3) (Nat.le_of_ble_eq_true rfl)
  rw [lg_entry_eq]
  generalize (lg_sl ([.ref mo, .int (nI r), .int (nI t)]) ++ List.replicate (3 - (lg_sl ([.ref mo, .int (nI r), .int (nI t)])).length) Slot.unset).toArray = ls at hl ⊢
  have hl : lv_has ls 3 [(0, .ref mo), (1, .int (nI r)), (2, .int (nI t))] := hl
  have hq1 := (cd_div (r := r) ht9).1
  have hq2 := (cd_div (r := r) ht9).2
  refine lv_aload_n hx hb d_MO_there_0 rfl (lv_at hl 0 rfl) ?_
  refine gs_get hx hb ht hown hK hG k_MO m0 12 (by decide) w_674 rfl d_MO_there_1 ?_
  refine lv_sipush (v := nI 4096) hx hb d_MO_there_4 (by decide) ?_
  refine lv_iload_n hx hb d_MO_there_7 rfl (lv_at hl 1 rfl) ?_
  refine lv_imul hx hb d_MO_there_8 ?_
  refine gs_top (pk_mul 4096 r) ?_
  refine lv_iload_n hx hb d_MO_there_9 rfl (lv_at hl 2 rfl) ?_
  refine lv_bipush (v := nI 64) hx hb d_MO_there_10 (by decide) ?_
  refine lv_idiv hx hb d_MO_there_12 (by decide) ?_
  refine gs_top (pk_div (a := t) (d := 64) (by omega) (by omega) (by omega)) ?_
  refine lv_iadd hx hb d_MO_there_13 ?_
  refine gs_top (nI_add (4096 * r) (t / 64)) ?_
  refine gs_lald hx hb hK hG m12 (j := (4096 * r) + (t / 64)) (by omega) (by omega) d_MO_there_14 ?_
  refine lv_iload_n hx hb d_MO_there_15 rfl (lv_at hl 2 rfl) ?_
  refine lv_bipush (v := nI 64) hx hb d_MO_there_16 (by decide) ?_
  refine lv_irem hx hb d_MO_there_18 (by decide) ?_
  refine gs_top (pk_rem (a := t) (d := 64) (by omega) (by omega) (by omega)) ?_
  refine lv_lshr hx hb d_MO_there_19 rfl ?_
  refine lv_lconst (v := 1) hx hb d_MO_there_20 rfl ?_
  refine lv_land hx hb d_MO_there_21 ?_
  refine lv_lconst (v := 1) hx hb d_MO_there_22 rfl ?_
  refine W.lcmp hx hb d_MO_there_23 ?_
  refine lv_if_ne (tgt := 31) hx hb d_MO_there_24 (by decide) (fun c_24 => ?_) (fun c_24 => ?_)
  · refine lv_iconst (v := nI 0) hx hb d_MO_there_31 (by decide) ?_
    exact gs_iretp (v := (nI 0)) hx hb hr rfl hlocks (Nat.zero_le _) (Nat.zero_le _) (by rw [show gB f12 (262144 * r + t) = false from by unfold gB; rw [← hq1, ← hq2]; exact Bool.eq_false_iff.mpr (fun h => c_24 (cmp_0.mpr ((bit_at (by omega)).mpr h)))]; rfl) d_MO_there_32
  · refine lv_iconst (v := nI 1) hx hb d_MO_there_27 (by decide) ?_
    refine lv_goto (tgt := 32) hx hb d_MO_there_28 (by decide) ?_
    exact gs_iretp (v := (nI 1)) hx hb hr rfl hlocks (Nat.zero_le _) (Nat.zero_le _) (by rw [show gB f12 (262144 * r + t) = true from by unfold gB; rw [← hq1, ← hq2]; exact (bit_at (by omega)).mp (cmp_0.mp c_24)]; rfl) d_MO_there_32
set_option maxHeartbeats 4000000 in
set_option maxRecDepth 100000 in
/-- the reference: set a bit -/
theorem c_MO_setb (l : Launch) (X : gs_X) (σ : gs_St) (row r t : Nat) (f : Nat → Int64) (b : Bool)
    (h0 : σ row = some (gs_la X 49152 f)) (hr : r < 12) (ht9 : t < 262144) : gs_Mv l X y_MO_setb b_MO_setb 7 ({ frames := 0, cells := 0, slots := 0, locals := 0 }) σ [.ref row, .int (nI r), .int (nI t), .int (bI b)] (fun σ' => σ' = gs_up σ row (gs_la X 49152 (stB f (262144 * r + t) b))) := by
  refine Met.ofW (cc := b_MO_setb) (maxL := 7) (ret := none) (by decide) rfl ?_
  intro p e s m args below meth c s₁ B₀ hml hv
  obtain ⟨rfl, hK, hG, hz, hE⟩ := hv
  have hx := B₀.exec
  have hb := B₀.bytes
  have hr := B₀.returns
  have hts := atoms_spec (ws := gs_ws y_MO_setb b_MO_setb 7 none) B₀.pre
  have ht : ∀ w ∈ gs_w, w.before _ s = true := fun w h => hts w (List.mem_cons_of_mem _ h)
  have hown : s.vm.findClass R_MO = some m.cls := findClass_of_methodNamed B₀.named
  have hlocks := B₀.notSynchronized
  have hA : ∀ q : Nat, s.heap.size ≤ q → gs_A X q := fun q h => Nat.le_trans hz h
  have hS : va_S (gs_A X) s.heap s.heap [] := va_S.rf
  have hl := lv_entry ([.ref row, .int (nI r), .int (nI t), .int (bI b)]) (n := 7) (Nat.le_of_ble_eq_true rfl)
  rw [lg_entry_eq]
  generalize (lg_sl ([.ref row, .int (nI r), .int (nI t), .int (bI b)]) ++ List.replicate (7 - (lg_sl ([.ref row, .int (nI r), .int (nI t), .int (bI b)])).length) Slot.unset).toArray = ls at hl ⊢
  have hl : lv_has ls 7 [(0, .ref row), (1, .int (nI r)), (2, .int (nI t)), (3, .int (bI b))] := hl
  have hq1 := (cd_div (r := r) ht9).1
  have hq2 := (cd_div (r := r) ht9).2
  refine lv_lconst (v := 1) hx hb d_MO_setb_0 rfl ?_
  refine lv_iload_n hx hb d_MO_setb_1 rfl (lv_at hl 2 rfl) ?_
  refine lv_bipush (v := nI 64) hx hb d_MO_setb_2 (by decide) ?_
  refine lv_irem hx hb d_MO_setb_4 (by decide) ?_
  refine gs_top (pk_rem (a := t) (d := 64) (by omega) (by omega) (by omega)) ?_
  refine lv_lshl hx hb d_MO_setb_5 rfl ?_
  refine lv_lstore (lv' := [(4, .long ((1 : Int64) <<< (((nI (t % 64))).toInt64 &&& 63))), (0, .ref row), (1, .int (nI r)), (2, .int (nI t)), (3, .int (bI b))]) hx hb d_MO_setb_6 hl (by decide) rfl (fun ls hl => ?_)
  refine lv_sipush (v := nI 4096) hx hb d_MO_setb_8 (by decide) ?_
  refine lv_iload_n hx hb d_MO_setb_11 rfl (lv_at hl 2 rfl) ?_
  refine lv_imul hx hb d_MO_setb_12 ?_
  refine gs_top (pk_mul 4096 r) ?_
  refine lv_iload_n hx hb d_MO_setb_13 rfl (lv_at hl 3 rfl) ?_
  refine lv_bipush (v := nI 64) hx hb d_MO_setb_14 (by decide) ?_
  refine lv_idiv hx hb d_MO_setb_16 (by decide) ?_
  refine gs_top (pk_div (a := t) (d := 64) (by omega) (by omega) (by omega)) ?_
  refine lv_iadd hx hb d_MO_setb_17 ?_
  refine gs_top (nI_add (4096 * r) (t / 64)) ?_
  refine lv_istore (lv' := [(6, .int (nI ((4096 * r) + (t / 64)))), (4, .long ((1 : Int64) <<< (((nI (t % 64))).toInt64 &&& 63))), (0, .ref row), (1, .int (nI r)), (2, .int (nI t)), (3, .int (bI b))]) hx hb d_MO_setb_18 hl (by decide) rfl (fun ls hl => ?_)
  refine lv_aload_n hx hb d_MO_setb_20 rfl (lv_at hl 2 rfl) ?_
  refine lv_iload hx hb d_MO_setb_21 (lv_at hl 0 rfl) ?_
  refine lv_iload_n hx hb d_MO_setb_23 rfl (lv_at hl 5 rfl) ?_
  refine lv_if_eq (tgt := 37) hx hb d_MO_setb_24 (by decide) (fun c_24 => ?_) (fun c_24 => ?_)
  · refine lv_aload_n hx hb d_MO_setb_37 rfl (lv_at hl 2 rfl) ?_
    refine lv_iload hx hb d_MO_setb_38 (lv_at hl 0 rfl) ?_
    refine gs_lald hx hb hK hG h0 (j := (4096 * r) + (t / 64)) (by omega) (by omega) d_MO_setb_40 ?_
    refine lv_lload hx hb d_MO_setb_41 (lv_at hl 1 rfl) ?_
    refine lv_ldc2 hx hb hown (ht _ w_772) d_MO_setb_43 ?_
    refine lv_lxor hx hb d_MO_setb_46 ?_
    refine lv_land hx hb d_MO_setb_47 ?_
    refine gs_last hx hb hK hG hS h0 (j := (4096 * r) + (t / 64)) (by omega) (by omega) d_MO_setb_48 (fun H locs hG hS => ?_)
    have hG : gs_H X (gs_up σ row (gs_la X 49152 (vp_updL f ((4096 * r) + (t / 64)) ((f ((4096 * r) + (t / 64))) &&& (((1 : Int64) <<< (((nI (t % 64))).toInt64 &&& 63)) ^^^ (-1)))))) H := hG
    obtain ⟨σ_1, eσ_1⟩ : ∃ zq, zq = gs_up σ row (gs_la X 49152 (vp_updL f ((4096 * r) + (t / 64)) ((f ((4096 * r) + (t / 64))) &&& (((1 : Int64) <<< (((nI (t % 64))).toInt64 &&& 63)) ^^^ (-1))))) := ⟨_, rfl⟩
    rw [← eσ_1] at hG
    have hc_2 : σ_1 row = some (gs_la X 49152 (vp_updL f ((4096 * r) + (t / 64)) ((f ((4096 * r) + (t / 64))) &&& (((1 : Int64) <<< (((nI (t % 64))).toInt64 &&& 63)) ^^^ (-1))))) := by rw [eσ_1]; exact gs_us
    exact gs_vret hx hb hr hK hE hz hG hS hlocks (by first | decide | omega | (dsimp only [headSpec]; omega)) (by first | decide | omega | (dsimp only [headSpec]; omega)) (by rw [eσ_1]; unfold stB; rw [← hq1, ← hq2]; first | rw [bI_n0 c_24, if_pos rfl] | (rw [bI_0 c_24]; rfl)) d_MO_setb_49
  · refine lv_aload_n hx hb d_MO_setb_27 rfl (lv_at hl 2 rfl) ?_
    refine lv_iload hx hb d_MO_setb_28 (lv_at hl 0 rfl) ?_
    refine gs_lald hx hb hK hG h0 (j := (4096 * r) + (t / 64)) (by omega) (by omega) d_MO_setb_30 ?_
    refine lv_lload hx hb d_MO_setb_31 (lv_at hl 1 rfl) ?_
    refine lv_lor hx hb d_MO_setb_33 ?_
    refine lv_goto (tgt := 48) hx hb d_MO_setb_34 (by decide) ?_
    refine gs_last hx hb hK hG hS h0 (j := (4096 * r) + (t / 64)) (by omega) (by omega) d_MO_setb_48 (fun H locs hG hS => ?_)
    have hG : gs_H X (gs_up σ row (gs_la X 49152 (vp_updL f ((4096 * r) + (t / 64)) ((f ((4096 * r) + (t / 64))) ||| ((1 : Int64) <<< (((nI (t % 64))).toInt64 &&& 63)))))) H := hG
    obtain ⟨σ_3, eσ_3⟩ : ∃ zq, zq = gs_up σ row (gs_la X 49152 (vp_updL f ((4096 * r) + (t / 64)) ((f ((4096 * r) + (t / 64))) ||| ((1 : Int64) <<< (((nI (t % 64))).toInt64 &&& 63))))) := ⟨_, rfl⟩
    rw [← eσ_3] at hG
    have hc_4 : σ_3 row = some (gs_la X 49152 (vp_updL f ((4096 * r) + (t / 64)) ((f ((4096 * r) + (t / 64))) ||| ((1 : Int64) <<< (((nI (t % 64))).toInt64 &&& 63))))) := by rw [eσ_3]; exact gs_us
    exact gs_vret hx hb hr hK hE hz hG hS hlocks (by first | decide | omega | (dsimp only [headSpec]; omega)) (by first | decide | omega | (dsimp only [headSpec]; omega)) (by rw [eσ_3]; unfold stB; rw [← hq1, ← hq2]; first | rw [bI_n0 c_24, if_pos rfl] | (rw [bI_0 c_24]; rfl)) d_MO_setb_49
set_option maxHeartbeats 4000000 in
set_option maxRecDepth 100000 in
/-- the reference: factAt -/
theorem c_MO_factAt (l : Launch) (X : gs_X) (σ : gs_St) (mo : Nat) (A Z : Nat → Nat) (F : List (Nat × Nat)) (f5 f6 : Nat → Int32) (r t : Nat)
    (m0 : σ mo = some (moE A Z)) (z4 : Z 4 = F.length) (m5 : σ (A 5) = some (gs_ia X 200 f5)) (m6 : σ (A 6) = some (gs_ia X 200 f6)) (hF : faOK F f5 f6) (hFB : faB F) (hr : r < 12) (ht9 : t < 262144) : gs_Mp l X y_MO_factAt b_MO_factAt 4 (some .int) ({ frames := 0, cells := 0, slots := 0, locals := 0 }) σ [.ref mo, .int (nI r), .int (nI t)] (fun z => z = nI (fIx F (r, t))) := by
  refine Met.ofW (cc := b_MO_factAt) (maxL := 4) (ret := (some .int)) (by decide) rfl ?_
  intro p e s m args below meth c s₁ B₀ hml hv
  obtain ⟨rfl, hK, hG, hz, hE⟩ := hv
  have hx := B₀.exec
  have hb := B₀.bytes
  have hr := B₀.returns
  have hts := atoms_spec (ws := gs_ws y_MO_factAt b_MO_factAt 4 (some .int)) B₀.pre
  have ht : ∀ w ∈ gs_w, w.before _ s = true := fun w h => hts w (List.mem_cons_of_mem _ h)
  have hown : s.vm.findClass R_MO = some m.cls := findClass_of_methodNamed B₀.named
  have hlocks := B₀.notSynchronized
  have hA : ∀ q : Nat, s.heap.size ≤ q → gs_A X q := fun q h => Nat.le_trans hz h
  have hS : va_S (gs_A X) s.heap s.heap [] := va_S.rf
  have hl := lv_entry ([.ref mo, .int (nI r), .int (nI t)]) (n := 4) (Nat.le_of_ble_eq_true rfl)
  rw [lg_entry_eq]
  generalize (lg_sl ([.ref mo, .int (nI r), .int (nI t)]) ++ List.replicate (4 - (lg_sl ([.ref mo, .int (nI r), .int (nI t)])).length) Slot.unset).toArray = ls at hl ⊢
  have hl : lv_has ls 4 [(0, .ref mo), (1, .int (nI r)), (2, .int (nI t))] := hl
  have hlen := hFB.1
  have loop : ∀ (fl : Nat) (i : Nat), (i ≤ F.length) → (fIx F (r, t) = i + fIx (F.drop i) (r, t)) → F.length - i < fl → ∀ ls, lv_has ls 4 [(3, .int (nI i)), (0, .ref mo), (1, .int (nI r)), (2, .int (nI t))] → W p l e ({ frames := 0, cells := 0, slots := 0, locals := 0 } : Room) s m ([.ref mo, .int (nI r), .int (nI t)] : List Value).toArray below meth c s.heap [] 0 0 (MQ below (gs_Qp (fun z => z = nI (fIx F (r, t)))) ([.ref mo, .int (nI r), .int (nI t)] : List Value).toArray s 0 0 (fun _ => False)) (F0 m 2 ls []) := by
    intro fl
    induction fl with
    | zero => intro i _ _ h9; omega
    | succ fl ih =>
      intro i hi hq hmu  ls hl
      refine lv_iload_n hx hb d_MO_factAt_2 rfl (lv_at hl 0 rfl) ?_
      refine lv_aload_n hx hb d_MO_factAt_3 rfl (lv_at hl 1 rfl) ?_
      refine gs_get hx hb ht hown hK hG k_MO m0 4 (by decide) w_666 rfl d_MO_factAt_4 ?_
      refine gs_top (show (nI (Z 4)) = (nI F.length) from congrArg nI z4) ?_
      refine lv_icmp_ge (tgt := 36) hx hb d_MO_factAt_7 (by decide) (fun c_7 => ?_) (fun c_7 => ?_)
      · have c_7 : F.length ≤ i := (nI_leI (by omega) (by omega)).mp c_7
        refine lv_iload_n hx hb d_MO_factAt_36 rfl (lv_at hl 0 rfl) ?_
        exact gs_iretp (v := (nI i)) hx hb hr rfl hlocks (Nat.zero_le _) (Nat.zero_le _) (by first | (rw [hq, List.drop_eq_nil_of_le (by omega)]; rfl) | (rw [hq, hdr, if_pos (Prod.ext c_17 c_27)]; rfl)) d_MO_factAt_37
      · have c_7 : ¬ F.length ≤ i := mt (nI_leI (by omega) (by omega)).mpr c_7
        have hiF : i < F.length := by omega
        obtain ⟨x, hx9⟩ := get_ex (L := F) (j := i) hiF
        obtain ⟨hx1, hx2⟩ := hF _ _ hx9
        obtain ⟨hx3, hx4⟩ := hFB.2 _ (List.mem_of_getElem? hx9)
        have hdr := fIx_drop (y := (r, t)) hx9
        refine lv_aload_n hx hb d_MO_factAt_10 rfl (lv_at hl 1 rfl) ?_
        refine gs_get hx hb ht hown hK hG k_MO m0 5 (by decide) w_667 rfl d_MO_factAt_11 ?_
        refine lv_iload_n hx hb d_MO_factAt_14 rfl (lv_at hl 0 rfl) ?_
        refine gs_iald hx hb hK hG m5 (j := i) (by omega) (by omega) d_MO_factAt_15 ?_
        refine gs_top (show (f5 i) = (nI x.1) from hx1) ?_
        refine lv_iload_n hx hb d_MO_factAt_16 rfl (lv_at hl 2 rfl) ?_
        refine lv_icmp_ne (tgt := 30) hx hb d_MO_factAt_17 (by decide) (fun c_17 => ?_) (fun c_17 => ?_)
        · have c_17 : ¬ x.1 = r := mt (nI_eq (by omega) (by omega)).mpr c_17
          refine lv_iinc (v := (nI (i + 1))) (lv' := [(3, .int (nI (i + 1))), (0, .ref mo), (1, .int (nI r)), (2, .int (nI t))]) hx hb d_MO_factAt_30 hl (k := 0) rfl (by exact nI_1 _) (by decide) rfl (fun ls hl => ?_)
          refine lv_goto (tgt := 2) hx hb d_MO_factAt_33 (by decide) ?_
          refine ih (i + 1) (by omega) (by rw [hq, hdr, if_neg (fun z => by first | exact c_17 (congrArg Prod.fst z) | exact c_27 (congrArg Prod.snd z))]; omega) (by omega) ls (lv_sub hl [0, 1, 2, 3] rfl)
        · have c_17 : x.1 = r :=  (nI_eq (by omega) (by omega)).mp c_17
          refine lv_aload_n hx hb d_MO_factAt_20 rfl (lv_at hl 1 rfl) ?_
          refine gs_get hx hb ht hown hK hG k_MO m0 6 (by decide) w_668 rfl d_MO_factAt_21 ?_
          refine lv_iload_n hx hb d_MO_factAt_24 rfl (lv_at hl 0 rfl) ?_
          refine gs_iald hx hb hK hG m6 (j := i) (by omega) (by omega) d_MO_factAt_25 ?_
          refine gs_top (show (f6 i) = (nI x.2) from hx2) ?_
          refine lv_iload_n hx hb d_MO_factAt_26 rfl (lv_at hl 3 rfl) ?_
          refine lv_icmp_eq (tgt := 36) hx hb d_MO_factAt_27 (by decide) (fun c_27 => ?_) (fun c_27 => ?_)
          · have c_27 : x.2 = t :=  (nI_eq (by omega) (by omega)).mp c_27
            refine lv_iload_n hx hb d_MO_factAt_36 rfl (lv_at hl 0 rfl) ?_
            exact gs_iretp (v := (nI i)) hx hb hr rfl hlocks (Nat.zero_le _) (Nat.zero_le _) (by first | (rw [hq, List.drop_eq_nil_of_le (by omega)]; rfl) | (rw [hq, hdr, if_pos (Prod.ext c_17 c_27)]; rfl)) d_MO_factAt_37
          · have c_27 : ¬ x.2 = t := mt (nI_eq (by omega) (by omega)).mpr c_27
            refine lv_iinc (v := (nI (i + 1))) (lv' := [(3, .int (nI (i + 1))), (0, .ref mo), (1, .int (nI r)), (2, .int (nI t))]) hx hb d_MO_factAt_30 hl (k := 0) rfl (by exact nI_1 _) (by decide) rfl (fun ls hl => ?_)
            refine lv_goto (tgt := 2) hx hb d_MO_factAt_33 (by decide) ?_
            refine ih (i + 1) (by omega) (by rw [hq, hdr, if_neg (fun z => by first | exact c_17 (congrArg Prod.fst z) | exact c_27 (congrArg Prod.snd z))]; omega) (by omega) ls (lv_sub hl [0, 1, 2, 3] rfl)
  refine lv_iconst (v := nI 0) hx hb d_MO_factAt_0 (by decide) ?_
  refine lv_istore_n (lv' := [(3, .int (nI 0)), (0, .ref mo), (1, .int (nI r)), (2, .int (nI t))]) hx hb d_MO_factAt_1 rfl hl (by decide) rfl (fun ls hl => ?_)
  exact loop (F.length + 1) 0 (by omega) (by simp) (by omega) ls (lv_sub hl [0, 1, 2, 3] rfl)
