set_option maxHeartbeats 4000000 in
set_option maxRecDepth 100000 in
/-- the reference: a fact that is one -/
theorem c_MO_fact_o (l : Launch) (X : gs_X) (σ : gs_St) (mo : Nat) (A : Nat → Nat) (cd nr : Nat) (cw : Nat → Nat) (F : List (Nat × Nat)) (T : List MT) (sa rc : Nat) (Q : List MR) (dr : Option MR) (rl a b cz : Nat)
    (hM : moA X σ mo A cd nr cw F T sa rc Q dr) (hrl : rl < nr) (ha : a < 64) (hb9 : b < 64) (hc9 : cz < 64) (hok : wi3 64 (cw rl) (nI a) (nI b) (nI cz) = true) (hin : fIx F (rl, a * 4096 + b * 64 + cz) < F.length) : gs_Mi l X y_MO_fact b_MO_fact 5 (some .boolean) ({ frames := 1, cells := 0, slots := 0, locals := 27 }) σ [.ref mo, .int (nI rl), .int (nI a), .int (nI b), .int (nI cz)] (fun r σ' => moA X σ' mo A 0 nr cw F T sa rc Q dr ∧ frm (aM mo A) σ σ' ∧ r = nI 0) := by
  refine Met.ofW (cc := b_MO_fact) (maxL := 5) (ret := (some .boolean)) (by decide) rfl ?_
  intro p e s m args below meth c s₁ B₀ hml hv
  obtain ⟨rfl, hK, hG, hz, hE⟩ := hv
  have hx := B₀.exec
  have hb := B₀.bytes
  have hr := B₀.returns
  have hts := atoms_spec (ws := gs_ws y_MO_fact b_MO_fact 5 (some .boolean)) B₀.pre
  have ht : ∀ w ∈ gs_w, w.before _ s = true := fun w h => hts w (List.mem_cons_of_mem _ h)
  have hown : s.vm.findClass R_MO = some m.cls := findClass_of_methodNamed B₀.named
  have hlocks := B₀.notSynchronized
  have hA : ∀ q : Nat, s.heap.size ≤ q → gs_A X q := fun q h => Nat.le_trans hz h
  have hS : va_S (gs_A X) s.heap s.heap [] := va_S.rf
  have hl := lv_entry ([.ref mo, .int (nI rl), .int (nI a), .int (nI b), .int (nI cz)]) (n := 5) (Nat.le_of_ble_eq_true rfl)
  rw [lg_entry_eq]
  generalize (lg_sl ([.ref mo, .int (nI rl), .int (nI a), .int (nI b), .int (nI cz)]) ++ List.replicate (5 - (lg_sl ([.ref mo, .int (nI rl), .int (nI a), .int (nI b), .int (nI cz)])).length) Slot.unset).toArray = ls at hl ⊢
  have hl : lv_has ls 5 [(0, .ref mo), (1, .int (nI rl)), (2, .int (nI a)), (3, .int (nI b)), (4, .int (nI cz))] := hl
  obtain ⟨hNN, hnr, hFB, hTB, hrc, ⟨Z, m0, z0, z1, z4, z7, z16, z17, z25, z26⟩, hcol, hfac, htup, hbit, hfnd, hrul, hscr⟩ := id hM
  have hN := hN1 hNN
  have hFl := hFB.1
  have hTl := hTB.1
  obtain ⟨f2, m2, hcw⟩ := id hcol
  obtain ⟨f5, f6, m5, m6, hF⟩ := id hfac
  have hfl := fIx_le F (rl, a * 4096 + b * 64 + cz)
  have fr0 : frm [mo] σ σ := frm.rf
  refine lv_aload_n hx hb d_MO_fact_0 rfl (lv_at hl 0 rfl) ?_
  refine lv_aload_n hx hb d_MO_fact_1 rfl (lv_at hl 0 rfl) ?_
  refine lv_iload_n hx hb d_MO_fact_2 rfl (lv_at hl 1 rfl) ?_
  refine lv_iload_n hx hb d_MO_fact_3 rfl (lv_at hl 2 rfl) ?_
  refine lv_iload_n hx hb d_MO_fact_4 rfl (lv_at hl 3 rfl) ?_
  refine lv_iload hx hb d_MO_fact_5 (lv_at hl 4 rfl) ?_
  refine lv_bipush (v := nI 64) hx hb d_MO_fact_7 (by decide) ?_
  refine gs_callVp (As := [.int (nI rl), .int (nI a), .int (nI b), .int (nI cz), .int (nI 64)]) (rest := [.ref mo]) ⟨hx, hb, hml, hown, hts⟩ hK hE hz hG hS (c_MO_fits l X σ mo A Z f2 rl (cw rl) 64 (nI a) (nI b) (nI cz) m0 m2 (show Z 1 ≤ 12 by omega) (show rl < Z 1 by omega) (hcw rl hrl).1 (hcw rl hrl).2.2) ⟨rfl, rfl⟩ mV_MO_fits w_777 m0 rfl rfl hl.1 rfl (Nat.le_of_ble_eq_true rfl) ⟨(by first | decide | omega | (dsimp only [headSpec]; omega)), (by first | decide | omega | (dsimp only [headSpec]; omega))⟩ ⟨(by first | decide | omega | (dsimp only [headSpec]; omega)), (by first | decide | omega | (dsimp only [headSpec]; omega))⟩ d_MO_fact_9 (fun r_9 hp_9 => ?_)
  refine gs_top (show r_9 = (bI (wi3 64 (cw rl) (nI a) (nI b) (nI cz))) from hp_9) ?_
  refine lv_if_eq (tgt := 19) hx hb d_MO_fact_12 (by decide) (fun c_12 => ?_) (fun c_12 => ?_)
  · exact absurd ((bI_0 c_12).symm.trans hok) (by decide)
  · refine lv_iconst (v := nI 0) hx hb d_MO_fact_15 (by decide) ?_
    refine lv_goto (tgt := 20) hx hb d_MO_fact_16 (by decide) ?_
    refine gs_put hx hb ht hown hK hG hS k_MO m0 0 (by decide) w_662 rfl rfl rfl (Nat.le_of_ble_eq_true rfl) d_MO_fact_20 (fun H locs hG hS => ?_)
    have hG : gs_H X (gs_up σ mo (moE A (va_up Z 0 0))) H := hG
    obtain ⟨σ_1, eσ_1⟩ : ∃ zq, zq = gs_up σ mo (moE A (va_up Z 0 0)) := ⟨_, rfl⟩
    rw [← eσ_1] at hG
    have hc_2 : σ_1 (A 2) = some (gs_ia X 12 f2) := by rw [eσ_1]; exact gs_ku (gs_ne m2 m0 (by simp)) m2
    have hc_3 : σ_1 (A 5) = some (gs_ia X 200 f5) := by rw [eσ_1]; exact gs_ku (gs_ne m5 m0 (by simp)) m5
    have hc_4 : σ_1 (A 6) = some (gs_ia X 200 f6) := by rw [eσ_1]; exact gs_ku (gs_ne m6 m0 (by simp)) m6
    have hc_5 : σ_1 mo = some (moE A (va_up Z 0 0)) := by rw [eσ_1]; exact gs_us
    have fr_6 : frm [mo] σ σ_1 := by rw [eσ_1]; exact fr0.up (by simp)
    refine lv_aload_n hx hb d_MO_fact_23 rfl (lv_at hl 0 rfl) ?_
    refine gs_get (v := .int (nI 0)) hx hb ht hown hK hG k_MO hc_5 0 (by decide) w_662 rfl d_MO_fact_24 ?_
    refine lv_if_gt (tgt := 49) hx hb d_MO_fact_27 (by decide) (fun c_27 => ?_) (fun c_27 => ?_)
    · exact absurd c_27 (by decide)
    · have c_27 : 0 = 0 := by have := gs_gt0 (a := 0) (by omega); have h9 := mt this.mpr c_27; omega
      refine lv_aload_n hx hb d_MO_fact_30 rfl (lv_at hl 0 rfl) ?_
      refine lv_iload_n hx hb d_MO_fact_31 rfl (lv_at hl 1 rfl) ?_
      refine lv_iload_n hx hb d_MO_fact_32 rfl (lv_at hl 2 rfl) ?_
      refine lv_iload_n hx hb d_MO_fact_33 rfl (lv_at hl 3 rfl) ?_
      refine lv_iload hx hb d_MO_fact_34 (lv_at hl 4 rfl) ?_
      refine gs_callSp (As := [.int (nI a), .int (nI b), .int (nI cz)]) (rest := [.int (nI rl), .ref mo]) ⟨hx, hb, hml, hown, hts⟩ hK hE hz hG hS (c_MO_number l X σ_1 a b cz) ⟨rfl, rfl⟩ mS_MO_number w_781 rfl hl.1 rfl (Nat.le_of_ble_eq_true rfl) ⟨(by first | decide | omega | (dsimp only [headSpec]; omega)), (by first | decide | omega | (dsimp only [headSpec]; omega))⟩ ⟨(by first | decide | omega | (dsimp only [headSpec]; omega)), (by first | decide | omega | (dsimp only [headSpec]; omega))⟩ d_MO_fact_36 (fun r_36 hp_36 => ?_)
      refine gs_top (show r_36 = (nI (a * 4096 + b * 64 + cz)) from hp_36) ?_
      refine gs_callVp (As := [.int (nI rl), .int (nI (a * 4096 + b * 64 + cz))]) (rest := []) ⟨hx, hb, hml, hown, hts⟩ hK hE hz hG hS (c_MO_factAt l X σ_1 mo A (va_up Z 0 0) F f5 f6 rl (a * 4096 + b * 64 + cz) hc_5 z4 hc_3 hc_4 hF hFB (by omega) (nb_lt ha hb9 hc9)) ⟨rfl, rfl⟩ mV_MO_factAt w_784 hc_5 rfl rfl hl.1 rfl (Nat.le_of_ble_eq_true rfl) ⟨(by first | decide | omega | (dsimp only [headSpec]; omega)), (by first | decide | omega | (dsimp only [headSpec]; omega))⟩ ⟨(by first | decide | omega | (dsimp only [headSpec]; omega)), (by first | decide | omega | (dsimp only [headSpec]; omega))⟩ d_MO_fact_39 (fun r_39 hp_39 => ?_)
      refine gs_top (show r_39 = (nI (fIx F (rl, a * 4096 + b * 64 + cz))) from hp_39) ?_
      refine lv_aload_n hx hb d_MO_fact_42 rfl (lv_at hl 0 rfl) ?_
      refine gs_get (v := .int (nI (Z 4))) hx hb ht hown hK hG k_MO hc_5 4 (by decide) w_666 rfl d_MO_fact_43 ?_
      refine gs_top (show nI (Z 4) = nI F.length from congrArg nI (show Z 4 = F.length from z4)) ?_
      refine lv_icmp_ge (tgt := 51) hx hb d_MO_fact_46 (by decide) (fun c_46 => ?_) (fun c_46 => ?_)
      · have c_46 : F.length ≤ (fIx F (rl, a * 4096 + b * 64 + cz)) := (nI_leI (by omega) (by omega)).mp c_46
        omega
      · have c_46 : ¬ F.length ≤ (fIx F (rl, a * 4096 + b * 64 + cz)) := mt (nI_leI (by omega) (by omega)).mpr c_46
        refine lv_iconst (v := nI 0) hx hb d_MO_fact_49 (by decide) ?_
        exact gs_iret (v := (nI 0)) hx hb hr rfl hK hE hz hG hS hlocks (by first | decide | omega | (dsimp only [headSpec]; omega)) (by first | decide | omega | (dsimp only [headSpec]; omega)) (⟨(hM.num fr_6 ⟨_, hc_5, rfl, z1, z4, z7, z16, z17, z25, z26⟩ hrc), fr_6.wk (by simp), rfl⟩) d_MO_fact_50
set_option maxHeartbeats 4000000 in
set_option maxRecDepth 100000 in
/-- the reference: a fact too many -/
theorem c_MO_fact_s (l : Launch) (X : gs_X) (σ : gs_St) (mo : Nat) (A : Nat → Nat) (cd nr : Nat) (cw : Nat → Nat) (F : List (Nat × Nat)) (T : List MT) (sa rc : Nat) (Q : List MR) (dr : Option MR) (rl a b cz : Nat)
    (hM : moA X σ mo A cd nr cw F T sa rc Q dr) (hrl : rl < nr) (ha : a < 64) (hb9 : b < 64) (hc9 : cz < 64) (hok : wi3 64 (cw rl) (nI a) (nI b) (nI cz) = true) (hin : ¬ fIx F (rl, a * 4096 + b * 64 + cz) < F.length) (hfu : F.length = 200) : gs_Mi l X y_MO_fact b_MO_fact 5 (some .boolean) ({ frames := 1, cells := 0, slots := 0, locals := 27 }) σ [.ref mo, .int (nI rl), .int (nI a), .int (nI b), .int (nI cz)] (fun r σ' => moA X σ' mo A 2 nr cw F T sa rc Q dr ∧ frm (aM mo A) σ σ' ∧ r = nI 0) := by
  refine Met.ofW (cc := b_MO_fact) (maxL := 5) (ret := (some .boolean)) (by decide) rfl ?_
  intro p e s m args below meth c s₁ B₀ hml hv
  obtain ⟨rfl, hK, hG, hz, hE⟩ := hv
  have hx := B₀.exec
  have hb := B₀.bytes
  have hr := B₀.returns
  have hts := atoms_spec (ws := gs_ws y_MO_fact b_MO_fact 5 (some .boolean)) B₀.pre
  have ht : ∀ w ∈ gs_w, w.before _ s = true := fun w h => hts w (List.mem_cons_of_mem _ h)
  have hown : s.vm.findClass R_MO = some m.cls := findClass_of_methodNamed B₀.named
  have hlocks := B₀.notSynchronized
  have hA : ∀ q : Nat, s.heap.size ≤ q → gs_A X q := fun q h => Nat.le_trans hz h
  have hS : va_S (gs_A X) s.heap s.heap [] := va_S.rf
  have hl := lv_entry ([.ref mo, .int (nI rl), .int (nI a), .int (nI b), .int (nI cz)]) (n := 5) (Nat.le_of_ble_eq_true rfl)
  rw [lg_entry_eq]
  generalize (lg_sl ([.ref mo, .int (nI rl), .int (nI a), .int (nI b), .int (nI cz)]) ++ List.replicate (5 - (lg_sl ([.ref mo, .int (nI rl), .int (nI a), .int (nI b), .int (nI cz)])).length) Slot.unset).toArray = ls at hl ⊢
  have hl : lv_has ls 5 [(0, .ref mo), (1, .int (nI rl)), (2, .int (nI a)), (3, .int (nI b)), (4, .int (nI cz))] := hl
  obtain ⟨hNN, hnr, hFB, hTB, hrc, ⟨Z, m0, z0, z1, z4, z7, z16, z17, z25, z26⟩, hcol, hfac, htup, hbit, hfnd, hrul, hscr⟩ := id hM
  have hN := hN1 hNN
  have hFl := hFB.1
  have hTl := hTB.1
  obtain ⟨f2, m2, hcw⟩ := id hcol
  obtain ⟨f5, f6, m5, m6, hF⟩ := id hfac
  have hfl := fIx_le F (rl, a * 4096 + b * 64 + cz)
  have fr0 : frm [mo] σ σ := frm.rf
  refine lv_aload_n hx hb d_MO_fact_0 rfl (lv_at hl 0 rfl) ?_
  refine lv_aload_n hx hb d_MO_fact_1 rfl (lv_at hl 0 rfl) ?_
  refine lv_iload_n hx hb d_MO_fact_2 rfl (lv_at hl 1 rfl) ?_
  refine lv_iload_n hx hb d_MO_fact_3 rfl (lv_at hl 2 rfl) ?_
  refine lv_iload_n hx hb d_MO_fact_4 rfl (lv_at hl 3 rfl) ?_
  refine lv_iload hx hb d_MO_fact_5 (lv_at hl 4 rfl) ?_
  refine lv_bipush (v := nI 64) hx hb d_MO_fact_7 (by decide) ?_
  refine gs_callVp (As := [.int (nI rl), .int (nI a), .int (nI b), .int (nI cz), .int (nI 64)]) (rest := [.ref mo]) ⟨hx, hb, hml, hown, hts⟩ hK hE hz hG hS (c_MO_fits l X σ mo A Z f2 rl (cw rl) 64 (nI a) (nI b) (nI cz) m0 m2 (show Z 1 ≤ 12 by omega) (show rl < Z 1 by omega) (hcw rl hrl).1 (hcw rl hrl).2.2) ⟨rfl, rfl⟩ mV_MO_fits w_777 m0 rfl rfl hl.1 rfl (Nat.le_of_ble_eq_true rfl) ⟨(by first | decide | omega | (dsimp only [headSpec]; omega)), (by first | decide | omega | (dsimp only [headSpec]; omega))⟩ ⟨(by first | decide | omega | (dsimp only [headSpec]; omega)), (by first | decide | omega | (dsimp only [headSpec]; omega))⟩ d_MO_fact_9 (fun r_9 hp_9 => ?_)
  refine gs_top (show r_9 = (bI (wi3 64 (cw rl) (nI a) (nI b) (nI cz))) from hp_9) ?_
  refine lv_if_eq (tgt := 19) hx hb d_MO_fact_12 (by decide) (fun c_12 => ?_) (fun c_12 => ?_)
  · exact absurd ((bI_0 c_12).symm.trans hok) (by decide)
  · refine lv_iconst (v := nI 0) hx hb d_MO_fact_15 (by decide) ?_
    refine lv_goto (tgt := 20) hx hb d_MO_fact_16 (by decide) ?_
    refine gs_put hx hb ht hown hK hG hS k_MO m0 0 (by decide) w_662 rfl rfl rfl (Nat.le_of_ble_eq_true rfl) d_MO_fact_20 (fun H locs hG hS => ?_)
    have hG : gs_H X (gs_up σ mo (moE A (va_up Z 0 0))) H := hG
    obtain ⟨σ_1, eσ_1⟩ : ∃ zq, zq = gs_up σ mo (moE A (va_up Z 0 0)) := ⟨_, rfl⟩
    rw [← eσ_1] at hG
    have hc_2 : σ_1 (A 2) = some (gs_ia X 12 f2) := by rw [eσ_1]; exact gs_ku (gs_ne m2 m0 (by simp)) m2
    have hc_3 : σ_1 (A 5) = some (gs_ia X 200 f5) := by rw [eσ_1]; exact gs_ku (gs_ne m5 m0 (by simp)) m5
    have hc_4 : σ_1 (A 6) = some (gs_ia X 200 f6) := by rw [eσ_1]; exact gs_ku (gs_ne m6 m0 (by simp)) m6
    have hc_5 : σ_1 mo = some (moE A (va_up Z 0 0)) := by rw [eσ_1]; exact gs_us
    have fr_6 : frm [mo] σ σ_1 := by rw [eσ_1]; exact fr0.up (by simp)
    refine lv_aload_n hx hb d_MO_fact_23 rfl (lv_at hl 0 rfl) ?_
    refine gs_get (v := .int (nI 0)) hx hb ht hown hK hG k_MO hc_5 0 (by decide) w_662 rfl d_MO_fact_24 ?_
    refine lv_if_gt (tgt := 49) hx hb d_MO_fact_27 (by decide) (fun c_27 => ?_) (fun c_27 => ?_)
    · exact absurd c_27 (by decide)
    · have c_27 : 0 = 0 := by have := gs_gt0 (a := 0) (by omega); have h9 := mt this.mpr c_27; omega
      refine lv_aload_n hx hb d_MO_fact_30 rfl (lv_at hl 0 rfl) ?_
      refine lv_iload_n hx hb d_MO_fact_31 rfl (lv_at hl 1 rfl) ?_
      refine lv_iload_n hx hb d_MO_fact_32 rfl (lv_at hl 2 rfl) ?_
      refine lv_iload_n hx hb d_MO_fact_33 rfl (lv_at hl 3 rfl) ?_
      refine lv_iload hx hb d_MO_fact_34 (lv_at hl 4 rfl) ?_
      refine gs_callSp (As := [.int (nI a), .int (nI b), .int (nI cz)]) (rest := [.int (nI rl), .ref mo]) ⟨hx, hb, hml, hown, hts⟩ hK hE hz hG hS (c_MO_number l X σ_1 a b cz) ⟨rfl, rfl⟩ mS_MO_number w_781 rfl hl.1 rfl (Nat.le_of_ble_eq_true rfl) ⟨(by first | decide | omega | (dsimp only [headSpec]; omega)), (by first | decide | omega | (dsimp only [headSpec]; omega))⟩ ⟨(by first | decide | omega | (dsimp only [headSpec]; omega)), (by first | decide | omega | (dsimp only [headSpec]; omega))⟩ d_MO_fact_36 (fun r_36 hp_36 => ?_)
      refine gs_top (show r_36 = (nI (a * 4096 + b * 64 + cz)) from hp_36) ?_
      refine gs_callVp (As := [.int (nI rl), .int (nI (a * 4096 + b * 64 + cz))]) (rest := []) ⟨hx, hb, hml, hown, hts⟩ hK hE hz hG hS (c_MO_factAt l X σ_1 mo A (va_up Z 0 0) F f5 f6 rl (a * 4096 + b * 64 + cz) hc_5 z4 hc_3 hc_4 hF hFB (by omega) (nb_lt ha hb9 hc9)) ⟨rfl, rfl⟩ mV_MO_factAt w_784 hc_5 rfl rfl hl.1 rfl (Nat.le_of_ble_eq_true rfl) ⟨(by first | decide | omega | (dsimp only [headSpec]; omega)), (by first | decide | omega | (dsimp only [headSpec]; omega))⟩ ⟨(by first | decide | omega | (dsimp only [headSpec]; omega)), (by first | decide | omega | (dsimp only [headSpec]; omega))⟩ d_MO_fact_39 (fun r_39 hp_39 => ?_)
      refine gs_top (show r_39 = (nI (fIx F (rl, a * 4096 + b * 64 + cz))) from hp_39) ?_
      refine lv_aload_n hx hb d_MO_fact_42 rfl (lv_at hl 0 rfl) ?_
      refine gs_get (v := .int (nI (Z 4))) hx hb ht hown hK hG k_MO hc_5 4 (by decide) w_666 rfl d_MO_fact_43 ?_
      refine gs_top (show nI (Z 4) = nI F.length from congrArg nI (show Z 4 = F.length from z4)) ?_
      refine lv_icmp_ge (tgt := 51) hx hb d_MO_fact_46 (by decide) (fun c_46 => ?_) (fun c_46 => ?_)
      · have c_46 : F.length ≤ (fIx F (rl, a * 4096 + b * 64 + cz)) := (nI_leI (by omega) (by omega)).mp c_46
        refine lv_aload_n hx hb d_MO_fact_51 rfl (lv_at hl 0 rfl) ?_
        refine lv_aload_n hx hb d_MO_fact_52 rfl (lv_at hl 0 rfl) ?_
        refine gs_get (v := .int (nI (Z 4))) hx hb ht hown hK hG k_MO hc_5 4 (by decide) w_666 rfl d_MO_fact_53 ?_
        refine gs_top (show nI (Z 4) = nI F.length from congrArg nI (show Z 4 = F.length from z4)) ?_
        refine lv_sipush (v := nI 200) hx hb d_MO_fact_56 (by decide) ?_
        refine lv_icmp_ne (tgt := 66) hx hb d_MO_fact_59 (by decide) (fun c_59 => ?_) (fun c_59 => ?_)
        · have c_59 : ¬ F.length = 200 := mt (nI_eq (by omega) (by omega)).mpr c_59
          omega
        · have c_59 : F.length = 200 :=  (nI_eq (by omega) (by omega)).mp c_59
          refine lv_iconst (v := nI 2) hx hb d_MO_fact_62 (by decide) ?_
          refine lv_goto (tgt := 67) hx hb d_MO_fact_63 (by decide) ?_
          refine gs_put hx hb ht hown hK hG hS k_MO hc_5 0 (by decide) w_662 rfl rfl rfl (Nat.le_of_ble_eq_true rfl) d_MO_fact_67 (fun H locs hG hS => ?_)
          have hG : gs_H X (gs_up σ_1 mo (moE A (va_up (va_up Z 0 0) 0 2))) H := hG
          obtain ⟨σ_7, eσ_7⟩ : ∃ zq, zq = gs_up σ_1 mo (moE A (va_up (va_up Z 0 0) 0 2)) := ⟨_, rfl⟩
          rw [← eσ_7] at hG
          have hc_8 : σ_7 (A 2) = some (gs_ia X 12 f2) := by rw [eσ_7]; exact gs_ku (gs_ne hc_2 hc_5 (by simp)) hc_2
          have hc_9 : σ_7 (A 5) = some (gs_ia X 200 f5) := by rw [eσ_7]; exact gs_ku (gs_ne hc_3 hc_5 (by simp)) hc_3
          have hc_10 : σ_7 (A 6) = some (gs_ia X 200 f6) := by rw [eσ_7]; exact gs_ku (gs_ne hc_4 hc_5 (by simp)) hc_4
          have hc_11 : σ_7 mo = some (moE A (va_up (va_up Z 0 0) 0 2)) := by rw [eσ_7]; exact gs_us
          have fr_12 : frm [mo] σ σ_7 := by rw [eσ_7]; exact fr_6.up (by simp)
          refine lv_aload_n hx hb d_MO_fact_70 rfl (lv_at hl 0 rfl) ?_
          refine gs_get (v := .int (nI 2)) hx hb ht hown hK hG k_MO hc_11 0 (by decide) w_662 rfl d_MO_fact_71 ?_
          refine lv_if_le (tgt := 79) hx hb d_MO_fact_74 (by decide) (fun c_74 => ?_) (fun c_74 => ?_)
          · exact absurd c_74 (by decide)
          · have c_74 : 0 < 2 := by have := gs_le0 (a := 2) (by omega); have h9 := mt this.mpr c_74; omega
            refine lv_iconst (v := nI 0) hx hb d_MO_fact_77 (by decide) ?_
            exact gs_iret (v := (nI 0)) hx hb hr rfl hK hE hz hG hS hlocks (by first | decide | omega | (dsimp only [headSpec]; omega)) (by first | decide | omega | (dsimp only [headSpec]; omega)) (⟨(hM.num fr_12 ⟨_, hc_11, rfl, z1, z4, z7, z16, z17, z25, z26⟩ hrc), fr_12.wk (by simp), rfl⟩) d_MO_fact_78
      · have c_46 : ¬ F.length ≤ (fIx F (rl, a * 4096 + b * 64 + cz)) := mt (nI_leI (by omega) (by omega)).mpr c_46
        omega
set_option maxHeartbeats 4000000 in
set_option maxRecDepth 100000 in
/-- the reference: a new fact -/
theorem c_MO_fact (l : Launch) (X : gs_X) (σ : gs_St) (mo : Nat) (A : Nat → Nat) (cd nr : Nat) (cw : Nat → Nat) (F : List (Nat × Nat)) (T : List MT) (sa rc : Nat) (Q : List MR) (dr : Option MR) (rl a b cz : Nat)
    (hM : moA X σ mo A cd nr cw F T sa rc Q dr) (hrl : rl < nr) (ha : a < 64) (hb9 : b < 64) (hc9 : cz < 64) (hok : wi3 64 (cw rl) (nI a) (nI b) (nI cz) = true) (hin : ¬ fIx F (rl, a * 4096 + b * 64 + cz) < F.length) (hfu : F.length < 200) : gs_Mi l X y_MO_fact b_MO_fact 5 (some .boolean) ({ frames := 2, cells := 0, slots := 0, locals := 47 }) σ [.ref mo, .int (nI rl), .int (nI a), .int (nI b), .int (nI cz)] (fun r σ' => moA X σ' mo A 0 nr cw (F ++ [(rl, a * 4096 + b * 64 + cz)]) ((F ++ [(rl, a * 4096 + b * 64 + cz)]).map agT) 0 0 Q dr ∧ frm (aM mo A) σ σ' ∧ r = nI 1) := by
  refine Met.ofW (cc := b_MO_fact) (maxL := 5) (ret := (some .boolean)) (by decide) rfl ?_
  intro p e s m args below meth c s₁ B₀ hml hv
  obtain ⟨rfl, hK, hG, hz, hE⟩ := hv
  have hx := B₀.exec
  have hb := B₀.bytes
  have hr := B₀.returns
  have hts := atoms_spec (ws := gs_ws y_MO_fact b_MO_fact 5 (some .boolean)) B₀.pre
  have ht : ∀ w ∈ gs_w, w.before _ s = true := fun w h => hts w (List.mem_cons_of_mem _ h)
  have hown : s.vm.findClass R_MO = some m.cls := findClass_of_methodNamed B₀.named
  have hlocks := B₀.notSynchronized
  have hA : ∀ q : Nat, s.heap.size ≤ q → gs_A X q := fun q h => Nat.le_trans hz h
  have hS : va_S (gs_A X) s.heap s.heap [] := va_S.rf
  have hl := lv_entry ([.ref mo, .int (nI rl), .int (nI a), .int (nI b), .int (nI cz)]) (n := 5) (Nat.le_of_ble_eq_true rfl)
  rw [lg_entry_eq]
  generalize (lg_sl ([.ref mo, .int (nI rl), .int (nI a), .int (nI b), .int (nI cz)]) ++ List.replicate (5 - (lg_sl ([.ref mo, .int (nI rl), .int (nI a), .int (nI b), .int (nI cz)])).length) Slot.unset).toArray = ls at hl ⊢
  have hl : lv_has ls 5 [(0, .ref mo), (1, .int (nI rl)), (2, .int (nI a)), (3, .int (nI b)), (4, .int (nI cz))] := hl
  obtain ⟨hNN, hnr, hFB, hTB, hrc, ⟨Z, m0, z0, z1, z4, z7, z16, z17, z25, z26⟩, hcol, hfac, htup, hbit, hfnd, hrul, hscr⟩ := id hM
  have hN := hN1 hNN
  have hFl := hFB.1
  have hTl := hTB.1
  obtain ⟨f2, m2, hcw⟩ := id hcol
  obtain ⟨f5, f6, m5, m6, hF⟩ := id hfac
  obtain ⟨f8, f9, f10, f11, m8, m9, m10, m11, hT⟩ := id htup
  obtain ⟨g, m12, hbi⟩ := id hbit
  have hfl := fIx_le F (rl, a * 4096 + b * 64 + cz)
  have hFB2 : faB (F ++ [(rl, a * 4096 + b * 64 + cz)]) := faB_snoc hFB hfu (by show rl < 12; omega) (nb_lt ha hb9 hc9)
  have fr0 : frm [mo, A 5, A 6, A 8, A 9, A 10, A 11, A 12] σ σ := frm.rf
  refine lv_aload_n hx hb d_MO_fact_0 rfl (lv_at hl 0 rfl) ?_
  refine lv_aload_n hx hb d_MO_fact_1 rfl (lv_at hl 0 rfl) ?_
  refine lv_iload_n hx hb d_MO_fact_2 rfl (lv_at hl 1 rfl) ?_
  refine lv_iload_n hx hb d_MO_fact_3 rfl (lv_at hl 2 rfl) ?_
  refine lv_iload_n hx hb d_MO_fact_4 rfl (lv_at hl 3 rfl) ?_
  refine lv_iload hx hb d_MO_fact_5 (lv_at hl 4 rfl) ?_
  refine lv_bipush (v := nI 64) hx hb d_MO_fact_7 (by decide) ?_
  refine gs_callVp (As := [.int (nI rl), .int (nI a), .int (nI b), .int (nI cz), .int (nI 64)]) (rest := [.ref mo]) ⟨hx, hb, hml, hown, hts⟩ hK hE hz hG hS (c_MO_fits l X σ mo A Z f2 rl (cw rl) 64 (nI a) (nI b) (nI cz) m0 m2 (show Z 1 ≤ 12 by omega) (show rl < Z 1 by omega) (hcw rl hrl).1 (hcw rl hrl).2.2) ⟨rfl, rfl⟩ mV_MO_fits w_777 m0 rfl rfl hl.1 rfl (Nat.le_of_ble_eq_true rfl) ⟨(by first | decide | omega | (dsimp only [headSpec]; omega)), (by first | decide | omega | (dsimp only [headSpec]; omega))⟩ ⟨(by first | decide | omega | (dsimp only [headSpec]; omega)), (by first | decide | omega | (dsimp only [headSpec]; omega))⟩ d_MO_fact_9 (fun r_9 hp_9 => ?_)
  refine gs_top (show r_9 = (bI (wi3 64 (cw rl) (nI a) (nI b) (nI cz))) from hp_9) ?_
  refine lv_if_eq (tgt := 19) hx hb d_MO_fact_12 (by decide) (fun c_12 => ?_) (fun c_12 => ?_)
  · exact absurd ((bI_0 c_12).symm.trans hok) (by decide)
  · refine lv_iconst (v := nI 0) hx hb d_MO_fact_15 (by decide) ?_
    refine lv_goto (tgt := 20) hx hb d_MO_fact_16 (by decide) ?_
    refine gs_put hx hb ht hown hK hG hS k_MO m0 0 (by decide) w_662 rfl rfl rfl (Nat.le_of_ble_eq_true rfl) d_MO_fact_20 (fun H locs hG hS => ?_)
    have hG : gs_H X (gs_up σ mo (moE A (va_up Z 0 0))) H := hG
    obtain ⟨σ_1, eσ_1⟩ : ∃ zq, zq = gs_up σ mo (moE A (va_up Z 0 0)) := ⟨_, rfl⟩
    rw [← eσ_1] at hG
    have hc_2 : σ_1 (A 2) = some (gs_ia X 12 f2) := by rw [eσ_1]; exact gs_ku (gs_ne m2 m0 (by simp)) m2
    have hc_3 : σ_1 (A 5) = some (gs_ia X 200 f5) := by rw [eσ_1]; exact gs_ku (gs_ne m5 m0 (by simp)) m5
    have hc_4 : σ_1 (A 6) = some (gs_ia X 200 f6) := by rw [eσ_1]; exact gs_ku (gs_ne m6 m0 (by simp)) m6
    have hc_5 : σ_1 (A 8) = some (gs_ia X 320 f8) := by rw [eσ_1]; exact gs_ku (gs_ne m8 m0 (by simp)) m8
    have hc_6 : σ_1 (A 9) = some (gs_ia X 320 f9) := by rw [eσ_1]; exact gs_ku (gs_ne m9 m0 (by simp)) m9
    have hc_7 : σ_1 (A 10) = some (gs_ia X 320 f10) := by rw [eσ_1]; exact gs_ku (gs_ne m10 m0 (by simp)) m10
    have hc_8 : σ_1 (A 11) = some (gs_ia X 320 f11) := by rw [eσ_1]; exact gs_ku (gs_ne m11 m0 (by simp)) m11
    have hc_9 : σ_1 (A 12) = some (gs_la X 49152 g) := by rw [eσ_1]; exact gs_ku (gs_ne m12 m0 (by simp)) m12
    have hc_10 : σ_1 mo = some (moE A (va_up Z 0 0)) := by rw [eσ_1]; exact gs_us
    have fr_11 : frm [mo, A 5, A 6, A 8, A 9, A 10, A 11, A 12] σ σ_1 := by rw [eσ_1]; exact fr0.up (by simp)
    refine lv_aload_n hx hb d_MO_fact_23 rfl (lv_at hl 0 rfl) ?_
    refine gs_get (v := .int (nI 0)) hx hb ht hown hK hG k_MO hc_10 0 (by decide) w_662 rfl d_MO_fact_24 ?_
    refine lv_if_gt (tgt := 49) hx hb d_MO_fact_27 (by decide) (fun c_27 => ?_) (fun c_27 => ?_)
    · exact absurd c_27 (by decide)
    · have c_27 : 0 = 0 := by have := gs_gt0 (a := 0) (by omega); have h9 := mt this.mpr c_27; omega
      refine lv_aload_n hx hb d_MO_fact_30 rfl (lv_at hl 0 rfl) ?_
      refine lv_iload_n hx hb d_MO_fact_31 rfl (lv_at hl 1 rfl) ?_
      refine lv_iload_n hx hb d_MO_fact_32 rfl (lv_at hl 2 rfl) ?_
      refine lv_iload_n hx hb d_MO_fact_33 rfl (lv_at hl 3 rfl) ?_
      refine lv_iload hx hb d_MO_fact_34 (lv_at hl 4 rfl) ?_
      refine gs_callSp (As := [.int (nI a), .int (nI b), .int (nI cz)]) (rest := [.int (nI rl), .ref mo]) ⟨hx, hb, hml, hown, hts⟩ hK hE hz hG hS (c_MO_number l X σ_1 a b cz) ⟨rfl, rfl⟩ mS_MO_number w_781 rfl hl.1 rfl (Nat.le_of_ble_eq_true rfl) ⟨(by first | decide | omega | (dsimp only [headSpec]; omega)), (by first | decide | omega | (dsimp only [headSpec]; omega))⟩ ⟨(by first | decide | omega | (dsimp only [headSpec]; omega)), (by first | decide | omega | (dsimp only [headSpec]; omega))⟩ d_MO_fact_36 (fun r_36 hp_36 => ?_)
      refine gs_top (show r_36 = (nI (a * 4096 + b * 64 + cz)) from hp_36) ?_
      refine gs_callVp (As := [.int (nI rl), .int (nI (a * 4096 + b * 64 + cz))]) (rest := []) ⟨hx, hb, hml, hown, hts⟩ hK hE hz hG hS (c_MO_factAt l X σ_1 mo A (va_up Z 0 0) F f5 f6 rl (a * 4096 + b * 64 + cz) hc_10 z4 hc_3 hc_4 hF hFB (by omega) (nb_lt ha hb9 hc9)) ⟨rfl, rfl⟩ mV_MO_factAt w_784 hc_10 rfl rfl hl.1 rfl (Nat.le_of_ble_eq_true rfl) ⟨(by first | decide | omega | (dsimp only [headSpec]; omega)), (by first | decide | omega | (dsimp only [headSpec]; omega))⟩ ⟨(by first | decide | omega | (dsimp only [headSpec]; omega)), (by first | decide | omega | (dsimp only [headSpec]; omega))⟩ d_MO_fact_39 (fun r_39 hp_39 => ?_)
      refine gs_top (show r_39 = (nI (fIx F (rl, a * 4096 + b * 64 + cz))) from hp_39) ?_
      refine lv_aload_n hx hb d_MO_fact_42 rfl (lv_at hl 0 rfl) ?_
      refine gs_get (v := .int (nI (Z 4))) hx hb ht hown hK hG k_MO hc_10 4 (by decide) w_666 rfl d_MO_fact_43 ?_
      refine gs_top (show nI (Z 4) = nI F.length from congrArg nI (show Z 4 = F.length from z4)) ?_
      refine lv_icmp_ge (tgt := 51) hx hb d_MO_fact_46 (by decide) (fun c_46 => ?_) (fun c_46 => ?_)
      · have c_46 : F.length ≤ (fIx F (rl, a * 4096 + b * 64 + cz)) := (nI_leI (by omega) (by omega)).mp c_46
        refine lv_aload_n hx hb d_MO_fact_51 rfl (lv_at hl 0 rfl) ?_
        refine lv_aload_n hx hb d_MO_fact_52 rfl (lv_at hl 0 rfl) ?_
        refine gs_get (v := .int (nI (Z 4))) hx hb ht hown hK hG k_MO hc_10 4 (by decide) w_666 rfl d_MO_fact_53 ?_
        refine gs_top (show nI (Z 4) = nI F.length from congrArg nI (show Z 4 = F.length from z4)) ?_
        refine lv_sipush (v := nI 200) hx hb d_MO_fact_56 (by decide) ?_
        refine lv_icmp_ne (tgt := 66) hx hb d_MO_fact_59 (by decide) (fun c_59 => ?_) (fun c_59 => ?_)
        · have c_59 : ¬ F.length = 200 := mt (nI_eq (by omega) (by omega)).mpr c_59
          refine lv_iconst (v := nI 0) hx hb d_MO_fact_66 (by decide) ?_
          refine gs_put hx hb ht hown hK hG hS k_MO hc_10 0 (by decide) w_662 rfl rfl rfl (Nat.le_of_ble_eq_true rfl) d_MO_fact_67 (fun H locs hG hS => ?_)
          have hG : gs_H X (gs_up σ_1 mo (moE A (va_up (va_up Z 0 0) 0 0))) H := hG
          obtain ⟨σ_12, eσ_12⟩ : ∃ zq, zq = gs_up σ_1 mo (moE A (va_up (va_up Z 0 0) 0 0)) := ⟨_, rfl⟩
          rw [← eσ_12] at hG
          have hc_13 : σ_12 (A 2) = some (gs_ia X 12 f2) := by rw [eσ_12]; exact gs_ku (gs_ne hc_2 hc_10 (by simp)) hc_2
          have hc_14 : σ_12 (A 5) = some (gs_ia X 200 f5) := by rw [eσ_12]; exact gs_ku (gs_ne hc_3 hc_10 (by simp)) hc_3
          have hc_15 : σ_12 (A 6) = some (gs_ia X 200 f6) := by rw [eσ_12]; exact gs_ku (gs_ne hc_4 hc_10 (by simp)) hc_4
          have hc_16 : σ_12 (A 8) = some (gs_ia X 320 f8) := by rw [eσ_12]; exact gs_ku (gs_ne hc_5 hc_10 (by simp)) hc_5
          have hc_17 : σ_12 (A 9) = some (gs_ia X 320 f9) := by rw [eσ_12]; exact gs_ku (gs_ne hc_6 hc_10 (by simp)) hc_6
          have hc_18 : σ_12 (A 10) = some (gs_ia X 320 f10) := by rw [eσ_12]; exact gs_ku (gs_ne hc_7 hc_10 (by simp)) hc_7
          have hc_19 : σ_12 (A 11) = some (gs_ia X 320 f11) := by rw [eσ_12]; exact gs_ku (gs_ne hc_8 hc_10 (by simp)) hc_8
          have hc_20 : σ_12 (A 12) = some (gs_la X 49152 g) := by rw [eσ_12]; exact gs_ku (gs_ne hc_9 hc_10 (by simp)) hc_9
          have hc_21 : σ_12 mo = some (moE A (va_up (va_up Z 0 0) 0 0)) := by rw [eσ_12]; exact gs_us
          have fr_22 : frm [mo, A 5, A 6, A 8, A 9, A 10, A 11, A 12] σ σ_12 := by rw [eσ_12]; exact fr_11.up (by simp)
          refine lv_aload_n hx hb d_MO_fact_70 rfl (lv_at hl 0 rfl) ?_
          refine gs_get (v := .int (nI 0)) hx hb ht hown hK hG k_MO hc_21 0 (by decide) w_662 rfl d_MO_fact_71 ?_
          refine lv_if_le (tgt := 79) hx hb d_MO_fact_74 (by decide) (fun c_74 => ?_) (fun c_74 => ?_)
          · have c_74 : 0 = 0 := by have := gs_le0 (a := 0) (by omega); exact this.mp c_74
            refine lv_aload_n hx hb d_MO_fact_79 rfl (lv_at hl 0 rfl) ?_
            refine gs_get (v := .ref (A 5)) hx hb ht hown hK hG k_MO hc_21 5 (by decide) w_667 rfl d_MO_fact_80 ?_
            refine lv_aload_n hx hb d_MO_fact_83 rfl (lv_at hl 0 rfl) ?_
            refine gs_get (v := .int (nI (Z 4))) hx hb ht hown hK hG k_MO hc_21 4 (by decide) w_666 rfl d_MO_fact_84 ?_
            refine gs_top (show nI (Z 4) = nI F.length from congrArg nI (show Z 4 = F.length from z4)) ?_
            refine lv_iload_n hx hb d_MO_fact_87 rfl (lv_at hl 1 rfl) ?_
            refine gs_iast hx hb hK hG hS hc_14 (j := F.length) (by omega) (by omega) d_MO_fact_88 (fun H locs hG hS => ?_)
            have hG : gs_H X (gs_up σ_12 (A 5) (gs_ia X 200 (upd f5 F.length (nI rl)))) H := hG
            obtain ⟨σ_23, eσ_23⟩ : ∃ zq, zq = gs_up σ_12 (A 5) (gs_ia X 200 (upd f5 F.length (nI rl))) := ⟨_, rfl⟩
            rw [← eσ_23] at hG
            have hc_24 : σ_23 (A 2) = some (gs_ia X 12 f2) := by rw [eσ_23]; exact gs_ku (ndp hN 0 2 (by decide) rfl rfl) hc_13
            have hc_25 : σ_23 (A 6) = some (gs_ia X 200 f6) := by rw [eσ_23]; exact gs_ku (Ne.symm (ndp hN 2 3 (by decide) rfl rfl)) hc_15
            have hc_26 : σ_23 (A 8) = some (gs_ia X 320 f8) := by rw [eσ_23]; exact gs_ku (Ne.symm (ndp hN 2 4 (by decide) rfl rfl)) hc_16
            have hc_27 : σ_23 (A 9) = some (gs_ia X 320 f9) := by rw [eσ_23]; exact gs_ku (Ne.symm (ndp hN 2 5 (by decide) rfl rfl)) hc_17
            have hc_28 : σ_23 (A 10) = some (gs_ia X 320 f10) := by rw [eσ_23]; exact gs_ku (Ne.symm (ndp hN 2 6 (by decide) rfl rfl)) hc_18
            have hc_29 : σ_23 (A 11) = some (gs_ia X 320 f11) := by rw [eσ_23]; exact gs_ku (Ne.symm (ndp hN 2 7 (by decide) rfl rfl)) hc_19
            have hc_30 : σ_23 (A 12) = some (gs_la X 49152 g) := by rw [eσ_23]; exact gs_ku (Ne.symm (ndp hN 2 8 (by decide) rfl rfl)) hc_20
            have hc_31 : σ_23 mo = some (moE A (va_up (va_up Z 0 0) 0 0)) := by rw [eσ_23]; exact gs_ku (gs_ne hc_21 hc_14 (by simp)) hc_21
            have hc_32 : σ_23 (A 5) = some (gs_ia X 200 (upd f5 F.length (nI rl))) := by rw [eσ_23]; exact gs_us
            have fr_33 : frm [mo, A 5, A 6, A 8, A 9, A 10, A 11, A 12] σ σ_23 := by rw [eσ_23]; exact fr_22.up (by simp)
            refine lv_aload_n hx hb d_MO_fact_89 rfl (lv_at hl 0 rfl) ?_
            refine gs_get (v := .ref (A 6)) hx hb ht hown hK hG k_MO hc_31 6 (by decide) w_668 rfl d_MO_fact_90 ?_
            refine lv_aload_n hx hb d_MO_fact_93 rfl (lv_at hl 0 rfl) ?_
            refine gs_get (v := .int (nI (Z 4))) hx hb ht hown hK hG k_MO hc_31 4 (by decide) w_666 rfl d_MO_fact_94 ?_
            refine gs_top (show nI (Z 4) = nI F.length from congrArg nI (show Z 4 = F.length from z4)) ?_
            refine lv_iload_n hx hb d_MO_fact_97 rfl (lv_at hl 2 rfl) ?_
            refine lv_iload_n hx hb d_MO_fact_98 rfl (lv_at hl 3 rfl) ?_
            refine lv_iload hx hb d_MO_fact_99 (lv_at hl 4 rfl) ?_
            refine gs_callSp (As := [.int (nI a), .int (nI b), .int (nI cz)]) (rest := [.int (nI F.length), .ref (A 6)]) ⟨hx, hb, hml, hown, hts⟩ hK hE hz hG hS (c_MO_number l X σ_23 a b cz) ⟨rfl, rfl⟩ mS_MO_number w_781 rfl hl.1 rfl (Nat.le_of_ble_eq_true rfl) ⟨(by first | decide | omega | (dsimp only [headSpec]; omega)), (by first | decide | omega | (dsimp only [headSpec]; omega))⟩ ⟨(by first | decide | omega | (dsimp only [headSpec]; omega)), (by first | decide | omega | (dsimp only [headSpec]; omega))⟩ d_MO_fact_101 (fun r_101 hp_101 => ?_)
            refine gs_top (show r_101 = (nI (a * 4096 + b * 64 + cz)) from hp_101) ?_
            refine gs_iast hx hb hK hG hS hc_25 (j := F.length) (by omega) (by omega) d_MO_fact_104 (fun H locs hG hS => ?_)
            have hG : gs_H X (gs_up σ_23 (A 6) (gs_ia X 200 (upd f6 F.length (nI (a * 4096 + b * 64 + cz))))) H := hG
            obtain ⟨σ_34, eσ_34⟩ : ∃ zq, zq = gs_up σ_23 (A 6) (gs_ia X 200 (upd f6 F.length (nI (a * 4096 + b * 64 + cz)))) := ⟨_, rfl⟩
            rw [← eσ_34] at hG
            have hc_35 : σ_34 (A 2) = some (gs_ia X 12 f2) := by rw [eσ_34]; exact gs_ku (ndp hN 0 3 (by decide) rfl rfl) hc_24
            have hc_36 : σ_34 (A 8) = some (gs_ia X 320 f8) := by rw [eσ_34]; exact gs_ku (Ne.symm (ndp hN 3 4 (by decide) rfl rfl)) hc_26
            have hc_37 : σ_34 (A 9) = some (gs_ia X 320 f9) := by rw [eσ_34]; exact gs_ku (Ne.symm (ndp hN 3 5 (by decide) rfl rfl)) hc_27
            have hc_38 : σ_34 (A 10) = some (gs_ia X 320 f10) := by rw [eσ_34]; exact gs_ku (Ne.symm (ndp hN 3 6 (by decide) rfl rfl)) hc_28
            have hc_39 : σ_34 (A 11) = some (gs_ia X 320 f11) := by rw [eσ_34]; exact gs_ku (Ne.symm (ndp hN 3 7 (by decide) rfl rfl)) hc_29
            have hc_40 : σ_34 (A 12) = some (gs_la X 49152 g) := by rw [eσ_34]; exact gs_ku (Ne.symm (ndp hN 3 8 (by decide) rfl rfl)) hc_30
            have hc_41 : σ_34 mo = some (moE A (va_up (va_up Z 0 0) 0 0)) := by rw [eσ_34]; exact gs_ku (gs_ne hc_31 hc_25 (by simp)) hc_31
            have hc_42 : σ_34 (A 5) = some (gs_ia X 200 (upd f5 F.length (nI rl))) := by rw [eσ_34]; exact gs_ku (ndp hN 2 3 (by decide) rfl rfl) hc_32
            have hc_43 : σ_34 (A 6) = some (gs_ia X 200 (upd f6 F.length (nI (a * 4096 + b * 64 + cz)))) := by rw [eσ_34]; exact gs_us
            have fr_44 : frm [mo, A 5, A 6, A 8, A 9, A 10, A 11, A 12] σ σ_34 := by rw [eσ_34]; exact fr_33.up (by simp)
            refine lv_aload_n hx hb d_MO_fact_105 rfl (lv_at hl 0 rfl) ?_
            refine lv_dup hx hb d_MO_fact_106 rfl ?_
            refine gs_get (v := .int (nI (Z 4))) hx hb ht hown hK hG k_MO hc_41 4 (by decide) w_666 rfl d_MO_fact_107 ?_
            refine gs_top (show nI (Z 4) = nI F.length from congrArg nI (show Z 4 = F.length from z4)) ?_
            refine lv_iconst (v := nI 1) hx hb d_MO_fact_110 (by decide) ?_
            refine lv_iadd hx hb d_MO_fact_111 ?_
            refine gs_top (nI_add F.length 1) ?_
            refine gs_put hx hb ht hown hK hG hS k_MO hc_41 4 (by decide) w_666 rfl rfl rfl (Nat.le_of_ble_eq_true rfl) d_MO_fact_112 (fun H locs hG hS => ?_)
            have hG : gs_H X (gs_up σ_34 mo (moE A (va_up (va_up (va_up Z 0 0) 0 0) 4 (F.length + 1)))) H := hG
            obtain ⟨σ_45, eσ_45⟩ : ∃ zq, zq = gs_up σ_34 mo (moE A (va_up (va_up (va_up Z 0 0) 0 0) 4 (F.length + 1))) := ⟨_, rfl⟩
            rw [← eσ_45] at hG
            have hc_46 : σ_45 (A 2) = some (gs_ia X 12 f2) := by rw [eσ_45]; exact gs_ku (gs_ne hc_35 hc_41 (by simp)) hc_35
            have hc_47 : σ_45 (A 8) = some (gs_ia X 320 f8) := by rw [eσ_45]; exact gs_ku (gs_ne hc_36 hc_41 (by simp)) hc_36
            have hc_48 : σ_45 (A 9) = some (gs_ia X 320 f9) := by rw [eσ_45]; exact gs_ku (gs_ne hc_37 hc_41 (by simp)) hc_37
            have hc_49 : σ_45 (A 10) = some (gs_ia X 320 f10) := by rw [eσ_45]; exact gs_ku (gs_ne hc_38 hc_41 (by simp)) hc_38
            have hc_50 : σ_45 (A 11) = some (gs_ia X 320 f11) := by rw [eσ_45]; exact gs_ku (gs_ne hc_39 hc_41 (by simp)) hc_39
            have hc_51 : σ_45 (A 12) = some (gs_la X 49152 g) := by rw [eσ_45]; exact gs_ku (gs_ne hc_40 hc_41 (by simp)) hc_40
            have hc_52 : σ_45 (A 5) = some (gs_ia X 200 (upd f5 F.length (nI rl))) := by rw [eσ_45]; exact gs_ku (gs_ne hc_42 hc_41 (by simp)) hc_42
            have hc_53 : σ_45 (A 6) = some (gs_ia X 200 (upd f6 F.length (nI (a * 4096 + b * 64 + cz)))) := by rw [eσ_45]; exact gs_ku (gs_ne hc_43 hc_41 (by simp)) hc_43
            have hc_54 : σ_45 mo = some (moE A (va_up (va_up (va_up Z 0 0) 0 0) 4 (F.length + 1))) := by rw [eσ_45]; exact gs_us
            have fr_55 : frm [mo, A 5, A 6, A 8, A 9, A 10, A 11, A 12] σ σ_45 := by rw [eσ_45]; exact fr_44.up (by simp)
            refine lv_aload_n hx hb d_MO_fact_115 rfl (lv_at hl 0 rfl) ?_
            refine gs_callVv (As := []) (rest := []) ⟨hx, hb, hml, hown, hts⟩ hK hE hz hG hS (c_MO_again l X σ_45 mo A (va_up (va_up (va_up Z 0 0) 0 0) 4 (F.length + 1)) T (F ++ [(rl, a * 4096 + b * 64 + cz)]) (upd f5 F.length (nI rl)) (upd f6 F.length (nI (a * 4096 + b * 64 + cz))) f8 f9 f10 f11 g hc_54 hN z7 (by show F.length + 1 = _; simp) hc_52 hc_53 hc_47 hc_48 hc_49 hc_50 hc_51 hT hTB (faOK_snoc (x := (rl, a * 4096 + b * 64 + cz)) hF) hFB2 hbi) mV_MO_again w_765 hc_54 rfl rfl hl.1 rfl (Nat.le_of_ble_eq_true rfl) ⟨(by first | decide | omega | (dsimp only [headSpec]; omega)), (by first | decide | omega | (dsimp only [headSpec]; omega))⟩ ⟨(by first | decide | omega | (dsimp only [headSpec]; omega)), (by first | decide | omega | (dsimp only [headSpec]; omega))⟩ d_MO_fact_116 (fun σ_116 H locs hp_116 hG hS => ?_)
            obtain ⟨⟨Z9, mz9, hz7, hz25, hz26, hzf⟩, htp9, hbt9, hf9⟩ := hp_116
            have hc_56 : σ_116 (A 2) = some (gs_ia X 12 f2) := hf9 _ _ (nin_cons (gs_ne hc_46 hc_54 (by simp)) (nin_cons (ndp hN 0 4 (by decide) rfl rfl) (nin_cons (ndp hN 0 5 (by decide) rfl rfl) (nin_cons (ndp hN 0 6 (by decide) rfl rfl) (nin_cons (ndp hN 0 7 (by decide) rfl rfl) (nin_cons (ndp hN 0 8 (by decide) rfl rfl) nin_nil)))))) hc_46
            have hc_57 : σ_116 (A 5) = some (gs_ia X 200 (upd f5 F.length (nI rl))) := hf9 _ _ (nin_cons (gs_ne hc_52 hc_54 (by simp)) (nin_cons (ndp hN 2 4 (by decide) rfl rfl) (nin_cons (ndp hN 2 5 (by decide) rfl rfl) (nin_cons (ndp hN 2 6 (by decide) rfl rfl) (nin_cons (ndp hN 2 7 (by decide) rfl rfl) (nin_cons (ndp hN 2 8 (by decide) rfl rfl) nin_nil)))))) hc_52
            have hc_58 : σ_116 (A 6) = some (gs_ia X 200 (upd f6 F.length (nI (a * 4096 + b * 64 + cz)))) := hf9 _ _ (nin_cons (gs_ne hc_53 hc_54 (by simp)) (nin_cons (ndp hN 3 4 (by decide) rfl rfl) (nin_cons (ndp hN 3 5 (by decide) rfl rfl) (nin_cons (ndp hN 3 6 (by decide) rfl rfl) (nin_cons (ndp hN 3 7 (by decide) rfl rfl) (nin_cons (ndp hN 3 8 (by decide) rfl rfl) nin_nil)))))) hc_53
            have fr_59 : frm [mo, A 5, A 6, A 8, A 9, A 10, A 11, A 12] σ σ_116 := fr_55.trans hf9 (by simp)
            refine lv_iconst (v := nI 1) hx hb d_MO_fact_119 (by decide) ?_
            exact gs_iret (v := (nI 1)) hx hb hr rfl hK hE hz hG hS hlocks (by first | decide | omega | (dsimp only [headSpec]; omega)) (by first | decide | omega | (dsimp only [headSpec]; omega)) (⟨⟨hNN, hnr, hFB2, tpB_ag hFB2, by decide, ⟨Z9, mz9, hzf 0 (by simp), (hzf 1 (by simp)).trans z1, (hzf 4 (by simp)).trans (by show F.length + 1 = _; simp), by rw [hz7]; simp, (hzf 16 (by simp)).trans z16, (hzf 17 (by simp)).trans z17, hz25, hz26⟩, (hcol.fr hNN [0, 3, 4, 5, 6, 7, 8, 9] fr_59 (by decide) (by decide)), ⟨_, _, hc_57, hc_58, faOK_snoc (x := (rl, a * 4096 + b * 64 + cz)) hF⟩, htp9, bit_ag hbt9, (hfnd.fr (k := 10) hNN [0, 3, 4, 5, 6, 7, 8, 9] fr_59 (by decide) (by decide) (by decide) rfl), (hrul.fr hNN [0, 3, 4, 5, 6, 7, 8, 9] fr_59 (by decide) (by decide)), (hscr.fr hNN [0, 3, 4, 5, 6, 7, 8, 9] fr_59 (by decide) (by decide))⟩, fr_59.wk (by simp), rfl⟩) d_MO_fact_120
          · exact absurd c_74 (by decide)
        · have c_59 : F.length = 200 :=  (nI_eq (by omega) (by omega)).mp c_59
          omega
      · have c_46 : ¬ F.length ≤ (fIx F (rl, a * 4096 + b * 64 + cz)) := mt (nI_leI (by omega) (by omega)).mpr c_46
        omega
set_option maxHeartbeats 4000000 in
set_option maxRecDepth 100000 in
/-- the reference: drop of no fact -/
theorem c_MO_drop_o (l : Launch) (X : gs_X) (σ : gs_St) (mo : Nat) (A : Nat → Nat) (cd nr : Nat) (cw : Nat → Nat) (F : List (Nat × Nat)) (T : List MT) (sa rc : Nat) (Q : List MR) (dr : Option MR) (rl a b cz : Nat)
    (hM : moA X σ mo A cd nr cw F T sa rc Q dr) (hrl : rl < nr) (ha : a < 64) (hb9 : b < 64) (hc9 : cz < 64) (hok : wi3 64 (cw rl) (nI a) (nI b) (nI cz) = true) (hin : ¬ fIx F (rl, a * 4096 + b * 64 + cz) < F.length) : gs_Mi l X y_MO_drop b_MO_drop 7 (some .boolean) ({ frames := 1, cells := 0, slots := 0, locals := 27 }) σ [.ref mo, .int (nI rl), .int (nI a), .int (nI b), .int (nI cz)] (fun r σ' => moA X σ' mo A 0 nr cw F T sa rc Q dr ∧ frm (aM mo A) σ σ' ∧ r = nI 0) := by
  refine Met.ofW (cc := b_MO_drop) (maxL := 7) (ret := (some .boolean)) (by decide) rfl ?_
  intro p e s m args below meth c s₁ B₀ hml hv
  obtain ⟨rfl, hK, hG, hz, hE⟩ := hv
  have hx := B₀.exec
  have hb := B₀.bytes
  have hr := B₀.returns
  have hts := atoms_spec (ws := gs_ws y_MO_drop b_MO_drop 7 (some .boolean)) B₀.pre
  have ht : ∀ w ∈ gs_w, w.before _ s = true := fun w h => hts w (List.mem_cons_of_mem _ h)
  have hown : s.vm.findClass R_MO = some m.cls := findClass_of_methodNamed B₀.named
  have hlocks := B₀.notSynchronized
  have hA : ∀ q : Nat, s.heap.size ≤ q → gs_A X q := fun q h => Nat.le_trans hz h
  have hS : va_S (gs_A X) s.heap s.heap [] := va_S.rf
  have hl := lv_entry ([.ref mo, .int (nI rl), .int (nI a), .int (nI b), .int (nI cz)]) (n := 7) (Nat.le_of_ble_eq_true rfl)
  rw [lg_entry_eq]
  generalize (lg_sl ([.ref mo, .int (nI rl), .int (nI a), .int (nI b), .int (nI cz)]) ++ List.replicate (7 - (lg_sl ([.ref mo, .int (nI rl), .int (nI a), .int (nI b), .int (nI cz)])).length) Slot.unset).toArray = ls at hl ⊢
  have hl : lv_has ls 7 [(0, .ref mo), (1, .int (nI rl)), (2, .int (nI a)), (3, .int (nI b)), (4, .int (nI cz))] := hl
  obtain ⟨hNN, hnr, hFB, hTB, hrc, ⟨Z, m0, z0, z1, z4, z7, z16, z17, z25, z26⟩, hcol, hfac, htup, hbit, hfnd, hrul, hscr⟩ := id hM
  have hN := hN1 hNN
  have hFl := hFB.1
  have hTl := hTB.1
  obtain ⟨f2, m2, hcw⟩ := id hcol
  obtain ⟨f5, f6, m5, m6, hF⟩ := id hfac
  have hfl := fIx_le F (rl, a * 4096 + b * 64 + cz)
  have fr0 : frm [mo] σ σ := frm.rf
  refine lv_aload_n hx hb d_MO_drop_0 rfl (lv_at hl 0 rfl) ?_
  refine lv_aload_n hx hb d_MO_drop_1 rfl (lv_at hl 0 rfl) ?_
  refine lv_iload_n hx hb d_MO_drop_2 rfl (lv_at hl 1 rfl) ?_
  refine lv_iload_n hx hb d_MO_drop_3 rfl (lv_at hl 2 rfl) ?_
  refine lv_iload_n hx hb d_MO_drop_4 rfl (lv_at hl 3 rfl) ?_
  refine lv_iload hx hb d_MO_drop_5 (lv_at hl 4 rfl) ?_
  refine lv_bipush (v := nI 64) hx hb d_MO_drop_7 (by decide) ?_
  refine gs_callVp (As := [.int (nI rl), .int (nI a), .int (nI b), .int (nI cz), .int (nI 64)]) (rest := [.ref mo]) ⟨hx, hb, hml, hown, hts⟩ hK hE hz hG hS (c_MO_fits l X σ mo A Z f2 rl (cw rl) 64 (nI a) (nI b) (nI cz) m0 m2 (show Z 1 ≤ 12 by omega) (show rl < Z 1 by omega) (hcw rl hrl).1 (hcw rl hrl).2.2) ⟨rfl, rfl⟩ mV_MO_fits w_777 m0 rfl rfl hl.1 rfl (Nat.le_of_ble_eq_true rfl) ⟨(by first | decide | omega | (dsimp only [headSpec]; omega)), (by first | decide | omega | (dsimp only [headSpec]; omega))⟩ ⟨(by first | decide | omega | (dsimp only [headSpec]; omega)), (by first | decide | omega | (dsimp only [headSpec]; omega))⟩ d_MO_drop_9 (fun r_9 hp_9 => ?_)
  refine gs_top (show r_9 = (bI (wi3 64 (cw rl) (nI a) (nI b) (nI cz))) from hp_9) ?_
  refine lv_if_eq (tgt := 19) hx hb d_MO_drop_12 (by decide) (fun c_12 => ?_) (fun c_12 => ?_)
  · exact absurd ((bI_0 c_12).symm.trans hok) (by decide)
  · refine lv_iconst (v := nI 0) hx hb d_MO_drop_15 (by decide) ?_
    refine lv_goto (tgt := 20) hx hb d_MO_drop_16 (by decide) ?_
    refine gs_put hx hb ht hown hK hG hS k_MO m0 0 (by decide) w_662 rfl rfl rfl (Nat.le_of_ble_eq_true rfl) d_MO_drop_20 (fun H locs hG hS => ?_)
    have hG : gs_H X (gs_up σ mo (moE A (va_up Z 0 0))) H := hG
    obtain ⟨σ_1, eσ_1⟩ : ∃ zq, zq = gs_up σ mo (moE A (va_up Z 0 0)) := ⟨_, rfl⟩
    rw [← eσ_1] at hG
    have hc_2 : σ_1 (A 2) = some (gs_ia X 12 f2) := by rw [eσ_1]; exact gs_ku (gs_ne m2 m0 (by simp)) m2
    have hc_3 : σ_1 (A 5) = some (gs_ia X 200 f5) := by rw [eσ_1]; exact gs_ku (gs_ne m5 m0 (by simp)) m5
    have hc_4 : σ_1 (A 6) = some (gs_ia X 200 f6) := by rw [eσ_1]; exact gs_ku (gs_ne m6 m0 (by simp)) m6
    have hc_5 : σ_1 mo = some (moE A (va_up Z 0 0)) := by rw [eσ_1]; exact gs_us
    have fr_6 : frm [mo] σ σ_1 := by rw [eσ_1]; exact fr0.up (by simp)
    refine lv_aload_n hx hb d_MO_drop_23 rfl (lv_at hl 0 rfl) ?_
    refine gs_get (v := .int (nI 0)) hx hb ht hown hK hG k_MO hc_5 0 (by decide) w_662 rfl d_MO_drop_24 ?_
    refine lv_if_le (tgt := 37) hx hb d_MO_drop_27 (by decide) (fun c_27 => ?_) (fun c_27 => ?_)
    · have c_27 : 0 = 0 := by have := gs_le0 (a := 0) (by omega); exact this.mp c_27
      refine lv_aload_n hx hb d_MO_drop_37 rfl (lv_at hl 0 rfl) ?_
      refine lv_iload_n hx hb d_MO_drop_38 rfl (lv_at hl 1 rfl) ?_
      refine lv_iload_n hx hb d_MO_drop_39 rfl (lv_at hl 2 rfl) ?_
      refine lv_iload_n hx hb d_MO_drop_40 rfl (lv_at hl 3 rfl) ?_
      refine lv_iload hx hb d_MO_drop_41 (lv_at hl 4 rfl) ?_
      refine gs_callSp (As := [.int (nI a), .int (nI b), .int (nI cz)]) (rest := [.int (nI rl), .ref mo]) ⟨hx, hb, hml, hown, hts⟩ hK hE hz hG hS (c_MO_number l X σ_1 a b cz) ⟨rfl, rfl⟩ mS_MO_number w_781 rfl hl.1 rfl (Nat.le_of_ble_eq_true rfl) ⟨(by first | decide | omega | (dsimp only [headSpec]; omega)), (by first | decide | omega | (dsimp only [headSpec]; omega))⟩ ⟨(by first | decide | omega | (dsimp only [headSpec]; omega)), (by first | decide | omega | (dsimp only [headSpec]; omega))⟩ d_MO_drop_43 (fun r_43 hp_43 => ?_)
      refine gs_top (show r_43 = (nI (a * 4096 + b * 64 + cz)) from hp_43) ?_
      refine gs_callVp (As := [.int (nI rl), .int (nI (a * 4096 + b * 64 + cz))]) (rest := []) ⟨hx, hb, hml, hown, hts⟩ hK hE hz hG hS (c_MO_factAt l X σ_1 mo A (va_up Z 0 0) F f5 f6 rl (a * 4096 + b * 64 + cz) hc_5 z4 hc_3 hc_4 hF hFB (by omega) (nb_lt ha hb9 hc9)) ⟨rfl, rfl⟩ mV_MO_factAt w_784 hc_5 rfl rfl hl.1 rfl (Nat.le_of_ble_eq_true rfl) ⟨(by first | decide | omega | (dsimp only [headSpec]; omega)), (by first | decide | omega | (dsimp only [headSpec]; omega))⟩ ⟨(by first | decide | omega | (dsimp only [headSpec]; omega)), (by first | decide | omega | (dsimp only [headSpec]; omega))⟩ d_MO_drop_46 (fun r_46 hp_46 => ?_)
      refine gs_top (show r_46 = (nI (fIx F (rl, a * 4096 + b * 64 + cz))) from hp_46) ?_
      refine lv_istore (lv' := [(5, .int (nI (fIx F (rl, a * 4096 + b * 64 + cz)))), (0, .ref mo), (1, .int (nI rl)), (2, .int (nI a)), (3, .int (nI b)), (4, .int (nI cz))]) hx hb d_MO_drop_49 hl (by decide) rfl (fun ls hl => ?_)
      refine lv_iload hx hb d_MO_drop_51 (lv_at hl 0 rfl) ?_
      refine lv_aload_n hx hb d_MO_drop_53 rfl (lv_at hl 1 rfl) ?_
      refine gs_get (v := .int (nI (Z 4))) hx hb ht hown hK hG k_MO hc_5 4 (by decide) w_666 rfl d_MO_drop_54 ?_
      refine gs_top (show nI (Z 4) = nI F.length from congrArg nI (show Z 4 = F.length from z4)) ?_
      refine lv_icmp_ne (tgt := 62) hx hb d_MO_drop_57 (by decide) (fun c_57 => ?_) (fun c_57 => ?_)
      · have c_57 : ¬ (fIx F (rl, a * 4096 + b * 64 + cz)) = F.length := mt (nI_eq (by omega) (by omega)).mpr c_57
        omega
      · have c_57 : (fIx F (rl, a * 4096 + b * 64 + cz)) = F.length :=  (nI_eq (by omega) (by omega)).mp c_57
        refine lv_iconst (v := nI 0) hx hb d_MO_drop_60 (by decide) ?_
        exact gs_iret (v := (nI 0)) hx hb hr rfl hK hE hz hG hS hlocks (by first | decide | omega | (dsimp only [headSpec]; omega)) (by first | decide | omega | (dsimp only [headSpec]; omega)) (⟨(hM.num fr_6 ⟨_, hc_5, rfl, z1, z4, z7, z16, z17, z25, z26⟩ hrc), fr_6.wk (by simp), rfl⟩) d_MO_drop_61
    · exact absurd c_27 (by decide)
set_option maxHeartbeats 4000000 in
set_option maxRecDepth 100000 in
/-- the reference: drop -/
theorem c_MO_drop (l : Launch) (X : gs_X) (σ : gs_St) (mo : Nat) (A : Nat → Nat) (cd nr : Nat) (cw : Nat → Nat) (F : List (Nat × Nat)) (T : List MT) (sa rc : Nat) (Q : List MR) (dr : Option MR) (rl a b cz : Nat)
    (hM : moA X σ mo A cd nr cw F T sa rc Q dr) (hrl : rl < nr) (ha : a < 64) (hb9 : b < 64) (hc9 : cz < 64) (hok : wi3 64 (cw rl) (nI a) (nI b) (nI cz) = true) (hin : fIx F (rl, a * 4096 + b * 64 + cz) < F.length) : gs_Mi l X y_MO_drop b_MO_drop 7 (some .boolean) ({ frames := 2, cells := 0, slots := 0, locals := 47 }) σ [.ref mo, .int (nI rl), .int (nI a), .int (nI b), .int (nI cz)] (fun r σ' => moA X σ' mo A 0 nr cw (dlF F (fIx F (rl, a * 4096 + b * 64 + cz))) ((dlF F (fIx F (rl, a * 4096 + b * 64 + cz))).map agT) 0 0 Q dr ∧ frm (aM mo A) σ σ' ∧ r = nI 1) := by
  refine Met.ofW (cc := b_MO_drop) (maxL := 7) (ret := (some .boolean)) (by decide) rfl ?_
  intro p e s m args below meth c s₁ B₀ hml hv
  obtain ⟨rfl, hK, hG, hz, hE⟩ := hv
  have hx := B₀.exec
  have hb := B₀.bytes
  have hr := B₀.returns
  have hts := atoms_spec (ws := gs_ws y_MO_drop b_MO_drop 7 (some .boolean)) B₀.pre
  have ht : ∀ w ∈ gs_w, w.before _ s = true := fun w h => hts w (List.mem_cons_of_mem _ h)
  have hown : s.vm.findClass R_MO = some m.cls := findClass_of_methodNamed B₀.named
  have hlocks := B₀.notSynchronized
  have hA : ∀ q : Nat, s.heap.size ≤ q → gs_A X q := fun q h => Nat.le_trans hz h
  have hS : va_S (gs_A X) s.heap s.heap [] := va_S.rf
  have hl := lv_entry ([.ref mo, .int (nI rl), .int (nI a), .int (nI b), .int (nI cz)]) (n := 7) (Nat.le_of_ble_eq_true rfl)
  rw [lg_entry_eq]
  generalize (lg_sl ([.ref mo, .int (nI rl), .int (nI a), .int (nI b), .int (nI cz)]) ++ List.replicate (7 - (lg_sl ([.ref mo, .int (nI rl), .int (nI a), .int (nI b), .int (nI cz)])).length) Slot.unset).toArray = ls at hl ⊢
  have hl : lv_has ls 7 [(0, .ref mo), (1, .int (nI rl)), (2, .int (nI a)), (3, .int (nI b)), (4, .int (nI cz))] := hl
  obtain ⟨hNN, hnr, hFB, hTB, hrc, ⟨Z, m0, z0, z1, z4, z7, z16, z17, z25, z26⟩, hcol, hfac, htup, hbit, hfnd, hrul, hscr⟩ := id hM
  have hN := hN1 hNN
  have hFl := hFB.1
  have hTl := hTB.1
  obtain ⟨f2, m2, hcw⟩ := id hcol
  obtain ⟨f5, f6, m5, m6, hF⟩ := id hfac
  obtain ⟨f8, f9, f10, f11, m8, m9, m10, m11, hT⟩ := id htup
  obtain ⟨g, m12, hbi⟩ := id hbit
  have hfl := fIx_le F (rl, a * 4096 + b * 64 + cz)
  have hFB2 : faB (dlF F (fIx F (rl, a * 4096 + b * 64 + cz))) := faB_dl hFB hin
  have hln := dlF_len hin
  obtain ⟨kx, ekx⟩ : ∃ kx, kx = fIx F (rl, a * 4096 + b * 64 + cz) := ⟨_, rfl⟩
  have fr0 : frm [mo, A 5, A 6, A 8, A 9, A 10, A 11, A 12] σ σ := frm.rf
  have loop : ∀ (fl : Nat) (i : Nat) (Z1 : Nat → Nat) (σ1 : gs_St), (fIx F (rl, a * 4096 + b * 64 + cz) ≤ i) → (i ≤ F.length - 1) → (Z1 4 = F.length - 1) → (Z1 0 = 0) → (zfr [0, 4] Z Z1) → (frm [mo, A 5, A 6, A 8, A 9, A 10, A 11, A 12] σ σ1) → F.length - i < fl → (σ1 mo = some (moE A Z1)) → (σ1 (A 5) = some (gs_ia X 200 (shf f5 (fIx F (rl, a * 4096 + b * 64 + cz)) i))) → (σ1 (A 6) = some (gs_ia X 200 (shf f6 (fIx F (rl, a * 4096 + b * 64 + cz)) i))) → (σ1 (A 8) = some (gs_ia X 320 f8)) → (σ1 (A 9) = some (gs_ia X 320 f9)) → (σ1 (A 10) = some (gs_ia X 320 f10)) → (σ1 (A 11) = some (gs_ia X 320 f11)) → (σ1 (A 12) = some (gs_la X 49152 g)) → ∀ (H : Heap) (locs : List Loc), gs_H X σ1 H → va_S (gs_A X) s.heap H locs → ∀ ls, lv_has ls 7 [(6, .int (nI i)), (5, .int (nI (fIx F (rl, a * 4096 + b * 64 + cz)))), (0, .ref mo), (1, .int (nI rl)), (2, .int (nI a)), (3, .int (nI b)), (4, .int (nI cz))] → W p l e ({ frames := 2, cells := 0, slots := 0, locals := 47 } : Room) s m ([.ref mo, .int (nI rl), .int (nI a), .int (nI b), .int (nI cz)] : List Value).toArray below meth c H locs 0 0 (MQ below (va_Qi (fun r σ' => moA X σ' mo A 0 nr cw (dlF F (fIx F (rl, a * 4096 + b * 64 + cz))) ((dlF F (fIx F (rl, a * 4096 + b * 64 + cz))).map agT) 0 0 Q dr ∧ frm (aM mo A) σ σ' ∧ r = nI 1) (gs_U X) (gs_A X)) ([.ref mo, .int (nI rl), .int (nI a), .int (nI b), .int (nI cz)] : List Value).toArray s 0 0 (gs_A X)) (F0 m 76 ls []) := by
    intro fl
    induction fl with
    | zero => intro i Z1 σ1 _ _ _ _ _ _ h9; omega
    | succ fl ih =>
      intro i Z1 σ1 hi hi2 hz4 hz0 hzf1 hf1 hmu y_mo y_5 y_6 y_8 y_9 y_10 y_11 y_12 H locs hG hS ls hl
      refine lv_iload hx hb d_MO_drop_76 (lv_at hl 0 rfl) ?_
      refine lv_aload_n hx hb d_MO_drop_78 rfl (lv_at hl 2 rfl) ?_
      refine gs_get (v := .int (nI (Z1 4))) hx hb ht hown hK hG k_MO y_mo 4 (by decide) w_666 rfl d_MO_drop_79 ?_
      refine gs_top (show (nI (Z1 4)) = (nI (F.length - 1)) from congrArg nI hz4) ?_
      refine lv_icmp_ge (tgt := 123) hx hb d_MO_drop_82 (by decide) (fun c_82 => ?_) (fun c_82 => ?_)
      · have c_82 : (F.length - 1) ≤ i := (nI_leI (by omega) (by omega)).mp c_82
        refine lv_aload_n hx hb d_MO_drop_123 rfl (lv_at hl 2 rfl) ?_
        have hie : i = F.length - 1 := by omega
        rw [hie] at y_5 y_6
        refine gs_callVv (As := []) (rest := []) ⟨hx, hb, hml, hown, hts⟩ hK hE hz hG hS (c_MO_again l X σ1 mo A Z1 T (dlF F (fIx F (rl, a * 4096 + b * 64 + cz))) (shf f5 (fIx F (rl, a * 4096 + b * 64 + cz)) (F.length - 1)) (shf f6 (fIx F (rl, a * 4096 + b * 64 + cz)) (F.length - 1)) f8 f9 f10 f11 g y_mo hN ((hzf1 7 (by simp)).trans z7) (by rw [hz4, hln]) y_5 y_6 y_8 y_9 y_10 y_11 y_12 hT hTB (faOK_dl hF hin) hFB2 hbi) mV_MO_again w_765 y_mo rfl rfl hl.1 rfl (Nat.le_of_ble_eq_true rfl) ⟨(by first | decide | omega | (dsimp only [headSpec]; omega)), (by first | decide | omega | (dsimp only [headSpec]; omega))⟩ ⟨(by first | decide | omega | (dsimp only [headSpec]; omega)), (by first | decide | omega | (dsimp only [headSpec]; omega))⟩ d_MO_drop_124 (fun σ_124 H locs hp_124 hG hS => ?_)
        obtain ⟨⟨Z9, mz9, hz7, hz25, hz26, hzf⟩, htp9, hbt9, hf9⟩ := hp_124
        have hc_1 : σ_124 (A 5) = some (gs_ia X 200 (shf f5 (fIx F (rl, a * 4096 + b * 64 + cz)) (F.length - 1))) := hf9 _ _ (nin_cons (gs_ne y_5 y_mo (by simp)) (nin_cons (ndp hN 2 4 (by decide) rfl rfl) (nin_cons (ndp hN 2 5 (by decide) rfl rfl) (nin_cons (ndp hN 2 6 (by decide) rfl rfl) (nin_cons (ndp hN 2 7 (by decide) rfl rfl) (nin_cons (ndp hN 2 8 (by decide) rfl rfl) nin_nil)))))) y_5
        have hc_2 : σ_124 (A 6) = some (gs_ia X 200 (shf f6 (fIx F (rl, a * 4096 + b * 64 + cz)) (F.length - 1))) := hf9 _ _ (nin_cons (gs_ne y_6 y_mo (by simp)) (nin_cons (ndp hN 3 4 (by decide) rfl rfl) (nin_cons (ndp hN 3 5 (by decide) rfl rfl) (nin_cons (ndp hN 3 6 (by decide) rfl rfl) (nin_cons (ndp hN 3 7 (by decide) rfl rfl) (nin_cons (ndp hN 3 8 (by decide) rfl rfl) nin_nil)))))) y_6
        have fr_3 : frm [mo, A 5, A 6, A 8, A 9, A 10, A 11, A 12] σ σ_124 := hf1.trans hf9 (by simp)
        refine lv_iconst (v := nI 1) hx hb d_MO_drop_127 (by decide) ?_
        exact gs_iret (v := (nI 1)) hx hb hr rfl hK hE hz hG hS hlocks (by first | decide | omega | (dsimp only [headSpec]; omega)) (by first | decide | omega | (dsimp only [headSpec]; omega)) (⟨⟨hNN, hnr, hFB2, tpB_ag hFB2, by decide, ⟨Z9, mz9, (hzf 0 (by simp)).trans hz0, (hzf 1 (by simp)).trans ((hzf1 1 (by simp)).trans z1), (hzf 4 (by simp)).trans (hz4.trans hln.symm), by rw [hz7]; simp, (hzf 16 (by simp)).trans ((hzf1 16 (by simp)).trans z16), (hzf 17 (by simp)).trans ((hzf1 17 (by simp)).trans z17), hz25, hz26⟩, (hcol.fr hNN [0, 3, 4, 5, 6, 7, 8, 9] fr_3 (by decide) (by decide)), ⟨_, _, hc_1, hc_2, faOK_dl hF hin⟩, htp9, bit_ag hbt9, (hfnd.fr (k := 10) hNN [0, 3, 4, 5, 6, 7, 8, 9] fr_3 (by decide) (by decide) (by decide) rfl), (hrul.fr hNN [0, 3, 4, 5, 6, 7, 8, 9] fr_3 (by decide) (by decide)), (hscr.fr hNN [0, 3, 4, 5, 6, 7, 8, 9] fr_3 (by decide) (by decide))⟩, fr_3.wk (by simp), rfl⟩) d_MO_drop_128
      · have c_82 : ¬ (F.length - 1) ≤ i := mt (nI_leI (by omega) (by omega)).mpr c_82
        refine lv_aload_n hx hb d_MO_drop_85 rfl (lv_at hl 2 rfl) ?_
        refine gs_get (v := .ref (A 5)) hx hb ht hown hK hG k_MO y_mo 5 (by decide) w_667 rfl d_MO_drop_86 ?_
        refine lv_iload hx hb d_MO_drop_89 (lv_at hl 0 rfl) ?_
        refine lv_aload_n hx hb d_MO_drop_91 rfl (lv_at hl 2 rfl) ?_
        refine gs_get (v := .ref (A 5)) hx hb ht hown hK hG k_MO y_mo 5 (by decide) w_667 rfl d_MO_drop_92 ?_
        refine lv_iload hx hb d_MO_drop_95 (lv_at hl 0 rfl) ?_
        refine lv_iconst (v := nI 1) hx hb d_MO_drop_97 (by decide) ?_
        refine lv_iadd hx hb d_MO_drop_98 ?_
        refine gs_top (nI_add i 1) ?_
        refine gs_iald hx hb hK hG y_5 (j := i + 1) (by omega) (by omega) d_MO_drop_99 ?_
        refine gs_top (show ((shf f5 (fIx F (rl, a * 4096 + b * 64 + cz)) i) (i + 1)) = (f5 (i + 1)) from shf_at) ?_
        refine gs_iast hx hb hK hG hS y_5 (j := i) (by omega) (by omega) d_MO_drop_100 (fun H locs hG hS => ?_)
        have hG : gs_H X (gs_up σ1 (A 5) (gs_ia X 200 (upd (shf f5 (fIx F (rl, a * 4096 + b * 64 + cz)) i) i (f5 (i + 1))))) H := hG
        obtain ⟨σ_4, eσ_4⟩ : ∃ zq, zq = gs_up σ1 (A 5) (gs_ia X 200 (upd (shf f5 (fIx F (rl, a * 4096 + b * 64 + cz)) i) i (f5 (i + 1)))) := ⟨_, rfl⟩
        rw [← eσ_4] at hG
        have hc_5 : σ_4 mo = some (moE A Z1) := by rw [eσ_4]; exact gs_ku (gs_ne y_mo y_5 (by simp)) y_mo
        have hc_6 : σ_4 (A 6) = some (gs_ia X 200 (shf f6 (fIx F (rl, a * 4096 + b * 64 + cz)) i)) := by rw [eσ_4]; exact gs_ku (Ne.symm (ndp hN 2 3 (by decide) rfl rfl)) y_6
        have hc_7 : σ_4 (A 8) = some (gs_ia X 320 f8) := by rw [eσ_4]; exact gs_ku (Ne.symm (ndp hN 2 4 (by decide) rfl rfl)) y_8
        have hc_8 : σ_4 (A 9) = some (gs_ia X 320 f9) := by rw [eσ_4]; exact gs_ku (Ne.symm (ndp hN 2 5 (by decide) rfl rfl)) y_9
        have hc_9 : σ_4 (A 10) = some (gs_ia X 320 f10) := by rw [eσ_4]; exact gs_ku (Ne.symm (ndp hN 2 6 (by decide) rfl rfl)) y_10
        have hc_10 : σ_4 (A 11) = some (gs_ia X 320 f11) := by rw [eσ_4]; exact gs_ku (Ne.symm (ndp hN 2 7 (by decide) rfl rfl)) y_11
        have hc_11 : σ_4 (A 12) = some (gs_la X 49152 g) := by rw [eσ_4]; exact gs_ku (Ne.symm (ndp hN 2 8 (by decide) rfl rfl)) y_12
        have hc_12 : σ_4 (A 5) = some (gs_ia X 200 (upd (shf f5 (fIx F (rl, a * 4096 + b * 64 + cz)) i) i (f5 (i + 1)))) := by rw [eσ_4]; exact gs_us
        have fr_13 : frm [mo, A 5, A 6, A 8, A 9, A 10, A 11, A 12] σ σ_4 := by rw [eσ_4]; exact hf1.up (by simp)
        refine lv_aload_n hx hb d_MO_drop_101 rfl (lv_at hl 2 rfl) ?_
        refine gs_get (v := .ref (A 6)) hx hb ht hown hK hG k_MO hc_5 6 (by decide) w_668 rfl d_MO_drop_102 ?_
        refine lv_iload hx hb d_MO_drop_105 (lv_at hl 0 rfl) ?_
        refine lv_aload_n hx hb d_MO_drop_107 rfl (lv_at hl 2 rfl) ?_
        refine gs_get (v := .ref (A 6)) hx hb ht hown hK hG k_MO hc_5 6 (by decide) w_668 rfl d_MO_drop_108 ?_
        refine lv_iload hx hb d_MO_drop_111 (lv_at hl 0 rfl) ?_
        refine lv_iconst (v := nI 1) hx hb d_MO_drop_113 (by decide) ?_
        refine lv_iadd hx hb d_MO_drop_114 ?_
        refine gs_top (nI_add i 1) ?_
        refine gs_iald hx hb hK hG hc_6 (j := i + 1) (by omega) (by omega) d_MO_drop_115 ?_
        refine gs_top (show ((shf f6 (fIx F (rl, a * 4096 + b * 64 + cz)) i) (i + 1)) = (f6 (i + 1)) from shf_at) ?_
        refine gs_iast hx hb hK hG hS hc_6 (j := i) (by omega) (by omega) d_MO_drop_116 (fun H locs hG hS => ?_)
        have hG : gs_H X (gs_up σ_4 (A 6) (gs_ia X 200 (upd (shf f6 (fIx F (rl, a * 4096 + b * 64 + cz)) i) i (f6 (i + 1))))) H := hG
        obtain ⟨σ_14, eσ_14⟩ : ∃ zq, zq = gs_up σ_4 (A 6) (gs_ia X 200 (upd (shf f6 (fIx F (rl, a * 4096 + b * 64 + cz)) i) i (f6 (i + 1)))) := ⟨_, rfl⟩
        rw [← eσ_14] at hG
        have hc_15 : σ_14 mo = some (moE A Z1) := by rw [eσ_14]; exact gs_ku (gs_ne hc_5 hc_6 (by simp)) hc_5
        have hc_16 : σ_14 (A 8) = some (gs_ia X 320 f8) := by rw [eσ_14]; exact gs_ku (Ne.symm (ndp hN 3 4 (by decide) rfl rfl)) hc_7
        have hc_17 : σ_14 (A 9) = some (gs_ia X 320 f9) := by rw [eσ_14]; exact gs_ku (Ne.symm (ndp hN 3 5 (by decide) rfl rfl)) hc_8
        have hc_18 : σ_14 (A 10) = some (gs_ia X 320 f10) := by rw [eσ_14]; exact gs_ku (Ne.symm (ndp hN 3 6 (by decide) rfl rfl)) hc_9
        have hc_19 : σ_14 (A 11) = some (gs_ia X 320 f11) := by rw [eσ_14]; exact gs_ku (Ne.symm (ndp hN 3 7 (by decide) rfl rfl)) hc_10
        have hc_20 : σ_14 (A 12) = some (gs_la X 49152 g) := by rw [eσ_14]; exact gs_ku (Ne.symm (ndp hN 3 8 (by decide) rfl rfl)) hc_11
        have hc_21 : σ_14 (A 5) = some (gs_ia X 200 (upd (shf f5 (fIx F (rl, a * 4096 + b * 64 + cz)) i) i (f5 (i + 1)))) := by rw [eσ_14]; exact gs_ku (ndp hN 2 3 (by decide) rfl rfl) hc_12
        have hc_22 : σ_14 (A 6) = some (gs_ia X 200 (upd (shf f6 (fIx F (rl, a * 4096 + b * 64 + cz)) i) i (f6 (i + 1)))) := by rw [eσ_14]; exact gs_us
        have fr_23 : frm [mo, A 5, A 6, A 8, A 9, A 10, A 11, A 12] σ σ_14 := by rw [eσ_14]; exact fr_13.up (by simp)
        refine lv_iinc (v := (nI (i + 1))) (lv' := [(6, .int (nI (i + 1))), (5, .int (nI (fIx F (rl, a * 4096 + b * 64 + cz)))), (0, .ref mo), (1, .int (nI rl)), (2, .int (nI a)), (3, .int (nI b)), (4, .int (nI cz))]) hx hb d_MO_drop_117 hl (k := 0) rfl (by exact nI_1 _) (by decide) rfl (fun ls hl => ?_)
        refine lv_goto (tgt := 76) hx hb d_MO_drop_120 (by decide) ?_
        exact ih (i + 1) Z1 σ_14 (by omega) (by omega) hz4 hz0 hzf1 fr_23 (by omega) hc_15 (by rw [← shf_step hi]; exact hc_21) (by rw [← shf_step hi]; exact hc_22) hc_16 hc_17 hc_18 hc_19 hc_20 H locs hG hS ls (lv_sub hl [0, 1, 2, 3, 4, 5, 6] rfl)
  refine lv_aload_n hx hb d_MO_drop_0 rfl (lv_at hl 0 rfl) ?_
  refine lv_aload_n hx hb d_MO_drop_1 rfl (lv_at hl 0 rfl) ?_
  refine lv_iload_n hx hb d_MO_drop_2 rfl (lv_at hl 1 rfl) ?_
  refine lv_iload_n hx hb d_MO_drop_3 rfl (lv_at hl 2 rfl) ?_
  refine lv_iload_n hx hb d_MO_drop_4 rfl (lv_at hl 3 rfl) ?_
  refine lv_iload hx hb d_MO_drop_5 (lv_at hl 4 rfl) ?_
  refine lv_bipush (v := nI 64) hx hb d_MO_drop_7 (by decide) ?_
  refine gs_callVp (As := [.int (nI rl), .int (nI a), .int (nI b), .int (nI cz), .int (nI 64)]) (rest := [.ref mo]) ⟨hx, hb, hml, hown, hts⟩ hK hE hz hG hS (c_MO_fits l X σ mo A Z f2 rl (cw rl) 64 (nI a) (nI b) (nI cz) m0 m2 (show Z 1 ≤ 12 by omega) (show rl < Z 1 by omega) (hcw rl hrl).1 (hcw rl hrl).2.2) ⟨rfl, rfl⟩ mV_MO_fits w_777 m0 rfl rfl hl.1 rfl (Nat.le_of_ble_eq_true rfl) ⟨(by first | decide | omega | (dsimp only [headSpec]; omega)), (by first | decide | omega | (dsimp only [headSpec]; omega))⟩ ⟨(by first | decide | omega | (dsimp only [headSpec]; omega)), (by first | decide | omega | (dsimp only [headSpec]; omega))⟩ d_MO_drop_9 (fun r_9 hp_9 => ?_)
  refine gs_top (show r_9 = (bI (wi3 64 (cw rl) (nI a) (nI b) (nI cz))) from hp_9) ?_
  refine lv_if_eq (tgt := 19) hx hb d_MO_drop_12 (by decide) (fun c_12 => ?_) (fun c_12 => ?_)
  · exact absurd ((bI_0 c_12).symm.trans hok) (by decide)
  · refine lv_iconst (v := nI 0) hx hb d_MO_drop_15 (by decide) ?_
    refine lv_goto (tgt := 20) hx hb d_MO_drop_16 (by decide) ?_
    refine gs_put hx hb ht hown hK hG hS k_MO m0 0 (by decide) w_662 rfl rfl rfl (Nat.le_of_ble_eq_true rfl) d_MO_drop_20 (fun H locs hG hS => ?_)
    have hG : gs_H X (gs_up σ mo (moE A (va_up Z 0 0))) H := hG
    obtain ⟨σ_1, eσ_1⟩ : ∃ zq, zq = gs_up σ mo (moE A (va_up Z 0 0)) := ⟨_, rfl⟩
    rw [← eσ_1] at hG
    have hc_2 : σ_1 (A 2) = some (gs_ia X 12 f2) := by rw [eσ_1]; exact gs_ku (gs_ne m2 m0 (by simp)) m2
    have hc_3 : σ_1 (A 5) = some (gs_ia X 200 f5) := by rw [eσ_1]; exact gs_ku (gs_ne m5 m0 (by simp)) m5
    have hc_4 : σ_1 (A 6) = some (gs_ia X 200 f6) := by rw [eσ_1]; exact gs_ku (gs_ne m6 m0 (by simp)) m6
    have hc_5 : σ_1 (A 8) = some (gs_ia X 320 f8) := by rw [eσ_1]; exact gs_ku (gs_ne m8 m0 (by simp)) m8
    have hc_6 : σ_1 (A 9) = some (gs_ia X 320 f9) := by rw [eσ_1]; exact gs_ku (gs_ne m9 m0 (by simp)) m9
    have hc_7 : σ_1 (A 10) = some (gs_ia X 320 f10) := by rw [eσ_1]; exact gs_ku (gs_ne m10 m0 (by simp)) m10
    have hc_8 : σ_1 (A 11) = some (gs_ia X 320 f11) := by rw [eσ_1]; exact gs_ku (gs_ne m11 m0 (by simp)) m11
    have hc_9 : σ_1 (A 12) = some (gs_la X 49152 g) := by rw [eσ_1]; exact gs_ku (gs_ne m12 m0 (by simp)) m12
    have hc_10 : σ_1 mo = some (moE A (va_up Z 0 0)) := by rw [eσ_1]; exact gs_us
    have fr_11 : frm [mo, A 5, A 6, A 8, A 9, A 10, A 11, A 12] σ σ_1 := by rw [eσ_1]; exact fr0.up (by simp)
    refine lv_aload_n hx hb d_MO_drop_23 rfl (lv_at hl 0 rfl) ?_
    refine gs_get (v := .int (nI 0)) hx hb ht hown hK hG k_MO hc_10 0 (by decide) w_662 rfl d_MO_drop_24 ?_
    refine lv_if_le (tgt := 37) hx hb d_MO_drop_27 (by decide) (fun c_27 => ?_) (fun c_27 => ?_)
    · have c_27 : 0 = 0 := by have := gs_le0 (a := 0) (by omega); exact this.mp c_27
      refine lv_aload_n hx hb d_MO_drop_37 rfl (lv_at hl 0 rfl) ?_
      refine lv_iload_n hx hb d_MO_drop_38 rfl (lv_at hl 1 rfl) ?_
      refine lv_iload_n hx hb d_MO_drop_39 rfl (lv_at hl 2 rfl) ?_
      refine lv_iload_n hx hb d_MO_drop_40 rfl (lv_at hl 3 rfl) ?_
      refine lv_iload hx hb d_MO_drop_41 (lv_at hl 4 rfl) ?_
      refine gs_callSp (As := [.int (nI a), .int (nI b), .int (nI cz)]) (rest := [.int (nI rl), .ref mo]) ⟨hx, hb, hml, hown, hts⟩ hK hE hz hG hS (c_MO_number l X σ_1 a b cz) ⟨rfl, rfl⟩ mS_MO_number w_781 rfl hl.1 rfl (Nat.le_of_ble_eq_true rfl) ⟨(by first | decide | omega | (dsimp only [headSpec]; omega)), (by first | decide | omega | (dsimp only [headSpec]; omega))⟩ ⟨(by first | decide | omega | (dsimp only [headSpec]; omega)), (by first | decide | omega | (dsimp only [headSpec]; omega))⟩ d_MO_drop_43 (fun r_43 hp_43 => ?_)
      refine gs_top (show r_43 = (nI (a * 4096 + b * 64 + cz)) from hp_43) ?_
      refine gs_callVp (As := [.int (nI rl), .int (nI (a * 4096 + b * 64 + cz))]) (rest := []) ⟨hx, hb, hml, hown, hts⟩ hK hE hz hG hS (c_MO_factAt l X σ_1 mo A (va_up Z 0 0) F f5 f6 rl (a * 4096 + b * 64 + cz) hc_10 z4 hc_3 hc_4 hF hFB (by omega) (nb_lt ha hb9 hc9)) ⟨rfl, rfl⟩ mV_MO_factAt w_784 hc_10 rfl rfl hl.1 rfl (Nat.le_of_ble_eq_true rfl) ⟨(by first | decide | omega | (dsimp only [headSpec]; omega)), (by first | decide | omega | (dsimp only [headSpec]; omega))⟩ ⟨(by first | decide | omega | (dsimp only [headSpec]; omega)), (by first | decide | omega | (dsimp only [headSpec]; omega))⟩ d_MO_drop_46 (fun r_46 hp_46 => ?_)
      refine gs_top (show r_46 = (nI (fIx F (rl, a * 4096 + b * 64 + cz))) from hp_46) ?_
      refine lv_istore (lv' := [(5, .int (nI (fIx F (rl, a * 4096 + b * 64 + cz)))), (0, .ref mo), (1, .int (nI rl)), (2, .int (nI a)), (3, .int (nI b)), (4, .int (nI cz))]) hx hb d_MO_drop_49 hl (by decide) rfl (fun ls hl => ?_)
      refine lv_iload hx hb d_MO_drop_51 (lv_at hl 0 rfl) ?_
      refine lv_aload_n hx hb d_MO_drop_53 rfl (lv_at hl 1 rfl) ?_
      refine gs_get (v := .int (nI (Z 4))) hx hb ht hown hK hG k_MO hc_10 4 (by decide) w_666 rfl d_MO_drop_54 ?_
      refine gs_top (show nI (Z 4) = nI F.length from congrArg nI (show Z 4 = F.length from z4)) ?_
      refine lv_icmp_ne (tgt := 62) hx hb d_MO_drop_57 (by decide) (fun c_57 => ?_) (fun c_57 => ?_)
      · have c_57 : ¬ (fIx F (rl, a * 4096 + b * 64 + cz)) = F.length := mt (nI_eq (by omega) (by omega)).mpr c_57
        refine lv_aload_n hx hb d_MO_drop_62 rfl (lv_at hl 1 rfl) ?_
        refine lv_dup hx hb d_MO_drop_63 rfl ?_
        refine gs_get (v := .int (nI (Z 4))) hx hb ht hown hK hG k_MO hc_10 4 (by decide) w_666 rfl d_MO_drop_64 ?_
        refine gs_top (show nI (Z 4) = nI F.length from congrArg nI (show Z 4 = F.length from z4)) ?_
        refine lv_iconst (v := nI 1) hx hb d_MO_drop_67 (by decide) ?_
        refine lv_isub hx hb d_MO_drop_68 ?_
        refine gs_top (pk_sub (a := F.length) (b := 1) (by omega)) ?_
        refine gs_put hx hb ht hown hK hG hS k_MO hc_10 4 (by decide) w_666 rfl rfl rfl (Nat.le_of_ble_eq_true rfl) d_MO_drop_69 (fun H locs hG hS => ?_)
        have hG : gs_H X (gs_up σ_1 mo (moE A (va_up (va_up Z 0 0) 4 (F.length - 1)))) H := hG
        obtain ⟨σ_12, eσ_12⟩ : ∃ zq, zq = gs_up σ_1 mo (moE A (va_up (va_up Z 0 0) 4 (F.length - 1))) := ⟨_, rfl⟩
        rw [← eσ_12] at hG
        have hc_13 : σ_12 (A 2) = some (gs_ia X 12 f2) := by rw [eσ_12]; exact gs_ku (gs_ne hc_2 hc_10 (by simp)) hc_2
        have hc_14 : σ_12 (A 5) = some (gs_ia X 200 f5) := by rw [eσ_12]; exact gs_ku (gs_ne hc_3 hc_10 (by simp)) hc_3
        have hc_15 : σ_12 (A 6) = some (gs_ia X 200 f6) := by rw [eσ_12]; exact gs_ku (gs_ne hc_4 hc_10 (by simp)) hc_4
        have hc_16 : σ_12 (A 8) = some (gs_ia X 320 f8) := by rw [eσ_12]; exact gs_ku (gs_ne hc_5 hc_10 (by simp)) hc_5
        have hc_17 : σ_12 (A 9) = some (gs_ia X 320 f9) := by rw [eσ_12]; exact gs_ku (gs_ne hc_6 hc_10 (by simp)) hc_6
        have hc_18 : σ_12 (A 10) = some (gs_ia X 320 f10) := by rw [eσ_12]; exact gs_ku (gs_ne hc_7 hc_10 (by simp)) hc_7
        have hc_19 : σ_12 (A 11) = some (gs_ia X 320 f11) := by rw [eσ_12]; exact gs_ku (gs_ne hc_8 hc_10 (by simp)) hc_8
        have hc_20 : σ_12 (A 12) = some (gs_la X 49152 g) := by rw [eσ_12]; exact gs_ku (gs_ne hc_9 hc_10 (by simp)) hc_9
        have hc_21 : σ_12 mo = some (moE A (va_up (va_up Z 0 0) 4 (F.length - 1))) := by rw [eσ_12]; exact gs_us
        have fr_22 : frm [mo, A 5, A 6, A 8, A 9, A 10, A 11, A 12] σ σ_12 := by rw [eσ_12]; exact fr_11.up (by simp)
        refine lv_iload hx hb d_MO_drop_72 (lv_at hl 0 rfl) ?_
        refine lv_istore (lv' := [(6, .int (nI (fIx F (rl, a * 4096 + b * 64 + cz)))), (5, .int (nI (fIx F (rl, a * 4096 + b * 64 + cz)))), (0, .ref mo), (1, .int (nI rl)), (2, .int (nI a)), (3, .int (nI b)), (4, .int (nI cz))]) hx hb d_MO_drop_74 hl (by decide) rfl (fun ls hl => ?_)
        exact loop (F.length + 1) (fIx F (rl, a * 4096 + b * 64 + cz)) (va_up (va_up Z 0 0) 4 (F.length - 1)) σ_12 (by omega) (by omega) rfl rfl ((zfr.rf.up (by simp)).up (by simp)) fr_22 (by omega) hc_21 (by rw [shf_0]; exact hc_14) (by rw [shf_0]; exact hc_15) hc_16 hc_17 hc_18 hc_19 hc_20 H locs hG hS ls (lv_sub hl [0, 1, 2, 3, 4, 5, 6] rfl)
      · have c_57 : (fIx F (rl, a * 4096 + b * 64 + cz)) = F.length :=  (nI_eq (by omega) (by omega)).mp c_57
        omega
    · exact absurd c_27 (by decide)
set_option maxHeartbeats 4000000 in
set_option maxRecDepth 100000 in
/-- the reference: has -/
theorem c_MO_has (l : Launch) (X : gs_X) (σ : gs_St) (mo : Nat) (A : Nat → Nat) (cd nr : Nat) (cw : Nat → Nat) (F : List (Nat × Nat)) (T : List MT) (sa rc : Nat) (Q : List MR) (dr : Option MR) (rl a b cz : Nat)
    (hM : moA X σ mo A cd nr cw F T sa rc Q dr) (hrl : rl < nr) (ha : a < 64) (hb9 : b < 64) (hc9 : cz < 64) (hok : wi3 64 (cw rl) (nI a) (nI b) (nI cz) = true) : gs_Mi l X y_MO_has b_MO_has 5 (some .boolean) ({ frames := 1, cells := 0, slots := 0, locals := 27 }) σ [.ref mo, .int (nI rl), .int (nI a), .int (nI b), .int (nI cz)] (fun r σ' => moA X σ' mo A 0 nr cw F T sa rc Q dr ∧ frm (aM mo A) σ σ' ∧ r = bI (decide (262144 * rl + (a * 4096 + b * 64 + cz) ∈ tcs T))) := by
  refine Met.ofW (cc := b_MO_has) (maxL := 5) (ret := (some .boolean)) (by decide) rfl ?_
  intro p e s m args below meth c s₁ B₀ hml hv
  obtain ⟨rfl, hK, hG, hz, hE⟩ := hv
  have hx := B₀.exec
  have hb := B₀.bytes
  have hr := B₀.returns
  have hts := atoms_spec (ws := gs_ws y_MO_has b_MO_has 5 (some .boolean)) B₀.pre
  have ht : ∀ w ∈ gs_w, w.before _ s = true := fun w h => hts w (List.mem_cons_of_mem _ h)
  have hown : s.vm.findClass R_MO = some m.cls := findClass_of_methodNamed B₀.named
  have hlocks := B₀.notSynchronized
  have hA : ∀ q : Nat, s.heap.size ≤ q → gs_A X q := fun q h => Nat.le_trans hz h
  have hS : va_S (gs_A X) s.heap s.heap [] := va_S.rf
  have hl := lv_entry ([.ref mo, .int (nI rl), .int (nI a), .int (nI b), .int (nI cz)]) (n := 5) (Nat.le_of_ble_eq_true rfl)
  rw [lg_entry_eq]
  generalize (lg_sl ([.ref mo, .int (nI rl), .int (nI a), .int (nI b), .int (nI cz)]) ++ List.replicate (5 - (lg_sl ([.ref mo, .int (nI rl), .int (nI a), .int (nI b), .int (nI cz)])).length) Slot.unset).toArray = ls at hl ⊢
  have hl : lv_has ls 5 [(0, .ref mo), (1, .int (nI rl)), (2, .int (nI a)), (3, .int (nI b)), (4, .int (nI cz))] := hl
  obtain ⟨hNN, hnr, hFB, hTB, hrc, ⟨Z, m0, z0, z1, z4, z7, z16, z17, z25, z26⟩, hcol, hfac, htup, hbit, hfnd, hrul, hscr⟩ := id hM
  have hN := hN1 hNN
  have hFl := hFB.1
  have hTl := hTB.1
  obtain ⟨f2, m2, hcw⟩ := id hcol
  obtain ⟨g, m12, hbi⟩ := id hbit
  have fr0 : frm [mo] σ σ := frm.rf
  refine lv_aload_n hx hb d_MO_has_0 rfl (lv_at hl 0 rfl) ?_
  refine lv_aload_n hx hb d_MO_has_1 rfl (lv_at hl 0 rfl) ?_
  refine lv_iload_n hx hb d_MO_has_2 rfl (lv_at hl 1 rfl) ?_
  refine lv_iload_n hx hb d_MO_has_3 rfl (lv_at hl 2 rfl) ?_
  refine lv_iload_n hx hb d_MO_has_4 rfl (lv_at hl 3 rfl) ?_
  refine lv_iload hx hb d_MO_has_5 (lv_at hl 4 rfl) ?_
  refine lv_bipush (v := nI 64) hx hb d_MO_has_7 (by decide) ?_
  refine gs_callVp (As := [.int (nI rl), .int (nI a), .int (nI b), .int (nI cz), .int (nI 64)]) (rest := [.ref mo]) ⟨hx, hb, hml, hown, hts⟩ hK hE hz hG hS (c_MO_fits l X σ mo A Z f2 rl (cw rl) 64 (nI a) (nI b) (nI cz) m0 m2 (show Z 1 ≤ 12 by omega) (show rl < Z 1 by omega) (hcw rl hrl).1 (hcw rl hrl).2.2) ⟨rfl, rfl⟩ mV_MO_fits w_777 m0 rfl rfl hl.1 rfl (Nat.le_of_ble_eq_true rfl) ⟨(by first | decide | omega | (dsimp only [headSpec]; omega)), (by first | decide | omega | (dsimp only [headSpec]; omega))⟩ ⟨(by first | decide | omega | (dsimp only [headSpec]; omega)), (by first | decide | omega | (dsimp only [headSpec]; omega))⟩ d_MO_has_9 (fun r_9 hp_9 => ?_)
  refine gs_top (show r_9 = (bI (wi3 64 (cw rl) (nI a) (nI b) (nI cz))) from hp_9) ?_
  refine lv_if_eq (tgt := 19) hx hb d_MO_has_12 (by decide) (fun c_12 => ?_) (fun c_12 => ?_)
  · exact absurd ((bI_0 c_12).symm.trans hok) (by decide)
  · refine lv_iconst (v := nI 0) hx hb d_MO_has_15 (by decide) ?_
    refine lv_goto (tgt := 20) hx hb d_MO_has_16 (by decide) ?_
    refine gs_put hx hb ht hown hK hG hS k_MO m0 0 (by decide) w_662 rfl rfl rfl (Nat.le_of_ble_eq_true rfl) d_MO_has_20 (fun H locs hG hS => ?_)
    have hG : gs_H X (gs_up σ mo (moE A (va_up Z 0 0))) H := hG
    obtain ⟨σ_1, eσ_1⟩ : ∃ zq, zq = gs_up σ mo (moE A (va_up Z 0 0)) := ⟨_, rfl⟩
    rw [← eσ_1] at hG
    have hc_2 : σ_1 (A 2) = some (gs_ia X 12 f2) := by rw [eσ_1]; exact gs_ku (gs_ne m2 m0 (by simp)) m2
    have hc_3 : σ_1 (A 12) = some (gs_la X 49152 g) := by rw [eσ_1]; exact gs_ku (gs_ne m12 m0 (by simp)) m12
    have hc_4 : σ_1 mo = some (moE A (va_up Z 0 0)) := by rw [eσ_1]; exact gs_us
    have fr_5 : frm [mo] σ σ_1 := by rw [eσ_1]; exact fr0.up (by simp)
    refine lv_aload_n hx hb d_MO_has_23 rfl (lv_at hl 0 rfl) ?_
    refine gs_get (v := .int (nI 0)) hx hb ht hown hK hG k_MO hc_4 0 (by decide) w_662 rfl d_MO_has_24 ?_
    refine lv_if_ne (tgt := 49) hx hb d_MO_has_27 (by decide) (fun c_27 => ?_) (fun c_27 => ?_)
    · exact absurd c_27 (by decide)
    · have c_27 : 0 = 0 := gs_z (by omega) c_27
      refine lv_aload_n hx hb d_MO_has_30 rfl (lv_at hl 0 rfl) ?_
      refine lv_iload_n hx hb d_MO_has_31 rfl (lv_at hl 1 rfl) ?_
      refine lv_iload_n hx hb d_MO_has_32 rfl (lv_at hl 2 rfl) ?_
      refine lv_iload_n hx hb d_MO_has_33 rfl (lv_at hl 3 rfl) ?_
      refine lv_iload hx hb d_MO_has_34 (lv_at hl 4 rfl) ?_
      refine gs_callSp (As := [.int (nI a), .int (nI b), .int (nI cz)]) (rest := [.int (nI rl), .ref mo]) ⟨hx, hb, hml, hown, hts⟩ hK hE hz hG hS (c_MO_number l X σ_1 a b cz) ⟨rfl, rfl⟩ mS_MO_number w_781 rfl hl.1 rfl (Nat.le_of_ble_eq_true rfl) ⟨(by first | decide | omega | (dsimp only [headSpec]; omega)), (by first | decide | omega | (dsimp only [headSpec]; omega))⟩ ⟨(by first | decide | omega | (dsimp only [headSpec]; omega)), (by first | decide | omega | (dsimp only [headSpec]; omega))⟩ d_MO_has_36 (fun r_36 hp_36 => ?_)
      refine gs_top (show r_36 = (nI (a * 4096 + b * 64 + cz)) from hp_36) ?_
      refine gs_callVp (As := [.int (nI rl), .int (nI (a * 4096 + b * 64 + cz))]) (rest := []) ⟨hx, hb, hml, hown, hts⟩ hK hE hz hG hS (c_MO_there l X σ_1 mo A (va_up Z 0 0) g rl (a * 4096 + b * 64 + cz) hc_4 hc_3 (by omega) (nb_lt ha hb9 hc9)) ⟨rfl, rfl⟩ mV_MO_there w_864 hc_4 rfl rfl hl.1 rfl (Nat.le_of_ble_eq_true rfl) ⟨(by first | decide | omega | (dsimp only [headSpec]; omega)), (by first | decide | omega | (dsimp only [headSpec]; omega))⟩ ⟨(by first | decide | omega | (dsimp only [headSpec]; omega)), (by first | decide | omega | (dsimp only [headSpec]; omega))⟩ d_MO_has_39 (fun r_39 hp_39 => ?_)
      refine gs_top (show r_39 = (bI (gB g (262144 * rl + (a * 4096 + b * 64 + cz)))) from hp_39) ?_
      refine lv_if_eq (tgt := 49) hx hb d_MO_has_42 (by decide) (fun c_42 => ?_) (fun c_42 => ?_)
      · refine lv_iconst (v := nI 0) hx hb d_MO_has_49 (by decide) ?_
        exact gs_iret (v := (nI 0)) hx hb hr rfl hK hE hz hG hS hlocks (by first | decide | omega | (dsimp only [headSpec]; omega)) (by first | decide | omega | (dsimp only [headSpec]; omega)) (⟨(hM.num fr_5 ⟨_, hc_4, rfl, z1, z4, z7, z16, z17, z25, z26⟩ hrc), fr_5.wk (by simp), by rw [← hbi]; first | (rw [bI_n0 c_42]; rfl) | (rw [bI_0 c_42]; rfl)⟩) d_MO_has_50
      · refine lv_iconst (v := nI 1) hx hb d_MO_has_45 (by decide) ?_
        refine lv_goto (tgt := 50) hx hb d_MO_has_46 (by decide) ?_
        exact gs_iret (v := (nI 1)) hx hb hr rfl hK hE hz hG hS hlocks (by first | decide | omega | (dsimp only [headSpec]; omega)) (by first | decide | omega | (dsimp only [headSpec]; omega)) (⟨(hM.num fr_5 ⟨_, hc_4, rfl, z1, z4, z7, z16, z17, z25, z26⟩ hrc), fr_5.wk (by simp), by rw [← hbi]; first | (rw [bI_n0 c_42]; rfl) | (rw [bI_0 c_42]; rfl)⟩) d_MO_has_50
set_option maxHeartbeats 4000000 in
set_option maxRecDepth 100000 in
/-- the reference: count  -/
theorem c_MO_count (l : Launch) (X : gs_X) (σ : gs_St) (mo : Nat) (A : Nat → Nat) (cd nr : Nat) (cw : Nat → Nat) (F : List (Nat × Nat)) (T : List MT) (sa rc : Nat) (Q : List MR) (dr : Option MR) (r : Int32)
    (hM : moA X σ mo A cd nr cw F T sa rc Q dr) (hok : wi nr r = true) : gs_Mi l X y_MO_count b_MO_count 4 (some .int) ({ frames := 0, cells := 0, slots := 0, locals := 0 }) σ [.ref mo, .int r] (fun z σ' => moA X σ' mo A 0 nr cw F T sa rc Q dr ∧ frm (aM mo A) σ σ' ∧ z = nI (cnR T r)) := by
  refine Met.ofW (cc := b_MO_count) (maxL := 4) (ret := (some .int)) (by decide) rfl ?_
  intro p e s m args below meth c s₁ B₀ hml hv
  obtain ⟨rfl, hK, hG, hz, hE⟩ := hv
  have hx := B₀.exec
  have hb := B₀.bytes
  have hr := B₀.returns
  have hts := atoms_spec (ws := gs_ws y_MO_count b_MO_count 4 (some .int)) B₀.pre
  have ht : ∀ w ∈ gs_w, w.before _ s = true := fun w h => hts w (List.mem_cons_of_mem _ h)
  have hown : s.vm.findClass R_MO = some m.cls := findClass_of_methodNamed B₀.named
  have hlocks := B₀.notSynchronized
  have hA : ∀ q : Nat, s.heap.size ≤ q → gs_A X q := fun q h => Nat.le_trans hz h
  have hS : va_S (gs_A X) s.heap s.heap [] := va_S.rf
  have hl := lv_entry ([.ref mo, .int r]) (n := 4) (Nat.le_of_ble_eq_true rfl)
  rw [lg_entry_eq]
  generalize (lg_sl ([.ref mo, .int r]) ++ List.replicate (4 - (lg_sl ([.ref mo, .int r])).length) Slot.unset).toArray = ls at hl ⊢
  have hl : lv_has ls 4 [(0, .ref mo), (1, .int r)] := hl
  obtain ⟨hNN, hnr, hFB, hTB, hrc, ⟨Z, m0, z0, z1, z4, z7, z16, z17, z25, z26⟩, hcol, hfac, htup, hbit, hfnd, hrul, hscr⟩ := id hM
  have hN := hN1 hNN
  have hFl := hFB.1
  have hTl := hTB.1
  obtain ⟨f8, f9, f10, f11, m8, m9, m10, m11, hT⟩ := id htup
  have fr0 : frm [mo] σ σ := frm.rf
  have loop : ∀ (fl : Nat) (i : Nat) (σ1 : gs_St), (i ≤ T.length) → (frm [mo] σ σ1) → T.length - i < fl → (σ1 mo = some (moE A (va_up Z 0 0))) → (σ1 (A 8) = some (gs_ia X 320 f8)) → ∀ (H : Heap) (locs : List Loc), gs_H X σ1 H → va_S (gs_A X) s.heap H locs → ∀ ls, lv_has ls 4 [(3, .int (nI i)), (2, .int (nI (cnR (T.take i) r))), (0, .ref mo), (1, .int r)] → W p l e ({ frames := 0, cells := 0, slots := 0, locals := 0 } : Room) s m ([.ref mo, .int r] : List Value).toArray below meth c H locs 0 0 (MQ below (va_Qi (fun z σ' => moA X σ' mo A 0 nr cw F T sa rc Q dr ∧ frm (aM mo A) σ σ' ∧ z = nI (cnR T r)) (gs_U X) (gs_A X)) ([.ref mo, .int r] : List Value).toArray s 0 0 (gs_A X)) (F0 m 25 ls []) := by
    intro fl
    induction fl with
    | zero => intro i σ1 _ _ h9; omega
    | succ fl ih =>
      intro i σ1 hi hf1 hmu y_mo y_8 H locs hG hS ls hl
      refine lv_iload_n hx hb d_MO_count_25 rfl (lv_at hl 0 rfl) ?_
      refine lv_aload_n hx hb d_MO_count_26 rfl (lv_at hl 2 rfl) ?_
      refine gs_get (v := .int (nI (Z 7))) hx hb ht hown hK hG k_MO y_mo 7 (by decide) w_669 rfl d_MO_count_27 ?_
      refine gs_top (show nI (Z 7) = nI T.length from congrArg nI (show Z 7 = T.length from z7)) ?_
      refine lv_icmp_ge (tgt := 57) hx hb d_MO_count_30 (by decide) (fun c_30 => ?_) (fun c_30 => ?_)
      · have c_30 : T.length ≤ i := (nI_leI (by omega) (by omega)).mp c_30
        refine lv_aload_n hx hb d_MO_count_57 rfl (lv_at hl 2 rfl) ?_
        refine gs_get (v := .int (nI 0)) hx hb ht hown hK hG k_MO y_mo 0 (by decide) w_662 rfl d_MO_count_58 ?_
        refine lv_if_le (tgt := 68) hx hb d_MO_count_61 (by decide) (fun c_61 => ?_) (fun c_61 => ?_)
        · have c_61 : 0 = 0 := by have := gs_le0 (a := 0) (by omega); exact this.mp c_61
          refine lv_iload_n hx hb d_MO_count_68 rfl (lv_at hl 1 rfl) ?_
          have hie : i = T.length := by omega
          
          exact gs_iret (v := (nI (cnR (T.take i) r))) hx hb hr rfl hK hE hz hG hS hlocks (by first | decide | omega | (dsimp only [headSpec]; omega)) (by first | decide | omega | (dsimp only [headSpec]; omega)) (⟨(hM.num hf1 ⟨_, y_mo, rfl, z1, z4, z7, z16, z17, z25, z26⟩ hrc), hf1.wk (by simp), by rw [hie, List.take_length]⟩) d_MO_count_69
        · exact absurd c_61 (by decide)
      · have c_30 : ¬ T.length ≤ i := mt (nI_leI (by omega) (by omega)).mpr c_30
        have hiT : i < T.length := by omega
        obtain ⟨x, hx9⟩ := get_ex (L := T) (j := i) hiT
        obtain ⟨hx1, _, _, _⟩ := hT _ _ hx9
        have hcs := cnR_snoc (r := r) hx9
        refine lv_iload_n hx hb d_MO_count_33 rfl (lv_at hl 1 rfl) ?_
        refine lv_aload_n hx hb d_MO_count_34 rfl (lv_at hl 2 rfl) ?_
        refine gs_get (v := .ref (A 8)) hx hb ht hown hK hG k_MO y_mo 8 (by decide) w_670 rfl d_MO_count_35 ?_
        refine lv_iload_n hx hb d_MO_count_38 rfl (lv_at hl 0 rfl) ?_
        refine gs_iald hx hb hK hG y_8 (j := i) (by omega) (by omega) d_MO_count_39 ?_
        refine gs_top (show (f8 i) = (nI x.1) from hx1) ?_
        refine lv_iload_n hx hb d_MO_count_40 rfl (lv_at hl 3 rfl) ?_
        refine lv_icmp_ne (tgt := 48) hx hb d_MO_count_41 (by decide) (fun c_41 => ?_) (fun c_41 => ?_)
        · refine lv_iconst (v := nI 0) hx hb d_MO_count_48 (by decide) ?_
          refine lv_iadd hx hb d_MO_count_49 ?_
          refine gs_top (nI_add (cnR (T.take i) r) 0) ?_
          refine lv_istore_n (lv' := [(2, .int (nI ((cnR (T.take i) r) + 0))), (3, .int (nI i)), (0, .ref mo), (1, .int r)]) hx hb d_MO_count_50 rfl hl (by decide) rfl (fun ls hl => ?_)
          refine lv_iinc (v := (nI (i + 1))) (lv' := [(3, .int (nI (i + 1))), (2, .int (nI ((cnR (T.take i) r) + 0))), (0, .ref mo), (1, .int r)]) hx hb d_MO_count_51 hl (k := 1) rfl (by exact nI_1 _) (by decide) rfl (fun ls hl => ?_)
          refine lv_goto (tgt := 25) hx hb d_MO_count_54 (by decide) ?_
          exact ih (i + 1) σ1 (by omega) hf1 (by omega) y_mo y_8 H locs hG hS ls (by rw [show cnR (T.take (i + 1)) r = (cnR (T.take i) r) + 0 from by rw [hcs]; first | rw [if_pos c_41] | rw [if_neg c_41]]; exact (lv_sub hl [0, 1, 2, 3] rfl))
        · refine lv_iconst (v := nI 1) hx hb d_MO_count_44 (by decide) ?_
          refine lv_goto (tgt := 49) hx hb d_MO_count_45 (by decide) ?_
          refine lv_iadd hx hb d_MO_count_49 ?_
          refine gs_top (nI_add (cnR (T.take i) r) 1) ?_
          refine lv_istore_n (lv' := [(2, .int (nI ((cnR (T.take i) r) + 1))), (3, .int (nI i)), (0, .ref mo), (1, .int r)]) hx hb d_MO_count_50 rfl hl (by decide) rfl (fun ls hl => ?_)
          refine lv_iinc (v := (nI (i + 1))) (lv' := [(3, .int (nI (i + 1))), (2, .int (nI ((cnR (T.take i) r) + 1))), (0, .ref mo), (1, .int r)]) hx hb d_MO_count_51 hl (k := 1) rfl (by exact nI_1 _) (by decide) rfl (fun ls hl => ?_)
          refine lv_goto (tgt := 25) hx hb d_MO_count_54 (by decide) ?_
          exact ih (i + 1) σ1 (by omega) hf1 (by omega) y_mo y_8 H locs hG hS ls (by rw [show cnR (T.take (i + 1)) r = (cnR (T.take i) r) + 1 from by rw [hcs]; first | rw [if_pos c_41] | rw [if_neg c_41]]; exact (lv_sub hl [0, 1, 2, 3] rfl))
  refine lv_aload_n hx hb d_MO_count_0 rfl (lv_at hl 0 rfl) ?_
  refine lv_iload_n hx hb d_MO_count_1 rfl (lv_at hl 1 rfl) ?_
  refine lv_if_lt (tgt := 13) hx hb d_MO_count_2 (by decide) (fun c_2 => ?_) (fun c_2 => ?_)
  · exact absurd hok (by first | (rw [wi_neg c_2]; decide) | (rw [wi_ge (Int32.not_lt.mp c_10)]; decide))
  · refine lv_iload_n hx hb d_MO_count_5 rfl (lv_at hl 1 rfl) ?_
    refine lv_aload_n hx hb d_MO_count_6 rfl (lv_at hl 0 rfl) ?_
    refine gs_get (v := .int (nI (Z 1))) hx hb ht hown hK hG k_MO m0 1 (by decide) w_663 rfl d_MO_count_7 ?_
    refine gs_top (show nI (Z 1) = nI nr from congrArg nI (show Z 1 = nr from z1)) ?_
    refine lv_icmp_lt (tgt := 17) hx hb d_MO_count_10 (by decide) (fun c_10 => ?_) (fun c_10 => ?_)
    · refine lv_iconst (v := nI 0) hx hb d_MO_count_17 (by decide) ?_
      refine gs_put hx hb ht hown hK hG hS k_MO m0 0 (by decide) w_662 rfl rfl rfl (Nat.le_of_ble_eq_true rfl) d_MO_count_18 (fun H locs hG hS => ?_)
      have hG : gs_H X (gs_up σ mo (moE A (va_up Z 0 0))) H := hG
      obtain ⟨σ_1, eσ_1⟩ : ∃ zq, zq = gs_up σ mo (moE A (va_up Z 0 0)) := ⟨_, rfl⟩
      rw [← eσ_1] at hG
      have hc_2 : σ_1 (A 8) = some (gs_ia X 320 f8) := by rw [eσ_1]; exact gs_ku (gs_ne m8 m0 (by simp)) m8
      have hc_3 : σ_1 mo = some (moE A (va_up Z 0 0)) := by rw [eσ_1]; exact gs_us
      have fr_4 : frm [mo] σ σ_1 := by rw [eσ_1]; exact fr0.up (by simp)
      refine lv_iconst (v := nI 0) hx hb d_MO_count_21 (by decide) ?_
      refine lv_istore_n (lv' := [(2, .int (nI 0)), (0, .ref mo), (1, .int r)]) hx hb d_MO_count_22 rfl hl (by decide) rfl (fun ls hl => ?_)
      refine lv_iconst (v := nI 0) hx hb d_MO_count_23 (by decide) ?_
      refine lv_istore_n (lv' := [(3, .int (nI 0)), (2, .int (nI 0)), (0, .ref mo), (1, .int r)]) hx hb d_MO_count_24 rfl hl (by decide) rfl (fun ls hl => ?_)
      exact loop (T.length + 1) 0 σ_1 (by omega) fr_4 (by omega) hc_3 hc_2 H locs hG hS ls (lv_sub hl [0, 1, 2, 3] rfl)
    · exact absurd hok (by first | (rw [wi_neg c_2]; decide) | (rw [wi_ge (Int32.not_lt.mp c_10)]; decide))
set_option maxHeartbeats 4000000 in
set_option maxRecDepth 100000 in
/-- the reference: count _r -/
theorem c_MO_count_r (l : Launch) (X : gs_X) (σ : gs_St) (mo : Nat) (A : Nat → Nat) (cd nr : Nat) (cw : Nat → Nat) (F : List (Nat × Nat)) (T : List MT) (sa rc : Nat) (Q : List MR) (dr : Option MR) (r : Int32)
    (hM : moA X σ mo A cd nr cw F T sa rc Q dr) (hok : wi nr r = false) : gs_Mi l X y_MO_count b_MO_count 4 (some .int) ({ frames := 0, cells := 0, slots := 0, locals := 0 }) σ [.ref mo, .int r] (fun z σ' => moA X σ' mo A 1 nr cw F T sa rc Q dr ∧ frm (aM mo A) σ σ' ∧ z = nI (0)) := by
  refine Met.ofW (cc := b_MO_count) (maxL := 4) (ret := (some .int)) (by decide) rfl ?_
  intro p e s m args below meth c s₁ B₀ hml hv
  obtain ⟨rfl, hK, hG, hz, hE⟩ := hv
  have hx := B₀.exec
  have hb := B₀.bytes
  have hr := B₀.returns
  have hts := atoms_spec (ws := gs_ws y_MO_count b_MO_count 4 (some .int)) B₀.pre
  have ht : ∀ w ∈ gs_w, w.before _ s = true := fun w h => hts w (List.mem_cons_of_mem _ h)
  have hown : s.vm.findClass R_MO = some m.cls := findClass_of_methodNamed B₀.named
  have hlocks := B₀.notSynchronized
  have hA : ∀ q : Nat, s.heap.size ≤ q → gs_A X q := fun q h => Nat.le_trans hz h
  have hS : va_S (gs_A X) s.heap s.heap [] := va_S.rf
  have hl := lv_entry ([.ref mo, .int r]) (n := 4) (Nat.le_of_ble_eq_true rfl)
  rw [lg_entry_eq]
  generalize (lg_sl ([.ref mo, .int r]) ++ List.replicate (4 - (lg_sl ([.ref mo, .int r])).length) Slot.unset).toArray = ls at hl ⊢
  have hl : lv_has ls 4 [(0, .ref mo), (1, .int r)] := hl
  obtain ⟨hNN, hnr, hFB, hTB, hrc, ⟨Z, m0, z0, z1, z4, z7, z16, z17, z25, z26⟩, hcol, hfac, htup, hbit, hfnd, hrul, hscr⟩ := id hM
  have hN := hN1 hNN
  have hFl := hFB.1
  have hTl := hTB.1
  obtain ⟨f8, f9, f10, f11, m8, m9, m10, m11, hT⟩ := id htup
  have fr0 : frm [mo] σ σ := frm.rf
  have loop : ∀ (fl : Nat) (i : Nat) (σ1 : gs_St), (i ≤ T.length) → (frm [mo] σ σ1) → T.length - i < fl → (σ1 mo = some (moE A (va_up Z 0 1))) → (σ1 (A 8) = some (gs_ia X 320 f8)) → ∀ (H : Heap) (locs : List Loc), gs_H X σ1 H → va_S (gs_A X) s.heap H locs → ∀ ls, lv_has ls 4 [(3, .int (nI i)), (2, .int (nI (cnR (T.take i) r))), (0, .ref mo), (1, .int r)] → W p l e ({ frames := 0, cells := 0, slots := 0, locals := 0 } : Room) s m ([.ref mo, .int r] : List Value).toArray below meth c H locs 0 0 (MQ below (va_Qi (fun z σ' => moA X σ' mo A 1 nr cw F T sa rc Q dr ∧ frm (aM mo A) σ σ' ∧ z = nI (0)) (gs_U X) (gs_A X)) ([.ref mo, .int r] : List Value).toArray s 0 0 (gs_A X)) (F0 m 25 ls []) := by
    intro fl
    induction fl with
    | zero => intro i σ1 _ _ h9; omega
    | succ fl ih =>
      intro i σ1 hi hf1 hmu y_mo y_8 H locs hG hS ls hl
      refine lv_iload_n hx hb d_MO_count_25 rfl (lv_at hl 0 rfl) ?_
      refine lv_aload_n hx hb d_MO_count_26 rfl (lv_at hl 2 rfl) ?_
      refine gs_get (v := .int (nI (Z 7))) hx hb ht hown hK hG k_MO y_mo 7 (by decide) w_669 rfl d_MO_count_27 ?_
      refine gs_top (show nI (Z 7) = nI T.length from congrArg nI (show Z 7 = T.length from z7)) ?_
      refine lv_icmp_ge (tgt := 57) hx hb d_MO_count_30 (by decide) (fun c_30 => ?_) (fun c_30 => ?_)
      · have c_30 : T.length ≤ i := (nI_leI (by omega) (by omega)).mp c_30
        refine lv_aload_n hx hb d_MO_count_57 rfl (lv_at hl 2 rfl) ?_
        refine gs_get (v := .int (nI 1)) hx hb ht hown hK hG k_MO y_mo 0 (by decide) w_662 rfl d_MO_count_58 ?_
        refine lv_if_le (tgt := 68) hx hb d_MO_count_61 (by decide) (fun c_61 => ?_) (fun c_61 => ?_)
        · exact absurd c_61 (by decide)
        · have c_61 : 0 < 1 := by have := gs_le0 (a := 1) (by omega); have h9 := mt this.mpr c_61; omega
          refine lv_iconst (v := nI 0) hx hb d_MO_count_64 (by decide) ?_
          refine lv_goto (tgt := 69) hx hb d_MO_count_65 (by decide) ?_
          have hie : i = T.length := by omega
          
          exact gs_iret (v := (nI 0)) hx hb hr rfl hK hE hz hG hS hlocks (by first | decide | omega | (dsimp only [headSpec]; omega)) (by first | decide | omega | (dsimp only [headSpec]; omega)) (⟨(hM.num hf1 ⟨_, y_mo, rfl, z1, z4, z7, z16, z17, z25, z26⟩ hrc), hf1.wk (by simp), rfl⟩) d_MO_count_69
      · have c_30 : ¬ T.length ≤ i := mt (nI_leI (by omega) (by omega)).mpr c_30
        have hiT : i < T.length := by omega
        obtain ⟨x, hx9⟩ := get_ex (L := T) (j := i) hiT
        obtain ⟨hx1, _, _, _⟩ := hT _ _ hx9
        have hcs := cnR_snoc (r := r) hx9
        refine lv_iload_n hx hb d_MO_count_33 rfl (lv_at hl 1 rfl) ?_
        refine lv_aload_n hx hb d_MO_count_34 rfl (lv_at hl 2 rfl) ?_
        refine gs_get (v := .ref (A 8)) hx hb ht hown hK hG k_MO y_mo 8 (by decide) w_670 rfl d_MO_count_35 ?_
        refine lv_iload_n hx hb d_MO_count_38 rfl (lv_at hl 0 rfl) ?_
        refine gs_iald hx hb hK hG y_8 (j := i) (by omega) (by omega) d_MO_count_39 ?_
        refine gs_top (show (f8 i) = (nI x.1) from hx1) ?_
        refine lv_iload_n hx hb d_MO_count_40 rfl (lv_at hl 3 rfl) ?_
        refine lv_icmp_ne (tgt := 48) hx hb d_MO_count_41 (by decide) (fun c_41 => ?_) (fun c_41 => ?_)
        · refine lv_iconst (v := nI 0) hx hb d_MO_count_48 (by decide) ?_
          refine lv_iadd hx hb d_MO_count_49 ?_
          refine gs_top (nI_add (cnR (T.take i) r) 0) ?_
          refine lv_istore_n (lv' := [(2, .int (nI ((cnR (T.take i) r) + 0))), (3, .int (nI i)), (0, .ref mo), (1, .int r)]) hx hb d_MO_count_50 rfl hl (by decide) rfl (fun ls hl => ?_)
          refine lv_iinc (v := (nI (i + 1))) (lv' := [(3, .int (nI (i + 1))), (2, .int (nI ((cnR (T.take i) r) + 0))), (0, .ref mo), (1, .int r)]) hx hb d_MO_count_51 hl (k := 1) rfl (by exact nI_1 _) (by decide) rfl (fun ls hl => ?_)
          refine lv_goto (tgt := 25) hx hb d_MO_count_54 (by decide) ?_
          exact ih (i + 1) σ1 (by omega) hf1 (by omega) y_mo y_8 H locs hG hS ls (by rw [show cnR (T.take (i + 1)) r = (cnR (T.take i) r) + 0 from by rw [hcs]; first | rw [if_pos c_41] | rw [if_neg c_41]]; exact (lv_sub hl [0, 1, 2, 3] rfl))
        · refine lv_iconst (v := nI 1) hx hb d_MO_count_44 (by decide) ?_
          refine lv_goto (tgt := 49) hx hb d_MO_count_45 (by decide) ?_
          refine lv_iadd hx hb d_MO_count_49 ?_
          refine gs_top (nI_add (cnR (T.take i) r) 1) ?_
          refine lv_istore_n (lv' := [(2, .int (nI ((cnR (T.take i) r) + 1))), (3, .int (nI i)), (0, .ref mo), (1, .int r)]) hx hb d_MO_count_50 rfl hl (by decide) rfl (fun ls hl => ?_)
          refine lv_iinc (v := (nI (i + 1))) (lv' := [(3, .int (nI (i + 1))), (2, .int (nI ((cnR (T.take i) r) + 1))), (0, .ref mo), (1, .int r)]) hx hb d_MO_count_51 hl (k := 1) rfl (by exact nI_1 _) (by decide) rfl (fun ls hl => ?_)
          refine lv_goto (tgt := 25) hx hb d_MO_count_54 (by decide) ?_
          exact ih (i + 1) σ1 (by omega) hf1 (by omega) y_mo y_8 H locs hG hS ls (by rw [show cnR (T.take (i + 1)) r = (cnR (T.take i) r) + 1 from by rw [hcs]; first | rw [if_pos c_41] | rw [if_neg c_41]]; exact (lv_sub hl [0, 1, 2, 3] rfl))
  refine lv_aload_n hx hb d_MO_count_0 rfl (lv_at hl 0 rfl) ?_
  refine lv_iload_n hx hb d_MO_count_1 rfl (lv_at hl 1 rfl) ?_
  refine lv_if_lt (tgt := 13) hx hb d_MO_count_2 (by decide) (fun c_2 => ?_) (fun c_2 => ?_)
  · refine lv_iconst (v := nI 1) hx hb d_MO_count_13 (by decide) ?_
    refine lv_goto (tgt := 18) hx hb d_MO_count_14 (by decide) ?_
    refine gs_put hx hb ht hown hK hG hS k_MO m0 0 (by decide) w_662 rfl rfl rfl (Nat.le_of_ble_eq_true rfl) d_MO_count_18 (fun H locs hG hS => ?_)
    have hG : gs_H X (gs_up σ mo (moE A (va_up Z 0 1))) H := hG
    obtain ⟨σ_1, eσ_1⟩ : ∃ zq, zq = gs_up σ mo (moE A (va_up Z 0 1)) := ⟨_, rfl⟩
    rw [← eσ_1] at hG
    have hc_2 : σ_1 (A 8) = some (gs_ia X 320 f8) := by rw [eσ_1]; exact gs_ku (gs_ne m8 m0 (by simp)) m8
    have hc_3 : σ_1 mo = some (moE A (va_up Z 0 1)) := by rw [eσ_1]; exact gs_us
    have fr_4 : frm [mo] σ σ_1 := by rw [eσ_1]; exact fr0.up (by simp)
    refine lv_iconst (v := nI 0) hx hb d_MO_count_21 (by decide) ?_
    refine lv_istore_n (lv' := [(2, .int (nI 0)), (0, .ref mo), (1, .int r)]) hx hb d_MO_count_22 rfl hl (by decide) rfl (fun ls hl => ?_)
    refine lv_iconst (v := nI 0) hx hb d_MO_count_23 (by decide) ?_
    refine lv_istore_n (lv' := [(3, .int (nI 0)), (2, .int (nI 0)), (0, .ref mo), (1, .int r)]) hx hb d_MO_count_24 rfl hl (by decide) rfl (fun ls hl => ?_)
    exact loop (T.length + 1) 0 σ_1 (by omega) fr_4 (by omega) hc_3 hc_2 H locs hG hS ls (lv_sub hl [0, 1, 2, 3] rfl)
  · refine lv_iload_n hx hb d_MO_count_5 rfl (lv_at hl 1 rfl) ?_
    refine lv_aload_n hx hb d_MO_count_6 rfl (lv_at hl 0 rfl) ?_
    refine gs_get (v := .int (nI (Z 1))) hx hb ht hown hK hG k_MO m0 1 (by decide) w_663 rfl d_MO_count_7 ?_
    refine gs_top (show nI (Z 1) = nI nr from congrArg nI (show Z 1 = nr from z1)) ?_
    refine lv_icmp_lt (tgt := 17) hx hb d_MO_count_10 (by decide) (fun c_10 => ?_) (fun c_10 => ?_)
    · exact absurd hok (by unfold wi; rw [decide_eq_false c_2, decide_eq_true c_10]; decide)
    · refine lv_iconst (v := nI 1) hx hb d_MO_count_13 (by decide) ?_
      refine lv_goto (tgt := 18) hx hb d_MO_count_14 (by decide) ?_
      refine gs_put hx hb ht hown hK hG hS k_MO m0 0 (by decide) w_662 rfl rfl rfl (Nat.le_of_ble_eq_true rfl) d_MO_count_18 (fun H locs hG hS => ?_)
      have hG : gs_H X (gs_up σ mo (moE A (va_up Z 0 1))) H := hG
      obtain ⟨σ_5, eσ_5⟩ : ∃ zq, zq = gs_up σ mo (moE A (va_up Z 0 1)) := ⟨_, rfl⟩
      rw [← eσ_5] at hG
      have hc_6 : σ_5 (A 8) = some (gs_ia X 320 f8) := by rw [eσ_5]; exact gs_ku (gs_ne m8 m0 (by simp)) m8
      have hc_7 : σ_5 mo = some (moE A (va_up Z 0 1)) := by rw [eσ_5]; exact gs_us
      have fr_8 : frm [mo] σ σ_5 := by rw [eσ_5]; exact fr0.up (by simp)
      refine lv_iconst (v := nI 0) hx hb d_MO_count_21 (by decide) ?_
      refine lv_istore_n (lv' := [(2, .int (nI 0)), (0, .ref mo), (1, .int r)]) hx hb d_MO_count_22 rfl hl (by decide) rfl (fun ls hl => ?_)
      refine lv_iconst (v := nI 0) hx hb d_MO_count_23 (by decide) ?_
      refine lv_istore_n (lv' := [(3, .int (nI 0)), (2, .int (nI 0)), (0, .ref mo), (1, .int r)]) hx hb d_MO_count_24 rfl hl (by decide) rfl (fun ls hl => ?_)
      exact loop (T.length + 1) 0 σ_5 (by omega) fr_8 (by omega) hc_7 hc_6 H locs hG hS ls (lv_sub hl [0, 1, 2, 3] rfl)
