set_option maxHeartbeats 4000000 in
set_option maxRecDepth 100000 in
/-- the reference: head of no terms -/
theorem c_MO_head_t (l : Launch) (X : gs_X) (σ : gs_St) (mo : Nat) (A : Nat → Nat) (cd nr : Nat) (cw : Nat → Nat) (F : List (Nat × Nat)) (T : List MT) (sa rc : Nat) (Q : List MR) (dr : Option MR) (r x y z : Int32)
    (hM : moA X σ mo A cd nr cw F T sa rc Q dr) (hok : fitR nr cw 72 r x y z = false) : gs_Mv l X y_MO_head b_MO_head 5 ({ frames := 1, cells := 0, slots := 0, locals := 27 }) σ [.ref mo, .int r, .int x, .int y, .int z] (fun σ' => moA X σ' mo A 1 nr cw F T sa rc Q dr ∧ frm (aM mo A) σ σ') := by
  refine Met.ofW (cc := b_MO_head) (maxL := 5) (ret := none) (by decide) rfl ?_
  intro p e s m args below meth c s₁ B₀ hml hv
  obtain ⟨rfl, hK, hG, hz, hE⟩ := hv
  have hx := B₀.exec
  have hb := B₀.bytes
  have hr := B₀.returns
  have hts := atoms_spec (ws := gs_ws y_MO_head b_MO_head 5 none) B₀.pre
  have ht : ∀ w ∈ gs_w, w.before _ s = true := fun w h => hts w (List.mem_cons_of_mem _ h)
  have hown : s.vm.findClass R_MO = some m.cls := findClass_of_methodNamed B₀.named
  have hlocks := B₀.notSynchronized
  have hA : ∀ q : Nat, s.heap.size ≤ q → gs_A X q := fun q h => Nat.le_trans hz h
  have hS : va_S (gs_A X) s.heap s.heap [] := va_S.rf
  have hl := lv_entry ([.ref mo, .int r, .int x, .int y, .int z]) (n := 5) (Nat.le_of_ble_eq_true rfl)
  rw [lg_entry_eq]
  generalize (lg_sl ([.ref mo, .int r, .int x, .int y, .int z]) ++ List.replicate (5 - (lg_sl ([.ref mo, .int r, .int x, .int y, .int z])).length) Slot.unset).toArray = ls at hl ⊢
  have hl : lv_has ls 5 [(0, .ref mo), (1, .int r), (2, .int x), (3, .int y), (4, .int z)] := hl
  obtain ⟨hNN, hnr, hFB, hTB, hrc, ⟨Z, m0, z0, z1, z4, z7, z16, z17, z25, z26⟩, hcol, hfac, htup, hbit, hfnd, hrul, hscr⟩ := id hM
  have hN := hN1 hNN
  have hFl := hFB.1
  have hTl := hTB.1
  obtain ⟨f2, m2, hcw⟩ := id hcol
  have fr0 : frm [mo] σ σ := frm.rf
  refine lv_aload_n hx hb d_MO_head_0 rfl (lv_at hl 0 rfl) ?_
  refine lv_aload_n hx hb d_MO_head_1 rfl (lv_at hl 0 rfl) ?_
  refine lv_iload_n hx hb d_MO_head_2 rfl (lv_at hl 1 rfl) ?_
  refine lv_iload_n hx hb d_MO_head_3 rfl (lv_at hl 2 rfl) ?_
  refine lv_iload_n hx hb d_MO_head_4 rfl (lv_at hl 3 rfl) ?_
  refine lv_iload hx hb d_MO_head_5 (lv_at hl 4 rfl) ?_
  refine lv_bipush (v := nI 72) hx hb d_MO_head_7 (by decide) ?_
  refine gs_callVp (As := [.int r, .int x, .int y, .int z, .int (nI 72)]) (rest := [.ref mo]) ⟨hx, hb, hml, hown, hts⟩ hK hE hz hG hS (c_MO_fitsU l X σ mo A Z f2 nr cw 72 r x y z m0 m2 z1 hnr hcw) ⟨rfl, rfl⟩ mV_MO_fits w_777 m0 rfl rfl hl.1 rfl (Nat.le_of_ble_eq_true rfl) ⟨(by first | decide | omega | (dsimp only [headSpec]; omega)), (by first | decide | omega | (dsimp only [headSpec]; omega))⟩ ⟨(by first | decide | omega | (dsimp only [headSpec]; omega)), (by first | decide | omega | (dsimp only [headSpec]; omega))⟩ d_MO_head_9 (fun r_9 hp_9 => ?_)
  refine gs_top (show r_9 = (bI (fitR nr cw 72 r x y z)) from hp_9) ?_
  refine lv_if_eq (tgt := 19) hx hb d_MO_head_12 (by decide) (fun c_12 => ?_) (fun c_12 => ?_)
  · refine lv_iconst (v := nI 1) hx hb d_MO_head_19 (by decide) ?_
    refine gs_put hx hb ht hown hK hG hS k_MO m0 0 (by decide) w_662 rfl rfl rfl (Nat.le_of_ble_eq_true rfl) d_MO_head_20 (fun H locs hG hS => ?_)
    have hG : gs_H X (gs_up σ mo (moE A (va_up Z 0 1))) H := hG
    obtain ⟨σ_1, eσ_1⟩ : ∃ zq, zq = gs_up σ mo (moE A (va_up Z 0 1)) := ⟨_, rfl⟩
    rw [← eσ_1] at hG
    have hc_2 : σ_1 (A 2) = some (gs_ia X 12 f2) := by rw [eσ_1]; exact gs_ku (gs_ne m2 m0 (by simp)) m2
    have hc_3 : σ_1 mo = some (moE A (va_up Z 0 1)) := by rw [eσ_1]; exact gs_us
    have fr_4 : frm [mo] σ σ_1 := by rw [eσ_1]; exact fr0.up (by simp)
    refine lv_aload_n hx hb d_MO_head_23 rfl (lv_at hl 0 rfl) ?_
    refine gs_get (v := .int (nI 1)) hx hb ht hown hK hG k_MO hc_3 0 (by decide) w_662 rfl d_MO_head_24 ?_
    refine lv_if_ne (tgt := 76) hx hb d_MO_head_27 (by decide) (fun c_27 => ?_) (fun c_27 => ?_)
    · have c_27 : ¬ 1 = 0 := gs_zn (by omega) c_27
      exact gs_vret hx hb hr hK hE hz hG hS hlocks (by first | decide | omega | (dsimp only [headSpec]; omega)) (by first | decide | omega | (dsimp only [headSpec]; omega)) (⟨(hM.num fr_4 ⟨_, hc_3, rfl, z1, z4, z7, z16, z17, z25, z26⟩ hrc), fr_4.wk (by simp)⟩) d_MO_head_76
    · exact absurd c_27 (by decide)
  · exact absurd ((bI_n0 c_12).symm.trans hok) (by decide)
set_option maxHeartbeats 4000000 in
set_option maxRecDepth 100000 in
/-- the reference: head -/
theorem c_MO_head (l : Launch) (X : gs_X) (σ : gs_St) (mo : Nat) (A : Nat → Nat) (cd nr : Nat) (cw : Nat → Nat) (F : List (Nat × Nat)) (T : List MT) (sa rc : Nat) (Q : List MR) (dr : Option MR) (rl a b cz : Nat)
    (hM : moA X σ mo A cd nr cw F T sa rc Q dr) (hrl : rl < nr) (ha : a < 72) (hb9 : b < 72) (hc9 : cz < 72) (hok : wi3 72 (cw rl) (nI a) (nI b) (nI cz) = true) : gs_Mv l X y_MO_head b_MO_head 5 ({ frames := 1, cells := 0, slots := 0, locals := 27 }) σ [.ref mo, .int (nI rl), .int (nI a), .int (nI b), .int (nI cz)] (fun σ' => moA X σ' mo A 0 nr cw F T sa rc Q (some ((rl, a, b, cz), [])) ∧ frm (aM mo A) σ σ') := by
  refine Met.ofW (cc := b_MO_head) (maxL := 5) (ret := none) (by decide) rfl ?_
  intro p e s m args below meth c s₁ B₀ hml hv
  obtain ⟨rfl, hK, hG, hz, hE⟩ := hv
  have hx := B₀.exec
  have hb := B₀.bytes
  have hr := B₀.returns
  have hts := atoms_spec (ws := gs_ws y_MO_head b_MO_head 5 none) B₀.pre
  have ht : ∀ w ∈ gs_w, w.before _ s = true := fun w h => hts w (List.mem_cons_of_mem _ h)
  have hown : s.vm.findClass R_MO = some m.cls := findClass_of_methodNamed B₀.named
  have hlocks := B₀.notSynchronized
  have hA : ∀ q : Nat, s.heap.size ≤ q → gs_A X q := fun q h => Nat.le_trans hz h
  have hS : va_S (gs_A X) s.heap s.heap [] := va_S.rf
  have hl := lv_entry ([.ref mo, .int (nI rl), .int (nI a), .int (nI b), .int (nI cz)]) (n := 5) (Nat.le_of_ble_eq_true rfl)
  rw [lg_entry_eq]
  generalize (lg_sl ([.ref mo, .int (nI rl), .int (nI a), .int (nI b), .int (nI cz)]) ++ List.replicate (5 - (lg_sl ([.ref mo, .int (nI rl), .int (nI a), .int (nI b), .int (nI cz)])).length) Slot.unset).toArray = ls at hl ⊢
  have hl : lv_has ls 5 [(0, .ref mo), (1, .int (nI rl)), (2, .int (nI a)), (3, .int (nI b)), (4, .int (nI cz))] := hl
  obtain ⟨hNN, hnr, hFB, hTB, hrc, ⟨Z, m0, z0, z1, z4, z7, z16, z17, z25, z26⟩, hcol, hfac, htup, hbit, hfnd, hrul, hscr⟩ := id hM
  have hN := hN1 hNN
  have hFl := hFB.1
  have hTl := hTB.1
  obtain ⟨f2, m2, hcw⟩ := id hcol
  obtain ⟨f18, f19, f20, f21, f22, f23, m18, m19, m20, m21, m22, m23, hQl, hQ, hdr⟩ := id hrul
  have fr0 : frm [mo, A 18, A 19, A 20] σ σ := frm.rf
  refine lv_aload_n hx hb d_MO_head_0 rfl (lv_at hl 0 rfl) ?_
  refine lv_aload_n hx hb d_MO_head_1 rfl (lv_at hl 0 rfl) ?_
  refine lv_iload_n hx hb d_MO_head_2 rfl (lv_at hl 1 rfl) ?_
  refine lv_iload_n hx hb d_MO_head_3 rfl (lv_at hl 2 rfl) ?_
  refine lv_iload_n hx hb d_MO_head_4 rfl (lv_at hl 3 rfl) ?_
  refine lv_iload hx hb d_MO_head_5 (lv_at hl 4 rfl) ?_
  refine lv_bipush (v := nI 72) hx hb d_MO_head_7 (by decide) ?_
  refine gs_callVp (As := [.int (nI rl), .int (nI a), .int (nI b), .int (nI cz), .int (nI 72)]) (rest := [.ref mo]) ⟨hx, hb, hml, hown, hts⟩ hK hE hz hG hS (c_MO_fits l X σ mo A Z f2 rl (cw rl) 72 (nI a) (nI b) (nI cz) m0 m2 (show Z 1 ≤ 12 by omega) (show rl < Z 1 by omega) (hcw rl hrl).1 (hcw rl hrl).2.2) ⟨rfl, rfl⟩ mV_MO_fits w_777 m0 rfl rfl hl.1 rfl (Nat.le_of_ble_eq_true rfl) ⟨(by first | decide | omega | (dsimp only [headSpec]; omega)), (by first | decide | omega | (dsimp only [headSpec]; omega))⟩ ⟨(by first | decide | omega | (dsimp only [headSpec]; omega)), (by first | decide | omega | (dsimp only [headSpec]; omega))⟩ d_MO_head_9 (fun r_9 hp_9 => ?_)
  refine gs_top (show r_9 = (bI (wi3 72 (cw rl) (nI a) (nI b) (nI cz))) from hp_9) ?_
  refine lv_if_eq (tgt := 19) hx hb d_MO_head_12 (by decide) (fun c_12 => ?_) (fun c_12 => ?_)
  · exact absurd ((bI_0 c_12).symm.trans hok) (by decide)
  · refine lv_iconst (v := nI 0) hx hb d_MO_head_15 (by decide) ?_
    refine lv_goto (tgt := 20) hx hb d_MO_head_16 (by decide) ?_
    refine gs_put hx hb ht hown hK hG hS k_MO m0 0 (by decide) w_662 rfl rfl rfl (Nat.le_of_ble_eq_true rfl) d_MO_head_20 (fun H locs hG hS => ?_)
    have hG : gs_H X (gs_up σ mo (moE A (va_up Z 0 0))) H := hG
    obtain ⟨σ_1, eσ_1⟩ : ∃ zq, zq = gs_up σ mo (moE A (va_up Z 0 0)) := ⟨_, rfl⟩
    rw [← eσ_1] at hG
    have hc_2 : σ_1 (A 2) = some (gs_ia X 12 f2) := by rw [eσ_1]; exact gs_ku (gs_ne m2 m0 (by simp)) m2
    have hc_3 : σ_1 (A 18) = some (gs_ia X 25 f18) := by rw [eσ_1]; exact gs_ku (gs_ne m18 m0 (by simp)) m18
    have hc_4 : σ_1 (A 19) = some (gs_ia X 75 f19) := by rw [eσ_1]; exact gs_ku (gs_ne m19 m0 (by simp)) m19
    have hc_5 : σ_1 (A 20) = some (gs_ia X 25 f20) := by rw [eσ_1]; exact gs_ku (gs_ne m20 m0 (by simp)) m20
    have hc_6 : σ_1 (A 21) = some (gs_ia X 150 f21) := by rw [eσ_1]; exact gs_ku (gs_ne m21 m0 (by simp)) m21
    have hc_7 : σ_1 (A 22) = some (gs_ia X 150 f22) := by rw [eσ_1]; exact gs_ku (gs_ne m22 m0 (by simp)) m22
    have hc_8 : σ_1 (A 23) = some (gs_ia X 450 f23) := by rw [eσ_1]; exact gs_ku (gs_ne m23 m0 (by simp)) m23
    have hc_9 : σ_1 mo = some (moE A (va_up Z 0 0)) := by rw [eσ_1]; exact gs_us
    have fr_10 : frm [mo, A 18, A 19, A 20] σ σ_1 := by rw [eσ_1]; exact fr0.up (by simp)
    refine lv_aload_n hx hb d_MO_head_23 rfl (lv_at hl 0 rfl) ?_
    refine gs_get (v := .int (nI 0)) hx hb ht hown hK hG k_MO hc_9 0 (by decide) w_662 rfl d_MO_head_24 ?_
    refine lv_if_ne (tgt := 76) hx hb d_MO_head_27 (by decide) (fun c_27 => ?_) (fun c_27 => ?_)
    · exact absurd c_27 (by decide)
    · have c_27 : 0 = 0 := gs_z (by omega) c_27
      refine lv_aload_n hx hb d_MO_head_30 rfl (lv_at hl 0 rfl) ?_
      refine lv_iconst (v := nI 1) hx hb d_MO_head_31 (by decide) ?_
      refine gs_put hx hb ht hown hK hG hS k_MO hc_9 17 (by decide) w_679 rfl rfl rfl (Nat.le_of_ble_eq_true rfl) d_MO_head_32 (fun H locs hG hS => ?_)
      have hG : gs_H X (gs_up σ_1 mo (moE A (va_up (va_up Z 0 0) 17 1))) H := hG
      obtain ⟨σ_11, eσ_11⟩ : ∃ zq, zq = gs_up σ_1 mo (moE A (va_up (va_up Z 0 0) 17 1)) := ⟨_, rfl⟩
      rw [← eσ_11] at hG
      have hc_12 : σ_11 (A 2) = some (gs_ia X 12 f2) := by rw [eσ_11]; exact gs_ku (gs_ne hc_2 hc_9 (by simp)) hc_2
      have hc_13 : σ_11 (A 18) = some (gs_ia X 25 f18) := by rw [eσ_11]; exact gs_ku (gs_ne hc_3 hc_9 (by simp)) hc_3
      have hc_14 : σ_11 (A 19) = some (gs_ia X 75 f19) := by rw [eσ_11]; exact gs_ku (gs_ne hc_4 hc_9 (by simp)) hc_4
      have hc_15 : σ_11 (A 20) = some (gs_ia X 25 f20) := by rw [eσ_11]; exact gs_ku (gs_ne hc_5 hc_9 (by simp)) hc_5
      have hc_16 : σ_11 (A 21) = some (gs_ia X 150 f21) := by rw [eσ_11]; exact gs_ku (gs_ne hc_6 hc_9 (by simp)) hc_6
      have hc_17 : σ_11 (A 22) = some (gs_ia X 150 f22) := by rw [eσ_11]; exact gs_ku (gs_ne hc_7 hc_9 (by simp)) hc_7
      have hc_18 : σ_11 (A 23) = some (gs_ia X 450 f23) := by rw [eσ_11]; exact gs_ku (gs_ne hc_8 hc_9 (by simp)) hc_8
      have hc_19 : σ_11 mo = some (moE A (va_up (va_up Z 0 0) 17 1)) := by rw [eσ_11]; exact gs_us
      have fr_20 : frm [mo, A 18, A 19, A 20] σ σ_11 := by rw [eσ_11]; exact fr_10.up (by simp)
      refine lv_aload_n hx hb d_MO_head_35 rfl (lv_at hl 0 rfl) ?_
      refine gs_get (v := .ref (A 18)) hx hb ht hown hK hG k_MO hc_19 18 (by decide) w_680 rfl d_MO_head_36 ?_
      refine lv_bipush (v := nI 24) hx hb d_MO_head_39 (by decide) ?_
      refine lv_iload_n hx hb d_MO_head_41 rfl (lv_at hl 1 rfl) ?_
      refine gs_iast hx hb hK hG hS hc_13 (j := 24) (by omega) (by omega) d_MO_head_42 (fun H locs hG hS => ?_)
      have hG : gs_H X (gs_up σ_11 (A 18) (gs_ia X 25 (upd f18 24 (nI rl)))) H := hG
      obtain ⟨σ_21, eσ_21⟩ : ∃ zq, zq = gs_up σ_11 (A 18) (gs_ia X 25 (upd f18 24 (nI rl))) := ⟨_, rfl⟩
      rw [← eσ_21] at hG
      have hc_22 : σ_21 (A 2) = some (gs_ia X 12 f2) := by rw [eσ_21]; exact gs_ku (ndp hN 0 10 (by decide) rfl rfl) hc_12
      have hc_23 : σ_21 (A 19) = some (gs_ia X 75 f19) := by rw [eσ_21]; exact gs_ku (Ne.symm (ndp hN 10 11 (by decide) rfl rfl)) hc_14
      have hc_24 : σ_21 (A 20) = some (gs_ia X 25 f20) := by rw [eσ_21]; exact gs_ku (Ne.symm (ndp hN 10 12 (by decide) rfl rfl)) hc_15
      have hc_25 : σ_21 (A 21) = some (gs_ia X 150 f21) := by rw [eσ_21]; exact gs_ku (Ne.symm (ndp hN 10 13 (by decide) rfl rfl)) hc_16
      have hc_26 : σ_21 (A 22) = some (gs_ia X 150 f22) := by rw [eσ_21]; exact gs_ku (Ne.symm (ndp hN 10 14 (by decide) rfl rfl)) hc_17
      have hc_27 : σ_21 (A 23) = some (gs_ia X 450 f23) := by rw [eσ_21]; exact gs_ku (Ne.symm (ndp hN 10 15 (by decide) rfl rfl)) hc_18
      have hc_28 : σ_21 mo = some (moE A (va_up (va_up Z 0 0) 17 1)) := by rw [eσ_21]; exact gs_ku (gs_ne hc_19 hc_13 (by simp)) hc_19
      have hc_29 : σ_21 (A 18) = some (gs_ia X 25 (upd f18 24 (nI rl))) := by rw [eσ_21]; exact gs_us
      have fr_30 : frm [mo, A 18, A 19, A 20] σ σ_21 := by rw [eσ_21]; exact fr_20.up (by simp)
      refine lv_aload_n hx hb d_MO_head_43 rfl (lv_at hl 0 rfl) ?_
      refine gs_get (v := .ref (A 19)) hx hb ht hown hK hG k_MO hc_28 19 (by decide) w_681 rfl d_MO_head_44 ?_
      refine lv_bipush (v := nI 72) hx hb d_MO_head_47 (by decide) ?_
      refine lv_iload_n hx hb d_MO_head_49 rfl (lv_at hl 2 rfl) ?_
      refine gs_iast hx hb hK hG hS hc_23 (j := 72) (by omega) (by omega) d_MO_head_50 (fun H locs hG hS => ?_)
      have hG : gs_H X (gs_up σ_21 (A 19) (gs_ia X 75 (upd f19 72 (nI a)))) H := hG
      obtain ⟨σ_31, eσ_31⟩ : ∃ zq, zq = gs_up σ_21 (A 19) (gs_ia X 75 (upd f19 72 (nI a))) := ⟨_, rfl⟩
      rw [← eσ_31] at hG
      have hc_32 : σ_31 (A 2) = some (gs_ia X 12 f2) := by rw [eσ_31]; exact gs_ku (ndp hN 0 11 (by decide) rfl rfl) hc_22
      have hc_33 : σ_31 (A 20) = some (gs_ia X 25 f20) := by rw [eσ_31]; exact gs_ku (Ne.symm (ndp hN 11 12 (by decide) rfl rfl)) hc_24
      have hc_34 : σ_31 (A 21) = some (gs_ia X 150 f21) := by rw [eσ_31]; exact gs_ku (Ne.symm (ndp hN 11 13 (by decide) rfl rfl)) hc_25
      have hc_35 : σ_31 (A 22) = some (gs_ia X 150 f22) := by rw [eσ_31]; exact gs_ku (Ne.symm (ndp hN 11 14 (by decide) rfl rfl)) hc_26
      have hc_36 : σ_31 (A 23) = some (gs_ia X 450 f23) := by rw [eσ_31]; exact gs_ku (Ne.symm (ndp hN 11 15 (by decide) rfl rfl)) hc_27
      have hc_37 : σ_31 mo = some (moE A (va_up (va_up Z 0 0) 17 1)) := by rw [eσ_31]; exact gs_ku (gs_ne hc_28 hc_23 (by simp)) hc_28
      have hc_38 : σ_31 (A 18) = some (gs_ia X 25 (upd f18 24 (nI rl))) := by rw [eσ_31]; exact gs_ku (ndp hN 10 11 (by decide) rfl rfl) hc_29
      have hc_39 : σ_31 (A 19) = some (gs_ia X 75 (upd f19 72 (nI a))) := by rw [eσ_31]; exact gs_us
      have fr_40 : frm [mo, A 18, A 19, A 20] σ σ_31 := by rw [eσ_31]; exact fr_30.up (by simp)
      refine lv_aload_n hx hb d_MO_head_51 rfl (lv_at hl 0 rfl) ?_
      refine gs_get (v := .ref (A 19)) hx hb ht hown hK hG k_MO hc_37 19 (by decide) w_681 rfl d_MO_head_52 ?_
      refine lv_bipush (v := nI 73) hx hb d_MO_head_55 (by decide) ?_
      refine lv_iload_n hx hb d_MO_head_57 rfl (lv_at hl 3 rfl) ?_
      refine gs_iast hx hb hK hG hS hc_39 (j := 73) (by omega) (by omega) d_MO_head_58 (fun H locs hG hS => ?_)
      have hG : gs_H X (gs_up σ_31 (A 19) (gs_ia X 75 (upd (upd f19 72 (nI a)) 73 (nI b)))) H := hG
      obtain ⟨σ_41, eσ_41⟩ : ∃ zq, zq = gs_up σ_31 (A 19) (gs_ia X 75 (upd (upd f19 72 (nI a)) 73 (nI b))) := ⟨_, rfl⟩
      rw [← eσ_41] at hG
      have hc_42 : σ_41 (A 2) = some (gs_ia X 12 f2) := by rw [eσ_41]; exact gs_ku (ndp hN 0 11 (by decide) rfl rfl) hc_32
      have hc_43 : σ_41 (A 20) = some (gs_ia X 25 f20) := by rw [eσ_41]; exact gs_ku (Ne.symm (ndp hN 11 12 (by decide) rfl rfl)) hc_33
      have hc_44 : σ_41 (A 21) = some (gs_ia X 150 f21) := by rw [eσ_41]; exact gs_ku (Ne.symm (ndp hN 11 13 (by decide) rfl rfl)) hc_34
      have hc_45 : σ_41 (A 22) = some (gs_ia X 150 f22) := by rw [eσ_41]; exact gs_ku (Ne.symm (ndp hN 11 14 (by decide) rfl rfl)) hc_35
      have hc_46 : σ_41 (A 23) = some (gs_ia X 450 f23) := by rw [eσ_41]; exact gs_ku (Ne.symm (ndp hN 11 15 (by decide) rfl rfl)) hc_36
      have hc_47 : σ_41 mo = some (moE A (va_up (va_up Z 0 0) 17 1)) := by rw [eσ_41]; exact gs_ku (gs_ne hc_37 hc_39 (by simp)) hc_37
      have hc_48 : σ_41 (A 18) = some (gs_ia X 25 (upd f18 24 (nI rl))) := by rw [eσ_41]; exact gs_ku (ndp hN 10 11 (by decide) rfl rfl) hc_38
      have hc_49 : σ_41 (A 19) = some (gs_ia X 75 (upd (upd f19 72 (nI a)) 73 (nI b))) := by rw [eσ_41]; exact gs_us
      have fr_50 : frm [mo, A 18, A 19, A 20] σ σ_41 := by rw [eσ_41]; exact fr_40.up (by simp)
      refine lv_aload_n hx hb d_MO_head_59 rfl (lv_at hl 0 rfl) ?_
      refine gs_get (v := .ref (A 19)) hx hb ht hown hK hG k_MO hc_47 19 (by decide) w_681 rfl d_MO_head_60 ?_
      refine lv_bipush (v := nI 74) hx hb d_MO_head_63 (by decide) ?_
      refine lv_iload hx hb d_MO_head_65 (lv_at hl 4 rfl) ?_
      refine gs_iast hx hb hK hG hS hc_49 (j := 74) (by omega) (by omega) d_MO_head_67 (fun H locs hG hS => ?_)
      have hG : gs_H X (gs_up σ_41 (A 19) (gs_ia X 75 (upd (upd (upd f19 72 (nI a)) 73 (nI b)) 74 (nI cz)))) H := hG
      obtain ⟨σ_51, eσ_51⟩ : ∃ zq, zq = gs_up σ_41 (A 19) (gs_ia X 75 (upd (upd (upd f19 72 (nI a)) 73 (nI b)) 74 (nI cz))) := ⟨_, rfl⟩
      rw [← eσ_51] at hG
      have hc_52 : σ_51 (A 2) = some (gs_ia X 12 f2) := by rw [eσ_51]; exact gs_ku (ndp hN 0 11 (by decide) rfl rfl) hc_42
      have hc_53 : σ_51 (A 20) = some (gs_ia X 25 f20) := by rw [eσ_51]; exact gs_ku (Ne.symm (ndp hN 11 12 (by decide) rfl rfl)) hc_43
      have hc_54 : σ_51 (A 21) = some (gs_ia X 150 f21) := by rw [eσ_51]; exact gs_ku (Ne.symm (ndp hN 11 13 (by decide) rfl rfl)) hc_44
      have hc_55 : σ_51 (A 22) = some (gs_ia X 150 f22) := by rw [eσ_51]; exact gs_ku (Ne.symm (ndp hN 11 14 (by decide) rfl rfl)) hc_45
      have hc_56 : σ_51 (A 23) = some (gs_ia X 450 f23) := by rw [eσ_51]; exact gs_ku (Ne.symm (ndp hN 11 15 (by decide) rfl rfl)) hc_46
      have hc_57 : σ_51 mo = some (moE A (va_up (va_up Z 0 0) 17 1)) := by rw [eσ_51]; exact gs_ku (gs_ne hc_47 hc_49 (by simp)) hc_47
      have hc_58 : σ_51 (A 18) = some (gs_ia X 25 (upd f18 24 (nI rl))) := by rw [eσ_51]; exact gs_ku (ndp hN 10 11 (by decide) rfl rfl) hc_48
      have hc_59 : σ_51 (A 19) = some (gs_ia X 75 (upd (upd (upd f19 72 (nI a)) 73 (nI b)) 74 (nI cz))) := by rw [eσ_51]; exact gs_us
      have fr_60 : frm [mo, A 18, A 19, A 20] σ σ_51 := by rw [eσ_51]; exact fr_50.up (by simp)
      refine lv_aload_n hx hb d_MO_head_68 rfl (lv_at hl 0 rfl) ?_
      refine gs_get (v := .ref (A 20)) hx hb ht hown hK hG k_MO hc_57 20 (by decide) w_682 rfl d_MO_head_69 ?_
      refine lv_bipush (v := nI 24) hx hb d_MO_head_72 (by decide) ?_
      refine lv_iconst (v := nI 0) hx hb d_MO_head_74 (by decide) ?_
      refine gs_iast hx hb hK hG hS hc_53 (j := 24) (by omega) (by omega) d_MO_head_75 (fun H locs hG hS => ?_)
      have hG : gs_H X (gs_up σ_51 (A 20) (gs_ia X 25 (upd f20 24 (nI 0)))) H := hG
      obtain ⟨σ_61, eσ_61⟩ : ∃ zq, zq = gs_up σ_51 (A 20) (gs_ia X 25 (upd f20 24 (nI 0))) := ⟨_, rfl⟩
      rw [← eσ_61] at hG
      have hc_62 : σ_61 (A 2) = some (gs_ia X 12 f2) := by rw [eσ_61]; exact gs_ku (ndp hN 0 12 (by decide) rfl rfl) hc_52
      have hc_63 : σ_61 (A 21) = some (gs_ia X 150 f21) := by rw [eσ_61]; exact gs_ku (Ne.symm (ndp hN 12 13 (by decide) rfl rfl)) hc_54
      have hc_64 : σ_61 (A 22) = some (gs_ia X 150 f22) := by rw [eσ_61]; exact gs_ku (Ne.symm (ndp hN 12 14 (by decide) rfl rfl)) hc_55
      have hc_65 : σ_61 (A 23) = some (gs_ia X 450 f23) := by rw [eσ_61]; exact gs_ku (Ne.symm (ndp hN 12 15 (by decide) rfl rfl)) hc_56
      have hc_66 : σ_61 mo = some (moE A (va_up (va_up Z 0 0) 17 1)) := by rw [eσ_61]; exact gs_ku (gs_ne hc_57 hc_53 (by simp)) hc_57
      have hc_67 : σ_61 (A 18) = some (gs_ia X 25 (upd f18 24 (nI rl))) := by rw [eσ_61]; exact gs_ku (ndp hN 10 12 (by decide) rfl rfl) hc_58
      have hc_68 : σ_61 (A 19) = some (gs_ia X 75 (upd (upd (upd f19 72 (nI a)) 73 (nI b)) 74 (nI cz))) := by rw [eσ_61]; exact gs_ku (ndp hN 11 12 (by decide) rfl rfl) hc_59
      have hc_69 : σ_61 (A 20) = some (gs_ia X 25 (upd f20 24 (nI 0))) := by rw [eσ_61]; exact gs_us
      have fr_70 : frm [mo, A 18, A 19, A 20] σ σ_61 := by rw [eσ_61]; exact fr_60.up (by simp)
      exact gs_vret hx hb hr hK hE hz hG hS hlocks (by first | decide | omega | (dsimp only [headSpec]; omega)) (by first | decide | omega | (dsimp only [headSpec]; omega)) (⟨⟨hNN, hnr, hFB, hTB, hrc, ⟨_, hc_66, rfl, z1, z4, z7, z16, rfl, z25, z26⟩, (hcol.fr hNN [0, 11, 12, 13] fr_70 (by decide) (by decide)), (hfac.fr hNN [0, 11, 12, 13] fr_70 (by decide) (by decide)), (htup.fr hNN [0, 11, 12, 13] fr_70 (by decide) (by decide)), (hbit.fr (k := 9) hNN [0, 11, 12, 13] fr_70 (by decide) (by decide) (by decide) rfl), (hfnd.fr (k := 10) hNN [0, 11, 12, 13] fr_70 (by decide) (by decide) (by decide) rfl), ⟨_, _, _, _, _, _, hc_67, hc_68, hc_69, hc_63, hc_64, hc_65, hQl, fun q R z => ⟨rAt_head (hQ q R z).1 (by have := (List.getElem?_eq_some_iff.mp z).1; omega), (hQ q R z).2⟩, fun R z => by cases z; exact ⟨rAt_new, mrB_new hrl ha hb9 hc9⟩⟩, (hscr.fr hNN [0, 11, 12, 13] fr_70 (by decide) (by decide))⟩, fr_70.wk (by simp)⟩) d_MO_head_76
set_option maxHeartbeats 4000000 in
set_option maxRecDepth 100000 in
/-- the reference: item of no item -/
theorem c_MO_item_t (l : Launch) (X : gs_X) (σ : gs_St) (mo : Nat) (A : Nat → Nat) (cd nr : Nat) (cw : Nat → Nat) (F : List (Nat × Nat)) (T : List MT) (sa rc : Nat) (Q : List MR) (dr : Option MR) (x r y z u : Int32)
    (hM : moA X σ mo A cd nr cw F T sa rc Q dr) (hok : itR nr cw x r y z u = false) : gs_Mi l X y_MO_item b_MO_item 9 (some .int) ({ frames := 1, cells := 0, slots := 0, locals := 27 }) σ [.ref mo, .int x, .int r, .int y, .int z, .int u] (fun q σ' => moA X σ' mo A 1 nr cw F T sa rc Q dr ∧ frm (aM mo A) σ σ' ∧ q = nI 0) := by
  refine Met.ofW (cc := b_MO_item) (maxL := 9) (ret := (some .int)) (by decide) rfl ?_
  intro p e s m args below meth c s₁ B₀ hml hv
  obtain ⟨rfl, hK, hG, hz, hE⟩ := hv
  have hx := B₀.exec
  have hb := B₀.bytes
  have hr := B₀.returns
  have hts := atoms_spec (ws := gs_ws y_MO_item b_MO_item 9 (some .int)) B₀.pre
  have ht : ∀ w ∈ gs_w, w.before _ s = true := fun w h => hts w (List.mem_cons_of_mem _ h)
  have hown : s.vm.findClass R_MO = some m.cls := findClass_of_methodNamed B₀.named
  have hlocks := B₀.notSynchronized
  have hA : ∀ q : Nat, s.heap.size ≤ q → gs_A X q := fun q h => Nat.le_trans hz h
  have hS : va_S (gs_A X) s.heap s.heap [] := va_S.rf
  have hl := lv_entry ([.ref mo, .int x, .int r, .int y, .int z, .int u]) (n := 9) (Nat.le_of_ble_eq_true rfl)
  rw [lg_entry_eq]
  generalize (lg_sl ([.ref mo, .int x, .int r, .int y, .int z, .int u]) ++ List.replicate (9 - (lg_sl ([.ref mo, .int x, .int r, .int y, .int z, .int u])).length) Slot.unset).toArray = ls at hl ⊢
  have hl : lv_has ls 9 [(0, .ref mo), (1, .int x), (2, .int r), (3, .int y), (4, .int z), (5, .int u)] := hl
  obtain ⟨hNN, hnr, hFB, hTB, hrc, ⟨Z, m0, z0, z1, z4, z7, z16, z17, z25, z26⟩, hcol, hfac, htup, hbit, hfnd, hrul, hscr⟩ := id hM
  have hN := hN1 hNN
  have hFl := hFB.1
  have hTl := hTB.1
  obtain ⟨f2, m2, hcw⟩ := id hcol
  have fr0 : frm [mo] σ σ := frm.rf
  have j82 : ∀ ls, lv_has ls 9 [(7, .int (bI (itR nr cw x r y z u))), (0, .ref mo), (1, .int x), (2, .int r), (3, .int y), (4, .int z), (5, .int u)] → W p l e ({ frames := 1, cells := 0, slots := 0, locals := 27 } : Room) s m ([.ref mo, .int x, .int r, .int y, .int z, .int u] : List Value).toArray below meth c s.heap [] 0 0 (MQ below (va_Qi (fun q σ' => moA X σ' mo A 1 nr cw F T sa rc Q dr ∧ frm (aM mo A) σ σ' ∧ q = nI 0) (gs_U X) (gs_A X)) ([.ref mo, .int x, .int r, .int y, .int z, .int u] : List Value).toArray s 0 0 (gs_A X)) (F0 m 82 ls []) := by
    intro ls hl
    refine lv_aload_n hx hb d_MO_item_82 rfl (lv_at hl 1 rfl) ?_
    refine lv_iload hx hb d_MO_item_83 (lv_at hl 0 rfl) ?_
    refine lv_if_ne (tgt := 92) hx hb d_MO_item_85 (by decide) (fun c_85 => ?_) (fun c_85 => ?_)
    · exact absurd ((bI_n0 c_85).symm.trans hok) (by decide)
    · refine lv_iconst (v := nI 1) hx hb d_MO_item_88 (by decide) ?_
      refine lv_goto (tgt := 130) hx hb d_MO_item_89 (by decide) ?_
      refine gs_put hx hb ht hown hK hG hS k_MO m0 0 (by decide) w_662 rfl rfl rfl (Nat.le_of_ble_eq_true rfl) d_MO_item_130 (fun H locs hG hS => ?_)
      have hG : gs_H X (gs_up σ mo (moE A (va_up Z 0 1))) H := hG
      obtain ⟨σ_1, eσ_1⟩ : ∃ zq, zq = gs_up σ mo (moE A (va_up Z 0 1)) := ⟨_, rfl⟩
      rw [← eσ_1] at hG
      have hc_2 : σ_1 (A 2) = some (gs_ia X 12 f2) := by rw [eσ_1]; exact gs_ku (gs_ne m2 m0 (by simp)) m2
      have hc_3 : σ_1 mo = some (moE A (va_up Z 0 1)) := by rw [eσ_1]; exact gs_us
      have fr_4 : frm [mo] σ σ_1 := by rw [eσ_1]; exact fr0.up (by simp)
      refine lv_aload_n hx hb d_MO_item_133 rfl (lv_at hl 1 rfl) ?_
      refine gs_get (v := .int (nI 1)) hx hb ht hown hK hG k_MO hc_3 0 (by decide) w_662 rfl d_MO_item_134 ?_
      refine lv_if_le (tgt := 142) hx hb d_MO_item_137 (by decide) (fun c_137 => ?_) (fun c_137 => ?_)
      · exact absurd c_137 (by decide)
      · have c_137 : 0 < 1 := by have := gs_le0 (a := 1) (by omega); have h9 := mt this.mpr c_137; omega
        refine lv_iconst (v := nI 0) hx hb d_MO_item_140 (by decide) ?_
        exact gs_iret (v := (nI 0)) hx hb hr rfl hK hE hz hG hS hlocks (by first | decide | omega | (dsimp only [headSpec]; omega)) (by first | decide | omega | (dsimp only [headSpec]; omega)) (⟨(hM.num fr_4 ⟨_, hc_3, rfl, z1, z4, z7, z16, z17, z25, z26⟩ hrc), fr_4.wk (by simp), rfl⟩) d_MO_item_141
  have j38 : ∀ ls, lv_has ls 9 [(6, .int (bI (decide (r = 0) && wi3 72 2 y z u))), (0, .ref mo), (1, .int x), (2, .int r), (3, .int y), (4, .int z), (5, .int u)] → W p l e ({ frames := 1, cells := 0, slots := 0, locals := 27 } : Room) s m ([.ref mo, .int x, .int r, .int y, .int z, .int u] : List Value).toArray below meth c s.heap [] 0 0 (MQ below (va_Qi (fun q σ' => moA X σ' mo A 1 nr cw F T sa rc Q dr ∧ frm (aM mo A) σ σ' ∧ q = nI 0) (gs_U X) (gs_A X)) ([.ref mo, .int x, .int r, .int y, .int z, .int u] : List Value).toArray s 0 0 (gs_A X)) (F0 m 38 ls []) := by
    intro ls hl
    refine lv_iload_n hx hb d_MO_item_38 rfl (lv_at hl 2 rfl) ?_
    refine lv_if_lt (tgt := 79) hx hb d_MO_item_39 (by decide) (fun c_39 => ?_) (fun c_39 => ?_)
    · refine lv_iconst (v := nI 0) hx hb d_MO_item_79 (by decide) ?_
      refine lv_istore (lv' := [(7, .int (nI 0)), (6, .int (bI (decide (r = 0) && wi3 72 2 y z u))), (0, .ref mo), (1, .int x), (2, .int r), (3, .int y), (4, .int z), (5, .int u)]) hx hb d_MO_item_80 hl (by decide) rfl (fun ls hl => ?_)
      exact j82 ls (by rw [show bI (itR nr cw x r y z u) = nI 0 from by first | (unfold itR; rw [decide_eq_true c_39]; rfl) | (unfold itR; rw [decide_eq_false (Int32.not_le.mpr c_44), Bool.and_false]; rfl) | (unfold itR; rw [if_pos (Int32.not_le.mp c_49), bI_0 c_64, Bool.and_false]; rfl) | (unfold itR; rw [if_neg (Int32.not_lt.mpr c_49), bI_0 c_72, Bool.and_false]; rfl)]; exact (lv_sub hl [0, 2, 3, 4, 5, 6, 7] rfl))
    · refine lv_iload_n hx hb d_MO_item_42 rfl (lv_at hl 2 rfl) ?_
      refine lv_iconst (v := nI 3) hx hb d_MO_item_43 (by decide) ?_
      refine lv_icmp_gt (tgt := 79) hx hb d_MO_item_44 (by decide) (fun c_44 => ?_) (fun c_44 => ?_)
      · refine lv_iconst (v := nI 0) hx hb d_MO_item_79 (by decide) ?_
        refine lv_istore (lv' := [(7, .int (nI 0)), (6, .int (bI (decide (r = 0) && wi3 72 2 y z u))), (0, .ref mo), (1, .int x), (2, .int r), (3, .int y), (4, .int z), (5, .int u)]) hx hb d_MO_item_80 hl (by decide) rfl (fun ls hl => ?_)
        exact j82 ls (by rw [show bI (itR nr cw x r y z u) = nI 0 from by first | (unfold itR; rw [decide_eq_true c_39]; rfl) | (unfold itR; rw [decide_eq_false (Int32.not_le.mpr c_44), Bool.and_false]; rfl) | (unfold itR; rw [if_pos (Int32.not_le.mp c_49), bI_0 c_64, Bool.and_false]; rfl) | (unfold itR; rw [if_neg (Int32.not_lt.mpr c_49), bI_0 c_72, Bool.and_false]; rfl)]; exact (lv_sub hl [0, 2, 3, 4, 5, 6, 7] rfl))
      · refine lv_iload_n hx hb d_MO_item_47 rfl (lv_at hl 2 rfl) ?_
        refine lv_iconst (v := nI 2) hx hb d_MO_item_48 (by decide) ?_
        refine lv_icmp_ge (tgt := 70) hx hb d_MO_item_49 (by decide) (fun c_49 => ?_) (fun c_49 => ?_)
        · refine lv_iload hx hb d_MO_item_70 (lv_at hl 0 rfl) ?_
          refine lv_if_eq (tgt := 79) hx hb d_MO_item_72 (by decide) (fun c_72 => ?_) (fun c_72 => ?_)
          · refine lv_iconst (v := nI 0) hx hb d_MO_item_79 (by decide) ?_
            refine lv_istore (lv' := [(7, .int (nI 0)), (6, .int (bI (decide (r = 0) && wi3 72 2 y z u))), (0, .ref mo), (1, .int x), (2, .int r), (3, .int y), (4, .int z), (5, .int u)]) hx hb d_MO_item_80 hl (by decide) rfl (fun ls hl => ?_)
            exact j82 ls (by rw [show bI (itR nr cw x r y z u) = nI 0 from by first | (unfold itR; rw [decide_eq_true c_39]; rfl) | (unfold itR; rw [decide_eq_false (Int32.not_le.mpr c_44), Bool.and_false]; rfl) | (unfold itR; rw [if_pos (Int32.not_le.mp c_49), bI_0 c_64, Bool.and_false]; rfl) | (unfold itR; rw [if_neg (Int32.not_lt.mpr c_49), bI_0 c_72, Bool.and_false]; rfl)]; exact (lv_sub hl [0, 2, 3, 4, 5, 6, 7] rfl))
          · refine lv_iconst (v := nI 1) hx hb d_MO_item_75 (by decide) ?_
            refine lv_goto (tgt := 80) hx hb d_MO_item_76 (by decide) ?_
            refine lv_istore (lv' := [(7, .int (nI 1)), (6, .int (bI (decide (r = 0) && wi3 72 2 y z u))), (0, .ref mo), (1, .int x), (2, .int r), (3, .int y), (4, .int z), (5, .int u)]) hx hb d_MO_item_80 hl (by decide) rfl (fun ls hl => ?_)
            exact j82 ls (by rw [show bI (itR nr cw x r y z u) = nI 1 from by first | (unfold itR; rw [decide_eq_false c_39, decide_eq_true (Int32.not_lt.mp c_44), if_pos (Int32.not_le.mp c_49), bI_n0 c_64]; rfl) | (unfold itR; rw [decide_eq_false c_39, decide_eq_true (Int32.not_lt.mp c_44), if_neg (Int32.not_lt.mpr c_49), bI_n0 c_72]; rfl)]; exact (lv_sub hl [0, 2, 3, 4, 5, 6, 7] rfl))
        · refine lv_aload_n hx hb d_MO_item_52 rfl (lv_at hl 1 rfl) ?_
          refine lv_iload_n hx hb d_MO_item_53 rfl (lv_at hl 3 rfl) ?_
          refine lv_iload_n hx hb d_MO_item_54 rfl (lv_at hl 4 rfl) ?_
          refine lv_iload hx hb d_MO_item_55 (lv_at hl 5 rfl) ?_
          refine lv_iload hx hb d_MO_item_57 (lv_at hl 6 rfl) ?_
          refine lv_bipush (v := nI 72) hx hb d_MO_item_59 (by decide) ?_
          refine gs_callVp (As := [.int r, .int y, .int z, .int u, .int (nI 72)]) (rest := []) ⟨hx, hb, hml, hown, hts⟩ hK hE hz hG hS (c_MO_fitsU l X σ mo A Z f2 nr cw 72 r y z u m0 m2 z1 hnr hcw) ⟨rfl, rfl⟩ mV_MO_fits w_777 m0 rfl rfl hl.1 rfl (Nat.le_of_ble_eq_true rfl) ⟨(by first | decide | omega | (dsimp only [headSpec]; omega)), (by first | decide | omega | (dsimp only [headSpec]; omega))⟩ ⟨(by first | decide | omega | (dsimp only [headSpec]; omega)), (by first | decide | omega | (dsimp only [headSpec]; omega))⟩ d_MO_item_61 (fun r_61 hp_61 => ?_)
          refine gs_top (show r_61 = (bI (fitR nr cw 72 r y z u)) from hp_61) ?_
          refine lv_if_eq (tgt := 79) hx hb d_MO_item_64 (by decide) (fun c_64 => ?_) (fun c_64 => ?_)
          · refine lv_iconst (v := nI 0) hx hb d_MO_item_79 (by decide) ?_
            refine lv_istore (lv' := [(7, .int (nI 0)), (6, .int (bI (decide (r = 0) && wi3 72 2 y z u))), (0, .ref mo), (1, .int x), (2, .int r), (3, .int y), (4, .int z), (5, .int u)]) hx hb d_MO_item_80 hl (by decide) rfl (fun ls hl => ?_)
            exact j82 ls (by rw [show bI (itR nr cw x r y z u) = nI 0 from by first | (unfold itR; rw [decide_eq_true c_39]; rfl) | (unfold itR; rw [decide_eq_false (Int32.not_le.mpr c_44), Bool.and_false]; rfl) | (unfold itR; rw [if_pos (Int32.not_le.mp c_49), bI_0 c_64, Bool.and_false]; rfl) | (unfold itR; rw [if_neg (Int32.not_lt.mpr c_49), bI_0 c_72, Bool.and_false]; rfl)]; exact (lv_sub hl [0, 2, 3, 4, 5, 6, 7] rfl))
          · refine lv_goto (tgt := 75) hx hb d_MO_item_67 (by decide) ?_
            refine lv_iconst (v := nI 1) hx hb d_MO_item_75 (by decide) ?_
            refine lv_goto (tgt := 80) hx hb d_MO_item_76 (by decide) ?_
            refine lv_istore (lv' := [(7, .int (nI 1)), (6, .int (bI (decide (r = 0) && wi3 72 2 y z u))), (0, .ref mo), (1, .int x), (2, .int r), (3, .int y), (4, .int z), (5, .int u)]) hx hb d_MO_item_80 hl (by decide) rfl (fun ls hl => ?_)
            exact j82 ls (by rw [show bI (itR nr cw x r y z u) = nI 1 from by first | (unfold itR; rw [decide_eq_false c_39, decide_eq_true (Int32.not_lt.mp c_44), if_pos (Int32.not_le.mp c_49), bI_n0 c_64]; rfl) | (unfold itR; rw [decide_eq_false c_39, decide_eq_true (Int32.not_lt.mp c_44), if_neg (Int32.not_lt.mpr c_49), bI_n0 c_72]; rfl)]; exact (lv_sub hl [0, 2, 3, 4, 5, 6, 7] rfl))
  refine lv_iload_n hx hb d_MO_item_0 rfl (lv_at hl 2 rfl) ?_
  refine lv_if_ne (tgt := 35) hx hb d_MO_item_1 (by decide) (fun c_1 => ?_) (fun c_1 => ?_)
  · refine lv_iconst (v := nI 0) hx hb d_MO_item_35 (by decide) ?_
    refine lv_istore (lv' := [(6, .int (nI 0)), (0, .ref mo), (1, .int x), (2, .int r), (3, .int y), (4, .int z), (5, .int u)]) hx hb d_MO_item_36 hl (by decide) rfl (fun ls hl => ?_)
    exact j38 ls (by rw [show bI (decide (r = 0) && wi3 72 2 y z u) = nI 0 from by first | (rw [decide_eq_false c_1]; rfl) | (rw [show wi3 72 2 y z u = false from by unfold wi3; rw [show (if 2 < 2 then 72 else 1) = 1 from rfl, wi_one, decide_eq_false c_6, Bool.and_false], Bool.and_false]; rfl) | (rw [show wi3 72 2 y z u = false from by unfold wi3; (rw [wi_neg c_10]; rfl), Bool.and_false]; rfl) | (rw [show wi3 72 2 y z u = false from by unfold wi3; (rw [wi_ge c_16]; rfl), Bool.and_false]; rfl) | (rw [show wi3 72 2 y z u = false from by unfold wi3; rw [show (if 1 < 2 then 72 else 1) = 72 from rfl, wi_neg c_21, Bool.and_false]; rfl, Bool.and_false]; rfl) | (rw [show wi3 72 2 y z u = false from by unfold wi3; rw [show (if 1 < 2 then 72 else 1) = 72 from rfl, wi_ge c_28, Bool.and_false]; rfl, Bool.and_false]; rfl)]; exact (lv_sub hl [0, 1, 2, 3, 4, 5, 6] rfl))
  · refine lv_iload hx hb d_MO_item_4 (lv_at hl 5 rfl) ?_
    refine lv_if_ne (tgt := 35) hx hb d_MO_item_6 (by decide) (fun c_6 => ?_) (fun c_6 => ?_)
    · refine lv_iconst (v := nI 0) hx hb d_MO_item_35 (by decide) ?_
      refine lv_istore (lv' := [(6, .int (nI 0)), (0, .ref mo), (1, .int x), (2, .int r), (3, .int y), (4, .int z), (5, .int u)]) hx hb d_MO_item_36 hl (by decide) rfl (fun ls hl => ?_)
      exact j38 ls (by rw [show bI (decide (r = 0) && wi3 72 2 y z u) = nI 0 from by first | (rw [decide_eq_false c_1]; rfl) | (rw [show wi3 72 2 y z u = false from by unfold wi3; rw [show (if 2 < 2 then 72 else 1) = 1 from rfl, wi_one, decide_eq_false c_6, Bool.and_false], Bool.and_false]; rfl) | (rw [show wi3 72 2 y z u = false from by unfold wi3; (rw [wi_neg c_10]; rfl), Bool.and_false]; rfl) | (rw [show wi3 72 2 y z u = false from by unfold wi3; (rw [wi_ge c_16]; rfl), Bool.and_false]; rfl) | (rw [show wi3 72 2 y z u = false from by unfold wi3; rw [show (if 1 < 2 then 72 else 1) = 72 from rfl, wi_neg c_21, Bool.and_false]; rfl, Bool.and_false]; rfl) | (rw [show wi3 72 2 y z u = false from by unfold wi3; rw [show (if 1 < 2 then 72 else 1) = 72 from rfl, wi_ge c_28, Bool.and_false]; rfl, Bool.and_false]; rfl)]; exact (lv_sub hl [0, 1, 2, 3, 4, 5, 6] rfl))
    · refine lv_iload_n hx hb d_MO_item_9 rfl (lv_at hl 3 rfl) ?_
      refine lv_if_lt (tgt := 35) hx hb d_MO_item_10 (by decide) (fun c_10 => ?_) (fun c_10 => ?_)
      · refine lv_iconst (v := nI 0) hx hb d_MO_item_35 (by decide) ?_
        refine lv_istore (lv' := [(6, .int (nI 0)), (0, .ref mo), (1, .int x), (2, .int r), (3, .int y), (4, .int z), (5, .int u)]) hx hb d_MO_item_36 hl (by decide) rfl (fun ls hl => ?_)
        exact j38 ls (by rw [show bI (decide (r = 0) && wi3 72 2 y z u) = nI 0 from by first | (rw [decide_eq_false c_1]; rfl) | (rw [show wi3 72 2 y z u = false from by unfold wi3; rw [show (if 2 < 2 then 72 else 1) = 1 from rfl, wi_one, decide_eq_false c_6, Bool.and_false], Bool.and_false]; rfl) | (rw [show wi3 72 2 y z u = false from by unfold wi3; (rw [wi_neg c_10]; rfl), Bool.and_false]; rfl) | (rw [show wi3 72 2 y z u = false from by unfold wi3; (rw [wi_ge c_16]; rfl), Bool.and_false]; rfl) | (rw [show wi3 72 2 y z u = false from by unfold wi3; rw [show (if 1 < 2 then 72 else 1) = 72 from rfl, wi_neg c_21, Bool.and_false]; rfl, Bool.and_false]; rfl) | (rw [show wi3 72 2 y z u = false from by unfold wi3; rw [show (if 1 < 2 then 72 else 1) = 72 from rfl, wi_ge c_28, Bool.and_false]; rfl, Bool.and_false]; rfl)]; exact (lv_sub hl [0, 1, 2, 3, 4, 5, 6] rfl))
      · refine lv_iload_n hx hb d_MO_item_13 rfl (lv_at hl 3 rfl) ?_
        refine lv_bipush (v := nI 72) hx hb d_MO_item_14 (by decide) ?_
        refine lv_icmp_ge (tgt := 35) hx hb d_MO_item_16 (by decide) (fun c_16 => ?_) (fun c_16 => ?_)
        · refine lv_iconst (v := nI 0) hx hb d_MO_item_35 (by decide) ?_
          refine lv_istore (lv' := [(6, .int (nI 0)), (0, .ref mo), (1, .int x), (2, .int r), (3, .int y), (4, .int z), (5, .int u)]) hx hb d_MO_item_36 hl (by decide) rfl (fun ls hl => ?_)
          exact j38 ls (by rw [show bI (decide (r = 0) && wi3 72 2 y z u) = nI 0 from by first | (rw [decide_eq_false c_1]; rfl) | (rw [show wi3 72 2 y z u = false from by unfold wi3; rw [show (if 2 < 2 then 72 else 1) = 1 from rfl, wi_one, decide_eq_false c_6, Bool.and_false], Bool.and_false]; rfl) | (rw [show wi3 72 2 y z u = false from by unfold wi3; (rw [wi_neg c_10]; rfl), Bool.and_false]; rfl) | (rw [show wi3 72 2 y z u = false from by unfold wi3; (rw [wi_ge c_16]; rfl), Bool.and_false]; rfl) | (rw [show wi3 72 2 y z u = false from by unfold wi3; rw [show (if 1 < 2 then 72 else 1) = 72 from rfl, wi_neg c_21, Bool.and_false]; rfl, Bool.and_false]; rfl) | (rw [show wi3 72 2 y z u = false from by unfold wi3; rw [show (if 1 < 2 then 72 else 1) = 72 from rfl, wi_ge c_28, Bool.and_false]; rfl, Bool.and_false]; rfl)]; exact (lv_sub hl [0, 1, 2, 3, 4, 5, 6] rfl))
        · refine lv_iload hx hb d_MO_item_19 (lv_at hl 4 rfl) ?_
          refine lv_if_lt (tgt := 35) hx hb d_MO_item_21 (by decide) (fun c_21 => ?_) (fun c_21 => ?_)
          · refine lv_iconst (v := nI 0) hx hb d_MO_item_35 (by decide) ?_
            refine lv_istore (lv' := [(6, .int (nI 0)), (0, .ref mo), (1, .int x), (2, .int r), (3, .int y), (4, .int z), (5, .int u)]) hx hb d_MO_item_36 hl (by decide) rfl (fun ls hl => ?_)
            exact j38 ls (by rw [show bI (decide (r = 0) && wi3 72 2 y z u) = nI 0 from by first | (rw [decide_eq_false c_1]; rfl) | (rw [show wi3 72 2 y z u = false from by unfold wi3; rw [show (if 2 < 2 then 72 else 1) = 1 from rfl, wi_one, decide_eq_false c_6, Bool.and_false], Bool.and_false]; rfl) | (rw [show wi3 72 2 y z u = false from by unfold wi3; (rw [wi_neg c_10]; rfl), Bool.and_false]; rfl) | (rw [show wi3 72 2 y z u = false from by unfold wi3; (rw [wi_ge c_16]; rfl), Bool.and_false]; rfl) | (rw [show wi3 72 2 y z u = false from by unfold wi3; rw [show (if 1 < 2 then 72 else 1) = 72 from rfl, wi_neg c_21, Bool.and_false]; rfl, Bool.and_false]; rfl) | (rw [show wi3 72 2 y z u = false from by unfold wi3; rw [show (if 1 < 2 then 72 else 1) = 72 from rfl, wi_ge c_28, Bool.and_false]; rfl, Bool.and_false]; rfl)]; exact (lv_sub hl [0, 1, 2, 3, 4, 5, 6] rfl))
          · refine lv_iload hx hb d_MO_item_24 (lv_at hl 4 rfl) ?_
            refine lv_bipush (v := nI 72) hx hb d_MO_item_26 (by decide) ?_
            refine lv_icmp_ge (tgt := 35) hx hb d_MO_item_28 (by decide) (fun c_28 => ?_) (fun c_28 => ?_)
            · refine lv_iconst (v := nI 0) hx hb d_MO_item_35 (by decide) ?_
              refine lv_istore (lv' := [(6, .int (nI 0)), (0, .ref mo), (1, .int x), (2, .int r), (3, .int y), (4, .int z), (5, .int u)]) hx hb d_MO_item_36 hl (by decide) rfl (fun ls hl => ?_)
              exact j38 ls (by rw [show bI (decide (r = 0) && wi3 72 2 y z u) = nI 0 from by first | (rw [decide_eq_false c_1]; rfl) | (rw [show wi3 72 2 y z u = false from by unfold wi3; rw [show (if 2 < 2 then 72 else 1) = 1 from rfl, wi_one, decide_eq_false c_6, Bool.and_false], Bool.and_false]; rfl) | (rw [show wi3 72 2 y z u = false from by unfold wi3; (rw [wi_neg c_10]; rfl), Bool.and_false]; rfl) | (rw [show wi3 72 2 y z u = false from by unfold wi3; (rw [wi_ge c_16]; rfl), Bool.and_false]; rfl) | (rw [show wi3 72 2 y z u = false from by unfold wi3; rw [show (if 1 < 2 then 72 else 1) = 72 from rfl, wi_neg c_21, Bool.and_false]; rfl, Bool.and_false]; rfl) | (rw [show wi3 72 2 y z u = false from by unfold wi3; rw [show (if 1 < 2 then 72 else 1) = 72 from rfl, wi_ge c_28, Bool.and_false]; rfl, Bool.and_false]; rfl)]; exact (lv_sub hl [0, 1, 2, 3, 4, 5, 6] rfl))
            · refine lv_iconst (v := nI 1) hx hb d_MO_item_31 (by decide) ?_
              refine lv_goto (tgt := 36) hx hb d_MO_item_32 (by decide) ?_
              refine lv_istore (lv' := [(6, .int (nI 1)), (0, .ref mo), (1, .int x), (2, .int r), (3, .int y), (4, .int z), (5, .int u)]) hx hb d_MO_item_36 hl (by decide) rfl (fun ls hl => ?_)
              exact j38 ls (by rw [show bI (decide (r = 0) && wi3 72 2 y z u) = nI 1 from by first | (rw [decide_eq_true c_1, show wi3 72 2 y z u = true from by unfold wi3; rw [wi_in c_10 c_16, show (if 1 < 2 then 72 else 1) = 72 from rfl, wi_in c_21 c_28, show (if 2 < 2 then 72 else 1) = 1 from rfl, wi_one, decide_eq_true c_6]; rfl]; rfl)]; exact (lv_sub hl [0, 1, 2, 3, 4, 5, 6] rfl))
set_option maxHeartbeats 4000000 in
set_option maxRecDepth 100000 in
/-- the reference: item without a head -/
theorem c_MO_item_n (l : Launch) (X : gs_X) (σ : gs_St) (mo : Nat) (A : Nat → Nat) (cd nr : Nat) (cw : Nat → Nat) (F : List (Nat × Nat)) (T : List MT) (sa rc : Nat) (Q : List MR)  (x r y z u : Int32)
    (hM : moA X σ mo A cd nr cw F T sa rc Q none) (hok : itR nr cw x r y z u = true) : gs_Mi l X y_MO_item b_MO_item 9 (some .int) ({ frames := 1, cells := 0, slots := 0, locals := 27 }) σ [.ref mo, .int x, .int r, .int y, .int z, .int u] (fun q σ' => moA X σ' mo A 2 nr cw F T sa rc Q none ∧ frm (aM mo A) σ σ' ∧ q = nI 0) := by
  refine Met.ofW (cc := b_MO_item) (maxL := 9) (ret := (some .int)) (by decide) rfl ?_
  intro p e s m args below meth c s₁ B₀ hml hv
  obtain ⟨rfl, hK, hG, hz, hE⟩ := hv
  have hx := B₀.exec
  have hb := B₀.bytes
  have hr := B₀.returns
  have hts := atoms_spec (ws := gs_ws y_MO_item b_MO_item 9 (some .int)) B₀.pre
  have ht : ∀ w ∈ gs_w, w.before _ s = true := fun w h => hts w (List.mem_cons_of_mem _ h)
  have hown : s.vm.findClass R_MO = some m.cls := findClass_of_methodNamed B₀.named
  have hlocks := B₀.notSynchronized
  have hA : ∀ q : Nat, s.heap.size ≤ q → gs_A X q := fun q h => Nat.le_trans hz h
  have hS : va_S (gs_A X) s.heap s.heap [] := va_S.rf
  have hl := lv_entry ([.ref mo, .int x, .int r, .int y, .int z, .int u]) (n := 9) (Nat.le_of_ble_eq_true rfl)
  rw [lg_entry_eq]
  generalize (lg_sl ([.ref mo, .int x, .int r, .int y, .int z, .int u]) ++ List.replicate (9 - (lg_sl ([.ref mo, .int x, .int r, .int y, .int z, .int u])).length) Slot.unset).toArray = ls at hl ⊢
  have hl : lv_has ls 9 [(0, .ref mo), (1, .int x), (2, .int r), (3, .int y), (4, .int z), (5, .int u)] := hl
  obtain ⟨hNN, hnr, hFB, hTB, hrc, ⟨Z, m0, z0, z1, z4, z7, z16, z17, z25, z26⟩, hcol, hfac, htup, hbit, hfnd, hrul, hscr⟩ := id hM
  have hN := hN1 hNN
  have hFl := hFB.1
  have hTl := hTB.1
  obtain ⟨f2, m2, hcw⟩ := id hcol
  have fr0 : frm [mo] σ σ := frm.rf
  have j82 : ∀ ls, lv_has ls 9 [(7, .int (bI (itR nr cw x r y z u))), (0, .ref mo), (1, .int x), (2, .int r), (3, .int y), (4, .int z), (5, .int u)] → W p l e ({ frames := 1, cells := 0, slots := 0, locals := 27 } : Room) s m ([.ref mo, .int x, .int r, .int y, .int z, .int u] : List Value).toArray below meth c s.heap [] 0 0 (MQ below (va_Qi (fun q σ' => moA X σ' mo A 2 nr cw F T sa rc Q none ∧ frm (aM mo A) σ σ' ∧ q = nI 0) (gs_U X) (gs_A X)) ([.ref mo, .int x, .int r, .int y, .int z, .int u] : List Value).toArray s 0 0 (gs_A X)) (F0 m 82 ls []) := by
    intro ls hl
    refine lv_aload_n hx hb d_MO_item_82 rfl (lv_at hl 1 rfl) ?_
    refine lv_iload hx hb d_MO_item_83 (lv_at hl 0 rfl) ?_
    refine lv_if_ne (tgt := 92) hx hb d_MO_item_85 (by decide) (fun c_85 => ?_) (fun c_85 => ?_)
    · refine lv_aload_n hx hb d_MO_item_92 rfl (lv_at hl 1 rfl) ?_
      refine gs_get (v := .int (nI (Z 17))) hx hb ht hown hK hG k_MO m0 17 (by decide) w_679 rfl d_MO_item_93 ?_
      refine gs_top (show nI (Z 17) = nI 0 from congrArg nI (show Z 17 = 0 from z17)) ?_
      refine lv_if_eq (tgt := 125) hx hb d_MO_item_96 (by decide) (fun c_96 => ?_) (fun c_96 => ?_)
      · have c_96 : 0 = 0 := gs_z (by omega) c_96
        refine lv_iconst (v := nI 2) hx hb d_MO_item_125 (by decide) ?_
        refine lv_goto (tgt := 130) hx hb d_MO_item_126 (by decide) ?_
        refine gs_put hx hb ht hown hK hG hS k_MO m0 0 (by decide) w_662 rfl rfl rfl (Nat.le_of_ble_eq_true rfl) d_MO_item_130 (fun H locs hG hS => ?_)
        have hG : gs_H X (gs_up σ mo (moE A (va_up Z 0 2))) H := hG
        obtain ⟨σ_1, eσ_1⟩ : ∃ zq, zq = gs_up σ mo (moE A (va_up Z 0 2)) := ⟨_, rfl⟩
        rw [← eσ_1] at hG
        have hc_2 : σ_1 (A 2) = some (gs_ia X 12 f2) := by rw [eσ_1]; exact gs_ku (gs_ne m2 m0 (by simp)) m2
        have hc_3 : σ_1 mo = some (moE A (va_up Z 0 2)) := by rw [eσ_1]; exact gs_us
        have fr_4 : frm [mo] σ σ_1 := by rw [eσ_1]; exact fr0.up (by simp)
        refine lv_aload_n hx hb d_MO_item_133 rfl (lv_at hl 1 rfl) ?_
        refine gs_get (v := .int (nI 2)) hx hb ht hown hK hG k_MO hc_3 0 (by decide) w_662 rfl d_MO_item_134 ?_
        refine lv_if_le (tgt := 142) hx hb d_MO_item_137 (by decide) (fun c_137 => ?_) (fun c_137 => ?_)
        · exact absurd c_137 (by decide)
        · have c_137 : 0 < 2 := by have := gs_le0 (a := 2) (by omega); have h9 := mt this.mpr c_137; omega
          refine lv_iconst (v := nI 0) hx hb d_MO_item_140 (by decide) ?_
          exact gs_iret (v := (nI 0)) hx hb hr rfl hK hE hz hG hS hlocks (by first | decide | omega | (dsimp only [headSpec]; omega)) (by first | decide | omega | (dsimp only [headSpec]; omega)) (⟨(hM.num fr_4 ⟨_, hc_3, rfl, z1, z4, z7, z16, z17, z25, z26⟩ hrc), fr_4.wk (by simp), rfl⟩) d_MO_item_141
      · exact absurd c_96 (by decide)
    · exact absurd ((bI_0 c_85).symm.trans hok) (by decide)
  have j38 : ∀ ls, lv_has ls 9 [(6, .int (bI (decide (r = 0) && wi3 72 2 y z u))), (0, .ref mo), (1, .int x), (2, .int r), (3, .int y), (4, .int z), (5, .int u)] → W p l e ({ frames := 1, cells := 0, slots := 0, locals := 27 } : Room) s m ([.ref mo, .int x, .int r, .int y, .int z, .int u] : List Value).toArray below meth c s.heap [] 0 0 (MQ below (va_Qi (fun q σ' => moA X σ' mo A 2 nr cw F T sa rc Q none ∧ frm (aM mo A) σ σ' ∧ q = nI 0) (gs_U X) (gs_A X)) ([.ref mo, .int x, .int r, .int y, .int z, .int u] : List Value).toArray s 0 0 (gs_A X)) (F0 m 38 ls []) := by
    intro ls hl
    refine lv_iload_n hx hb d_MO_item_38 rfl (lv_at hl 2 rfl) ?_
    refine lv_if_lt (tgt := 79) hx hb d_MO_item_39 (by decide) (fun c_39 => ?_) (fun c_39 => ?_)
    · refine lv_iconst (v := nI 0) hx hb d_MO_item_79 (by decide) ?_
      refine lv_istore (lv' := [(7, .int (nI 0)), (6, .int (bI (decide (r = 0) && wi3 72 2 y z u))), (0, .ref mo), (1, .int x), (2, .int r), (3, .int y), (4, .int z), (5, .int u)]) hx hb d_MO_item_80 hl (by decide) rfl (fun ls hl => ?_)
      exact j82 ls (by rw [show bI (itR nr cw x r y z u) = nI 0 from by first | (unfold itR; rw [decide_eq_true c_39]; rfl) | (unfold itR; rw [decide_eq_false (Int32.not_le.mpr c_44), Bool.and_false]; rfl) | (unfold itR; rw [if_pos (Int32.not_le.mp c_49), bI_0 c_64, Bool.and_false]; rfl) | (unfold itR; rw [if_neg (Int32.not_lt.mpr c_49), bI_0 c_72, Bool.and_false]; rfl)]; exact (lv_sub hl [0, 2, 3, 4, 5, 6, 7] rfl))
    · refine lv_iload_n hx hb d_MO_item_42 rfl (lv_at hl 2 rfl) ?_
      refine lv_iconst (v := nI 3) hx hb d_MO_item_43 (by decide) ?_
      refine lv_icmp_gt (tgt := 79) hx hb d_MO_item_44 (by decide) (fun c_44 => ?_) (fun c_44 => ?_)
      · refine lv_iconst (v := nI 0) hx hb d_MO_item_79 (by decide) ?_
        refine lv_istore (lv' := [(7, .int (nI 0)), (6, .int (bI (decide (r = 0) && wi3 72 2 y z u))), (0, .ref mo), (1, .int x), (2, .int r), (3, .int y), (4, .int z), (5, .int u)]) hx hb d_MO_item_80 hl (by decide) rfl (fun ls hl => ?_)
        exact j82 ls (by rw [show bI (itR nr cw x r y z u) = nI 0 from by first | (unfold itR; rw [decide_eq_true c_39]; rfl) | (unfold itR; rw [decide_eq_false (Int32.not_le.mpr c_44), Bool.and_false]; rfl) | (unfold itR; rw [if_pos (Int32.not_le.mp c_49), bI_0 c_64, Bool.and_false]; rfl) | (unfold itR; rw [if_neg (Int32.not_lt.mpr c_49), bI_0 c_72, Bool.and_false]; rfl)]; exact (lv_sub hl [0, 2, 3, 4, 5, 6, 7] rfl))
      · refine lv_iload_n hx hb d_MO_item_47 rfl (lv_at hl 2 rfl) ?_
        refine lv_iconst (v := nI 2) hx hb d_MO_item_48 (by decide) ?_
        refine lv_icmp_ge (tgt := 70) hx hb d_MO_item_49 (by decide) (fun c_49 => ?_) (fun c_49 => ?_)
        · refine lv_iload hx hb d_MO_item_70 (lv_at hl 0 rfl) ?_
          refine lv_if_eq (tgt := 79) hx hb d_MO_item_72 (by decide) (fun c_72 => ?_) (fun c_72 => ?_)
          · refine lv_iconst (v := nI 0) hx hb d_MO_item_79 (by decide) ?_
            refine lv_istore (lv' := [(7, .int (nI 0)), (6, .int (bI (decide (r = 0) && wi3 72 2 y z u))), (0, .ref mo), (1, .int x), (2, .int r), (3, .int y), (4, .int z), (5, .int u)]) hx hb d_MO_item_80 hl (by decide) rfl (fun ls hl => ?_)
            exact j82 ls (by rw [show bI (itR nr cw x r y z u) = nI 0 from by first | (unfold itR; rw [decide_eq_true c_39]; rfl) | (unfold itR; rw [decide_eq_false (Int32.not_le.mpr c_44), Bool.and_false]; rfl) | (unfold itR; rw [if_pos (Int32.not_le.mp c_49), bI_0 c_64, Bool.and_false]; rfl) | (unfold itR; rw [if_neg (Int32.not_lt.mpr c_49), bI_0 c_72, Bool.and_false]; rfl)]; exact (lv_sub hl [0, 2, 3, 4, 5, 6, 7] rfl))
          · refine lv_iconst (v := nI 1) hx hb d_MO_item_75 (by decide) ?_
            refine lv_goto (tgt := 80) hx hb d_MO_item_76 (by decide) ?_
            refine lv_istore (lv' := [(7, .int (nI 1)), (6, .int (bI (decide (r = 0) && wi3 72 2 y z u))), (0, .ref mo), (1, .int x), (2, .int r), (3, .int y), (4, .int z), (5, .int u)]) hx hb d_MO_item_80 hl (by decide) rfl (fun ls hl => ?_)
            exact j82 ls (by rw [show bI (itR nr cw x r y z u) = nI 1 from by first | (unfold itR; rw [decide_eq_false c_39, decide_eq_true (Int32.not_lt.mp c_44), if_pos (Int32.not_le.mp c_49), bI_n0 c_64]; rfl) | (unfold itR; rw [decide_eq_false c_39, decide_eq_true (Int32.not_lt.mp c_44), if_neg (Int32.not_lt.mpr c_49), bI_n0 c_72]; rfl)]; exact (lv_sub hl [0, 2, 3, 4, 5, 6, 7] rfl))
        · refine lv_aload_n hx hb d_MO_item_52 rfl (lv_at hl 1 rfl) ?_
          refine lv_iload_n hx hb d_MO_item_53 rfl (lv_at hl 3 rfl) ?_
          refine lv_iload_n hx hb d_MO_item_54 rfl (lv_at hl 4 rfl) ?_
          refine lv_iload hx hb d_MO_item_55 (lv_at hl 5 rfl) ?_
          refine lv_iload hx hb d_MO_item_57 (lv_at hl 6 rfl) ?_
          refine lv_bipush (v := nI 72) hx hb d_MO_item_59 (by decide) ?_
          refine gs_callVp (As := [.int r, .int y, .int z, .int u, .int (nI 72)]) (rest := []) ⟨hx, hb, hml, hown, hts⟩ hK hE hz hG hS (c_MO_fitsU l X σ mo A Z f2 nr cw 72 r y z u m0 m2 z1 hnr hcw) ⟨rfl, rfl⟩ mV_MO_fits w_777 m0 rfl rfl hl.1 rfl (Nat.le_of_ble_eq_true rfl) ⟨(by first | decide | omega | (dsimp only [headSpec]; omega)), (by first | decide | omega | (dsimp only [headSpec]; omega))⟩ ⟨(by first | decide | omega | (dsimp only [headSpec]; omega)), (by first | decide | omega | (dsimp only [headSpec]; omega))⟩ d_MO_item_61 (fun r_61 hp_61 => ?_)
          refine gs_top (show r_61 = (bI (fitR nr cw 72 r y z u)) from hp_61) ?_
          refine lv_if_eq (tgt := 79) hx hb d_MO_item_64 (by decide) (fun c_64 => ?_) (fun c_64 => ?_)
          · refine lv_iconst (v := nI 0) hx hb d_MO_item_79 (by decide) ?_
            refine lv_istore (lv' := [(7, .int (nI 0)), (6, .int (bI (decide (r = 0) && wi3 72 2 y z u))), (0, .ref mo), (1, .int x), (2, .int r), (3, .int y), (4, .int z), (5, .int u)]) hx hb d_MO_item_80 hl (by decide) rfl (fun ls hl => ?_)
            exact j82 ls (by rw [show bI (itR nr cw x r y z u) = nI 0 from by first | (unfold itR; rw [decide_eq_true c_39]; rfl) | (unfold itR; rw [decide_eq_false (Int32.not_le.mpr c_44), Bool.and_false]; rfl) | (unfold itR; rw [if_pos (Int32.not_le.mp c_49), bI_0 c_64, Bool.and_false]; rfl) | (unfold itR; rw [if_neg (Int32.not_lt.mpr c_49), bI_0 c_72, Bool.and_false]; rfl)]; exact (lv_sub hl [0, 2, 3, 4, 5, 6, 7] rfl))
          · refine lv_goto (tgt := 75) hx hb d_MO_item_67 (by decide) ?_
            refine lv_iconst (v := nI 1) hx hb d_MO_item_75 (by decide) ?_
            refine lv_goto (tgt := 80) hx hb d_MO_item_76 (by decide) ?_
            refine lv_istore (lv' := [(7, .int (nI 1)), (6, .int (bI (decide (r = 0) && wi3 72 2 y z u))), (0, .ref mo), (1, .int x), (2, .int r), (3, .int y), (4, .int z), (5, .int u)]) hx hb d_MO_item_80 hl (by decide) rfl (fun ls hl => ?_)
            exact j82 ls (by rw [show bI (itR nr cw x r y z u) = nI 1 from by first | (unfold itR; rw [decide_eq_false c_39, decide_eq_true (Int32.not_lt.mp c_44), if_pos (Int32.not_le.mp c_49), bI_n0 c_64]; rfl) | (unfold itR; rw [decide_eq_false c_39, decide_eq_true (Int32.not_lt.mp c_44), if_neg (Int32.not_lt.mpr c_49), bI_n0 c_72]; rfl)]; exact (lv_sub hl [0, 2, 3, 4, 5, 6, 7] rfl))
  refine lv_iload_n hx hb d_MO_item_0 rfl (lv_at hl 2 rfl) ?_
  refine lv_if_ne (tgt := 35) hx hb d_MO_item_1 (by decide) (fun c_1 => ?_) (fun c_1 => ?_)
  · refine lv_iconst (v := nI 0) hx hb d_MO_item_35 (by decide) ?_
    refine lv_istore (lv' := [(6, .int (nI 0)), (0, .ref mo), (1, .int x), (2, .int r), (3, .int y), (4, .int z), (5, .int u)]) hx hb d_MO_item_36 hl (by decide) rfl (fun ls hl => ?_)
    exact j38 ls (by rw [show bI (decide (r = 0) && wi3 72 2 y z u) = nI 0 from by first | (rw [decide_eq_false c_1]; rfl) | (rw [show wi3 72 2 y z u = false from by unfold wi3; rw [show (if 2 < 2 then 72 else 1) = 1 from rfl, wi_one, decide_eq_false c_6, Bool.and_false], Bool.and_false]; rfl) | (rw [show wi3 72 2 y z u = false from by unfold wi3; (rw [wi_neg c_10]; rfl), Bool.and_false]; rfl) | (rw [show wi3 72 2 y z u = false from by unfold wi3; (rw [wi_ge c_16]; rfl), Bool.and_false]; rfl) | (rw [show wi3 72 2 y z u = false from by unfold wi3; rw [show (if 1 < 2 then 72 else 1) = 72 from rfl, wi_neg c_21, Bool.and_false]; rfl, Bool.and_false]; rfl) | (rw [show wi3 72 2 y z u = false from by unfold wi3; rw [show (if 1 < 2 then 72 else 1) = 72 from rfl, wi_ge c_28, Bool.and_false]; rfl, Bool.and_false]; rfl)]; exact (lv_sub hl [0, 1, 2, 3, 4, 5, 6] rfl))
  · refine lv_iload hx hb d_MO_item_4 (lv_at hl 5 rfl) ?_
    refine lv_if_ne (tgt := 35) hx hb d_MO_item_6 (by decide) (fun c_6 => ?_) (fun c_6 => ?_)
    · refine lv_iconst (v := nI 0) hx hb d_MO_item_35 (by decide) ?_
      refine lv_istore (lv' := [(6, .int (nI 0)), (0, .ref mo), (1, .int x), (2, .int r), (3, .int y), (4, .int z), (5, .int u)]) hx hb d_MO_item_36 hl (by decide) rfl (fun ls hl => ?_)
      exact j38 ls (by rw [show bI (decide (r = 0) && wi3 72 2 y z u) = nI 0 from by first | (rw [decide_eq_false c_1]; rfl) | (rw [show wi3 72 2 y z u = false from by unfold wi3; rw [show (if 2 < 2 then 72 else 1) = 1 from rfl, wi_one, decide_eq_false c_6, Bool.and_false], Bool.and_false]; rfl) | (rw [show wi3 72 2 y z u = false from by unfold wi3; (rw [wi_neg c_10]; rfl), Bool.and_false]; rfl) | (rw [show wi3 72 2 y z u = false from by unfold wi3; (rw [wi_ge c_16]; rfl), Bool.and_false]; rfl) | (rw [show wi3 72 2 y z u = false from by unfold wi3; rw [show (if 1 < 2 then 72 else 1) = 72 from rfl, wi_neg c_21, Bool.and_false]; rfl, Bool.and_false]; rfl) | (rw [show wi3 72 2 y z u = false from by unfold wi3; rw [show (if 1 < 2 then 72 else 1) = 72 from rfl, wi_ge c_28, Bool.and_false]; rfl, Bool.and_false]; rfl)]; exact (lv_sub hl [0, 1, 2, 3, 4, 5, 6] rfl))
    · refine lv_iload_n hx hb d_MO_item_9 rfl (lv_at hl 3 rfl) ?_
      refine lv_if_lt (tgt := 35) hx hb d_MO_item_10 (by decide) (fun c_10 => ?_) (fun c_10 => ?_)
      · refine lv_iconst (v := nI 0) hx hb d_MO_item_35 (by decide) ?_
        refine lv_istore (lv' := [(6, .int (nI 0)), (0, .ref mo), (1, .int x), (2, .int r), (3, .int y), (4, .int z), (5, .int u)]) hx hb d_MO_item_36 hl (by decide) rfl (fun ls hl => ?_)
        exact j38 ls (by rw [show bI (decide (r = 0) && wi3 72 2 y z u) = nI 0 from by first | (rw [decide_eq_false c_1]; rfl) | (rw [show wi3 72 2 y z u = false from by unfold wi3; rw [show (if 2 < 2 then 72 else 1) = 1 from rfl, wi_one, decide_eq_false c_6, Bool.and_false], Bool.and_false]; rfl) | (rw [show wi3 72 2 y z u = false from by unfold wi3; (rw [wi_neg c_10]; rfl), Bool.and_false]; rfl) | (rw [show wi3 72 2 y z u = false from by unfold wi3; (rw [wi_ge c_16]; rfl), Bool.and_false]; rfl) | (rw [show wi3 72 2 y z u = false from by unfold wi3; rw [show (if 1 < 2 then 72 else 1) = 72 from rfl, wi_neg c_21, Bool.and_false]; rfl, Bool.and_false]; rfl) | (rw [show wi3 72 2 y z u = false from by unfold wi3; rw [show (if 1 < 2 then 72 else 1) = 72 from rfl, wi_ge c_28, Bool.and_false]; rfl, Bool.and_false]; rfl)]; exact (lv_sub hl [0, 1, 2, 3, 4, 5, 6] rfl))
      · refine lv_iload_n hx hb d_MO_item_13 rfl (lv_at hl 3 rfl) ?_
        refine lv_bipush (v := nI 72) hx hb d_MO_item_14 (by decide) ?_
        refine lv_icmp_ge (tgt := 35) hx hb d_MO_item_16 (by decide) (fun c_16 => ?_) (fun c_16 => ?_)
        · refine lv_iconst (v := nI 0) hx hb d_MO_item_35 (by decide) ?_
          refine lv_istore (lv' := [(6, .int (nI 0)), (0, .ref mo), (1, .int x), (2, .int r), (3, .int y), (4, .int z), (5, .int u)]) hx hb d_MO_item_36 hl (by decide) rfl (fun ls hl => ?_)
          exact j38 ls (by rw [show bI (decide (r = 0) && wi3 72 2 y z u) = nI 0 from by first | (rw [decide_eq_false c_1]; rfl) | (rw [show wi3 72 2 y z u = false from by unfold wi3; rw [show (if 2 < 2 then 72 else 1) = 1 from rfl, wi_one, decide_eq_false c_6, Bool.and_false], Bool.and_false]; rfl) | (rw [show wi3 72 2 y z u = false from by unfold wi3; (rw [wi_neg c_10]; rfl), Bool.and_false]; rfl) | (rw [show wi3 72 2 y z u = false from by unfold wi3; (rw [wi_ge c_16]; rfl), Bool.and_false]; rfl) | (rw [show wi3 72 2 y z u = false from by unfold wi3; rw [show (if 1 < 2 then 72 else 1) = 72 from rfl, wi_neg c_21, Bool.and_false]; rfl, Bool.and_false]; rfl) | (rw [show wi3 72 2 y z u = false from by unfold wi3; rw [show (if 1 < 2 then 72 else 1) = 72 from rfl, wi_ge c_28, Bool.and_false]; rfl, Bool.and_false]; rfl)]; exact (lv_sub hl [0, 1, 2, 3, 4, 5, 6] rfl))
        · refine lv_iload hx hb d_MO_item_19 (lv_at hl 4 rfl) ?_
          refine lv_if_lt (tgt := 35) hx hb d_MO_item_21 (by decide) (fun c_21 => ?_) (fun c_21 => ?_)
          · refine lv_iconst (v := nI 0) hx hb d_MO_item_35 (by decide) ?_
            refine lv_istore (lv' := [(6, .int (nI 0)), (0, .ref mo), (1, .int x), (2, .int r), (3, .int y), (4, .int z), (5, .int u)]) hx hb d_MO_item_36 hl (by decide) rfl (fun ls hl => ?_)
            exact j38 ls (by rw [show bI (decide (r = 0) && wi3 72 2 y z u) = nI 0 from by first | (rw [decide_eq_false c_1]; rfl) | (rw [show wi3 72 2 y z u = false from by unfold wi3; rw [show (if 2 < 2 then 72 else 1) = 1 from rfl, wi_one, decide_eq_false c_6, Bool.and_false], Bool.and_false]; rfl) | (rw [show wi3 72 2 y z u = false from by unfold wi3; (rw [wi_neg c_10]; rfl), Bool.and_false]; rfl) | (rw [show wi3 72 2 y z u = false from by unfold wi3; (rw [wi_ge c_16]; rfl), Bool.and_false]; rfl) | (rw [show wi3 72 2 y z u = false from by unfold wi3; rw [show (if 1 < 2 then 72 else 1) = 72 from rfl, wi_neg c_21, Bool.and_false]; rfl, Bool.and_false]; rfl) | (rw [show wi3 72 2 y z u = false from by unfold wi3; rw [show (if 1 < 2 then 72 else 1) = 72 from rfl, wi_ge c_28, Bool.and_false]; rfl, Bool.and_false]; rfl)]; exact (lv_sub hl [0, 1, 2, 3, 4, 5, 6] rfl))
          · refine lv_iload hx hb d_MO_item_24 (lv_at hl 4 rfl) ?_
            refine lv_bipush (v := nI 72) hx hb d_MO_item_26 (by decide) ?_
            refine lv_icmp_ge (tgt := 35) hx hb d_MO_item_28 (by decide) (fun c_28 => ?_) (fun c_28 => ?_)
            · refine lv_iconst (v := nI 0) hx hb d_MO_item_35 (by decide) ?_
              refine lv_istore (lv' := [(6, .int (nI 0)), (0, .ref mo), (1, .int x), (2, .int r), (3, .int y), (4, .int z), (5, .int u)]) hx hb d_MO_item_36 hl (by decide) rfl (fun ls hl => ?_)
              exact j38 ls (by rw [show bI (decide (r = 0) && wi3 72 2 y z u) = nI 0 from by first | (rw [decide_eq_false c_1]; rfl) | (rw [show wi3 72 2 y z u = false from by unfold wi3; rw [show (if 2 < 2 then 72 else 1) = 1 from rfl, wi_one, decide_eq_false c_6, Bool.and_false], Bool.and_false]; rfl) | (rw [show wi3 72 2 y z u = false from by unfold wi3; (rw [wi_neg c_10]; rfl), Bool.and_false]; rfl) | (rw [show wi3 72 2 y z u = false from by unfold wi3; (rw [wi_ge c_16]; rfl), Bool.and_false]; rfl) | (rw [show wi3 72 2 y z u = false from by unfold wi3; rw [show (if 1 < 2 then 72 else 1) = 72 from rfl, wi_neg c_21, Bool.and_false]; rfl, Bool.and_false]; rfl) | (rw [show wi3 72 2 y z u = false from by unfold wi3; rw [show (if 1 < 2 then 72 else 1) = 72 from rfl, wi_ge c_28, Bool.and_false]; rfl, Bool.and_false]; rfl)]; exact (lv_sub hl [0, 1, 2, 3, 4, 5, 6] rfl))
            · refine lv_iconst (v := nI 1) hx hb d_MO_item_31 (by decide) ?_
              refine lv_goto (tgt := 36) hx hb d_MO_item_32 (by decide) ?_
              refine lv_istore (lv' := [(6, .int (nI 1)), (0, .ref mo), (1, .int x), (2, .int r), (3, .int y), (4, .int z), (5, .int u)]) hx hb d_MO_item_36 hl (by decide) rfl (fun ls hl => ?_)
              exact j38 ls (by rw [show bI (decide (r = 0) && wi3 72 2 y z u) = nI 1 from by first | (rw [decide_eq_true c_1, show wi3 72 2 y z u = true from by unfold wi3; rw [wi_in c_10 c_16, show (if 1 < 2 then 72 else 1) = 72 from rfl, wi_in c_21 c_28, show (if 2 < 2 then 72 else 1) = 1 from rfl, wi_one, decide_eq_true c_6]; rfl]; rfl)]; exact (lv_sub hl [0, 1, 2, 3, 4, 5, 6] rfl))
set_option maxHeartbeats 4000000 in
set_option maxRecDepth 100000 in
/-- the reference: item, too many -/
theorem c_MO_item_f (l : Launch) (X : gs_X) (σ : gs_St) (mo : Nat) (A : Nat → Nat) (cd nr : Nat) (cw : Nat → Nat) (F : List (Nat × Nat)) (T : List MT) (sa rc : Nat) (Q : List MR)  (x r y z u : Int32) (R : MR)
    (hM : moA X σ mo A cd nr cw F T sa rc Q (some R)) (hok : itR nr cw x r y z u = true) (hfu : R.2.length = 6 ∨ (x = 0 ∧ hl0 R = 3)) : gs_Mi l X y_MO_item b_MO_item 9 (some .int) ({ frames := 1, cells := 0, slots := 0, locals := 27 }) σ [.ref mo, .int x, .int r, .int y, .int z, .int u] (fun q σ' => moA X σ' mo A 2 nr cw F T sa rc Q (some R) ∧ frm (aM mo A) σ σ' ∧ q = nI 0) := by
  refine Met.ofW (cc := b_MO_item) (maxL := 9) (ret := (some .int)) (by decide) rfl ?_
  intro p e s m args below meth c s₁ B₀ hml hv
  obtain ⟨rfl, hK, hG, hz, hE⟩ := hv
  have hx := B₀.exec
  have hb := B₀.bytes
  have hr := B₀.returns
  have hts := atoms_spec (ws := gs_ws y_MO_item b_MO_item 9 (some .int)) B₀.pre
  have ht : ∀ w ∈ gs_w, w.before _ s = true := fun w h => hts w (List.mem_cons_of_mem _ h)
  have hown : s.vm.findClass R_MO = some m.cls := findClass_of_methodNamed B₀.named
  have hlocks := B₀.notSynchronized
  have hA : ∀ q : Nat, s.heap.size ≤ q → gs_A X q := fun q h => Nat.le_trans hz h
  have hS : va_S (gs_A X) s.heap s.heap [] := va_S.rf
  have hl := lv_entry ([.ref mo, .int x, .int r, .int y, .int z, .int u]) (n := 9) (Nat.le_of_ble_eq_true rfl)
  rw [lg_entry_eq]
  generalize (lg_sl ([.ref mo, .int x, .int r, .int y, .int z, .int u]) ++ List.replicate (9 - (lg_sl ([.ref mo, .int x, .int r, .int y, .int z, .int u])).length) Slot.unset).toArray = ls at hl ⊢
  have hl : lv_has ls 9 [(0, .ref mo), (1, .int x), (2, .int r), (3, .int y), (4, .int z), (5, .int u)] := hl
  obtain ⟨hNN, hnr, hFB, hTB, hrc, ⟨Z, m0, z0, z1, z4, z7, z16, z17, z25, z26⟩, hcol, hfac, htup, hbit, hfnd, hrul, hscr⟩ := id hM
  have hN := hN1 hNN
  have hFl := hFB.1
  have hTl := hTB.1
  obtain ⟨f2, m2, hcw⟩ := id hcol
  obtain ⟨f18, f19, f20, f21, f22, f23, m18, m19, m20, m21, m22, m23, hQl, hQ, hdr⟩ := id hrul
  obtain ⟨hR9, hRB⟩ := hdr R rfl
  have hRl := hRB.2.2.1
  have hRh : hl0 R ≤ 3 := hRB.2.2.2.1
  have fr0 : frm [mo] σ σ := frm.rf
  have j82 : ∀ ls, lv_has ls 9 [(7, .int (bI (itR nr cw x r y z u))), (0, .ref mo), (1, .int x), (2, .int r), (3, .int y), (4, .int z), (5, .int u)] → W p l e ({ frames := 1, cells := 0, slots := 0, locals := 27 } : Room) s m ([.ref mo, .int x, .int r, .int y, .int z, .int u] : List Value).toArray below meth c s.heap [] 0 0 (MQ below (va_Qi (fun q σ' => moA X σ' mo A 2 nr cw F T sa rc Q (some R) ∧ frm (aM mo A) σ σ' ∧ q = nI 0) (gs_U X) (gs_A X)) ([.ref mo, .int x, .int r, .int y, .int z, .int u] : List Value).toArray s 0 0 (gs_A X)) (F0 m 82 ls []) := by
    intro ls hl
    refine lv_aload_n hx hb d_MO_item_82 rfl (lv_at hl 1 rfl) ?_
    refine lv_iload hx hb d_MO_item_83 (lv_at hl 0 rfl) ?_
    refine lv_if_ne (tgt := 92) hx hb d_MO_item_85 (by decide) (fun c_85 => ?_) (fun c_85 => ?_)
    · refine lv_aload_n hx hb d_MO_item_92 rfl (lv_at hl 1 rfl) ?_
      refine gs_get (v := .int (nI (Z 17))) hx hb ht hown hK hG k_MO m0 17 (by decide) w_679 rfl d_MO_item_93 ?_
      refine gs_top (show nI (Z 17) = nI 1 from congrArg nI (show Z 17 = 1 from z17)) ?_
      refine lv_if_eq (tgt := 125) hx hb d_MO_item_96 (by decide) (fun c_96 => ?_) (fun c_96 => ?_)
      · exact absurd c_96 (by decide)
      · have c_96 : ¬ 1 = 0 := gs_zn (by omega) c_96
        refine lv_aload_n hx hb d_MO_item_99 rfl (lv_at hl 1 rfl) ?_
        refine gs_get (v := .ref (A 20)) hx hb ht hown hK hG k_MO m0 20 (by decide) w_682 rfl d_MO_item_100 ?_
        refine lv_bipush (v := nI 24) hx hb d_MO_item_103 (by decide) ?_
        refine gs_iald hx hb hK hG m20 (j := 24) (by omega) (by omega) d_MO_item_105 ?_
        refine gs_top (show (f20 24) = (nI R.2.length) from hR9.2.2.1) ?_
        refine lv_bipush (v := nI 6) hx hb d_MO_item_106 (by decide) ?_
        refine lv_icmp_eq (tgt := 125) hx hb d_MO_item_108 (by decide) (fun c_108 => ?_) (fun c_108 => ?_)
        · have c_108 : R.2.length = 6 :=  (nI_eq (by omega) (by omega)).mp c_108
          refine lv_iconst (v := nI 2) hx hb d_MO_item_125 (by decide) ?_
          refine lv_goto (tgt := 130) hx hb d_MO_item_126 (by decide) ?_
          refine gs_put hx hb ht hown hK hG hS k_MO m0 0 (by decide) w_662 rfl rfl rfl (Nat.le_of_ble_eq_true rfl) d_MO_item_130 (fun H locs hG hS => ?_)
          have hG : gs_H X (gs_up σ mo (moE A (va_up Z 0 2))) H := hG
          obtain ⟨σ_1, eσ_1⟩ : ∃ zq, zq = gs_up σ mo (moE A (va_up Z 0 2)) := ⟨_, rfl⟩
          rw [← eσ_1] at hG
          have hc_2 : σ_1 (A 2) = some (gs_ia X 12 f2) := by rw [eσ_1]; exact gs_ku (gs_ne m2 m0 (by simp)) m2
          have hc_3 : σ_1 (A 20) = some (gs_ia X 25 f20) := by rw [eσ_1]; exact gs_ku (gs_ne m20 m0 (by simp)) m20
          have hc_4 : σ_1 (A 21) = some (gs_ia X 150 f21) := by rw [eσ_1]; exact gs_ku (gs_ne m21 m0 (by simp)) m21
          have hc_5 : σ_1 mo = some (moE A (va_up Z 0 2)) := by rw [eσ_1]; exact gs_us
          have fr_6 : frm [mo] σ σ_1 := by rw [eσ_1]; exact fr0.up (by simp)
          refine lv_aload_n hx hb d_MO_item_133 rfl (lv_at hl 1 rfl) ?_
          refine gs_get (v := .int (nI 2)) hx hb ht hown hK hG k_MO hc_5 0 (by decide) w_662 rfl d_MO_item_134 ?_
          refine lv_if_le (tgt := 142) hx hb d_MO_item_137 (by decide) (fun c_137 => ?_) (fun c_137 => ?_)
          · exact absurd c_137 (by decide)
          · have c_137 : 0 < 2 := by have := gs_le0 (a := 2) (by omega); have h9 := mt this.mpr c_137; omega
            refine lv_iconst (v := nI 0) hx hb d_MO_item_140 (by decide) ?_
            exact gs_iret (v := (nI 0)) hx hb hr rfl hK hE hz hG hS hlocks (by first | decide | omega | (dsimp only [headSpec]; omega)) (by first | decide | omega | (dsimp only [headSpec]; omega)) (⟨(hM.num fr_6 ⟨_, hc_5, rfl, z1, z4, z7, z16, z17, z25, z26⟩ hrc), fr_6.wk (by simp), rfl⟩) d_MO_item_141
        · have c_108 : ¬ R.2.length = 6 := mt (nI_eq (by omega) (by omega)).mpr c_108
          refine lv_iload_n hx hb d_MO_item_111 rfl (lv_at hl 2 rfl) ?_
          refine lv_if_ne (tgt := 129) hx hb d_MO_item_112 (by decide) (fun c_112 => ?_) (fun c_112 => ?_)
          · first | (exact absurd (by omega) hfu; done) | (rcases hfu with q | q <;> first | exact absurd q c_108 | exact absurd q.1 c_112 | exact absurd q.2 c_122)
          · refine lv_aload_n hx hb d_MO_item_115 rfl (lv_at hl 1 rfl) ?_
            refine lv_bipush (v := nI 24) hx hb d_MO_item_116 (by decide) ?_
            refine gs_callVp (As := [.int (nI 24)]) (rest := [.ref mo]) ⟨hx, hb, hml, hown, hts⟩ hK hE hz hG hS (c_MO_holds l X σ mo A Z f18 f19 f20 f21 f22 f23 24 R m0 m20 m21 hR9 (by decide) hRB.2.2.1 (fun x hx => (hRB.2.2.2.2 x hx).1)) ⟨rfl, rfl⟩ mV_MO_holds w_800 m0 rfl rfl hl.1 rfl (Nat.le_of_ble_eq_true rfl) ⟨(by first | decide | omega | (dsimp only [headSpec]; omega)), (by first | decide | omega | (dsimp only [headSpec]; omega))⟩ ⟨(by first | decide | omega | (dsimp only [headSpec]; omega)), (by first | decide | omega | (dsimp only [headSpec]; omega))⟩ d_MO_item_118 (fun r_118 hp_118 => ?_)
            refine gs_top (show r_118 = (nI (hl0 R)) from hp_118) ?_
            refine lv_iconst (v := nI 3) hx hb d_MO_item_121 (by decide) ?_
            refine lv_icmp_ne (tgt := 129) hx hb d_MO_item_122 (by decide) (fun c_122 => ?_) (fun c_122 => ?_)
            · have c_122 : ¬ (hl0 R) = 3 := mt (nI_eq (by omega) (by omega)).mpr c_122
              first | (exact absurd (by omega) hfu; done) | (rcases hfu with q | q <;> first | exact absurd q c_108 | exact absurd q.1 c_112 | exact absurd q.2 c_122)
            · have c_122 : (hl0 R) = 3 :=  (nI_eq (by omega) (by omega)).mp c_122
              refine lv_iconst (v := nI 2) hx hb d_MO_item_125 (by decide) ?_
              refine lv_goto (tgt := 130) hx hb d_MO_item_126 (by decide) ?_
              refine gs_put hx hb ht hown hK hG hS k_MO m0 0 (by decide) w_662 rfl rfl rfl (Nat.le_of_ble_eq_true rfl) d_MO_item_130 (fun H locs hG hS => ?_)
              have hG : gs_H X (gs_up σ mo (moE A (va_up Z 0 2))) H := hG
              obtain ⟨σ_7, eσ_7⟩ : ∃ zq, zq = gs_up σ mo (moE A (va_up Z 0 2)) := ⟨_, rfl⟩
              rw [← eσ_7] at hG
              have hc_8 : σ_7 (A 2) = some (gs_ia X 12 f2) := by rw [eσ_7]; exact gs_ku (gs_ne m2 m0 (by simp)) m2
              have hc_9 : σ_7 (A 20) = some (gs_ia X 25 f20) := by rw [eσ_7]; exact gs_ku (gs_ne m20 m0 (by simp)) m20
              have hc_10 : σ_7 (A 21) = some (gs_ia X 150 f21) := by rw [eσ_7]; exact gs_ku (gs_ne m21 m0 (by simp)) m21
              have hc_11 : σ_7 mo = some (moE A (va_up Z 0 2)) := by rw [eσ_7]; exact gs_us
              have fr_12 : frm [mo] σ σ_7 := by rw [eσ_7]; exact fr0.up (by simp)
              refine lv_aload_n hx hb d_MO_item_133 rfl (lv_at hl 1 rfl) ?_
              refine gs_get (v := .int (nI 2)) hx hb ht hown hK hG k_MO hc_11 0 (by decide) w_662 rfl d_MO_item_134 ?_
              refine lv_if_le (tgt := 142) hx hb d_MO_item_137 (by decide) (fun c_137 => ?_) (fun c_137 => ?_)
              · exact absurd c_137 (by decide)
              · have c_137 : 0 < 2 := by have := gs_le0 (a := 2) (by omega); have h9 := mt this.mpr c_137; omega
                refine lv_iconst (v := nI 0) hx hb d_MO_item_140 (by decide) ?_
                exact gs_iret (v := (nI 0)) hx hb hr rfl hK hE hz hG hS hlocks (by first | decide | omega | (dsimp only [headSpec]; omega)) (by first | decide | omega | (dsimp only [headSpec]; omega)) (⟨(hM.num fr_12 ⟨_, hc_11, rfl, z1, z4, z7, z16, z17, z25, z26⟩ hrc), fr_12.wk (by simp), rfl⟩) d_MO_item_141
    · exact absurd ((bI_0 c_85).symm.trans hok) (by decide)
  have j38 : ∀ ls, lv_has ls 9 [(6, .int (bI (decide (r = 0) && wi3 72 2 y z u))), (0, .ref mo), (1, .int x), (2, .int r), (3, .int y), (4, .int z), (5, .int u)] → W p l e ({ frames := 1, cells := 0, slots := 0, locals := 27 } : Room) s m ([.ref mo, .int x, .int r, .int y, .int z, .int u] : List Value).toArray below meth c s.heap [] 0 0 (MQ below (va_Qi (fun q σ' => moA X σ' mo A 2 nr cw F T sa rc Q (some R) ∧ frm (aM mo A) σ σ' ∧ q = nI 0) (gs_U X) (gs_A X)) ([.ref mo, .int x, .int r, .int y, .int z, .int u] : List Value).toArray s 0 0 (gs_A X)) (F0 m 38 ls []) := by
    intro ls hl
    refine lv_iload_n hx hb d_MO_item_38 rfl (lv_at hl 2 rfl) ?_
    refine lv_if_lt (tgt := 79) hx hb d_MO_item_39 (by decide) (fun c_39 => ?_) (fun c_39 => ?_)
    · refine lv_iconst (v := nI 0) hx hb d_MO_item_79 (by decide) ?_
      refine lv_istore (lv' := [(7, .int (nI 0)), (6, .int (bI (decide (r = 0) && wi3 72 2 y z u))), (0, .ref mo), (1, .int x), (2, .int r), (3, .int y), (4, .int z), (5, .int u)]) hx hb d_MO_item_80 hl (by decide) rfl (fun ls hl => ?_)
      exact j82 ls (by rw [show bI (itR nr cw x r y z u) = nI 0 from by first | (unfold itR; rw [decide_eq_true c_39]; rfl) | (unfold itR; rw [decide_eq_false (Int32.not_le.mpr c_44), Bool.and_false]; rfl) | (unfold itR; rw [if_pos (Int32.not_le.mp c_49), bI_0 c_64, Bool.and_false]; rfl) | (unfold itR; rw [if_neg (Int32.not_lt.mpr c_49), bI_0 c_72, Bool.and_false]; rfl)]; exact (lv_sub hl [0, 2, 3, 4, 5, 6, 7] rfl))
    · refine lv_iload_n hx hb d_MO_item_42 rfl (lv_at hl 2 rfl) ?_
      refine lv_iconst (v := nI 3) hx hb d_MO_item_43 (by decide) ?_
      refine lv_icmp_gt (tgt := 79) hx hb d_MO_item_44 (by decide) (fun c_44 => ?_) (fun c_44 => ?_)
      · refine lv_iconst (v := nI 0) hx hb d_MO_item_79 (by decide) ?_
        refine lv_istore (lv' := [(7, .int (nI 0)), (6, .int (bI (decide (r = 0) && wi3 72 2 y z u))), (0, .ref mo), (1, .int x), (2, .int r), (3, .int y), (4, .int z), (5, .int u)]) hx hb d_MO_item_80 hl (by decide) rfl (fun ls hl => ?_)
        exact j82 ls (by rw [show bI (itR nr cw x r y z u) = nI 0 from by first | (unfold itR; rw [decide_eq_true c_39]; rfl) | (unfold itR; rw [decide_eq_false (Int32.not_le.mpr c_44), Bool.and_false]; rfl) | (unfold itR; rw [if_pos (Int32.not_le.mp c_49), bI_0 c_64, Bool.and_false]; rfl) | (unfold itR; rw [if_neg (Int32.not_lt.mpr c_49), bI_0 c_72, Bool.and_false]; rfl)]; exact (lv_sub hl [0, 2, 3, 4, 5, 6, 7] rfl))
      · refine lv_iload_n hx hb d_MO_item_47 rfl (lv_at hl 2 rfl) ?_
        refine lv_iconst (v := nI 2) hx hb d_MO_item_48 (by decide) ?_
        refine lv_icmp_ge (tgt := 70) hx hb d_MO_item_49 (by decide) (fun c_49 => ?_) (fun c_49 => ?_)
        · refine lv_iload hx hb d_MO_item_70 (lv_at hl 0 rfl) ?_
          refine lv_if_eq (tgt := 79) hx hb d_MO_item_72 (by decide) (fun c_72 => ?_) (fun c_72 => ?_)
          · refine lv_iconst (v := nI 0) hx hb d_MO_item_79 (by decide) ?_
            refine lv_istore (lv' := [(7, .int (nI 0)), (6, .int (bI (decide (r = 0) && wi3 72 2 y z u))), (0, .ref mo), (1, .int x), (2, .int r), (3, .int y), (4, .int z), (5, .int u)]) hx hb d_MO_item_80 hl (by decide) rfl (fun ls hl => ?_)
            exact j82 ls (by rw [show bI (itR nr cw x r y z u) = nI 0 from by first | (unfold itR; rw [decide_eq_true c_39]; rfl) | (unfold itR; rw [decide_eq_false (Int32.not_le.mpr c_44), Bool.and_false]; rfl) | (unfold itR; rw [if_pos (Int32.not_le.mp c_49), bI_0 c_64, Bool.and_false]; rfl) | (unfold itR; rw [if_neg (Int32.not_lt.mpr c_49), bI_0 c_72, Bool.and_false]; rfl)]; exact (lv_sub hl [0, 2, 3, 4, 5, 6, 7] rfl))
          · refine lv_iconst (v := nI 1) hx hb d_MO_item_75 (by decide) ?_
            refine lv_goto (tgt := 80) hx hb d_MO_item_76 (by decide) ?_
            refine lv_istore (lv' := [(7, .int (nI 1)), (6, .int (bI (decide (r = 0) && wi3 72 2 y z u))), (0, .ref mo), (1, .int x), (2, .int r), (3, .int y), (4, .int z), (5, .int u)]) hx hb d_MO_item_80 hl (by decide) rfl (fun ls hl => ?_)
            exact j82 ls (by rw [show bI (itR nr cw x r y z u) = nI 1 from by first | (unfold itR; rw [decide_eq_false c_39, decide_eq_true (Int32.not_lt.mp c_44), if_pos (Int32.not_le.mp c_49), bI_n0 c_64]; rfl) | (unfold itR; rw [decide_eq_false c_39, decide_eq_true (Int32.not_lt.mp c_44), if_neg (Int32.not_lt.mpr c_49), bI_n0 c_72]; rfl)]; exact (lv_sub hl [0, 2, 3, 4, 5, 6, 7] rfl))
        · refine lv_aload_n hx hb d_MO_item_52 rfl (lv_at hl 1 rfl) ?_
          refine lv_iload_n hx hb d_MO_item_53 rfl (lv_at hl 3 rfl) ?_
          refine lv_iload_n hx hb d_MO_item_54 rfl (lv_at hl 4 rfl) ?_
          refine lv_iload hx hb d_MO_item_55 (lv_at hl 5 rfl) ?_
          refine lv_iload hx hb d_MO_item_57 (lv_at hl 6 rfl) ?_
          refine lv_bipush (v := nI 72) hx hb d_MO_item_59 (by decide) ?_
          refine gs_callVp (As := [.int r, .int y, .int z, .int u, .int (nI 72)]) (rest := []) ⟨hx, hb, hml, hown, hts⟩ hK hE hz hG hS (c_MO_fitsU l X σ mo A Z f2 nr cw 72 r y z u m0 m2 z1 hnr hcw) ⟨rfl, rfl⟩ mV_MO_fits w_777 m0 rfl rfl hl.1 rfl (Nat.le_of_ble_eq_true rfl) ⟨(by first | decide | omega | (dsimp only [headSpec]; omega)), (by first | decide | omega | (dsimp only [headSpec]; omega))⟩ ⟨(by first | decide | omega | (dsimp only [headSpec]; omega)), (by first | decide | omega | (dsimp only [headSpec]; omega))⟩ d_MO_item_61 (fun r_61 hp_61 => ?_)
          refine gs_top (show r_61 = (bI (fitR nr cw 72 r y z u)) from hp_61) ?_
          refine lv_if_eq (tgt := 79) hx hb d_MO_item_64 (by decide) (fun c_64 => ?_) (fun c_64 => ?_)
          · refine lv_iconst (v := nI 0) hx hb d_MO_item_79 (by decide) ?_
            refine lv_istore (lv' := [(7, .int (nI 0)), (6, .int (bI (decide (r = 0) && wi3 72 2 y z u))), (0, .ref mo), (1, .int x), (2, .int r), (3, .int y), (4, .int z), (5, .int u)]) hx hb d_MO_item_80 hl (by decide) rfl (fun ls hl => ?_)
            exact j82 ls (by rw [show bI (itR nr cw x r y z u) = nI 0 from by first | (unfold itR; rw [decide_eq_true c_39]; rfl) | (unfold itR; rw [decide_eq_false (Int32.not_le.mpr c_44), Bool.and_false]; rfl) | (unfold itR; rw [if_pos (Int32.not_le.mp c_49), bI_0 c_64, Bool.and_false]; rfl) | (unfold itR; rw [if_neg (Int32.not_lt.mpr c_49), bI_0 c_72, Bool.and_false]; rfl)]; exact (lv_sub hl [0, 2, 3, 4, 5, 6, 7] rfl))
          · refine lv_goto (tgt := 75) hx hb d_MO_item_67 (by decide) ?_
            refine lv_iconst (v := nI 1) hx hb d_MO_item_75 (by decide) ?_
            refine lv_goto (tgt := 80) hx hb d_MO_item_76 (by decide) ?_
            refine lv_istore (lv' := [(7, .int (nI 1)), (6, .int (bI (decide (r = 0) && wi3 72 2 y z u))), (0, .ref mo), (1, .int x), (2, .int r), (3, .int y), (4, .int z), (5, .int u)]) hx hb d_MO_item_80 hl (by decide) rfl (fun ls hl => ?_)
            exact j82 ls (by rw [show bI (itR nr cw x r y z u) = nI 1 from by first | (unfold itR; rw [decide_eq_false c_39, decide_eq_true (Int32.not_lt.mp c_44), if_pos (Int32.not_le.mp c_49), bI_n0 c_64]; rfl) | (unfold itR; rw [decide_eq_false c_39, decide_eq_true (Int32.not_lt.mp c_44), if_neg (Int32.not_lt.mpr c_49), bI_n0 c_72]; rfl)]; exact (lv_sub hl [0, 2, 3, 4, 5, 6, 7] rfl))
  refine lv_iload_n hx hb d_MO_item_0 rfl (lv_at hl 2 rfl) ?_
  refine lv_if_ne (tgt := 35) hx hb d_MO_item_1 (by decide) (fun c_1 => ?_) (fun c_1 => ?_)
  · refine lv_iconst (v := nI 0) hx hb d_MO_item_35 (by decide) ?_
    refine lv_istore (lv' := [(6, .int (nI 0)), (0, .ref mo), (1, .int x), (2, .int r), (3, .int y), (4, .int z), (5, .int u)]) hx hb d_MO_item_36 hl (by decide) rfl (fun ls hl => ?_)
    exact j38 ls (by rw [show bI (decide (r = 0) && wi3 72 2 y z u) = nI 0 from by first | (rw [decide_eq_false c_1]; rfl) | (rw [show wi3 72 2 y z u = false from by unfold wi3; rw [show (if 2 < 2 then 72 else 1) = 1 from rfl, wi_one, decide_eq_false c_6, Bool.and_false], Bool.and_false]; rfl) | (rw [show wi3 72 2 y z u = false from by unfold wi3; (rw [wi_neg c_10]; rfl), Bool.and_false]; rfl) | (rw [show wi3 72 2 y z u = false from by unfold wi3; (rw [wi_ge c_16]; rfl), Bool.and_false]; rfl) | (rw [show wi3 72 2 y z u = false from by unfold wi3; rw [show (if 1 < 2 then 72 else 1) = 72 from rfl, wi_neg c_21, Bool.and_false]; rfl, Bool.and_false]; rfl) | (rw [show wi3 72 2 y z u = false from by unfold wi3; rw [show (if 1 < 2 then 72 else 1) = 72 from rfl, wi_ge c_28, Bool.and_false]; rfl, Bool.and_false]; rfl)]; exact (lv_sub hl [0, 1, 2, 3, 4, 5, 6] rfl))
  · refine lv_iload hx hb d_MO_item_4 (lv_at hl 5 rfl) ?_
    refine lv_if_ne (tgt := 35) hx hb d_MO_item_6 (by decide) (fun c_6 => ?_) (fun c_6 => ?_)
    · refine lv_iconst (v := nI 0) hx hb d_MO_item_35 (by decide) ?_
      refine lv_istore (lv' := [(6, .int (nI 0)), (0, .ref mo), (1, .int x), (2, .int r), (3, .int y), (4, .int z), (5, .int u)]) hx hb d_MO_item_36 hl (by decide) rfl (fun ls hl => ?_)
      exact j38 ls (by rw [show bI (decide (r = 0) && wi3 72 2 y z u) = nI 0 from by first | (rw [decide_eq_false c_1]; rfl) | (rw [show wi3 72 2 y z u = false from by unfold wi3; rw [show (if 2 < 2 then 72 else 1) = 1 from rfl, wi_one, decide_eq_false c_6, Bool.and_false], Bool.and_false]; rfl) | (rw [show wi3 72 2 y z u = false from by unfold wi3; (rw [wi_neg c_10]; rfl), Bool.and_false]; rfl) | (rw [show wi3 72 2 y z u = false from by unfold wi3; (rw [wi_ge c_16]; rfl), Bool.and_false]; rfl) | (rw [show wi3 72 2 y z u = false from by unfold wi3; rw [show (if 1 < 2 then 72 else 1) = 72 from rfl, wi_neg c_21, Bool.and_false]; rfl, Bool.and_false]; rfl) | (rw [show wi3 72 2 y z u = false from by unfold wi3; rw [show (if 1 < 2 then 72 else 1) = 72 from rfl, wi_ge c_28, Bool.and_false]; rfl, Bool.and_false]; rfl)]; exact (lv_sub hl [0, 1, 2, 3, 4, 5, 6] rfl))
    · refine lv_iload_n hx hb d_MO_item_9 rfl (lv_at hl 3 rfl) ?_
      refine lv_if_lt (tgt := 35) hx hb d_MO_item_10 (by decide) (fun c_10 => ?_) (fun c_10 => ?_)
      · refine lv_iconst (v := nI 0) hx hb d_MO_item_35 (by decide) ?_
        refine lv_istore (lv' := [(6, .int (nI 0)), (0, .ref mo), (1, .int x), (2, .int r), (3, .int y), (4, .int z), (5, .int u)]) hx hb d_MO_item_36 hl (by decide) rfl (fun ls hl => ?_)
        exact j38 ls (by rw [show bI (decide (r = 0) && wi3 72 2 y z u) = nI 0 from by first | (rw [decide_eq_false c_1]; rfl) | (rw [show wi3 72 2 y z u = false from by unfold wi3; rw [show (if 2 < 2 then 72 else 1) = 1 from rfl, wi_one, decide_eq_false c_6, Bool.and_false], Bool.and_false]; rfl) | (rw [show wi3 72 2 y z u = false from by unfold wi3; (rw [wi_neg c_10]; rfl), Bool.and_false]; rfl) | (rw [show wi3 72 2 y z u = false from by unfold wi3; (rw [wi_ge c_16]; rfl), Bool.and_false]; rfl) | (rw [show wi3 72 2 y z u = false from by unfold wi3; rw [show (if 1 < 2 then 72 else 1) = 72 from rfl, wi_neg c_21, Bool.and_false]; rfl, Bool.and_false]; rfl) | (rw [show wi3 72 2 y z u = false from by unfold wi3; rw [show (if 1 < 2 then 72 else 1) = 72 from rfl, wi_ge c_28, Bool.and_false]; rfl, Bool.and_false]; rfl)]; exact (lv_sub hl [0, 1, 2, 3, 4, 5, 6] rfl))
      · refine lv_iload_n hx hb d_MO_item_13 rfl (lv_at hl 3 rfl) ?_
        refine lv_bipush (v := nI 72) hx hb d_MO_item_14 (by decide) ?_
        refine lv_icmp_ge (tgt := 35) hx hb d_MO_item_16 (by decide) (fun c_16 => ?_) (fun c_16 => ?_)
        · refine lv_iconst (v := nI 0) hx hb d_MO_item_35 (by decide) ?_
          refine lv_istore (lv' := [(6, .int (nI 0)), (0, .ref mo), (1, .int x), (2, .int r), (3, .int y), (4, .int z), (5, .int u)]) hx hb d_MO_item_36 hl (by decide) rfl (fun ls hl => ?_)
          exact j38 ls (by rw [show bI (decide (r = 0) && wi3 72 2 y z u) = nI 0 from by first | (rw [decide_eq_false c_1]; rfl) | (rw [show wi3 72 2 y z u = false from by unfold wi3; rw [show (if 2 < 2 then 72 else 1) = 1 from rfl, wi_one, decide_eq_false c_6, Bool.and_false], Bool.and_false]; rfl) | (rw [show wi3 72 2 y z u = false from by unfold wi3; (rw [wi_neg c_10]; rfl), Bool.and_false]; rfl) | (rw [show wi3 72 2 y z u = false from by unfold wi3; (rw [wi_ge c_16]; rfl), Bool.and_false]; rfl) | (rw [show wi3 72 2 y z u = false from by unfold wi3; rw [show (if 1 < 2 then 72 else 1) = 72 from rfl, wi_neg c_21, Bool.and_false]; rfl, Bool.and_false]; rfl) | (rw [show wi3 72 2 y z u = false from by unfold wi3; rw [show (if 1 < 2 then 72 else 1) = 72 from rfl, wi_ge c_28, Bool.and_false]; rfl, Bool.and_false]; rfl)]; exact (lv_sub hl [0, 1, 2, 3, 4, 5, 6] rfl))
        · refine lv_iload hx hb d_MO_item_19 (lv_at hl 4 rfl) ?_
          refine lv_if_lt (tgt := 35) hx hb d_MO_item_21 (by decide) (fun c_21 => ?_) (fun c_21 => ?_)
          · refine lv_iconst (v := nI 0) hx hb d_MO_item_35 (by decide) ?_
            refine lv_istore (lv' := [(6, .int (nI 0)), (0, .ref mo), (1, .int x), (2, .int r), (3, .int y), (4, .int z), (5, .int u)]) hx hb d_MO_item_36 hl (by decide) rfl (fun ls hl => ?_)
            exact j38 ls (by rw [show bI (decide (r = 0) && wi3 72 2 y z u) = nI 0 from by first | (rw [decide_eq_false c_1]; rfl) | (rw [show wi3 72 2 y z u = false from by unfold wi3; rw [show (if 2 < 2 then 72 else 1) = 1 from rfl, wi_one, decide_eq_false c_6, Bool.and_false], Bool.and_false]; rfl) | (rw [show wi3 72 2 y z u = false from by unfold wi3; (rw [wi_neg c_10]; rfl), Bool.and_false]; rfl) | (rw [show wi3 72 2 y z u = false from by unfold wi3; (rw [wi_ge c_16]; rfl), Bool.and_false]; rfl) | (rw [show wi3 72 2 y z u = false from by unfold wi3; rw [show (if 1 < 2 then 72 else 1) = 72 from rfl, wi_neg c_21, Bool.and_false]; rfl, Bool.and_false]; rfl) | (rw [show wi3 72 2 y z u = false from by unfold wi3; rw [show (if 1 < 2 then 72 else 1) = 72 from rfl, wi_ge c_28, Bool.and_false]; rfl, Bool.and_false]; rfl)]; exact (lv_sub hl [0, 1, 2, 3, 4, 5, 6] rfl))
          · refine lv_iload hx hb d_MO_item_24 (lv_at hl 4 rfl) ?_
            refine lv_bipush (v := nI 72) hx hb d_MO_item_26 (by decide) ?_
            refine lv_icmp_ge (tgt := 35) hx hb d_MO_item_28 (by decide) (fun c_28 => ?_) (fun c_28 => ?_)
            · refine lv_iconst (v := nI 0) hx hb d_MO_item_35 (by decide) ?_
              refine lv_istore (lv' := [(6, .int (nI 0)), (0, .ref mo), (1, .int x), (2, .int r), (3, .int y), (4, .int z), (5, .int u)]) hx hb d_MO_item_36 hl (by decide) rfl (fun ls hl => ?_)
              exact j38 ls (by rw [show bI (decide (r = 0) && wi3 72 2 y z u) = nI 0 from by first | (rw [decide_eq_false c_1]; rfl) | (rw [show wi3 72 2 y z u = false from by unfold wi3; rw [show (if 2 < 2 then 72 else 1) = 1 from rfl, wi_one, decide_eq_false c_6, Bool.and_false], Bool.and_false]; rfl) | (rw [show wi3 72 2 y z u = false from by unfold wi3; (rw [wi_neg c_10]; rfl), Bool.and_false]; rfl) | (rw [show wi3 72 2 y z u = false from by unfold wi3; (rw [wi_ge c_16]; rfl), Bool.and_false]; rfl) | (rw [show wi3 72 2 y z u = false from by unfold wi3; rw [show (if 1 < 2 then 72 else 1) = 72 from rfl, wi_neg c_21, Bool.and_false]; rfl, Bool.and_false]; rfl) | (rw [show wi3 72 2 y z u = false from by unfold wi3; rw [show (if 1 < 2 then 72 else 1) = 72 from rfl, wi_ge c_28, Bool.and_false]; rfl, Bool.and_false]; rfl)]; exact (lv_sub hl [0, 1, 2, 3, 4, 5, 6] rfl))
            · refine lv_iconst (v := nI 1) hx hb d_MO_item_31 (by decide) ?_
              refine lv_goto (tgt := 36) hx hb d_MO_item_32 (by decide) ?_
              refine lv_istore (lv' := [(6, .int (nI 1)), (0, .ref mo), (1, .int x), (2, .int r), (3, .int y), (4, .int z), (5, .int u)]) hx hb d_MO_item_36 hl (by decide) rfl (fun ls hl => ?_)
              exact j38 ls (by rw [show bI (decide (r = 0) && wi3 72 2 y z u) = nI 1 from by first | (rw [decide_eq_true c_1, show wi3 72 2 y z u = true from by unfold wi3; rw [wi_in c_10 c_16, show (if 1 < 2 then 72 else 1) = 72 from rfl, wi_in c_21 c_28, show (if 2 < 2 then 72 else 1) = 1 from rfl, wi_one, decide_eq_true c_6]; rfl]; rfl)]; exact (lv_sub hl [0, 1, 2, 3, 4, 5, 6] rfl))
set_option maxHeartbeats 4000000 in
set_option maxRecDepth 100000 in
/-- the reference: item -/
theorem c_MO_item (l : Launch) (X : gs_X) (σ : gs_St) (mo : Nat) (A : Nat → Nat) (cd nr : Nat) (cw : Nat → Nat) (F : List (Nat × Nat)) (T : List MT) (sa rc : Nat) (Q : List MR)  (x r y z u : Int32) (R : MR) (kd rl a b cz : Nat)
    (hM : moA X σ mo A cd nr cw F T sa rc Q (some R)) (hok : itR nr cw x r y z u = true) (ex : x = nI kd) (er : r = nI rl) (ey : y = nI a) (ez : z = nI b) (eu : u = nI cz) (hkd : kd ≤ 3) (hrl2 : kd < 2 → rl < nr) (hrl : rl < 12) (ha : a < 72) (hb9 : b < 72) (hc9 : cz < 72) (hrm : R.2.length < 6 ∧ (kd ≠ 0 ∨ hl0 R < 3)) : gs_Mi l X y_MO_item b_MO_item 9 (some .int) ({ frames := 1, cells := 0, slots := 0, locals := 27 }) σ [.ref mo, .int x, .int r, .int y, .int z, .int u] (fun q σ' => moA X σ' mo A 0 nr cw F T sa rc Q (some (R.1, R.2 ++ [(kd, rl, a, b, cz)])) ∧ frm (aM mo A) σ σ' ∧ q = nI (R.2.length + 1)) := by
  refine Met.ofW (cc := b_MO_item) (maxL := 9) (ret := (some .int)) (by decide) rfl ?_
  intro p e s m args below meth c s₁ B₀ hml hv
  obtain ⟨rfl, hK, hG, hz, hE⟩ := hv
  have hx := B₀.exec
  have hb := B₀.bytes
  have hr := B₀.returns
  have hts := atoms_spec (ws := gs_ws y_MO_item b_MO_item 9 (some .int)) B₀.pre
  have ht : ∀ w ∈ gs_w, w.before _ s = true := fun w h => hts w (List.mem_cons_of_mem _ h)
  have hown : s.vm.findClass R_MO = some m.cls := findClass_of_methodNamed B₀.named
  have hlocks := B₀.notSynchronized
  have hA : ∀ q : Nat, s.heap.size ≤ q → gs_A X q := fun q h => Nat.le_trans hz h
  have hS : va_S (gs_A X) s.heap s.heap [] := va_S.rf
  have hl := lv_entry ([.ref mo, .int x, .int r, .int y, .int z, .int u]) (n := 9) (Nat.le_of_ble_eq_true rfl)
  rw [lg_entry_eq]
  generalize (lg_sl ([.ref mo, .int x, .int r, .int y, .int z, .int u]) ++ List.replicate (9 - (lg_sl ([.ref mo, .int x, .int r, .int y, .int z, .int u])).length) Slot.unset).toArray = ls at hl ⊢
  have hl : lv_has ls 9 [(0, .ref mo), (1, .int x), (2, .int r), (3, .int y), (4, .int z), (5, .int u)] := hl
  obtain ⟨hNN, hnr, hFB, hTB, hrc, ⟨Z, m0, z0, z1, z4, z7, z16, z17, z25, z26⟩, hcol, hfac, htup, hbit, hfnd, hrul, hscr⟩ := id hM
  have hN := hN1 hNN
  have hFl := hFB.1
  have hTl := hTB.1
  obtain ⟨f2, m2, hcw⟩ := id hcol
  obtain ⟨f18, f19, f20, f21, f22, f23, m18, m19, m20, m21, m22, m23, hQl, hQ, hdr⟩ := id hrul
  obtain ⟨hR9, hRB⟩ := hdr R rfl
  have hRl := hRB.2.2.1
  have hRh : hl0 R ≤ 3 := hRB.2.2.2.1
  have fr0 : frm [mo, A 20, A 21, A 22, A 23] σ σ := frm.rf
  have j82 : ∀ ls, lv_has ls 9 [(7, .int (bI (itR nr cw x r y z u))), (0, .ref mo), (1, .int x), (2, .int r), (3, .int y), (4, .int z), (5, .int u)] → W p l e ({ frames := 1, cells := 0, slots := 0, locals := 27 } : Room) s m ([.ref mo, .int x, .int r, .int y, .int z, .int u] : List Value).toArray below meth c s.heap [] 0 0 (MQ below (va_Qi (fun q σ' => moA X σ' mo A 0 nr cw F T sa rc Q (some (R.1, R.2 ++ [(kd, rl, a, b, cz)])) ∧ frm (aM mo A) σ σ' ∧ q = nI (R.2.length + 1)) (gs_U X) (gs_A X)) ([.ref mo, .int x, .int r, .int y, .int z, .int u] : List Value).toArray s 0 0 (gs_A X)) (F0 m 82 ls []) := by
    intro ls hl
    refine lv_aload_n hx hb d_MO_item_82 rfl (lv_at hl 1 rfl) ?_
    refine lv_iload hx hb d_MO_item_83 (lv_at hl 0 rfl) ?_
    refine lv_if_ne (tgt := 92) hx hb d_MO_item_85 (by decide) (fun c_85 => ?_) (fun c_85 => ?_)
    · refine lv_aload_n hx hb d_MO_item_92 rfl (lv_at hl 1 rfl) ?_
      refine gs_get (v := .int (nI (Z 17))) hx hb ht hown hK hG k_MO m0 17 (by decide) w_679 rfl d_MO_item_93 ?_
      refine gs_top (show nI (Z 17) = nI 1 from congrArg nI (show Z 17 = 1 from z17)) ?_
      refine lv_if_eq (tgt := 125) hx hb d_MO_item_96 (by decide) (fun c_96 => ?_) (fun c_96 => ?_)
      · exact absurd c_96 (by decide)
      · have c_96 : ¬ 1 = 0 := gs_zn (by omega) c_96
        refine lv_aload_n hx hb d_MO_item_99 rfl (lv_at hl 1 rfl) ?_
        refine gs_get (v := .ref (A 20)) hx hb ht hown hK hG k_MO m0 20 (by decide) w_682 rfl d_MO_item_100 ?_
        refine lv_bipush (v := nI 24) hx hb d_MO_item_103 (by decide) ?_
        refine gs_iald hx hb hK hG m20 (j := 24) (by omega) (by omega) d_MO_item_105 ?_
        refine gs_top (show (f20 24) = (nI R.2.length) from hR9.2.2.1) ?_
        refine lv_bipush (v := nI 6) hx hb d_MO_item_106 (by decide) ?_
        refine lv_icmp_eq (tgt := 125) hx hb d_MO_item_108 (by decide) (fun c_108 => ?_) (fun c_108 => ?_)
        · have c_108 : R.2.length = 6 :=  (nI_eq (by omega) (by omega)).mp c_108
          first | omega | exact absurd c_108 (by omega) | exact absurd c_122 (by rcases hrm.2 with q | q; exact absurd (ex.symm.trans c_112) (mt (gs_z (by omega)) q); omega)
        · have c_108 : ¬ R.2.length = 6 := mt (nI_eq (by omega) (by omega)).mpr c_108
          refine lv_iload_n hx hb d_MO_item_111 rfl (lv_at hl 2 rfl) ?_
          refine lv_if_ne (tgt := 129) hx hb d_MO_item_112 (by decide) (fun c_112 => ?_) (fun c_112 => ?_)
          · refine lv_iconst (v := nI 0) hx hb d_MO_item_129 (by decide) ?_
            refine gs_put hx hb ht hown hK hG hS k_MO m0 0 (by decide) w_662 rfl rfl rfl (Nat.le_of_ble_eq_true rfl) d_MO_item_130 (fun H locs hG hS => ?_)
            have hG : gs_H X (gs_up σ mo (moE A (va_up Z 0 0))) H := hG
            obtain ⟨σ_1, eσ_1⟩ : ∃ zq, zq = gs_up σ mo (moE A (va_up Z 0 0)) := ⟨_, rfl⟩
            rw [← eσ_1] at hG
            have hc_2 : σ_1 (A 2) = some (gs_ia X 12 f2) := by rw [eσ_1]; exact gs_ku (gs_ne m2 m0 (by simp)) m2
            have hc_3 : σ_1 (A 18) = some (gs_ia X 25 f18) := by rw [eσ_1]; exact gs_ku (gs_ne m18 m0 (by simp)) m18
            have hc_4 : σ_1 (A 19) = some (gs_ia X 75 f19) := by rw [eσ_1]; exact gs_ku (gs_ne m19 m0 (by simp)) m19
            have hc_5 : σ_1 (A 20) = some (gs_ia X 25 f20) := by rw [eσ_1]; exact gs_ku (gs_ne m20 m0 (by simp)) m20
            have hc_6 : σ_1 (A 21) = some (gs_ia X 150 f21) := by rw [eσ_1]; exact gs_ku (gs_ne m21 m0 (by simp)) m21
            have hc_7 : σ_1 (A 22) = some (gs_ia X 150 f22) := by rw [eσ_1]; exact gs_ku (gs_ne m22 m0 (by simp)) m22
            have hc_8 : σ_1 (A 23) = some (gs_ia X 450 f23) := by rw [eσ_1]; exact gs_ku (gs_ne m23 m0 (by simp)) m23
            have hc_9 : σ_1 mo = some (moE A (va_up Z 0 0)) := by rw [eσ_1]; exact gs_us
            have fr_10 : frm [mo, A 20, A 21, A 22, A 23] σ σ_1 := by rw [eσ_1]; exact fr0.up (by simp)
            refine lv_aload_n hx hb d_MO_item_133 rfl (lv_at hl 1 rfl) ?_
            refine gs_get (v := .int (nI 0)) hx hb ht hown hK hG k_MO hc_9 0 (by decide) w_662 rfl d_MO_item_134 ?_
            refine lv_if_le (tgt := 142) hx hb d_MO_item_137 (by decide) (fun c_137 => ?_) (fun c_137 => ?_)
            · have c_137 : 0 = 0 := by have := gs_le0 (a := 0) (by omega); exact this.mp c_137
              refine lv_sipush (v := nI 144) hx hb d_MO_item_142 (by decide) ?_
              refine lv_aload_n hx hb d_MO_item_145 rfl (lv_at hl 1 rfl) ?_
              refine gs_get (v := .ref (A 20)) hx hb ht hown hK hG k_MO hc_9 20 (by decide) w_682 rfl d_MO_item_146 ?_
              refine lv_bipush (v := nI 24) hx hb d_MO_item_149 (by decide) ?_
              refine gs_iald hx hb hK hG hc_5 (j := 24) (by omega) (by omega) d_MO_item_151 ?_
              refine gs_top (show (f20 24) = (nI R.2.length) from hR9.2.2.1) ?_
              refine lv_iadd hx hb d_MO_item_152 ?_
              refine gs_top (nI_add 144 R.2.length) ?_
              refine lv_istore (lv' := [(8, .int (nI (144 + R.2.length))), (7, .int (bI (itR nr cw x r y z u))), (0, .ref mo), (1, .int x), (2, .int r), (3, .int y), (4, .int z), (5, .int u)]) hx hb d_MO_item_153 hl (by decide) rfl (fun ls hl => ?_)
              refine lv_aload_n hx hb d_MO_item_155 rfl (lv_at hl 2 rfl) ?_
              refine gs_get (v := .ref (A 21)) hx hb ht hown hK hG k_MO hc_9 21 (by decide) w_683 rfl d_MO_item_156 ?_
              refine lv_iload hx hb d_MO_item_159 (lv_at hl 0 rfl) ?_
              refine lv_iload_n hx hb d_MO_item_161 rfl (lv_at hl 3 rfl) ?_
              refine gs_iast hx hb hK hG hS hc_6 (j := 144 + R.2.length) (by omega) (by omega) d_MO_item_162 (fun H locs hG hS => ?_)
              have hG : gs_H X (gs_up σ_1 (A 21) (gs_ia X 150 (upd f21 (144 + R.2.length) x))) H := hG
              obtain ⟨σ_11, eσ_11⟩ : ∃ zq, zq = gs_up σ_1 (A 21) (gs_ia X 150 (upd f21 (144 + R.2.length) x)) := ⟨_, rfl⟩
              rw [← eσ_11] at hG
              have hc_12 : σ_11 (A 2) = some (gs_ia X 12 f2) := by rw [eσ_11]; exact gs_ku (ndp hN 0 13 (by decide) rfl rfl) hc_2
              have hc_13 : σ_11 (A 18) = some (gs_ia X 25 f18) := by rw [eσ_11]; exact gs_ku (ndp hN 10 13 (by decide) rfl rfl) hc_3
              have hc_14 : σ_11 (A 19) = some (gs_ia X 75 f19) := by rw [eσ_11]; exact gs_ku (ndp hN 11 13 (by decide) rfl rfl) hc_4
              have hc_15 : σ_11 (A 20) = some (gs_ia X 25 f20) := by rw [eσ_11]; exact gs_ku (ndp hN 12 13 (by decide) rfl rfl) hc_5
              have hc_16 : σ_11 (A 22) = some (gs_ia X 150 f22) := by rw [eσ_11]; exact gs_ku (Ne.symm (ndp hN 13 14 (by decide) rfl rfl)) hc_7
              have hc_17 : σ_11 (A 23) = some (gs_ia X 450 f23) := by rw [eσ_11]; exact gs_ku (Ne.symm (ndp hN 13 15 (by decide) rfl rfl)) hc_8
              have hc_18 : σ_11 mo = some (moE A (va_up Z 0 0)) := by rw [eσ_11]; exact gs_ku (gs_ne hc_9 hc_6 (by simp)) hc_9
              have hc_19 : σ_11 (A 21) = some (gs_ia X 150 (upd f21 (144 + R.2.length) x)) := by rw [eσ_11]; exact gs_us
              have fr_20 : frm [mo, A 20, A 21, A 22, A 23] σ σ_11 := by rw [eσ_11]; exact fr_10.up (by simp)
              refine lv_aload_n hx hb d_MO_item_163 rfl (lv_at hl 2 rfl) ?_
              refine gs_get (v := .ref (A 22)) hx hb ht hown hK hG k_MO hc_18 22 (by decide) w_684 rfl d_MO_item_164 ?_
              refine lv_iload hx hb d_MO_item_167 (lv_at hl 0 rfl) ?_
              refine lv_iload_n hx hb d_MO_item_169 rfl (lv_at hl 4 rfl) ?_
              refine gs_iast hx hb hK hG hS hc_16 (j := 144 + R.2.length) (by omega) (by omega) d_MO_item_170 (fun H locs hG hS => ?_)
              have hG : gs_H X (gs_up σ_11 (A 22) (gs_ia X 150 (upd f22 (144 + R.2.length) r))) H := hG
              obtain ⟨σ_21, eσ_21⟩ : ∃ zq, zq = gs_up σ_11 (A 22) (gs_ia X 150 (upd f22 (144 + R.2.length) r)) := ⟨_, rfl⟩
              rw [← eσ_21] at hG
              have hc_22 : σ_21 (A 2) = some (gs_ia X 12 f2) := by rw [eσ_21]; exact gs_ku (ndp hN 0 14 (by decide) rfl rfl) hc_12
              have hc_23 : σ_21 (A 18) = some (gs_ia X 25 f18) := by rw [eσ_21]; exact gs_ku (ndp hN 10 14 (by decide) rfl rfl) hc_13
              have hc_24 : σ_21 (A 19) = some (gs_ia X 75 f19) := by rw [eσ_21]; exact gs_ku (ndp hN 11 14 (by decide) rfl rfl) hc_14
              have hc_25 : σ_21 (A 20) = some (gs_ia X 25 f20) := by rw [eσ_21]; exact gs_ku (ndp hN 12 14 (by decide) rfl rfl) hc_15
              have hc_26 : σ_21 (A 23) = some (gs_ia X 450 f23) := by rw [eσ_21]; exact gs_ku (Ne.symm (ndp hN 14 15 (by decide) rfl rfl)) hc_17
              have hc_27 : σ_21 mo = some (moE A (va_up Z 0 0)) := by rw [eσ_21]; exact gs_ku (gs_ne hc_18 hc_16 (by simp)) hc_18
              have hc_28 : σ_21 (A 21) = some (gs_ia X 150 (upd f21 (144 + R.2.length) x)) := by rw [eσ_21]; exact gs_ku (ndp hN 13 14 (by decide) rfl rfl) hc_19
              have hc_29 : σ_21 (A 22) = some (gs_ia X 150 (upd f22 (144 + R.2.length) r)) := by rw [eσ_21]; exact gs_us
              have fr_30 : frm [mo, A 20, A 21, A 22, A 23] σ σ_21 := by rw [eσ_21]; exact fr_20.up (by simp)
              refine lv_aload_n hx hb d_MO_item_171 rfl (lv_at hl 2 rfl) ?_
              refine lv_iload hx hb d_MO_item_172 (lv_at hl 0 rfl) ?_
              refine lv_iload_n hx hb d_MO_item_174 rfl (lv_at hl 5 rfl) ?_
              refine lv_iload hx hb d_MO_item_175 (lv_at hl 6 rfl) ?_
              refine lv_iload hx hb d_MO_item_177 (lv_at hl 7 rfl) ?_
              refine gs_callVv (As := [.int (nI (144 + R.2.length)), .int y, .int z, .int u]) (rest := []) ⟨hx, hb, hml, hown, hts⟩ hK hE hz hG hS (c_MO_sett l X σ_21 mo A (va_up Z 0 0) f23 (144 + R.2.length) y z u hc_27 hc_26 (by omega)) mV_MO_sett w_804 hc_27 rfl rfl hl.1 rfl (Nat.le_of_ble_eq_true rfl) ⟨(by first | decide | omega | (dsimp only [headSpec]; omega)), (by first | decide | omega | (dsimp only [headSpec]; omega))⟩ ⟨(by first | decide | omega | (dsimp only [headSpec]; omega)), (by first | decide | omega | (dsimp only [headSpec]; omega))⟩ d_MO_item_179 (fun σ_179 H locs hp_179 hG hS => ?_)
              rw [hp_179] at hG
              have hG : gs_H X (gs_up σ_21 (A 23) (gs_ia X 450 (up3 f23 (144 + R.2.length) y z u))) H := hG
              obtain ⟨σ_31, eσ_31⟩ : ∃ zq, zq = gs_up σ_21 (A 23) (gs_ia X 450 (up3 f23 (144 + R.2.length) y z u)) := ⟨_, rfl⟩
              rw [← eσ_31] at hG
              have hc_32 : σ_31 (A 2) = some (gs_ia X 12 f2) := by rw [eσ_31]; exact gs_ku (ndp hN 0 15 (by decide) rfl rfl) hc_22
              have hc_33 : σ_31 (A 18) = some (gs_ia X 25 f18) := by rw [eσ_31]; exact gs_ku (ndp hN 10 15 (by decide) rfl rfl) hc_23
              have hc_34 : σ_31 (A 19) = some (gs_ia X 75 f19) := by rw [eσ_31]; exact gs_ku (ndp hN 11 15 (by decide) rfl rfl) hc_24
              have hc_35 : σ_31 (A 20) = some (gs_ia X 25 f20) := by rw [eσ_31]; exact gs_ku (ndp hN 12 15 (by decide) rfl rfl) hc_25
              have hc_36 : σ_31 mo = some (moE A (va_up Z 0 0)) := by rw [eσ_31]; exact gs_ku (gs_ne hc_27 hc_26 (by simp)) hc_27
              have hc_37 : σ_31 (A 21) = some (gs_ia X 150 (upd f21 (144 + R.2.length) x)) := by rw [eσ_31]; exact gs_ku (ndp hN 13 15 (by decide) rfl rfl) hc_28
              have hc_38 : σ_31 (A 22) = some (gs_ia X 150 (upd f22 (144 + R.2.length) r)) := by rw [eσ_31]; exact gs_ku (ndp hN 14 15 (by decide) rfl rfl) hc_29
              have hc_39 : σ_31 (A 23) = some (gs_ia X 450 (up3 f23 (144 + R.2.length) y z u)) := by rw [eσ_31]; exact gs_us
              have fr_40 : frm [mo, A 20, A 21, A 22, A 23] σ σ_31 := by rw [eσ_31]; exact fr_30.up (by simp)
              refine lv_aload_n hx hb d_MO_item_182 rfl (lv_at hl 2 rfl) ?_
              refine gs_get (v := .ref (A 20)) hx hb ht hown hK hG k_MO hc_36 20 (by decide) w_682 rfl d_MO_item_183 ?_
              refine lv_bipush (v := nI 24) hx hb d_MO_item_186 (by decide) ?_
              refine lv_dup2_11 hx hb d_MO_item_188 rfl rfl ?_
              refine gs_iald hx hb hK hG hc_35 (j := 24) (by omega) (by omega) d_MO_item_189 ?_
              refine gs_top (show (f20 24) = (nI R.2.length) from hR9.2.2.1) ?_
              refine lv_iconst (v := nI 1) hx hb d_MO_item_190 (by decide) ?_
              refine lv_iadd hx hb d_MO_item_191 ?_
              refine gs_top (nI_add R.2.length 1) ?_
              refine gs_iast hx hb hK hG hS hc_35 (j := 24) (by omega) (by omega) d_MO_item_192 (fun H locs hG hS => ?_)
              have hG : gs_H X (gs_up σ_31 (A 20) (gs_ia X 25 (upd f20 24 (nI (R.2.length + 1))))) H := hG
              obtain ⟨σ_41, eσ_41⟩ : ∃ zq, zq = gs_up σ_31 (A 20) (gs_ia X 25 (upd f20 24 (nI (R.2.length + 1)))) := ⟨_, rfl⟩
              rw [← eσ_41] at hG
              have hc_42 : σ_41 (A 2) = some (gs_ia X 12 f2) := by rw [eσ_41]; exact gs_ku (ndp hN 0 12 (by decide) rfl rfl) hc_32
              have hc_43 : σ_41 (A 18) = some (gs_ia X 25 f18) := by rw [eσ_41]; exact gs_ku (ndp hN 10 12 (by decide) rfl rfl) hc_33
              have hc_44 : σ_41 (A 19) = some (gs_ia X 75 f19) := by rw [eσ_41]; exact gs_ku (ndp hN 11 12 (by decide) rfl rfl) hc_34
              have hc_45 : σ_41 mo = some (moE A (va_up Z 0 0)) := by rw [eσ_41]; exact gs_ku (gs_ne hc_36 hc_35 (by simp)) hc_36
              have hc_46 : σ_41 (A 21) = some (gs_ia X 150 (upd f21 (144 + R.2.length) x)) := by rw [eσ_41]; exact gs_ku (Ne.symm (ndp hN 12 13 (by decide) rfl rfl)) hc_37
              have hc_47 : σ_41 (A 22) = some (gs_ia X 150 (upd f22 (144 + R.2.length) r)) := by rw [eσ_41]; exact gs_ku (Ne.symm (ndp hN 12 14 (by decide) rfl rfl)) hc_38
              have hc_48 : σ_41 (A 23) = some (gs_ia X 450 (up3 f23 (144 + R.2.length) y z u)) := by rw [eσ_41]; exact gs_ku (Ne.symm (ndp hN 12 15 (by decide) rfl rfl)) hc_39
              have hc_49 : σ_41 (A 20) = some (gs_ia X 25 (upd f20 24 (nI (R.2.length + 1)))) := by rw [eσ_41]; exact gs_us
              have fr_50 : frm [mo, A 20, A 21, A 22, A 23] σ σ_41 := by rw [eσ_41]; exact fr_40.up (by simp)
              refine lv_aload_n hx hb d_MO_item_193 rfl (lv_at hl 2 rfl) ?_
              refine gs_get (v := .ref (A 20)) hx hb ht hown hK hG k_MO hc_45 20 (by decide) w_682 rfl d_MO_item_194 ?_
              refine lv_bipush (v := nI 24) hx hb d_MO_item_197 (by decide) ?_
              refine gs_iald hx hb hK hG hc_49 (j := 24) (by omega) (by omega) d_MO_item_199 ?_
              refine gs_top (show ((upd f20 24 (nI (R.2.length + 1))) 24) = (nI (R.2.length + 1)) from (by simp [upd])) ?_
              have hr9 := rAt_snoc (kd := kd) (rl := rl) (a := a) (b := b) (z := cz) hR9
              rw [← ex, ← er, ← ey, ← ez, ← eu] at hr9
              exact gs_iret (v := (nI (R.2.length + 1))) hx hb hr rfl hK hE hz hG hS hlocks (by first | decide | omega | (dsimp only [headSpec]; omega)) (by first | decide | omega | (dsimp only [headSpec]; omega)) (⟨⟨hNN, hnr, hFB, hTB, hrc, ⟨_, hc_45, rfl, z1, z4, z7, z16, z17, z25, z26⟩, (hcol.fr hNN [0, 13, 14, 15, 16] fr_50 (by decide) (by decide)), (hfac.fr hNN [0, 13, 14, 15, 16] fr_50 (by decide) (by decide)), (htup.fr hNN [0, 13, 14, 15, 16] fr_50 (by decide) (by decide)), (hbit.fr (k := 9) hNN [0, 13, 14, 15, 16] fr_50 (by decide) (by decide) (by decide) rfl), (hfnd.fr (k := 10) hNN [0, 13, 14, 15, 16] fr_50 (by decide) (by decide) (by decide) rfl), ⟨_, _, _, _, _, _, hc_43, hc_44, hc_49, hc_46, hc_47, hc_48, hQl, fun q R9 z => ⟨rAt_item (hQ q R9 z).1 (by have := (List.getElem?_eq_some_iff.mp z).1; omega) (hQ q R9 z).2.2.2.1, (hQ q R9 z).2⟩, fun R9 z9 => by cases z9; exact ⟨hr9, mrB_snoc hRB hrm.1 hrm.2 hkd hrl2 hrl ha hb9 hc9⟩⟩, (hscr.fr hNN [0, 13, 14, 15, 16] fr_50 (by decide) (by decide))⟩, fr_50.wk (by simp), rfl⟩) d_MO_item_200
            · exact absurd c_137 (by decide)
          · refine lv_aload_n hx hb d_MO_item_115 rfl (lv_at hl 1 rfl) ?_
            refine lv_bipush (v := nI 24) hx hb d_MO_item_116 (by decide) ?_
            refine gs_callVp (As := [.int (nI 24)]) (rest := [.ref mo]) ⟨hx, hb, hml, hown, hts⟩ hK hE hz hG hS (c_MO_holds l X σ mo A Z f18 f19 f20 f21 f22 f23 24 R m0 m20 m21 hR9 (by decide) hRB.2.2.1 (fun x hx => (hRB.2.2.2.2 x hx).1)) ⟨rfl, rfl⟩ mV_MO_holds w_800 m0 rfl rfl hl.1 rfl (Nat.le_of_ble_eq_true rfl) ⟨(by first | decide | omega | (dsimp only [headSpec]; omega)), (by first | decide | omega | (dsimp only [headSpec]; omega))⟩ ⟨(by first | decide | omega | (dsimp only [headSpec]; omega)), (by first | decide | omega | (dsimp only [headSpec]; omega))⟩ d_MO_item_118 (fun r_118 hp_118 => ?_)
            refine gs_top (show r_118 = (nI (hl0 R)) from hp_118) ?_
            refine lv_iconst (v := nI 3) hx hb d_MO_item_121 (by decide) ?_
            refine lv_icmp_ne (tgt := 129) hx hb d_MO_item_122 (by decide) (fun c_122 => ?_) (fun c_122 => ?_)
            · have c_122 : ¬ (hl0 R) = 3 := mt (nI_eq (by omega) (by omega)).mpr c_122
              refine lv_iconst (v := nI 0) hx hb d_MO_item_129 (by decide) ?_
              refine gs_put hx hb ht hown hK hG hS k_MO m0 0 (by decide) w_662 rfl rfl rfl (Nat.le_of_ble_eq_true rfl) d_MO_item_130 (fun H locs hG hS => ?_)
              have hG : gs_H X (gs_up σ mo (moE A (va_up Z 0 0))) H := hG
              obtain ⟨σ_51, eσ_51⟩ : ∃ zq, zq = gs_up σ mo (moE A (va_up Z 0 0)) := ⟨_, rfl⟩
              rw [← eσ_51] at hG
              have hc_52 : σ_51 (A 2) = some (gs_ia X 12 f2) := by rw [eσ_51]; exact gs_ku (gs_ne m2 m0 (by simp)) m2
              have hc_53 : σ_51 (A 18) = some (gs_ia X 25 f18) := by rw [eσ_51]; exact gs_ku (gs_ne m18 m0 (by simp)) m18
              have hc_54 : σ_51 (A 19) = some (gs_ia X 75 f19) := by rw [eσ_51]; exact gs_ku (gs_ne m19 m0 (by simp)) m19
              have hc_55 : σ_51 (A 20) = some (gs_ia X 25 f20) := by rw [eσ_51]; exact gs_ku (gs_ne m20 m0 (by simp)) m20
              have hc_56 : σ_51 (A 21) = some (gs_ia X 150 f21) := by rw [eσ_51]; exact gs_ku (gs_ne m21 m0 (by simp)) m21
              have hc_57 : σ_51 (A 22) = some (gs_ia X 150 f22) := by rw [eσ_51]; exact gs_ku (gs_ne m22 m0 (by simp)) m22
              have hc_58 : σ_51 (A 23) = some (gs_ia X 450 f23) := by rw [eσ_51]; exact gs_ku (gs_ne m23 m0 (by simp)) m23
              have hc_59 : σ_51 mo = some (moE A (va_up Z 0 0)) := by rw [eσ_51]; exact gs_us
              have fr_60 : frm [mo, A 20, A 21, A 22, A 23] σ σ_51 := by rw [eσ_51]; exact fr0.up (by simp)
              refine lv_aload_n hx hb d_MO_item_133 rfl (lv_at hl 1 rfl) ?_
              refine gs_get (v := .int (nI 0)) hx hb ht hown hK hG k_MO hc_59 0 (by decide) w_662 rfl d_MO_item_134 ?_
              refine lv_if_le (tgt := 142) hx hb d_MO_item_137 (by decide) (fun c_137 => ?_) (fun c_137 => ?_)
              · have c_137 : 0 = 0 := by have := gs_le0 (a := 0) (by omega); exact this.mp c_137
                refine lv_sipush (v := nI 144) hx hb d_MO_item_142 (by decide) ?_
                refine lv_aload_n hx hb d_MO_item_145 rfl (lv_at hl 1 rfl) ?_
                refine gs_get (v := .ref (A 20)) hx hb ht hown hK hG k_MO hc_59 20 (by decide) w_682 rfl d_MO_item_146 ?_
                refine lv_bipush (v := nI 24) hx hb d_MO_item_149 (by decide) ?_
                refine gs_iald hx hb hK hG hc_55 (j := 24) (by omega) (by omega) d_MO_item_151 ?_
                refine gs_top (show (f20 24) = (nI R.2.length) from hR9.2.2.1) ?_
                refine lv_iadd hx hb d_MO_item_152 ?_
                refine gs_top (nI_add 144 R.2.length) ?_
                refine lv_istore (lv' := [(8, .int (nI (144 + R.2.length))), (7, .int (bI (itR nr cw x r y z u))), (0, .ref mo), (1, .int x), (2, .int r), (3, .int y), (4, .int z), (5, .int u)]) hx hb d_MO_item_153 hl (by decide) rfl (fun ls hl => ?_)
                refine lv_aload_n hx hb d_MO_item_155 rfl (lv_at hl 2 rfl) ?_
                refine gs_get (v := .ref (A 21)) hx hb ht hown hK hG k_MO hc_59 21 (by decide) w_683 rfl d_MO_item_156 ?_
                refine lv_iload hx hb d_MO_item_159 (lv_at hl 0 rfl) ?_
                refine lv_iload_n hx hb d_MO_item_161 rfl (lv_at hl 3 rfl) ?_
                refine gs_iast hx hb hK hG hS hc_56 (j := 144 + R.2.length) (by omega) (by omega) d_MO_item_162 (fun H locs hG hS => ?_)
                have hG : gs_H X (gs_up σ_51 (A 21) (gs_ia X 150 (upd f21 (144 + R.2.length) x))) H := hG
                obtain ⟨σ_61, eσ_61⟩ : ∃ zq, zq = gs_up σ_51 (A 21) (gs_ia X 150 (upd f21 (144 + R.2.length) x)) := ⟨_, rfl⟩
                rw [← eσ_61] at hG
                have hc_62 : σ_61 (A 2) = some (gs_ia X 12 f2) := by rw [eσ_61]; exact gs_ku (ndp hN 0 13 (by decide) rfl rfl) hc_52
                have hc_63 : σ_61 (A 18) = some (gs_ia X 25 f18) := by rw [eσ_61]; exact gs_ku (ndp hN 10 13 (by decide) rfl rfl) hc_53
                have hc_64 : σ_61 (A 19) = some (gs_ia X 75 f19) := by rw [eσ_61]; exact gs_ku (ndp hN 11 13 (by decide) rfl rfl) hc_54
                have hc_65 : σ_61 (A 20) = some (gs_ia X 25 f20) := by rw [eσ_61]; exact gs_ku (ndp hN 12 13 (by decide) rfl rfl) hc_55
                have hc_66 : σ_61 (A 22) = some (gs_ia X 150 f22) := by rw [eσ_61]; exact gs_ku (Ne.symm (ndp hN 13 14 (by decide) rfl rfl)) hc_57
                have hc_67 : σ_61 (A 23) = some (gs_ia X 450 f23) := by rw [eσ_61]; exact gs_ku (Ne.symm (ndp hN 13 15 (by decide) rfl rfl)) hc_58
                have hc_68 : σ_61 mo = some (moE A (va_up Z 0 0)) := by rw [eσ_61]; exact gs_ku (gs_ne hc_59 hc_56 (by simp)) hc_59
                have hc_69 : σ_61 (A 21) = some (gs_ia X 150 (upd f21 (144 + R.2.length) x)) := by rw [eσ_61]; exact gs_us
                have fr_70 : frm [mo, A 20, A 21, A 22, A 23] σ σ_61 := by rw [eσ_61]; exact fr_60.up (by simp)
                refine lv_aload_n hx hb d_MO_item_163 rfl (lv_at hl 2 rfl) ?_
                refine gs_get (v := .ref (A 22)) hx hb ht hown hK hG k_MO hc_68 22 (by decide) w_684 rfl d_MO_item_164 ?_
                refine lv_iload hx hb d_MO_item_167 (lv_at hl 0 rfl) ?_
                refine lv_iload_n hx hb d_MO_item_169 rfl (lv_at hl 4 rfl) ?_
                refine gs_iast hx hb hK hG hS hc_66 (j := 144 + R.2.length) (by omega) (by omega) d_MO_item_170 (fun H locs hG hS => ?_)
                have hG : gs_H X (gs_up σ_61 (A 22) (gs_ia X 150 (upd f22 (144 + R.2.length) r))) H := hG
                obtain ⟨σ_71, eσ_71⟩ : ∃ zq, zq = gs_up σ_61 (A 22) (gs_ia X 150 (upd f22 (144 + R.2.length) r)) := ⟨_, rfl⟩
                rw [← eσ_71] at hG
                have hc_72 : σ_71 (A 2) = some (gs_ia X 12 f2) := by rw [eσ_71]; exact gs_ku (ndp hN 0 14 (by decide) rfl rfl) hc_62
                have hc_73 : σ_71 (A 18) = some (gs_ia X 25 f18) := by rw [eσ_71]; exact gs_ku (ndp hN 10 14 (by decide) rfl rfl) hc_63
                have hc_74 : σ_71 (A 19) = some (gs_ia X 75 f19) := by rw [eσ_71]; exact gs_ku (ndp hN 11 14 (by decide) rfl rfl) hc_64
                have hc_75 : σ_71 (A 20) = some (gs_ia X 25 f20) := by rw [eσ_71]; exact gs_ku (ndp hN 12 14 (by decide) rfl rfl) hc_65
                have hc_76 : σ_71 (A 23) = some (gs_ia X 450 f23) := by rw [eσ_71]; exact gs_ku (Ne.symm (ndp hN 14 15 (by decide) rfl rfl)) hc_67
                have hc_77 : σ_71 mo = some (moE A (va_up Z 0 0)) := by rw [eσ_71]; exact gs_ku (gs_ne hc_68 hc_66 (by simp)) hc_68
                have hc_78 : σ_71 (A 21) = some (gs_ia X 150 (upd f21 (144 + R.2.length) x)) := by rw [eσ_71]; exact gs_ku (ndp hN 13 14 (by decide) rfl rfl) hc_69
                have hc_79 : σ_71 (A 22) = some (gs_ia X 150 (upd f22 (144 + R.2.length) r)) := by rw [eσ_71]; exact gs_us
                have fr_80 : frm [mo, A 20, A 21, A 22, A 23] σ σ_71 := by rw [eσ_71]; exact fr_70.up (by simp)
                refine lv_aload_n hx hb d_MO_item_171 rfl (lv_at hl 2 rfl) ?_
                refine lv_iload hx hb d_MO_item_172 (lv_at hl 0 rfl) ?_
                refine lv_iload_n hx hb d_MO_item_174 rfl (lv_at hl 5 rfl) ?_
                refine lv_iload hx hb d_MO_item_175 (lv_at hl 6 rfl) ?_
                refine lv_iload hx hb d_MO_item_177 (lv_at hl 7 rfl) ?_
                refine gs_callVv (As := [.int (nI (144 + R.2.length)), .int y, .int z, .int u]) (rest := []) ⟨hx, hb, hml, hown, hts⟩ hK hE hz hG hS (c_MO_sett l X σ_71 mo A (va_up Z 0 0) f23 (144 + R.2.length) y z u hc_77 hc_76 (by omega)) mV_MO_sett w_804 hc_77 rfl rfl hl.1 rfl (Nat.le_of_ble_eq_true rfl) ⟨(by first | decide | omega | (dsimp only [headSpec]; omega)), (by first | decide | omega | (dsimp only [headSpec]; omega))⟩ ⟨(by first | decide | omega | (dsimp only [headSpec]; omega)), (by first | decide | omega | (dsimp only [headSpec]; omega))⟩ d_MO_item_179 (fun σ_179 H locs hp_179 hG hS => ?_)
                rw [hp_179] at hG
                have hG : gs_H X (gs_up σ_71 (A 23) (gs_ia X 450 (up3 f23 (144 + R.2.length) y z u))) H := hG
                obtain ⟨σ_81, eσ_81⟩ : ∃ zq, zq = gs_up σ_71 (A 23) (gs_ia X 450 (up3 f23 (144 + R.2.length) y z u)) := ⟨_, rfl⟩
                rw [← eσ_81] at hG
                have hc_82 : σ_81 (A 2) = some (gs_ia X 12 f2) := by rw [eσ_81]; exact gs_ku (ndp hN 0 15 (by decide) rfl rfl) hc_72
                have hc_83 : σ_81 (A 18) = some (gs_ia X 25 f18) := by rw [eσ_81]; exact gs_ku (ndp hN 10 15 (by decide) rfl rfl) hc_73
                have hc_84 : σ_81 (A 19) = some (gs_ia X 75 f19) := by rw [eσ_81]; exact gs_ku (ndp hN 11 15 (by decide) rfl rfl) hc_74
                have hc_85 : σ_81 (A 20) = some (gs_ia X 25 f20) := by rw [eσ_81]; exact gs_ku (ndp hN 12 15 (by decide) rfl rfl) hc_75
                have hc_86 : σ_81 mo = some (moE A (va_up Z 0 0)) := by rw [eσ_81]; exact gs_ku (gs_ne hc_77 hc_76 (by simp)) hc_77
                have hc_87 : σ_81 (A 21) = some (gs_ia X 150 (upd f21 (144 + R.2.length) x)) := by rw [eσ_81]; exact gs_ku (ndp hN 13 15 (by decide) rfl rfl) hc_78
                have hc_88 : σ_81 (A 22) = some (gs_ia X 150 (upd f22 (144 + R.2.length) r)) := by rw [eσ_81]; exact gs_ku (ndp hN 14 15 (by decide) rfl rfl) hc_79
                have hc_89 : σ_81 (A 23) = some (gs_ia X 450 (up3 f23 (144 + R.2.length) y z u)) := by rw [eσ_81]; exact gs_us
                have fr_90 : frm [mo, A 20, A 21, A 22, A 23] σ σ_81 := by rw [eσ_81]; exact fr_80.up (by simp)
                refine lv_aload_n hx hb d_MO_item_182 rfl (lv_at hl 2 rfl) ?_
                refine gs_get (v := .ref (A 20)) hx hb ht hown hK hG k_MO hc_86 20 (by decide) w_682 rfl d_MO_item_183 ?_
                refine lv_bipush (v := nI 24) hx hb d_MO_item_186 (by decide) ?_
                refine lv_dup2_11 hx hb d_MO_item_188 rfl rfl ?_
                refine gs_iald hx hb hK hG hc_85 (j := 24) (by omega) (by omega) d_MO_item_189 ?_
                refine gs_top (show (f20 24) = (nI R.2.length) from hR9.2.2.1) ?_
                refine lv_iconst (v := nI 1) hx hb d_MO_item_190 (by decide) ?_
                refine lv_iadd hx hb d_MO_item_191 ?_
                refine gs_top (nI_add R.2.length 1) ?_
                refine gs_iast hx hb hK hG hS hc_85 (j := 24) (by omega) (by omega) d_MO_item_192 (fun H locs hG hS => ?_)
                have hG : gs_H X (gs_up σ_81 (A 20) (gs_ia X 25 (upd f20 24 (nI (R.2.length + 1))))) H := hG
                obtain ⟨σ_91, eσ_91⟩ : ∃ zq, zq = gs_up σ_81 (A 20) (gs_ia X 25 (upd f20 24 (nI (R.2.length + 1)))) := ⟨_, rfl⟩
                rw [← eσ_91] at hG
                have hc_92 : σ_91 (A 2) = some (gs_ia X 12 f2) := by rw [eσ_91]; exact gs_ku (ndp hN 0 12 (by decide) rfl rfl) hc_82
                have hc_93 : σ_91 (A 18) = some (gs_ia X 25 f18) := by rw [eσ_91]; exact gs_ku (ndp hN 10 12 (by decide) rfl rfl) hc_83
                have hc_94 : σ_91 (A 19) = some (gs_ia X 75 f19) := by rw [eσ_91]; exact gs_ku (ndp hN 11 12 (by decide) rfl rfl) hc_84
                have hc_95 : σ_91 mo = some (moE A (va_up Z 0 0)) := by rw [eσ_91]; exact gs_ku (gs_ne hc_86 hc_85 (by simp)) hc_86
                have hc_96 : σ_91 (A 21) = some (gs_ia X 150 (upd f21 (144 + R.2.length) x)) := by rw [eσ_91]; exact gs_ku (Ne.symm (ndp hN 12 13 (by decide) rfl rfl)) hc_87
                have hc_97 : σ_91 (A 22) = some (gs_ia X 150 (upd f22 (144 + R.2.length) r)) := by rw [eσ_91]; exact gs_ku (Ne.symm (ndp hN 12 14 (by decide) rfl rfl)) hc_88
                have hc_98 : σ_91 (A 23) = some (gs_ia X 450 (up3 f23 (144 + R.2.length) y z u)) := by rw [eσ_91]; exact gs_ku (Ne.symm (ndp hN 12 15 (by decide) rfl rfl)) hc_89
                have hc_99 : σ_91 (A 20) = some (gs_ia X 25 (upd f20 24 (nI (R.2.length + 1)))) := by rw [eσ_91]; exact gs_us
                have fr_100 : frm [mo, A 20, A 21, A 22, A 23] σ σ_91 := by rw [eσ_91]; exact fr_90.up (by simp)
                refine lv_aload_n hx hb d_MO_item_193 rfl (lv_at hl 2 rfl) ?_
                refine gs_get (v := .ref (A 20)) hx hb ht hown hK hG k_MO hc_95 20 (by decide) w_682 rfl d_MO_item_194 ?_
                refine lv_bipush (v := nI 24) hx hb d_MO_item_197 (by decide) ?_
                refine gs_iald hx hb hK hG hc_99 (j := 24) (by omega) (by omega) d_MO_item_199 ?_
                refine gs_top (show ((upd f20 24 (nI (R.2.length + 1))) 24) = (nI (R.2.length + 1)) from (by simp [upd])) ?_
                have hr9 := rAt_snoc (kd := kd) (rl := rl) (a := a) (b := b) (z := cz) hR9
                rw [← ex, ← er, ← ey, ← ez, ← eu] at hr9
                exact gs_iret (v := (nI (R.2.length + 1))) hx hb hr rfl hK hE hz hG hS hlocks (by first | decide | omega | (dsimp only [headSpec]; omega)) (by first | decide | omega | (dsimp only [headSpec]; omega)) (⟨⟨hNN, hnr, hFB, hTB, hrc, ⟨_, hc_95, rfl, z1, z4, z7, z16, z17, z25, z26⟩, (hcol.fr hNN [0, 13, 14, 15, 16] fr_100 (by decide) (by decide)), (hfac.fr hNN [0, 13, 14, 15, 16] fr_100 (by decide) (by decide)), (htup.fr hNN [0, 13, 14, 15, 16] fr_100 (by decide) (by decide)), (hbit.fr (k := 9) hNN [0, 13, 14, 15, 16] fr_100 (by decide) (by decide) (by decide) rfl), (hfnd.fr (k := 10) hNN [0, 13, 14, 15, 16] fr_100 (by decide) (by decide) (by decide) rfl), ⟨_, _, _, _, _, _, hc_93, hc_94, hc_99, hc_96, hc_97, hc_98, hQl, fun q R9 z => ⟨rAt_item (hQ q R9 z).1 (by have := (List.getElem?_eq_some_iff.mp z).1; omega) (hQ q R9 z).2.2.2.1, (hQ q R9 z).2⟩, fun R9 z9 => by cases z9; exact ⟨hr9, mrB_snoc hRB hrm.1 hrm.2 hkd hrl2 hrl ha hb9 hc9⟩⟩, (hscr.fr hNN [0, 13, 14, 15, 16] fr_100 (by decide) (by decide))⟩, fr_100.wk (by simp), rfl⟩) d_MO_item_200
              · exact absurd c_137 (by decide)
            · have c_122 : (hl0 R) = 3 :=  (nI_eq (by omega) (by omega)).mp c_122
              first | omega | exact absurd c_108 (by omega) | exact absurd c_122 (by rcases hrm.2 with q | q; exact absurd (ex.symm.trans c_112) (mt (gs_z (by omega)) q); omega)
    · exact absurd ((bI_0 c_85).symm.trans hok) (by decide)
  have j38 : ∀ ls, lv_has ls 9 [(6, .int (bI (decide (r = 0) && wi3 72 2 y z u))), (0, .ref mo), (1, .int x), (2, .int r), (3, .int y), (4, .int z), (5, .int u)] → W p l e ({ frames := 1, cells := 0, slots := 0, locals := 27 } : Room) s m ([.ref mo, .int x, .int r, .int y, .int z, .int u] : List Value).toArray below meth c s.heap [] 0 0 (MQ below (va_Qi (fun q σ' => moA X σ' mo A 0 nr cw F T sa rc Q (some (R.1, R.2 ++ [(kd, rl, a, b, cz)])) ∧ frm (aM mo A) σ σ' ∧ q = nI (R.2.length + 1)) (gs_U X) (gs_A X)) ([.ref mo, .int x, .int r, .int y, .int z, .int u] : List Value).toArray s 0 0 (gs_A X)) (F0 m 38 ls []) := by
    intro ls hl
    refine lv_iload_n hx hb d_MO_item_38 rfl (lv_at hl 2 rfl) ?_
    refine lv_if_lt (tgt := 79) hx hb d_MO_item_39 (by decide) (fun c_39 => ?_) (fun c_39 => ?_)
    · refine lv_iconst (v := nI 0) hx hb d_MO_item_79 (by decide) ?_
      refine lv_istore (lv' := [(7, .int (nI 0)), (6, .int (bI (decide (r = 0) && wi3 72 2 y z u))), (0, .ref mo), (1, .int x), (2, .int r), (3, .int y), (4, .int z), (5, .int u)]) hx hb d_MO_item_80 hl (by decide) rfl (fun ls hl => ?_)
      exact j82 ls (by rw [show bI (itR nr cw x r y z u) = nI 0 from by first | (unfold itR; rw [decide_eq_true c_39]; rfl) | (unfold itR; rw [decide_eq_false (Int32.not_le.mpr c_44), Bool.and_false]; rfl) | (unfold itR; rw [if_pos (Int32.not_le.mp c_49), bI_0 c_64, Bool.and_false]; rfl) | (unfold itR; rw [if_neg (Int32.not_lt.mpr c_49), bI_0 c_72, Bool.and_false]; rfl)]; exact (lv_sub hl [0, 2, 3, 4, 5, 6, 7] rfl))
    · refine lv_iload_n hx hb d_MO_item_42 rfl (lv_at hl 2 rfl) ?_
      refine lv_iconst (v := nI 3) hx hb d_MO_item_43 (by decide) ?_
      refine lv_icmp_gt (tgt := 79) hx hb d_MO_item_44 (by decide) (fun c_44 => ?_) (fun c_44 => ?_)
      · refine lv_iconst (v := nI 0) hx hb d_MO_item_79 (by decide) ?_
        refine lv_istore (lv' := [(7, .int (nI 0)), (6, .int (bI (decide (r = 0) && wi3 72 2 y z u))), (0, .ref mo), (1, .int x), (2, .int r), (3, .int y), (4, .int z), (5, .int u)]) hx hb d_MO_item_80 hl (by decide) rfl (fun ls hl => ?_)
        exact j82 ls (by rw [show bI (itR nr cw x r y z u) = nI 0 from by first | (unfold itR; rw [decide_eq_true c_39]; rfl) | (unfold itR; rw [decide_eq_false (Int32.not_le.mpr c_44), Bool.and_false]; rfl) | (unfold itR; rw [if_pos (Int32.not_le.mp c_49), bI_0 c_64, Bool.and_false]; rfl) | (unfold itR; rw [if_neg (Int32.not_lt.mpr c_49), bI_0 c_72, Bool.and_false]; rfl)]; exact (lv_sub hl [0, 2, 3, 4, 5, 6, 7] rfl))
      · refine lv_iload_n hx hb d_MO_item_47 rfl (lv_at hl 2 rfl) ?_
        refine lv_iconst (v := nI 2) hx hb d_MO_item_48 (by decide) ?_
        refine lv_icmp_ge (tgt := 70) hx hb d_MO_item_49 (by decide) (fun c_49 => ?_) (fun c_49 => ?_)
        · refine lv_iload hx hb d_MO_item_70 (lv_at hl 0 rfl) ?_
          refine lv_if_eq (tgt := 79) hx hb d_MO_item_72 (by decide) (fun c_72 => ?_) (fun c_72 => ?_)
          · refine lv_iconst (v := nI 0) hx hb d_MO_item_79 (by decide) ?_
            refine lv_istore (lv' := [(7, .int (nI 0)), (6, .int (bI (decide (r = 0) && wi3 72 2 y z u))), (0, .ref mo), (1, .int x), (2, .int r), (3, .int y), (4, .int z), (5, .int u)]) hx hb d_MO_item_80 hl (by decide) rfl (fun ls hl => ?_)
            exact j82 ls (by rw [show bI (itR nr cw x r y z u) = nI 0 from by first | (unfold itR; rw [decide_eq_true c_39]; rfl) | (unfold itR; rw [decide_eq_false (Int32.not_le.mpr c_44), Bool.and_false]; rfl) | (unfold itR; rw [if_pos (Int32.not_le.mp c_49), bI_0 c_64, Bool.and_false]; rfl) | (unfold itR; rw [if_neg (Int32.not_lt.mpr c_49), bI_0 c_72, Bool.and_false]; rfl)]; exact (lv_sub hl [0, 2, 3, 4, 5, 6, 7] rfl))
          · refine lv_iconst (v := nI 1) hx hb d_MO_item_75 (by decide) ?_
            refine lv_goto (tgt := 80) hx hb d_MO_item_76 (by decide) ?_
            refine lv_istore (lv' := [(7, .int (nI 1)), (6, .int (bI (decide (r = 0) && wi3 72 2 y z u))), (0, .ref mo), (1, .int x), (2, .int r), (3, .int y), (4, .int z), (5, .int u)]) hx hb d_MO_item_80 hl (by decide) rfl (fun ls hl => ?_)
            exact j82 ls (by rw [show bI (itR nr cw x r y z u) = nI 1 from by first | (unfold itR; rw [decide_eq_false c_39, decide_eq_true (Int32.not_lt.mp c_44), if_pos (Int32.not_le.mp c_49), bI_n0 c_64]; rfl) | (unfold itR; rw [decide_eq_false c_39, decide_eq_true (Int32.not_lt.mp c_44), if_neg (Int32.not_lt.mpr c_49), bI_n0 c_72]; rfl)]; exact (lv_sub hl [0, 2, 3, 4, 5, 6, 7] rfl))
        · refine lv_aload_n hx hb d_MO_item_52 rfl (lv_at hl 1 rfl) ?_
          refine lv_iload_n hx hb d_MO_item_53 rfl (lv_at hl 3 rfl) ?_
          refine lv_iload_n hx hb d_MO_item_54 rfl (lv_at hl 4 rfl) ?_
          refine lv_iload hx hb d_MO_item_55 (lv_at hl 5 rfl) ?_
          refine lv_iload hx hb d_MO_item_57 (lv_at hl 6 rfl) ?_
          refine lv_bipush (v := nI 72) hx hb d_MO_item_59 (by decide) ?_
          refine gs_callVp (As := [.int r, .int y, .int z, .int u, .int (nI 72)]) (rest := []) ⟨hx, hb, hml, hown, hts⟩ hK hE hz hG hS (c_MO_fitsU l X σ mo A Z f2 nr cw 72 r y z u m0 m2 z1 hnr hcw) ⟨rfl, rfl⟩ mV_MO_fits w_777 m0 rfl rfl hl.1 rfl (Nat.le_of_ble_eq_true rfl) ⟨(by first | decide | omega | (dsimp only [headSpec]; omega)), (by first | decide | omega | (dsimp only [headSpec]; omega))⟩ ⟨(by first | decide | omega | (dsimp only [headSpec]; omega)), (by first | decide | omega | (dsimp only [headSpec]; omega))⟩ d_MO_item_61 (fun r_61 hp_61 => ?_)
          refine gs_top (show r_61 = (bI (fitR nr cw 72 r y z u)) from hp_61) ?_
          refine lv_if_eq (tgt := 79) hx hb d_MO_item_64 (by decide) (fun c_64 => ?_) (fun c_64 => ?_)
          · refine lv_iconst (v := nI 0) hx hb d_MO_item_79 (by decide) ?_
            refine lv_istore (lv' := [(7, .int (nI 0)), (6, .int (bI (decide (r = 0) && wi3 72 2 y z u))), (0, .ref mo), (1, .int x), (2, .int r), (3, .int y), (4, .int z), (5, .int u)]) hx hb d_MO_item_80 hl (by decide) rfl (fun ls hl => ?_)
            exact j82 ls (by rw [show bI (itR nr cw x r y z u) = nI 0 from by first | (unfold itR; rw [decide_eq_true c_39]; rfl) | (unfold itR; rw [decide_eq_false (Int32.not_le.mpr c_44), Bool.and_false]; rfl) | (unfold itR; rw [if_pos (Int32.not_le.mp c_49), bI_0 c_64, Bool.and_false]; rfl) | (unfold itR; rw [if_neg (Int32.not_lt.mpr c_49), bI_0 c_72, Bool.and_false]; rfl)]; exact (lv_sub hl [0, 2, 3, 4, 5, 6, 7] rfl))
          · refine lv_goto (tgt := 75) hx hb d_MO_item_67 (by decide) ?_
            refine lv_iconst (v := nI 1) hx hb d_MO_item_75 (by decide) ?_
            refine lv_goto (tgt := 80) hx hb d_MO_item_76 (by decide) ?_
            refine lv_istore (lv' := [(7, .int (nI 1)), (6, .int (bI (decide (r = 0) && wi3 72 2 y z u))), (0, .ref mo), (1, .int x), (2, .int r), (3, .int y), (4, .int z), (5, .int u)]) hx hb d_MO_item_80 hl (by decide) rfl (fun ls hl => ?_)
            exact j82 ls (by rw [show bI (itR nr cw x r y z u) = nI 1 from by first | (unfold itR; rw [decide_eq_false c_39, decide_eq_true (Int32.not_lt.mp c_44), if_pos (Int32.not_le.mp c_49), bI_n0 c_64]; rfl) | (unfold itR; rw [decide_eq_false c_39, decide_eq_true (Int32.not_lt.mp c_44), if_neg (Int32.not_lt.mpr c_49), bI_n0 c_72]; rfl)]; exact (lv_sub hl [0, 2, 3, 4, 5, 6, 7] rfl))
  refine lv_iload_n hx hb d_MO_item_0 rfl (lv_at hl 2 rfl) ?_
  refine lv_if_ne (tgt := 35) hx hb d_MO_item_1 (by decide) (fun c_1 => ?_) (fun c_1 => ?_)
  · refine lv_iconst (v := nI 0) hx hb d_MO_item_35 (by decide) ?_
    refine lv_istore (lv' := [(6, .int (nI 0)), (0, .ref mo), (1, .int x), (2, .int r), (3, .int y), (4, .int z), (5, .int u)]) hx hb d_MO_item_36 hl (by decide) rfl (fun ls hl => ?_)
    exact j38 ls (by rw [show bI (decide (r = 0) && wi3 72 2 y z u) = nI 0 from by first | (rw [decide_eq_false c_1]; rfl) | (rw [show wi3 72 2 y z u = false from by unfold wi3; rw [show (if 2 < 2 then 72 else 1) = 1 from rfl, wi_one, decide_eq_false c_6, Bool.and_false], Bool.and_false]; rfl) | (rw [show wi3 72 2 y z u = false from by unfold wi3; (rw [wi_neg c_10]; rfl), Bool.and_false]; rfl) | (rw [show wi3 72 2 y z u = false from by unfold wi3; (rw [wi_ge c_16]; rfl), Bool.and_false]; rfl) | (rw [show wi3 72 2 y z u = false from by unfold wi3; rw [show (if 1 < 2 then 72 else 1) = 72 from rfl, wi_neg c_21, Bool.and_false]; rfl, Bool.and_false]; rfl) | (rw [show wi3 72 2 y z u = false from by unfold wi3; rw [show (if 1 < 2 then 72 else 1) = 72 from rfl, wi_ge c_28, Bool.and_false]; rfl, Bool.and_false]; rfl)]; exact (lv_sub hl [0, 1, 2, 3, 4, 5, 6] rfl))
  · refine lv_iload hx hb d_MO_item_4 (lv_at hl 5 rfl) ?_
    refine lv_if_ne (tgt := 35) hx hb d_MO_item_6 (by decide) (fun c_6 => ?_) (fun c_6 => ?_)
    · refine lv_iconst (v := nI 0) hx hb d_MO_item_35 (by decide) ?_
      refine lv_istore (lv' := [(6, .int (nI 0)), (0, .ref mo), (1, .int x), (2, .int r), (3, .int y), (4, .int z), (5, .int u)]) hx hb d_MO_item_36 hl (by decide) rfl (fun ls hl => ?_)
      exact j38 ls (by rw [show bI (decide (r = 0) && wi3 72 2 y z u) = nI 0 from by first | (rw [decide_eq_false c_1]; rfl) | (rw [show wi3 72 2 y z u = false from by unfold wi3; rw [show (if 2 < 2 then 72 else 1) = 1 from rfl, wi_one, decide_eq_false c_6, Bool.and_false], Bool.and_false]; rfl) | (rw [show wi3 72 2 y z u = false from by unfold wi3; (rw [wi_neg c_10]; rfl), Bool.and_false]; rfl) | (rw [show wi3 72 2 y z u = false from by unfold wi3; (rw [wi_ge c_16]; rfl), Bool.and_false]; rfl) | (rw [show wi3 72 2 y z u = false from by unfold wi3; rw [show (if 1 < 2 then 72 else 1) = 72 from rfl, wi_neg c_21, Bool.and_false]; rfl, Bool.and_false]; rfl) | (rw [show wi3 72 2 y z u = false from by unfold wi3; rw [show (if 1 < 2 then 72 else 1) = 72 from rfl, wi_ge c_28, Bool.and_false]; rfl, Bool.and_false]; rfl)]; exact (lv_sub hl [0, 1, 2, 3, 4, 5, 6] rfl))
    · refine lv_iload_n hx hb d_MO_item_9 rfl (lv_at hl 3 rfl) ?_
      refine lv_if_lt (tgt := 35) hx hb d_MO_item_10 (by decide) (fun c_10 => ?_) (fun c_10 => ?_)
      · refine lv_iconst (v := nI 0) hx hb d_MO_item_35 (by decide) ?_
        refine lv_istore (lv' := [(6, .int (nI 0)), (0, .ref mo), (1, .int x), (2, .int r), (3, .int y), (4, .int z), (5, .int u)]) hx hb d_MO_item_36 hl (by decide) rfl (fun ls hl => ?_)
        exact j38 ls (by rw [show bI (decide (r = 0) && wi3 72 2 y z u) = nI 0 from by first | (rw [decide_eq_false c_1]; rfl) | (rw [show wi3 72 2 y z u = false from by unfold wi3; rw [show (if 2 < 2 then 72 else 1) = 1 from rfl, wi_one, decide_eq_false c_6, Bool.and_false], Bool.and_false]; rfl) | (rw [show wi3 72 2 y z u = false from by unfold wi3; (rw [wi_neg c_10]; rfl), Bool.and_false]; rfl) | (rw [show wi3 72 2 y z u = false from by unfold wi3; (rw [wi_ge c_16]; rfl), Bool.and_false]; rfl) | (rw [show wi3 72 2 y z u = false from by unfold wi3; rw [show (if 1 < 2 then 72 else 1) = 72 from rfl, wi_neg c_21, Bool.and_false]; rfl, Bool.and_false]; rfl) | (rw [show wi3 72 2 y z u = false from by unfold wi3; rw [show (if 1 < 2 then 72 else 1) = 72 from rfl, wi_ge c_28, Bool.and_false]; rfl, Bool.and_false]; rfl)]; exact (lv_sub hl [0, 1, 2, 3, 4, 5, 6] rfl))
      · refine lv_iload_n hx hb d_MO_item_13 rfl (lv_at hl 3 rfl) ?_
        refine lv_bipush (v := nI 72) hx hb d_MO_item_14 (by decide) ?_
        refine lv_icmp_ge (tgt := 35) hx hb d_MO_item_16 (by decide) (fun c_16 => ?_) (fun c_16 => ?_)
        · refine lv_iconst (v := nI 0) hx hb d_MO_item_35 (by decide) ?_
          refine lv_istore (lv' := [(6, .int (nI 0)), (0, .ref mo), (1, .int x), (2, .int r), (3, .int y), (4, .int z), (5, .int u)]) hx hb d_MO_item_36 hl (by decide) rfl (fun ls hl => ?_)
          exact j38 ls (by rw [show bI (decide (r = 0) && wi3 72 2 y z u) = nI 0 from by first | (rw [decide_eq_false c_1]; rfl) | (rw [show wi3 72 2 y z u = false from by unfold wi3; rw [show (if 2 < 2 then 72 else 1) = 1 from rfl, wi_one, decide_eq_false c_6, Bool.and_false], Bool.and_false]; rfl) | (rw [show wi3 72 2 y z u = false from by unfold wi3; (rw [wi_neg c_10]; rfl), Bool.and_false]; rfl) | (rw [show wi3 72 2 y z u = false from by unfold wi3; (rw [wi_ge c_16]; rfl), Bool.and_false]; rfl) | (rw [show wi3 72 2 y z u = false from by unfold wi3; rw [show (if 1 < 2 then 72 else 1) = 72 from rfl, wi_neg c_21, Bool.and_false]; rfl, Bool.and_false]; rfl) | (rw [show wi3 72 2 y z u = false from by unfold wi3; rw [show (if 1 < 2 then 72 else 1) = 72 from rfl, wi_ge c_28, Bool.and_false]; rfl, Bool.and_false]; rfl)]; exact (lv_sub hl [0, 1, 2, 3, 4, 5, 6] rfl))
        · refine lv_iload hx hb d_MO_item_19 (lv_at hl 4 rfl) ?_
          refine lv_if_lt (tgt := 35) hx hb d_MO_item_21 (by decide) (fun c_21 => ?_) (fun c_21 => ?_)
          · refine lv_iconst (v := nI 0) hx hb d_MO_item_35 (by decide) ?_
            refine lv_istore (lv' := [(6, .int (nI 0)), (0, .ref mo), (1, .int x), (2, .int r), (3, .int y), (4, .int z), (5, .int u)]) hx hb d_MO_item_36 hl (by decide) rfl (fun ls hl => ?_)
            exact j38 ls (by rw [show bI (decide (r = 0) && wi3 72 2 y z u) = nI 0 from by first | (rw [decide_eq_false c_1]; rfl) | (rw [show wi3 72 2 y z u = false from by unfold wi3; rw [show (if 2 < 2 then 72 else 1) = 1 from rfl, wi_one, decide_eq_false c_6, Bool.and_false], Bool.and_false]; rfl) | (rw [show wi3 72 2 y z u = false from by unfold wi3; (rw [wi_neg c_10]; rfl), Bool.and_false]; rfl) | (rw [show wi3 72 2 y z u = false from by unfold wi3; (rw [wi_ge c_16]; rfl), Bool.and_false]; rfl) | (rw [show wi3 72 2 y z u = false from by unfold wi3; rw [show (if 1 < 2 then 72 else 1) = 72 from rfl, wi_neg c_21, Bool.and_false]; rfl, Bool.and_false]; rfl) | (rw [show wi3 72 2 y z u = false from by unfold wi3; rw [show (if 1 < 2 then 72 else 1) = 72 from rfl, wi_ge c_28, Bool.and_false]; rfl, Bool.and_false]; rfl)]; exact (lv_sub hl [0, 1, 2, 3, 4, 5, 6] rfl))
          · refine lv_iload hx hb d_MO_item_24 (lv_at hl 4 rfl) ?_
            refine lv_bipush (v := nI 72) hx hb d_MO_item_26 (by decide) ?_
            refine lv_icmp_ge (tgt := 35) hx hb d_MO_item_28 (by decide) (fun c_28 => ?_) (fun c_28 => ?_)
            · refine lv_iconst (v := nI 0) hx hb d_MO_item_35 (by decide) ?_
              refine lv_istore (lv' := [(6, .int (nI 0)), (0, .ref mo), (1, .int x), (2, .int r), (3, .int y), (4, .int z), (5, .int u)]) hx hb d_MO_item_36 hl (by decide) rfl (fun ls hl => ?_)
              exact j38 ls (by rw [show bI (decide (r = 0) && wi3 72 2 y z u) = nI 0 from by first | (rw [decide_eq_false c_1]; rfl) | (rw [show wi3 72 2 y z u = false from by unfold wi3; rw [show (if 2 < 2 then 72 else 1) = 1 from rfl, wi_one, decide_eq_false c_6, Bool.and_false], Bool.and_false]; rfl) | (rw [show wi3 72 2 y z u = false from by unfold wi3; (rw [wi_neg c_10]; rfl), Bool.and_false]; rfl) | (rw [show wi3 72 2 y z u = false from by unfold wi3; (rw [wi_ge c_16]; rfl), Bool.and_false]; rfl) | (rw [show wi3 72 2 y z u = false from by unfold wi3; rw [show (if 1 < 2 then 72 else 1) = 72 from rfl, wi_neg c_21, Bool.and_false]; rfl, Bool.and_false]; rfl) | (rw [show wi3 72 2 y z u = false from by unfold wi3; rw [show (if 1 < 2 then 72 else 1) = 72 from rfl, wi_ge c_28, Bool.and_false]; rfl, Bool.and_false]; rfl)]; exact (lv_sub hl [0, 1, 2, 3, 4, 5, 6] rfl))
            · refine lv_iconst (v := nI 1) hx hb d_MO_item_31 (by decide) ?_
              refine lv_goto (tgt := 36) hx hb d_MO_item_32 (by decide) ?_
              refine lv_istore (lv' := [(6, .int (nI 1)), (0, .ref mo), (1, .int x), (2, .int r), (3, .int y), (4, .int z), (5, .int u)]) hx hb d_MO_item_36 hl (by decide) rfl (fun ls hl => ?_)
              exact j38 ls (by rw [show bI (decide (r = 0) && wi3 72 2 y z u) = nI 1 from by first | (rw [decide_eq_true c_1, show wi3 72 2 y z u = true from by unfold wi3; rw [wi_in c_10 c_16, show (if 1 < 2 then 72 else 1) = 72 from rfl, wi_in c_21 c_28, show (if 2 < 2 then 72 else 1) = 1 from rfl, wi_one, decide_eq_true c_6]; rfl]; rfl)]; exact (lv_sub hl [0, 1, 2, 3, 4, 5, 6] rfl))
