set_option maxHeartbeats 4000000 in
set_option maxRecDepth 100000 in
/-- the reference: strata -/
theorem c_MO_strata (l : Launch) (X : gs_X) (σ : gs_St) (mo : Nat) (A : Nat → Nat) (cd nr : Nat) (cw : Nat → Nat) (F : List (Nat × Nat)) (T : List MT) (sa rc : Nat) (Q : List MR) (dr : Option MR)
    (hM : moA X σ mo A cd nr cw F T sa rc Q dr) : gs_Mi l X y_MO_strata b_MO_strata 1 (some .int) ({ frames := 2, cells := 0, slots := 0, locals := 48 }) σ [.ref mo] (fun r σ' => moA X σ' mo A 0 nr cw F T sa rc Q dr ∧ frm (aM mo A) σ σ' ∧ r = if mok Q nr = true then nI (mxS (mfs Q nr).1 nr) else -3) := by
  refine Met.ofW (cc := b_MO_strata) (maxL := 1) (ret := (some .int)) (by decide) rfl ?_
  intro p e s m args below meth c s₁ B₀ hml hv
  obtain ⟨rfl, hK, hG, hz, hE⟩ := hv
  have hx := B₀.exec
  have hb := B₀.bytes
  have hr := B₀.returns
  have hts := atoms_spec (ws := gs_ws y_MO_strata b_MO_strata 1 (some .int)) B₀.pre
  have ht : ∀ w ∈ gs_w, w.before _ s = true := fun w h => hts w (List.mem_cons_of_mem _ h)
  have hown : s.vm.findClass R_MO = some m.cls := findClass_of_methodNamed B₀.named
  have hlocks := B₀.notSynchronized
  have hA : ∀ q : Nat, s.heap.size ≤ q → gs_A X q := fun q h => Nat.le_trans hz h
  have hS : va_S (gs_A X) s.heap s.heap [] := va_S.rf
  have hl := lv_entry ([.ref mo]) (n := 1) (Nat.le_of_ble_eq_true rfl)
  rw [lg_entry_eq]
  generalize (lg_sl ([.ref mo]) ++ List.replicate (1 - (lg_sl ([.ref mo])).length) Slot.unset).toArray = ls at hl ⊢
  have hl : lv_has ls 1 [(0, .ref mo)] := hl
  obtain ⟨hNN, hnr, hFB, hTB, hrc, ⟨Z, m0, z0, z1, z4, z7, z16, z17, z25, z26⟩, hcol, hfac, htup, hbit, hfnd, hrul, hscr⟩ := id hM
  have hN := hN1 hNN
  have hFl := hFB.1
  have hTl := hTB.1
  obtain ⟨f18, f19, f20, f21, f22, f23, m18, m19, m20, m21, m22, m23, hQl, hQ, hdr⟩ := id hrul
  obtain ⟨f3, f24, f28, f29, f30, m3, m24, m28, m29, m30⟩ := id hscr
  have fr0 : frm [mo, A 3] σ σ := frm.rf
  refine lv_aload_n hx hb d_MO_strata_0 rfl (lv_at hl 0 rfl) ?_
  refine lv_iconst (v := nI 0) hx hb d_MO_strata_1 (by decide) ?_
  refine gs_put hx hb ht hown hK hG hS k_MO m0 0 (by decide) w_662 rfl rfl rfl (Nat.le_of_ble_eq_true rfl) d_MO_strata_2 (fun H locs hG hS => ?_)
  have hG : gs_H X (gs_up σ mo (moE A (va_up Z 0 0))) H := hG
  obtain ⟨σ_1, eσ_1⟩ : ∃ zq, zq = gs_up σ mo (moE A (va_up Z 0 0)) := ⟨_, rfl⟩
  rw [← eσ_1] at hG
  have hc_2 : σ_1 (A 3) = some (gs_ia X 12 f3) := by rw [eσ_1]; exact gs_ku (gs_ne m3 m0 (by simp)) m3
  have hc_3 : σ_1 (A 18) = some (gs_ia X 25 f18) := by rw [eσ_1]; exact gs_ku (gs_ne m18 m0 (by simp)) m18
  have hc_4 : σ_1 (A 20) = some (gs_ia X 25 f20) := by rw [eσ_1]; exact gs_ku (gs_ne m20 m0 (by simp)) m20
  have hc_5 : σ_1 (A 21) = some (gs_ia X 150 f21) := by rw [eσ_1]; exact gs_ku (gs_ne m21 m0 (by simp)) m21
  have hc_6 : σ_1 (A 22) = some (gs_ia X 150 f22) := by rw [eσ_1]; exact gs_ku (gs_ne m22 m0 (by simp)) m22
  have hc_7 : σ_1 mo = some (moE A (va_up Z 0 0)) := by rw [eσ_1]; exact gs_us
  have fr_8 : frm [mo, A 3] σ σ_1 := by rw [eσ_1]; exact fr0.up (by simp)
  refine lv_aload_n hx hb d_MO_strata_5 rfl (lv_at hl 0 rfl) ?_
  refine gs_callVi (As := []) (rest := []) ⟨hx, hb, hml, hown, hts⟩ hK hE hz hG hS (c_MO_strataOf l X σ_1 mo A (va_up Z 0 0) nr Q f3 f18 f19 f20 f21 f22 f23 hc_7 hN z1 z16 hc_2 hc_3 hc_4 hc_5 hc_6 hnr hQl hQ) mV_MO_strataOf w_820 hc_7 rfl rfl hl.1 rfl (Nat.le_of_ble_eq_true rfl) ⟨(by first | decide | omega | (dsimp only [headSpec]; omega)), (by first | decide | omega | (dsimp only [headSpec]; omega))⟩ ⟨(by first | decide | omega | (dsimp only [headSpec]; omega)), (by first | decide | omega | (dsimp only [headSpec]; omega))⟩ d_MO_strata_6 (fun r_6 σ_6 H locs hp_6 hG hS => ?_)
  obtain ⟨fz, ev9, hz9, er9⟩ := hp_6
  rw [ev9] at hG
  refine gs_top er9 ?_
  have hG : gs_H X (gs_up σ_1 (A 3) (gs_ia X 12 fz)) H := hG
  obtain ⟨σ_9, eσ_9⟩ : ∃ zq, zq = gs_up σ_1 (A 3) (gs_ia X 12 fz) := ⟨_, rfl⟩
  rw [← eσ_9] at hG
  have hc_10 : σ_9 (A 18) = some (gs_ia X 25 f18) := by rw [eσ_9]; exact gs_ku (Ne.symm (ndp hN 1 10 (by decide) rfl rfl)) hc_3
  have hc_11 : σ_9 (A 20) = some (gs_ia X 25 f20) := by rw [eσ_9]; exact gs_ku (Ne.symm (ndp hN 1 12 (by decide) rfl rfl)) hc_4
  have hc_12 : σ_9 (A 21) = some (gs_ia X 150 f21) := by rw [eσ_9]; exact gs_ku (Ne.symm (ndp hN 1 13 (by decide) rfl rfl)) hc_5
  have hc_13 : σ_9 (A 22) = some (gs_ia X 150 f22) := by rw [eσ_9]; exact gs_ku (Ne.symm (ndp hN 1 14 (by decide) rfl rfl)) hc_6
  have hc_14 : σ_9 mo = some (moE A (va_up Z 0 0)) := by rw [eσ_9]; exact gs_ku (gs_ne hc_7 hc_2 (by simp)) hc_7
  have hc_15 : σ_9 (A 3) = some (gs_ia X 12 fz) := by rw [eσ_9]; exact gs_us
  have fr_16 : frm [mo, A 3] σ σ_9 := by rw [eσ_9]; exact fr_8.up (by simp)
  exact gs_iret (v := (if mok Q nr = true then nI (mxS (mfs Q nr).1 nr) else -3)) hx hb hr rfl hK hE hz hG hS hlocks (by first | decide | omega | (dsimp only [headSpec]; omega)) (by first | decide | omega | (dsimp only [headSpec]; omega)) (⟨⟨hNN, hnr, hFB, hTB, hrc, ⟨_, hc_14, rfl, z1, z4, z7, z16, z17, z25, z26⟩, (hcol.fr hNN [0, 2] fr_16 (by decide) (by decide)), (hfac.fr hNN [0, 2] fr_16 (by decide) (by decide)), (htup.fr hNN [0, 2] fr_16 (by decide) (by decide)), (hbit.fr (k := 9) hNN [0, 2] fr_16 (by decide) (by decide) (by decide) rfl), (hfnd.fr (k := 10) hNN [0, 2] fr_16 (by decide) (by decide) (by decide) rfl), (hrul.fr hNN [0, 2] fr_16 (by decide) (by decide)), ⟨_, f24, f28, f29, f30, hc_15, kp hNN [0, 2] fr_16 17 (by decide) (by decide) (by decide) rfl m24, kp hNN [0, 2] fr_16 18 (by decide) (by decide) (by decide) rfl m28, kp hNN [0, 2] fr_16 19 (by decide) (by decide) (by decide) rfl m29, kp hNN [0, 2] fr_16 20 (by decide) (by decide) (by decide) rfl m30⟩⟩, fr_16.wk (by simp), rfl⟩) d_MO_strata_9
set_option maxHeartbeats 4000000 in
set_option maxRecDepth 100000 in
/-- the reference: stratum of no relation -/
theorem c_MO_stratum_r (l : Launch) (X : gs_X) (σ : gs_St) (mo : Nat) (A : Nat → Nat) (cd nr : Nat) (cw : Nat → Nat) (F : List (Nat × Nat)) (T : List MT) (sa rc : Nat) (Q : List MR) (dr : Option MR) (x : Int32)
    (hM : moA X σ mo A cd nr cw F T sa rc Q dr) (hok : wi nr x = false) : gs_Mi l X y_MO_stratum b_MO_stratum 2 (some .int) ({ frames := 0, cells := 0, slots := 0, locals := 0 }) σ [.ref mo, .int x] (fun r σ' => moA X σ' mo A 1 nr cw F T sa rc Q dr ∧ frm (aM mo A) σ σ' ∧ r = nI 0) := by
  refine Met.ofW (cc := b_MO_stratum) (maxL := 2) (ret := (some .int)) (by decide) rfl ?_
  intro p e s m args below meth c s₁ B₀ hml hv
  obtain ⟨rfl, hK, hG, hz, hE⟩ := hv
  have hx := B₀.exec
  have hb := B₀.bytes
  have hr := B₀.returns
  have hts := atoms_spec (ws := gs_ws y_MO_stratum b_MO_stratum 2 (some .int)) B₀.pre
  have ht : ∀ w ∈ gs_w, w.before _ s = true := fun w h => hts w (List.mem_cons_of_mem _ h)
  have hown : s.vm.findClass R_MO = some m.cls := findClass_of_methodNamed B₀.named
  have hlocks := B₀.notSynchronized
  have hA : ∀ q : Nat, s.heap.size ≤ q → gs_A X q := fun q h => Nat.le_trans hz h
  have hS : va_S (gs_A X) s.heap s.heap [] := va_S.rf
  have hl := lv_entry ([.ref mo, .int x]) (n := 2) (Nat.le_of_ble_eq_true rfl)
  rw [lg_entry_eq]
  generalize (lg_sl ([.ref mo, .int x]) ++ List.replicate (2 - (lg_sl ([.ref mo, .int x])).length) Slot.unset).toArray = ls at hl ⊢
  have hl : lv_has ls 2 [(0, .ref mo), (1, .int x)] := hl
  obtain ⟨hNN, hnr, hFB, hTB, hrc, ⟨Z, m0, z0, z1, z4, z7, z16, z17, z25, z26⟩, hcol, hfac, htup, hbit, hfnd, hrul, hscr⟩ := id hM
  have hN := hN1 hNN
  have hFl := hFB.1
  have hTl := hTB.1
  
  have fr0 : frm [mo] σ σ := frm.rf
  refine lv_aload_n hx hb d_MO_stratum_0 rfl (lv_at hl 0 rfl) ?_
  refine lv_iload_n hx hb d_MO_stratum_1 rfl (lv_at hl 1 rfl) ?_
  refine lv_if_lt (tgt := 13) hx hb d_MO_stratum_2 (by decide) (fun c_2 => ?_) (fun c_2 => ?_)
  · refine lv_iconst (v := nI 1) hx hb d_MO_stratum_13 (by decide) ?_
    refine lv_goto (tgt := 31) hx hb d_MO_stratum_14 (by decide) ?_
    refine gs_put hx hb ht hown hK hG hS k_MO m0 0 (by decide) w_662 rfl rfl rfl (Nat.le_of_ble_eq_true rfl) d_MO_stratum_31 (fun H locs hG hS => ?_)
    have hG : gs_H X (gs_up σ mo (moE A (va_up Z 0 1))) H := hG
    obtain ⟨σ_1, eσ_1⟩ : ∃ zq, zq = gs_up σ mo (moE A (va_up Z 0 1)) := ⟨_, rfl⟩
    rw [← eσ_1] at hG
    have hc_2 : σ_1 mo = some (moE A (va_up Z 0 1)) := by rw [eσ_1]; exact gs_us
    have fr_3 : frm [mo] σ σ_1 := by rw [eσ_1]; exact fr0.up (by simp)
    refine lv_aload_n hx hb d_MO_stratum_34 rfl (lv_at hl 0 rfl) ?_
    refine gs_get (v := .int (nI 1)) hx hb ht hown hK hG k_MO hc_2 0 (by decide) w_662 rfl d_MO_stratum_35 ?_
    refine lv_if_le (tgt := 45) hx hb d_MO_stratum_38 (by decide) (fun c_38 => ?_) (fun c_38 => ?_)
    · exact absurd c_38 (by decide)
    · have c_38 : 0 < 1 := by have := gs_le0 (a := 1) (by omega); have h9 := mt this.mpr c_38; omega
      refine lv_iconst (v := nI 0) hx hb d_MO_stratum_41 (by decide) ?_
      refine lv_goto (tgt := 51) hx hb d_MO_stratum_42 (by decide) ?_
      exact gs_iret (v := (nI 0)) hx hb hr rfl hK hE hz hG hS hlocks (by first | decide | omega | (dsimp only [headSpec]; omega)) (by first | decide | omega | (dsimp only [headSpec]; omega)) (⟨(hM.num fr_3 ⟨_, hc_2, rfl, z1, z4, z7, z16, z17, z25, z26⟩ hrc), fr_3.wk (by simp), rfl⟩) d_MO_stratum_51
  · refine lv_iload_n hx hb d_MO_stratum_5 rfl (lv_at hl 1 rfl) ?_
    refine lv_aload_n hx hb d_MO_stratum_6 rfl (lv_at hl 0 rfl) ?_
    refine gs_get (v := .int (nI (Z 1))) hx hb ht hown hK hG k_MO m0 1 (by decide) w_663 rfl d_MO_stratum_7 ?_
    refine gs_top (show nI (Z 1) = nI nr from congrArg nI (show Z 1 = nr from z1)) ?_
    refine lv_icmp_lt (tgt := 17) hx hb d_MO_stratum_10 (by decide) (fun c_10 => ?_) (fun c_10 => ?_)
    · exact absurd hok (by unfold wi; rw [decide_eq_false c_2, decide_eq_true c_10]; decide)
    · refine lv_iconst (v := nI 1) hx hb d_MO_stratum_13 (by decide) ?_
      refine lv_goto (tgt := 31) hx hb d_MO_stratum_14 (by decide) ?_
      refine gs_put hx hb ht hown hK hG hS k_MO m0 0 (by decide) w_662 rfl rfl rfl (Nat.le_of_ble_eq_true rfl) d_MO_stratum_31 (fun H locs hG hS => ?_)
      have hG : gs_H X (gs_up σ mo (moE A (va_up Z 0 1))) H := hG
      obtain ⟨σ_4, eσ_4⟩ : ∃ zq, zq = gs_up σ mo (moE A (va_up Z 0 1)) := ⟨_, rfl⟩
      rw [← eσ_4] at hG
      have hc_5 : σ_4 mo = some (moE A (va_up Z 0 1)) := by rw [eσ_4]; exact gs_us
      have fr_6 : frm [mo] σ σ_4 := by rw [eσ_4]; exact fr0.up (by simp)
      refine lv_aload_n hx hb d_MO_stratum_34 rfl (lv_at hl 0 rfl) ?_
      refine gs_get (v := .int (nI 1)) hx hb ht hown hK hG k_MO hc_5 0 (by decide) w_662 rfl d_MO_stratum_35 ?_
      refine lv_if_le (tgt := 45) hx hb d_MO_stratum_38 (by decide) (fun c_38 => ?_) (fun c_38 => ?_)
      · exact absurd c_38 (by decide)
      · have c_38 : 0 < 1 := by have := gs_le0 (a := 1) (by omega); have h9 := mt this.mpr c_38; omega
        refine lv_iconst (v := nI 0) hx hb d_MO_stratum_41 (by decide) ?_
        refine lv_goto (tgt := 51) hx hb d_MO_stratum_42 (by decide) ?_
        exact gs_iret (v := (nI 0)) hx hb hr rfl hK hE hz hG hS hlocks (by first | decide | omega | (dsimp only [headSpec]; omega)) (by first | decide | omega | (dsimp only [headSpec]; omega)) (⟨(hM.num fr_6 ⟨_, hc_5, rfl, z1, z4, z7, z16, z17, z25, z26⟩ hrc), fr_6.wk (by simp), rfl⟩) d_MO_stratum_51
set_option maxHeartbeats 4000000 in
set_option maxRecDepth 100000 in
/-- the reference: stratum, a cycle -/
theorem c_MO_stratum_s (l : Launch) (X : gs_X) (σ : gs_St) (mo : Nat) (A : Nat → Nat) (cd nr : Nat) (cw : Nat → Nat) (F : List (Nat × Nat)) (T : List MT) (sa rc : Nat) (Q : List MR) (dr : Option MR) (rl : Nat)
    (hM : moA X σ mo A cd nr cw F T sa rc Q dr) (hrl : rl < nr) (hmk : mok Q nr = false) : gs_Mi l X y_MO_stratum b_MO_stratum 2 (some .int) ({ frames := 2, cells := 0, slots := 0, locals := 48 }) σ [.ref mo, .int (nI rl)] (fun r σ' => moA X σ' mo A 2 nr cw F T sa rc Q dr ∧ frm (aM mo A) σ σ' ∧ r = nI 0) := by
  refine Met.ofW (cc := b_MO_stratum) (maxL := 2) (ret := (some .int)) (by decide) rfl ?_
  intro p e s m args below meth c s₁ B₀ hml hv
  obtain ⟨rfl, hK, hG, hz, hE⟩ := hv
  have hx := B₀.exec
  have hb := B₀.bytes
  have hr := B₀.returns
  have hts := atoms_spec (ws := gs_ws y_MO_stratum b_MO_stratum 2 (some .int)) B₀.pre
  have ht : ∀ w ∈ gs_w, w.before _ s = true := fun w h => hts w (List.mem_cons_of_mem _ h)
  have hown : s.vm.findClass R_MO = some m.cls := findClass_of_methodNamed B₀.named
  have hlocks := B₀.notSynchronized
  have hA : ∀ q : Nat, s.heap.size ≤ q → gs_A X q := fun q h => Nat.le_trans hz h
  have hS : va_S (gs_A X) s.heap s.heap [] := va_S.rf
  have hl := lv_entry ([.ref mo, .int (nI rl)]) (n := 2) (Nat.le_of_ble_eq_true rfl)
  rw [lg_entry_eq]
  generalize (lg_sl ([.ref mo, .int (nI rl)]) ++ List.replicate (2 - (lg_sl ([.ref mo, .int (nI rl)])).length) Slot.unset).toArray = ls at hl ⊢
  have hl : lv_has ls 2 [(0, .ref mo), (1, .int (nI rl))] := hl
  obtain ⟨hNN, hnr, hFB, hTB, hrc, ⟨Z, m0, z0, z1, z4, z7, z16, z17, z25, z26⟩, hcol, hfac, htup, hbit, hfnd, hrul, hscr⟩ := id hM
  have hN := hN1 hNN
  have hFl := hFB.1
  have hTl := hTB.1
  obtain ⟨f18, f19, f20, f21, f22, f23, m18, m19, m20, m21, m22, m23, hQl, hQ, hdr⟩ := id hrul
  obtain ⟨f3, f24, f28, f29, f30, m3, m24, m28, m29, m30⟩ := id hscr
  have fr0 : frm [mo, A 3] σ σ := frm.rf
  refine lv_aload_n hx hb d_MO_stratum_0 rfl (lv_at hl 0 rfl) ?_
  refine lv_iload_n hx hb d_MO_stratum_1 rfl (lv_at hl 1 rfl) ?_
  refine lv_if_lt (tgt := 13) hx hb d_MO_stratum_2 (by decide) (fun c_2 => ?_) (fun c_2 => ?_)
  · exact absurd c_2 (nI_pos (by omega))
    
  · refine lv_iload_n hx hb d_MO_stratum_5 rfl (lv_at hl 1 rfl) ?_
    refine lv_aload_n hx hb d_MO_stratum_6 rfl (lv_at hl 0 rfl) ?_
    refine gs_get (v := .int (nI (Z 1))) hx hb ht hown hK hG k_MO m0 1 (by decide) w_663 rfl d_MO_stratum_7 ?_
    refine gs_top (show nI (Z 1) = nI nr from congrArg nI (show Z 1 = nr from z1)) ?_
    refine lv_icmp_lt (tgt := 17) hx hb d_MO_stratum_10 (by decide) (fun c_10 => ?_) (fun c_10 => ?_)
    · have c_10 : rl < nr := (nI_ltI (by omega) (by omega)).mp c_10
      refine lv_aload_n hx hb d_MO_stratum_17 rfl (lv_at hl 0 rfl) ?_
      refine gs_callVi (As := []) (rest := [.ref mo]) ⟨hx, hb, hml, hown, hts⟩ hK hE hz hG hS (c_MO_strataOf l X σ mo A Z nr Q f3 f18 f19 f20 f21 f22 f23 m0 hN z1 z16 m3 m18 m20 m21 m22 hnr hQl hQ) mV_MO_strataOf w_820 m0 rfl rfl hl.1 rfl (Nat.le_of_ble_eq_true rfl) ⟨(by first | decide | omega | (dsimp only [headSpec]; omega)), (by first | decide | omega | (dsimp only [headSpec]; omega))⟩ ⟨(by first | decide | omega | (dsimp only [headSpec]; omega)), (by first | decide | omega | (dsimp only [headSpec]; omega))⟩ d_MO_stratum_18 (fun r_18 σ_18 H locs hp_18 hG hS => ?_)
      obtain ⟨fz, ev9, hz9, er9⟩ := hp_18
      rw [ev9] at hG
      rw [if_neg (by rw [hmk]; decide)] at er9
      refine gs_top er9 ?_
      have hG : gs_H X (gs_up σ (A 3) (gs_ia X 12 fz)) H := hG
      obtain ⟨σ_1, eσ_1⟩ : ∃ zq, zq = gs_up σ (A 3) (gs_ia X 12 fz) := ⟨_, rfl⟩
      rw [← eσ_1] at hG
      have hc_2 : σ_1 mo = some (moE A Z) := by rw [eσ_1]; exact gs_ku (gs_ne m0 m3 (by simp)) m0
      have hc_3 : σ_1 (A 18) = some (gs_ia X 25 f18) := by rw [eσ_1]; exact gs_ku (Ne.symm (ndp hN 1 10 (by decide) rfl rfl)) m18
      have hc_4 : σ_1 (A 20) = some (gs_ia X 25 f20) := by rw [eσ_1]; exact gs_ku (Ne.symm (ndp hN 1 12 (by decide) rfl rfl)) m20
      have hc_5 : σ_1 (A 21) = some (gs_ia X 150 f21) := by rw [eσ_1]; exact gs_ku (Ne.symm (ndp hN 1 13 (by decide) rfl rfl)) m21
      have hc_6 : σ_1 (A 22) = some (gs_ia X 150 f22) := by rw [eσ_1]; exact gs_ku (Ne.symm (ndp hN 1 14 (by decide) rfl rfl)) m22
      have hc_7 : σ_1 (A 3) = some (gs_ia X 12 fz) := by rw [eσ_1]; exact gs_us
      have fr_8 : frm [mo, A 3] σ σ_1 := by rw [eσ_1]; exact fr0.up (by simp)
      refine lv_bipush (v := -3) hx hb d_MO_stratum_21 (by decide) ?_
      refine lv_icmp_ne (tgt := 30) hx hb d_MO_stratum_23 (by decide) (fun c_23 => ?_) (fun c_23 => ?_)
      · exact absurd rfl c_23
      · refine lv_iconst (v := nI 2) hx hb d_MO_stratum_26 (by decide) ?_
        refine lv_goto (tgt := 31) hx hb d_MO_stratum_27 (by decide) ?_
        refine gs_put hx hb ht hown hK hG hS k_MO hc_2 0 (by decide) w_662 rfl rfl rfl (Nat.le_of_ble_eq_true rfl) d_MO_stratum_31 (fun H locs hG hS => ?_)
        have hG : gs_H X (gs_up σ_1 mo (moE A (va_up Z 0 2))) H := hG
        obtain ⟨σ_9, eσ_9⟩ : ∃ zq, zq = gs_up σ_1 mo (moE A (va_up Z 0 2)) := ⟨_, rfl⟩
        rw [← eσ_9] at hG
        have hc_10 : σ_9 (A 18) = some (gs_ia X 25 f18) := by rw [eσ_9]; exact gs_ku (gs_ne hc_3 hc_2 (by simp)) hc_3
        have hc_11 : σ_9 (A 20) = some (gs_ia X 25 f20) := by rw [eσ_9]; exact gs_ku (gs_ne hc_4 hc_2 (by simp)) hc_4
        have hc_12 : σ_9 (A 21) = some (gs_ia X 150 f21) := by rw [eσ_9]; exact gs_ku (gs_ne hc_5 hc_2 (by simp)) hc_5
        have hc_13 : σ_9 (A 22) = some (gs_ia X 150 f22) := by rw [eσ_9]; exact gs_ku (gs_ne hc_6 hc_2 (by simp)) hc_6
        have hc_14 : σ_9 (A 3) = some (gs_ia X 12 fz) := by rw [eσ_9]; exact gs_ku (gs_ne hc_7 hc_2 (by simp)) hc_7
        have hc_15 : σ_9 mo = some (moE A (va_up Z 0 2)) := by rw [eσ_9]; exact gs_us
        have fr_16 : frm [mo, A 3] σ σ_9 := by rw [eσ_9]; exact fr_8.up (by simp)
        refine lv_aload_n hx hb d_MO_stratum_34 rfl (lv_at hl 0 rfl) ?_
        refine gs_get (v := .int (nI 2)) hx hb ht hown hK hG k_MO hc_15 0 (by decide) w_662 rfl d_MO_stratum_35 ?_
        refine lv_if_le (tgt := 45) hx hb d_MO_stratum_38 (by decide) (fun c_38 => ?_) (fun c_38 => ?_)
        · exact absurd c_38 (by decide)
        · have c_38 : 0 < 2 := by have := gs_le0 (a := 2) (by omega); have h9 := mt this.mpr c_38; omega
          refine lv_iconst (v := nI 0) hx hb d_MO_stratum_41 (by decide) ?_
          refine lv_goto (tgt := 51) hx hb d_MO_stratum_42 (by decide) ?_
          exact gs_iret (v := (nI 0)) hx hb hr rfl hK hE hz hG hS hlocks (by first | decide | omega | (dsimp only [headSpec]; omega)) (by first | decide | omega | (dsimp only [headSpec]; omega)) (⟨⟨hNN, hnr, hFB, hTB, hrc, ⟨_, hc_15, rfl, z1, z4, z7, z16, z17, z25, z26⟩, (hcol.fr hNN [0, 2] fr_16 (by decide) (by decide)), (hfac.fr hNN [0, 2] fr_16 (by decide) (by decide)), (htup.fr hNN [0, 2] fr_16 (by decide) (by decide)), (hbit.fr (k := 9) hNN [0, 2] fr_16 (by decide) (by decide) (by decide) rfl), (hfnd.fr (k := 10) hNN [0, 2] fr_16 (by decide) (by decide) (by decide) rfl), (hrul.fr hNN [0, 2] fr_16 (by decide) (by decide)), ⟨_, f24, f28, f29, f30, hc_14, kp hNN [0, 2] fr_16 17 (by decide) (by decide) (by decide) rfl m24, kp hNN [0, 2] fr_16 18 (by decide) (by decide) (by decide) rfl m28, kp hNN [0, 2] fr_16 19 (by decide) (by decide) (by decide) rfl m29, kp hNN [0, 2] fr_16 20 (by decide) (by decide) (by decide) rfl m30⟩⟩, fr_16.wk (by simp), rfl⟩) d_MO_stratum_51
    · have c_10 : ¬ rl < nr := mt (nI_ltI (by omega) (by omega)).mpr c_10
      omega
set_option maxHeartbeats 4000000 in
set_option maxRecDepth 100000 in
/-- the reference: stratum -/
theorem c_MO_stratum (l : Launch) (X : gs_X) (σ : gs_St) (mo : Nat) (A : Nat → Nat) (cd nr : Nat) (cw : Nat → Nat) (F : List (Nat × Nat)) (T : List MT) (sa rc : Nat) (Q : List MR) (dr : Option MR) (rl : Nat)
    (hM : moA X σ mo A cd nr cw F T sa rc Q dr) (hrl : rl < nr) (hmk : mok Q nr = true) : gs_Mi l X y_MO_stratum b_MO_stratum 2 (some .int) ({ frames := 2, cells := 0, slots := 0, locals := 48 }) σ [.ref mo, .int (nI rl)] (fun r σ' => moA X σ' mo A 0 nr cw F T sa rc Q dr ∧ frm (aM mo A) σ σ' ∧ r = nI ((mfs Q nr).1 rl)) := by
  refine Met.ofW (cc := b_MO_stratum) (maxL := 2) (ret := (some .int)) (by decide) rfl ?_
  intro p e s m args below meth c s₁ B₀ hml hv
  obtain ⟨rfl, hK, hG, hz, hE⟩ := hv
  have hx := B₀.exec
  have hb := B₀.bytes
  have hr := B₀.returns
  have hts := atoms_spec (ws := gs_ws y_MO_stratum b_MO_stratum 2 (some .int)) B₀.pre
  have ht : ∀ w ∈ gs_w, w.before _ s = true := fun w h => hts w (List.mem_cons_of_mem _ h)
  have hown : s.vm.findClass R_MO = some m.cls := findClass_of_methodNamed B₀.named
  have hlocks := B₀.notSynchronized
  have hA : ∀ q : Nat, s.heap.size ≤ q → gs_A X q := fun q h => Nat.le_trans hz h
  have hS : va_S (gs_A X) s.heap s.heap [] := va_S.rf
  have hl := lv_entry ([.ref mo, .int (nI rl)]) (n := 2) (Nat.le_of_ble_eq_true rfl)
  rw [lg_entry_eq]
  generalize (lg_sl ([.ref mo, .int (nI rl)]) ++ List.replicate (2 - (lg_sl ([.ref mo, .int (nI rl)])).length) Slot.unset).toArray = ls at hl ⊢
  have hl : lv_has ls 2 [(0, .ref mo), (1, .int (nI rl))] := hl
  obtain ⟨hNN, hnr, hFB, hTB, hrc, ⟨Z, m0, z0, z1, z4, z7, z16, z17, z25, z26⟩, hcol, hfac, htup, hbit, hfnd, hrul, hscr⟩ := id hM
  have hN := hN1 hNN
  have hFl := hFB.1
  have hTl := hTB.1
  obtain ⟨f18, f19, f20, f21, f22, f23, m18, m19, m20, m21, m22, m23, hQl, hQ, hdr⟩ := id hrul
  obtain ⟨f3, f24, f28, f29, f30, m3, m24, m28, m29, m30⟩ := id hscr
  have fr0 : frm [mo, A 3] σ σ := frm.rf
  refine lv_aload_n hx hb d_MO_stratum_0 rfl (lv_at hl 0 rfl) ?_
  refine lv_iload_n hx hb d_MO_stratum_1 rfl (lv_at hl 1 rfl) ?_
  refine lv_if_lt (tgt := 13) hx hb d_MO_stratum_2 (by decide) (fun c_2 => ?_) (fun c_2 => ?_)
  · exact absurd c_2 (nI_pos (by omega))
    
  · refine lv_iload_n hx hb d_MO_stratum_5 rfl (lv_at hl 1 rfl) ?_
    refine lv_aload_n hx hb d_MO_stratum_6 rfl (lv_at hl 0 rfl) ?_
    refine gs_get (v := .int (nI (Z 1))) hx hb ht hown hK hG k_MO m0 1 (by decide) w_663 rfl d_MO_stratum_7 ?_
    refine gs_top (show nI (Z 1) = nI nr from congrArg nI (show Z 1 = nr from z1)) ?_
    refine lv_icmp_lt (tgt := 17) hx hb d_MO_stratum_10 (by decide) (fun c_10 => ?_) (fun c_10 => ?_)
    · have c_10 : rl < nr := (nI_ltI (by omega) (by omega)).mp c_10
      refine lv_aload_n hx hb d_MO_stratum_17 rfl (lv_at hl 0 rfl) ?_
      refine gs_callVi (As := []) (rest := [.ref mo]) ⟨hx, hb, hml, hown, hts⟩ hK hE hz hG hS (c_MO_strataOf l X σ mo A Z nr Q f3 f18 f19 f20 f21 f22 f23 m0 hN z1 z16 m3 m18 m20 m21 m22 hnr hQl hQ) mV_MO_strataOf w_820 m0 rfl rfl hl.1 rfl (Nat.le_of_ble_eq_true rfl) ⟨(by first | decide | omega | (dsimp only [headSpec]; omega)), (by first | decide | omega | (dsimp only [headSpec]; omega))⟩ ⟨(by first | decide | omega | (dsimp only [headSpec]; omega)), (by first | decide | omega | (dsimp only [headSpec]; omega))⟩ d_MO_stratum_18 (fun r_18 σ_18 H locs hp_18 hG hS => ?_)
      obtain ⟨fz, ev9, hz9, er9⟩ := hp_18
      rw [ev9] at hG
      rw [if_pos hmk] at er9
      have hmx : mxS (mfs Q nr).1 nr ≤ 1901 := mxS_le nr (fun j hj => (hz9 j hj).2)
      refine gs_top er9 ?_
      have hG : gs_H X (gs_up σ (A 3) (gs_ia X 12 fz)) H := hG
      obtain ⟨σ_1, eσ_1⟩ : ∃ zq, zq = gs_up σ (A 3) (gs_ia X 12 fz) := ⟨_, rfl⟩
      rw [← eσ_1] at hG
      have hc_2 : σ_1 mo = some (moE A Z) := by rw [eσ_1]; exact gs_ku (gs_ne m0 m3 (by simp)) m0
      have hc_3 : σ_1 (A 18) = some (gs_ia X 25 f18) := by rw [eσ_1]; exact gs_ku (Ne.symm (ndp hN 1 10 (by decide) rfl rfl)) m18
      have hc_4 : σ_1 (A 20) = some (gs_ia X 25 f20) := by rw [eσ_1]; exact gs_ku (Ne.symm (ndp hN 1 12 (by decide) rfl rfl)) m20
      have hc_5 : σ_1 (A 21) = some (gs_ia X 150 f21) := by rw [eσ_1]; exact gs_ku (Ne.symm (ndp hN 1 13 (by decide) rfl rfl)) m21
      have hc_6 : σ_1 (A 22) = some (gs_ia X 150 f22) := by rw [eσ_1]; exact gs_ku (Ne.symm (ndp hN 1 14 (by decide) rfl rfl)) m22
      have hc_7 : σ_1 (A 3) = some (gs_ia X 12 fz) := by rw [eσ_1]; exact gs_us
      have fr_8 : frm [mo, A 3] σ σ_1 := by rw [eσ_1]; exact fr0.up (by simp)
      refine lv_bipush (v := -3) hx hb d_MO_stratum_21 (by decide) ?_
      refine lv_icmp_ne (tgt := 30) hx hb d_MO_stratum_23 (by decide) (fun c_23 => ?_) (fun c_23 => ?_)
      · refine lv_iconst (v := nI 0) hx hb d_MO_stratum_30 (by decide) ?_
        refine gs_put hx hb ht hown hK hG hS k_MO hc_2 0 (by decide) w_662 rfl rfl rfl (Nat.le_of_ble_eq_true rfl) d_MO_stratum_31 (fun H locs hG hS => ?_)
        have hG : gs_H X (gs_up σ_1 mo (moE A (va_up Z 0 0))) H := hG
        obtain ⟨σ_9, eσ_9⟩ : ∃ zq, zq = gs_up σ_1 mo (moE A (va_up Z 0 0)) := ⟨_, rfl⟩
        rw [← eσ_9] at hG
        have hc_10 : σ_9 (A 18) = some (gs_ia X 25 f18) := by rw [eσ_9]; exact gs_ku (gs_ne hc_3 hc_2 (by simp)) hc_3
        have hc_11 : σ_9 (A 20) = some (gs_ia X 25 f20) := by rw [eσ_9]; exact gs_ku (gs_ne hc_4 hc_2 (by simp)) hc_4
        have hc_12 : σ_9 (A 21) = some (gs_ia X 150 f21) := by rw [eσ_9]; exact gs_ku (gs_ne hc_5 hc_2 (by simp)) hc_5
        have hc_13 : σ_9 (A 22) = some (gs_ia X 150 f22) := by rw [eσ_9]; exact gs_ku (gs_ne hc_6 hc_2 (by simp)) hc_6
        have hc_14 : σ_9 (A 3) = some (gs_ia X 12 fz) := by rw [eσ_9]; exact gs_ku (gs_ne hc_7 hc_2 (by simp)) hc_7
        have hc_15 : σ_9 mo = some (moE A (va_up Z 0 0)) := by rw [eσ_9]; exact gs_us
        have fr_16 : frm [mo, A 3] σ σ_9 := by rw [eσ_9]; exact fr_8.up (by simp)
        refine lv_aload_n hx hb d_MO_stratum_34 rfl (lv_at hl 0 rfl) ?_
        refine gs_get (v := .int (nI 0)) hx hb ht hown hK hG k_MO hc_15 0 (by decide) w_662 rfl d_MO_stratum_35 ?_
        refine lv_if_le (tgt := 45) hx hb d_MO_stratum_38 (by decide) (fun c_38 => ?_) (fun c_38 => ?_)
        · have c_38 : 0 = 0 := by have := gs_le0 (a := 0) (by omega); exact this.mp c_38
          refine lv_aload_n hx hb d_MO_stratum_45 rfl (lv_at hl 0 rfl) ?_
          refine gs_get (v := .ref (A 3)) hx hb ht hown hK hG k_MO hc_15 3 (by decide) w_665 rfl d_MO_stratum_46 ?_
          refine lv_iload_n hx hb d_MO_stratum_49 rfl (lv_at hl 1 rfl) ?_
          refine gs_iald hx hb hK hG hc_14 (j := rl) (by omega) (by omega) d_MO_stratum_50 ?_
          refine gs_top (show (fz rl) = (nI ((mfs Q nr).1 rl)) from (hz9 rl hrl).1) ?_
          exact gs_iret (v := (nI ((mfs Q nr).1 rl))) hx hb hr rfl hK hE hz hG hS hlocks (by first | decide | omega | (dsimp only [headSpec]; omega)) (by first | decide | omega | (dsimp only [headSpec]; omega)) (⟨⟨hNN, hnr, hFB, hTB, hrc, ⟨_, hc_15, rfl, z1, z4, z7, z16, z17, z25, z26⟩, (hcol.fr hNN [0, 2] fr_16 (by decide) (by decide)), (hfac.fr hNN [0, 2] fr_16 (by decide) (by decide)), (htup.fr hNN [0, 2] fr_16 (by decide) (by decide)), (hbit.fr (k := 9) hNN [0, 2] fr_16 (by decide) (by decide) (by decide) rfl), (hfnd.fr (k := 10) hNN [0, 2] fr_16 (by decide) (by decide) (by decide) rfl), (hrul.fr hNN [0, 2] fr_16 (by decide) (by decide)), ⟨_, f24, f28, f29, f30, hc_14, kp hNN [0, 2] fr_16 17 (by decide) (by decide) (by decide) rfl m24, kp hNN [0, 2] fr_16 18 (by decide) (by decide) (by decide) rfl m28, kp hNN [0, 2] fr_16 19 (by decide) (by decide) (by decide) rfl m29, kp hNN [0, 2] fr_16 20 (by decide) (by decide) (by decide) rfl m30⟩⟩, fr_16.wk (by simp), rfl⟩) d_MO_stratum_51
        · exact absurd c_38 (by decide)
      · exact absurd c_23 (nI_nneg (by omega) (by decide))
    · have c_10 : ¬ rl < nr := mt (nI_ltI (by omega) (by omega)).mpr c_10
      omega
set_option maxHeartbeats 4000000 in
set_option maxRecDepth 100000 in
/-- the reference: of -/
theorem c_MO_of (l : Launch) (X : gs_X) (σ : gs_St) (mo : Nat) (A Z : Nat → Nat) (f24 : Nat → Int32) (ov : OV) (t : Nat)
    (m0 : σ mo = some (moE A Z)) (m24 : σ (A 24) = some (gs_ia X 8 f24)) (hv : vO f24 ov) (ht9 : t < 72) : gs_Mp l X y_MO_of b_MO_of 2 (some .int) ({ frames := 0, cells := 0, slots := 0, locals := 0 }) σ [.ref mo, .int (nI t)] (fun r => r = rdI (ofO ov t)) := by
  refine Met.ofW (cc := b_MO_of) (maxL := 2) (ret := (some .int)) (by decide) rfl ?_
  intro p e s m args below meth c s₁ B₀ hml hv
  obtain ⟨rfl, hK, hG, hz, hE⟩ := hv
  have hx := B₀.exec
  have hb := B₀.bytes
  have hr := B₀.returns
  have hts := atoms_spec (ws := gs_ws y_MO_of b_MO_of 2 (some .int)) B₀.pre
  have ht : ∀ w ∈ gs_w, w.before _ s = true := fun w h => hts w (List.mem_cons_of_mem _ h)
  have hown : s.vm.findClass R_MO = some m.cls := findClass_of_methodNamed B₀.named
  have hlocks := B₀.notSynchronized
  have hA : ∀ q : Nat, s.heap.size ≤ q → gs_A X q := fun q h => Nat.le_trans hz h
  have hS : va_S (gs_A X) s.heap s.heap [] := va_S.rf
  have hl := lv_entry ([.ref mo, .int (nI t)]) (n := 2) (Nat.le_of_ble_eq_true rfl)
  rw [lg_entry_eq]
  generalize (lg_sl ([.ref mo, .int (nI t)]) ++ List.replicate (2 - (lg_sl ([.ref mo, .int (nI t)])).length) Slot.unset).toArray = ls at hl ⊢
  have hl : lv_has ls 2 [(0, .ref mo), (1, .int (nI t))] := hl
  refine lv_iload_n hx hb d_MO_of_0 rfl (lv_at hl 1 rfl) ?_
  refine lv_bipush (v := nI 64) hx hb d_MO_of_1 (by decide) ?_
  refine lv_icmp_ge (tgt := 10) hx hb d_MO_of_3 (by decide) (fun c_3 => ?_) (fun c_3 => ?_)
  · have c_3 : 64 ≤ t := (nI_leI (by omega) (by omega)).mp c_3
    refine lv_aload_n hx hb d_MO_of_10 rfl (lv_at hl 0 rfl) ?_
    refine gs_get (v := .ref (A 24)) hx hb ht hown hK hG k_MO m0 24 (by decide) w_686 rfl d_MO_of_11 ?_
    refine lv_iload_n hx hb d_MO_of_14 rfl (lv_at hl 1 rfl) ?_
    refine lv_bipush (v := nI 64) hx hb d_MO_of_15 (by decide) ?_
    refine lv_isub hx hb d_MO_of_17 ?_
    refine gs_top (pk_sub (a := t) (b := 64) (by omega)) ?_
    refine gs_iald hx hb hK hG m24 (j := t - 64) (by omega) (by omega) d_MO_of_18 ?_
    exact gs_iretp (v := (f24 (t - 64))) hx hb hr rfl hlocks (Nat.zero_le _) (Nat.zero_le _) (by unfold ofO; first | (rw [if_pos c_3]; rfl) | (rw [if_pos (by omega)]; rfl) | (rw [if_neg (by omega)]; exact (hv (t - 64) (by omega)).1)) d_MO_of_19
  · have c_3 : ¬ 64 ≤ t := mt (nI_leI (by omega) (by omega)).mpr c_3
    refine lv_iload_n hx hb d_MO_of_6 rfl (lv_at hl 1 rfl) ?_
    refine lv_goto (tgt := 19) hx hb d_MO_of_7 (by decide) ?_
    exact gs_iretp (v := (nI t)) hx hb hr rfl hlocks (Nat.zero_le _) (Nat.zero_le _) (by unfold ofO; first | (rw [if_pos c_3]; rfl) | (rw [if_pos (by omega)]; rfl) | (rw [if_neg (by omega)]; exact (hv (t - 64) (by omega)).1)) d_MO_of_19
set_option maxHeartbeats 4000000 in
set_option maxRecDepth 100000 in
/-- the reference: frees -/
theorem c_MO_frees (l : Launch) (X : gs_X) (σ : gs_St) (mo : Nat) (A Z : Nat → Nat) (f24 : Nat → Int32) (ov : OV) (b : Nat)
    (m0 : σ mo = some (moE A Z)) (m24 : σ (A 24) = some (gs_ia X 8 f24)) (hv : vO f24 ov) (hb9 : b < 256) : gs_Mv l X y_MO_frees b_MO_frees 3 ({ frames := 0, cells := 0, slots := 0, locals := 0 }) σ [.ref mo, .int (nI b)] (fun σ' => σ' = gs_up σ (A 24) (gs_ia X 8 (frF f24 b 8))) := by
  refine Met.ofW (cc := b_MO_frees) (maxL := 3) (ret := none) (by decide) rfl ?_
  intro p e s m args below meth c s₁ B₀ hml hv
  obtain ⟨rfl, hK, hG, hz, hE⟩ := hv
  have hx := B₀.exec
  have hb := B₀.bytes
  have hr := B₀.returns
  have hts := atoms_spec (ws := gs_ws y_MO_frees b_MO_frees 3 none) B₀.pre
  have ht : ∀ w ∈ gs_w, w.before _ s = true := fun w h => hts w (List.mem_cons_of_mem _ h)
  have hown : s.vm.findClass R_MO = some m.cls := findClass_of_methodNamed B₀.named
  have hlocks := B₀.notSynchronized
  have hA : ∀ q : Nat, s.heap.size ≤ q → gs_A X q := fun q h => Nat.le_trans hz h
  have hS : va_S (gs_A X) s.heap s.heap [] := va_S.rf
  have hl := lv_entry ([.ref mo, .int (nI b)]) (n := 3) (Nat.le_of_ble_eq_true rfl)
  rw [lg_entry_eq]
  generalize (lg_sl ([.ref mo, .int (nI b)]) ++ List.replicate (3 - (lg_sl ([.ref mo, .int (nI b)])).length) Slot.unset).toArray = ls at hl ⊢
  have hl : lv_has ls 3 [(0, .ref mo), (1, .int (nI b))] := hl
  have loop : ∀ (fl : Nat) (i : Nat) (σ1 : gs_St), (i ≤ 8) → (σ1 = gs_up σ (A 24) (gs_ia X 8 (frF f24 b i))) → 8 - i < fl → (σ1 mo = some (moE A Z)) → (σ1 (A 24) = some (gs_ia X 8 (frF f24 b i))) → ∀ (H : Heap) (locs : List Loc), gs_H X σ1 H → va_S (gs_A X) s.heap H locs → ∀ ls, lv_has ls 3 [(2, .int (nI i)), (0, .ref mo), (1, .int (nI b))] → W p l e ({ frames := 0, cells := 0, slots := 0, locals := 0 } : Room) s m ([.ref mo, .int (nI b)] : List Value).toArray below meth c H locs 0 0 (MQ below (va_Qv (fun σ' => σ' = gs_up σ (A 24) (gs_ia X 8 (frF f24 b 8))) (gs_U X) (gs_A X)) ([.ref mo, .int (nI b)] : List Value).toArray s 0 0 (gs_A X)) (F0 m 2 ls []) := by
    intro fl
    induction fl with
    | zero => intro i σ1 _ _ h9; omega
    | succ fl ih =>
      intro i σ1 hi e1 hmu y_mo y_24 H locs hG hS ls hl
      refine lv_iload_n hx hb d_MO_frees_2 rfl (lv_at hl 0 rfl) ?_
      refine lv_bipush (v := nI 8) hx hb d_MO_frees_3 (by decide) ?_
      refine lv_icmp_ge (tgt := 39) hx hb d_MO_frees_5 (by decide) (fun c_5 => ?_) (fun c_5 => ?_)
      · have c_5 : 8 ≤ i := (nI_leI (by omega) (by omega)).mp c_5
        exact gs_vret hx hb hr hK hE hz hG hS hlocks (by first | decide | omega | (dsimp only [headSpec]; omega)) (by first | decide | omega | (dsimp only [headSpec]; omega)) (by rw [e1, show i = 8 by omega]) d_MO_frees_39
      · have c_5 : ¬ 8 ≤ i := mt (nI_leI (by omega) (by omega)).mpr c_5
        refine lv_aload_n hx hb d_MO_frees_8 rfl (lv_at hl 1 rfl) ?_
        refine gs_get (v := .ref (A 24)) hx hb ht hown hK hG k_MO y_mo 24 (by decide) w_686 rfl d_MO_frees_9 ?_
        refine lv_iload_n hx hb d_MO_frees_12 rfl (lv_at hl 0 rfl) ?_
        refine lv_iload_n hx hb d_MO_frees_13 rfl (lv_at hl 2 rfl) ?_
        refine lv_iload_n hx hb d_MO_frees_14 rfl (lv_at hl 0 rfl) ?_
        refine lv_ishr hx hb d_MO_frees_15 ?_
        refine lv_iconst (v := nI 1) hx hb d_MO_frees_16 (by decide) ?_
        refine lv_iand hx hb d_MO_frees_17 ?_
        refine lv_iconst (v := nI 1) hx hb d_MO_frees_18 (by decide) ?_
        refine lv_icmp_ne (tgt := 26) hx hb d_MO_frees_19 (by decide) (fun c_19 => ?_) (fun c_19 => ?_)
        · refine lv_aload_n hx hb d_MO_frees_26 rfl (lv_at hl 1 rfl) ?_
          refine gs_get (v := .ref (A 24)) hx hb ht hown hK hG k_MO y_mo 24 (by decide) w_686 rfl d_MO_frees_27 ?_
          refine lv_iload_n hx hb d_MO_frees_30 rfl (lv_at hl 0 rfl) ?_
          refine gs_iald hx hb hK hG y_24 (j := i) (by omega) (by omega) d_MO_frees_31 ?_
          refine gs_iast hx hb hK hG hS y_24 (j := i) (by omega) (by omega) d_MO_frees_32 (fun H locs hG hS => ?_)
          have hG : gs_H X (gs_up σ1 (A 24) (gs_ia X 8 (upd (frF f24 b i) i ((frF f24 b i) i)))) H := hG
          obtain ⟨σ_1, eσ_1⟩ : ∃ zq, zq = gs_up σ1 (A 24) (gs_ia X 8 (upd (frF f24 b i) i ((frF f24 b i) i))) := ⟨_, rfl⟩
          rw [← eσ_1] at hG
          have hc_2 : σ_1 mo = some (moE A Z) := by rw [eσ_1]; exact gs_ku (gs_ne y_mo y_24 (by simp)) y_mo
          have hc_3 : σ_1 (A 24) = some (gs_ia X 8 (upd (frF f24 b i) i ((frF f24 b i) i))) := by rw [eσ_1]; exact gs_us
          refine lv_iinc (v := (nI (i + 1))) (lv' := [(2, .int (nI (i + 1))), (0, .ref mo), (1, .int (nI b))]) hx hb d_MO_frees_33 hl (k := 0) rfl (by exact nI_1 _) (by decide) rfl (fun ls hl => ?_)
          refine lv_goto (tgt := 2) hx hb d_MO_frees_36 (by decide) ?_
          have efx : upd (frF f24 b i) i ((frF f24 b i) i) = frF f24 b (i + 1) := by
            rw [← frF_s]
            first
            | rw [if_pos ((fr_bit hb9 (by omega)).mp c_19)]
            | rw [if_neg (fun z => c_19 ((fr_bit hb9 (by omega)).mpr z)), frF_at]
          rw [efx] at hc_3
          exact ih (i + 1) σ_1 (by omega) (by rw [eσ_1, e1, gs_uu, efx]) (by omega) hc_2 hc_3 H locs hG hS ls (lv_sub hl [0, 1, 2] rfl)
        · refine lv_iconst (v := -1) hx hb d_MO_frees_22 (by decide) ?_
          refine lv_goto (tgt := 32) hx hb d_MO_frees_23 (by decide) ?_
          refine gs_iast hx hb hK hG hS y_24 (j := i) (by omega) (by omega) d_MO_frees_32 (fun H locs hG hS => ?_)
          have hG : gs_H X (gs_up σ1 (A 24) (gs_ia X 8 (upd (frF f24 b i) i (-1)))) H := hG
          obtain ⟨σ_4, eσ_4⟩ : ∃ zq, zq = gs_up σ1 (A 24) (gs_ia X 8 (upd (frF f24 b i) i (-1))) := ⟨_, rfl⟩
          rw [← eσ_4] at hG
          have hc_5 : σ_4 mo = some (moE A Z) := by rw [eσ_4]; exact gs_ku (gs_ne y_mo y_24 (by simp)) y_mo
          have hc_6 : σ_4 (A 24) = some (gs_ia X 8 (upd (frF f24 b i) i (-1))) := by rw [eσ_4]; exact gs_us
          refine lv_iinc (v := (nI (i + 1))) (lv' := [(2, .int (nI (i + 1))), (0, .ref mo), (1, .int (nI b))]) hx hb d_MO_frees_33 hl (k := 0) rfl (by exact nI_1 _) (by decide) rfl (fun ls hl => ?_)
          refine lv_goto (tgt := 2) hx hb d_MO_frees_36 (by decide) ?_
          have efx : upd (frF f24 b i) i (-1) = frF f24 b (i + 1) := by
            rw [← frF_s]
            first
            | rw [if_pos ((fr_bit hb9 (by omega)).mp c_19)]
            | rw [if_neg (fun z => c_19 ((fr_bit hb9 (by omega)).mpr z)), frF_at]
          rw [efx] at hc_6
          exact ih (i + 1) σ_4 (by omega) (by rw [eσ_4, e1, gs_uu, efx]) (by omega) hc_5 hc_6 H locs hG hS ls (lv_sub hl [0, 1, 2] rfl)
  refine lv_iconst (v := nI 0) hx hb d_MO_frees_0 (by decide) ?_
  refine lv_istore_n (lv' := [(2, .int (nI 0)), (0, .ref mo), (1, .int (nI b))]) hx hb d_MO_frees_1 rfl hl (by decide) rfl (fun ls hl => ?_)
  exact loop 9 0 σ (by omega) (by rw [frF_0]; exact (gs_usame m24).symm) (by omega) m0 (by rw [frF_0]; exact m24) _ _ hG hS ls (lv_sub hl [0, 1, 2] rfl)
