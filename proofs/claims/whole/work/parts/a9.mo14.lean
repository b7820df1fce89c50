set_option maxHeartbeats 4000000 in
set_option maxRecDepth 100000 in
/-- the reference: a round, a cycle -/
theorem c_MO_oneRound_c (l : Launch) (X : gs_X) (σ : gs_St) (mo : Nat) (A : Nat → Nat) (cd nr : Nat) (cw : Nat → Nat) (F : List (Nat × Nat)) (T : List MT) (sa rc : Nat) (Q : List MR) (dr : Option MR)
    (hM : moA X σ mo A cd nr cw F T sa rc Q dr) (hmk : mok Q nr = false) : gs_Mi l X y_MO_oneRound b_MO_oneRound 3 (some .int) ({ frames := 4, cells := 0, slots := 0, locals := 99 }) σ [.ref mo] (fun r σ' => moA X σ' mo A cd nr cw F (oneM cw nr Q (T, sa, rc)).2.1 (oneM cw nr Q (T, sa, rc)).2.2.1 (oneM cw nr Q (T, sa, rc)).2.2.2 Q dr ∧ frm (aM mo A) σ σ' ∧ r = (oneM cw nr Q (T, sa, rc)).1) := by
  refine Met.ofW (cc := b_MO_oneRound) (maxL := 3) (ret := (some .int)) (by decide) rfl ?_
  intro p e s m args below meth c s₁ B₀ hml hv
  obtain ⟨rfl, hK, hG, hz, hE⟩ := hv
  have hx := B₀.exec
  have hb := B₀.bytes
  have hr := B₀.returns
  have hts := atoms_spec (ws := gs_ws y_MO_oneRound b_MO_oneRound 3 (some .int)) B₀.pre
  have ht : ∀ w ∈ gs_w, w.before _ s = true := fun w h => hts w (List.mem_cons_of_mem _ h)
  have hown : s.vm.findClass R_MO = some m.cls := findClass_of_methodNamed B₀.named
  have hlocks := B₀.notSynchronized
  have hA : ∀ q : Nat, s.heap.size ≤ q → gs_A X q := fun q h => Nat.le_trans hz h
  have hS : va_S (gs_A X) s.heap s.heap [] := va_S.rf
  have hl := lv_entry ([.ref mo]) (n := 3) (Nat.le_of_ble_eq_true rfl)
  rw [lg_entry_eq]
  generalize (lg_sl ([.ref mo]) ++ List.replicate (3 - (lg_sl ([.ref mo])).length) Slot.unset).toArray = ls at hl ⊢
  have hl : lv_has ls 3 [(0, .ref mo)] := hl
  obtain ⟨hNN, hnr, hFB, hTB, hrc, ⟨Z, m0, z0, z1, z4, z7, z16, z17, z25, z26⟩, hcol, hfac, htup, hbit, hfnd, hrul, hscr⟩ := id hM
  have hN := hN1 hNN
  have hFl := hFB.1
  have hTl := hTB.1
  obtain ⟨f18, f19, f20, f21, f22, f23, m18, m19, m20, m21, m22, m23, hQl, hQ, hdr⟩ := id hrul
  obtain ⟨f3, f24, f28, f29, f30, m3, m24, m28, m29, m30⟩ := id hscr
  have fr0 : frm [mo, A 3] σ σ := frm.rf
  refine lv_aload_n hx hb d_MO_oneRound_0 rfl (lv_at hl 0 rfl) ?_
  refine gs_callVi (As := []) (rest := []) ⟨hx, hb, hml, hown, hts⟩ hK hE hz hG hS (c_MO_strataOf l X σ mo A Z nr Q f3 f18 f19 f20 f21 f22 f23 m0 hN z1 z16 m3 m18 m20 m21 m22 hnr hQl hQ) mV_MO_strataOf w_820 m0 rfl rfl hl.1 rfl (Nat.le_of_ble_eq_true rfl) ⟨(by first | decide | omega | (dsimp only [headSpec]; omega)), (by first | decide | omega | (dsimp only [headSpec]; omega))⟩ ⟨(by first | decide | omega | (dsimp only [headSpec]; omega)), (by first | decide | omega | (dsimp only [headSpec]; omega))⟩ d_MO_oneRound_1 (fun r_1 σ_1 H locs hp_1 hG hS => ?_)
  obtain ⟨fz, ev9, hz9, er9⟩ := hp_1
  rw [ev9] at hG
  rw [if_neg (by rw [hmk]; decide)] at er9
  refine gs_top er9 ?_
  have hG : gs_H X (gs_up σ (A 3) (gs_ia X 12 fz)) H := hG
  obtain ⟨σ_1, eσ_1⟩ : ∃ zq, zq = gs_up σ (A 3) (gs_ia X 12 fz) := ⟨_, rfl⟩
  rw [← eσ_1] at hG
  have hc_2 : σ_1 mo = some (moE A Z) := by rw [eσ_1]; exact gs_ku (gs_ne m0 m3 (by simp)) m0
  have hc_3 : σ_1 (A 18) = some (gs_ia X 25 f18) := by rw [eσ_1]; exact gs_ku (Ne.symm (ndp hN 1 10 (by decide) rfl rfl)) m18
  have hc_4 : σ_1 (A 20) = some (gs_ia X 25 f20) := by rw [eσ_1]; exact gs_ku (Ne.symm (ndp hN 1 12 (by decide) rfl rfl)) m20
  have hc_5 : σ_1 (A 21) = some (gs_ia X 150 f21) := by rw [eσ_1]; exact gs_ku (Ne.symm (ndp hN 1 13 (by decide) rfl rfl)) m21
  have hc_6 : σ_1 (A 22) = some (gs_ia X 150 f22) := by rw [eσ_1]; exact gs_ku (Ne.symm (ndp hN 1 14 (by decide) rfl rfl)) m22
  have hc_7 : σ_1 (A 3) = some (gs_ia X 12 fz) := by rw [eσ_1]; exact gs_us
  have fr_8 : frm [mo, A 3] σ σ_1 := by rw [eσ_1]; exact fr0.up (by simp)
  refine lv_istore_n (lv' := [(1, .int (-3)), (0, .ref mo)]) hx hb d_MO_oneRound_4 rfl hl (by decide) rfl (fun ls hl => ?_)
  refine lv_iload_n hx hb d_MO_oneRound_5 rfl (lv_at hl 0 rfl) ?_
  refine lv_bipush (v := -3) hx hb d_MO_oneRound_6 (by decide) ?_
  refine lv_icmp_eq (tgt := 19) hx hb d_MO_oneRound_8 (by decide) (fun c_8 => ?_) (fun c_8 => ?_)
  · refine lv_iload_n hx hb d_MO_oneRound_19 rfl (lv_at hl 0 rfl) ?_
    refine lv_bipush (v := -3) hx hb d_MO_oneRound_20 (by decide) ?_
    refine lv_icmp_ne (tgt := 30) hx hb d_MO_oneRound_22 (by decide) (fun c_22 => ?_) (fun c_22 => ?_)
    · exact absurd rfl c_22
    · refine lv_bipush (v := -3) hx hb d_MO_oneRound_25 (by decide) ?_
      refine lv_goto (tgt := 32) hx hb d_MO_oneRound_27 (by decide) ?_
      exact gs_iret (v := (-3)) hx hb hr rfl hK hE hz hG hS hlocks (by first | decide | omega | (dsimp only [headSpec]; omega)) (by first | decide | omega | (dsimp only [headSpec]; omega)) (by rw [oneM_c hmk]; exact ⟨⟨hNN, hnr, hFB, hTB, hrc, ⟨_, hc_2, z0, z1, z4, z7, z16, z17, z25, z26⟩, (hcol.fr hNN [0, 2] fr_8 (by decide) (by decide)), (hfac.fr hNN [0, 2] fr_8 (by decide) (by decide)), (htup.fr hNN [0, 2] fr_8 (by decide) (by decide)), (hbit.fr (k := 9) hNN [0, 2] fr_8 (by decide) (by decide) (by decide) rfl), (hfnd.fr (k := 10) hNN [0, 2] fr_8 (by decide) (by decide) (by decide) rfl), (hrul.fr hNN [0, 2] fr_8 (by decide) (by decide)), ⟨_, f24, f28, f29, f30, hc_7, kp hNN [0, 2] fr_8 17 (by decide) (by decide) (by decide) rfl m24, kp hNN [0, 2] fr_8 18 (by decide) (by decide) (by decide) rfl m28, kp hNN [0, 2] fr_8 19 (by decide) (by decide) (by decide) rfl m29, kp hNN [0, 2] fr_8 20 (by decide) (by decide) (by decide) rfl m30⟩⟩, fr_8.wk (by simp), rfl⟩) d_MO_oneRound_32
  · exact absurd rfl c_8
set_option maxHeartbeats 4000000 in
set_option maxRecDepth 100000 in
/-- the reference: a round, all done -/
theorem c_MO_oneRound_d (l : Launch) (X : gs_X) (σ : gs_St) (mo : Nat) (A : Nat → Nat) (cd nr : Nat) (cw : Nat → Nat) (F : List (Nat × Nat)) (T : List MT) (sa rc : Nat) (Q : List MR) (dr : Option MR)
    (hM : moA X σ mo A cd nr cw F T sa rc Q dr) (hmk : mok Q nr = true) (hsa : sa = mxS (mfs Q nr).1 nr) : gs_Mi l X y_MO_oneRound b_MO_oneRound 3 (some .int) ({ frames := 4, cells := 0, slots := 0, locals := 99 }) σ [.ref mo] (fun r σ' => moA X σ' mo A cd nr cw F (oneM cw nr Q (T, sa, rc)).2.1 (oneM cw nr Q (T, sa, rc)).2.2.1 (oneM cw nr Q (T, sa, rc)).2.2.2 Q dr ∧ frm (aM mo A) σ σ' ∧ r = (oneM cw nr Q (T, sa, rc)).1) := by
  refine Met.ofW (cc := b_MO_oneRound) (maxL := 3) (ret := (some .int)) (by decide) rfl ?_
  intro p e s m args below meth c s₁ B₀ hml hv
  obtain ⟨rfl, hK, hG, hz, hE⟩ := hv
  have hx := B₀.exec
  have hb := B₀.bytes
  have hr := B₀.returns
  have hts := atoms_spec (ws := gs_ws y_MO_oneRound b_MO_oneRound 3 (some .int)) B₀.pre
  have ht : ∀ w ∈ gs_w, w.before _ s = true := fun w h => hts w (List.mem_cons_of_mem _ h)
  have hown : s.vm.findClass R_MO = some m.cls := findClass_of_methodNamed B₀.named
  have hlocks := B₀.notSynchronized
  have hA : ∀ q : Nat, s.heap.size ≤ q → gs_A X q := fun q h => Nat.le_trans hz h
  have hS : va_S (gs_A X) s.heap s.heap [] := va_S.rf
  have hl := lv_entry ([.ref mo]) (n := 3) (Nat.le_of_ble_eq_true rfl)
  rw [lg_entry_eq]
  generalize (lg_sl ([.ref mo]) ++ List.replicate (3 - (lg_sl ([.ref mo])).length) Slot.unset).toArray = ls at hl ⊢
  have hl : lv_has ls 3 [(0, .ref mo)] := hl
  obtain ⟨hNN, hnr, hFB, hTB, hrc, ⟨Z, m0, z0, z1, z4, z7, z16, z17, z25, z26⟩, hcol, hfac, htup, hbit, hfnd, hrul, hscr⟩ := id hM
  have hN := hN1 hNN
  have hFl := hFB.1
  have hTl := hTB.1
  obtain ⟨f18, f19, f20, f21, f22, f23, m18, m19, m20, m21, m22, m23, hQl, hQ, hdr⟩ := id hrul
  obtain ⟨f3, f24, f28, f29, f30, m3, m24, m28, m29, m30⟩ := id hscr
  have fr0 : frm [mo, A 3] σ σ := frm.rf
  refine lv_aload_n hx hb d_MO_oneRound_0 rfl (lv_at hl 0 rfl) ?_
  refine gs_callVi (As := []) (rest := []) ⟨hx, hb, hml, hown, hts⟩ hK hE hz hG hS (c_MO_strataOf l X σ mo A Z nr Q f3 f18 f19 f20 f21 f22 f23 m0 hN z1 z16 m3 m18 m20 m21 m22 hnr hQl hQ) mV_MO_strataOf w_820 m0 rfl rfl hl.1 rfl (Nat.le_of_ble_eq_true rfl) ⟨(by first | decide | omega | (dsimp only [headSpec]; omega)), (by first | decide | omega | (dsimp only [headSpec]; omega))⟩ ⟨(by first | decide | omega | (dsimp only [headSpec]; omega)), (by first | decide | omega | (dsimp only [headSpec]; omega))⟩ d_MO_oneRound_1 (fun r_1 σ_1 H locs hp_1 hG hS => ?_)
  obtain ⟨fz, ev9, hz9, er9⟩ := hp_1
  rw [ev9] at hG
  rw [if_pos hmk] at er9
  have hmx : mxS (mfs Q nr).1 nr ≤ 1901 := mxS_le nr (fun j hj => (hz9 j hj).2)
  refine gs_top er9 ?_
  have hG : gs_H X (gs_up σ (A 3) (gs_ia X 12 fz)) H := hG
  obtain ⟨σ_1, eσ_1⟩ : ∃ zq, zq = gs_up σ (A 3) (gs_ia X 12 fz) := ⟨_, rfl⟩
  rw [← eσ_1] at hG
  have hc_2 : σ_1 mo = some (moE A Z) := by rw [eσ_1]; exact gs_ku (gs_ne m0 m3 (by simp)) m0
  have hc_3 : σ_1 (A 18) = some (gs_ia X 25 f18) := by rw [eσ_1]; exact gs_ku (Ne.symm (ndp hN 1 10 (by decide) rfl rfl)) m18
  have hc_4 : σ_1 (A 20) = some (gs_ia X 25 f20) := by rw [eσ_1]; exact gs_ku (Ne.symm (ndp hN 1 12 (by decide) rfl rfl)) m20
  have hc_5 : σ_1 (A 21) = some (gs_ia X 150 f21) := by rw [eσ_1]; exact gs_ku (Ne.symm (ndp hN 1 13 (by decide) rfl rfl)) m21
  have hc_6 : σ_1 (A 22) = some (gs_ia X 150 f22) := by rw [eσ_1]; exact gs_ku (Ne.symm (ndp hN 1 14 (by decide) rfl rfl)) m22
  have hc_7 : σ_1 (A 3) = some (gs_ia X 12 fz) := by rw [eσ_1]; exact gs_us
  have fr_8 : frm [mo, A 3] σ σ_1 := by rw [eσ_1]; exact fr0.up (by simp)
  refine lv_istore_n (lv' := [(1, .int (nI (mxS (mfs Q nr).1 nr))), (0, .ref mo)]) hx hb d_MO_oneRound_4 rfl hl (by decide) rfl (fun ls hl => ?_)
  refine lv_iload_n hx hb d_MO_oneRound_5 rfl (lv_at hl 0 rfl) ?_
  refine lv_bipush (v := -3) hx hb d_MO_oneRound_6 (by decide) ?_
  refine lv_icmp_eq (tgt := 19) hx hb d_MO_oneRound_8 (by decide) (fun c_8 => ?_) (fun c_8 => ?_)
  · exact absurd c_8 (nI_nneg (by omega) (by decide))
  · refine lv_aload_n hx hb d_MO_oneRound_11 rfl (lv_at hl 1 rfl) ?_
    refine gs_get (v := .int (nI (Z 25))) hx hb ht hown hK hG k_MO hc_2 25 (by decide) w_687 rfl d_MO_oneRound_12 ?_
    refine gs_top (show nI (Z 25) = nI sa from congrArg nI (show Z 25 = sa from z25)) ?_
    refine lv_iload_n hx hb d_MO_oneRound_15 rfl (lv_at hl 0 rfl) ?_
    refine lv_icmp_ne (tgt := 33) hx hb d_MO_oneRound_16 (by decide) (fun c_16 => ?_) (fun c_16 => ?_)
    · have c_16 : ¬ sa = (mxS (mfs Q nr).1 nr) := mt (nI_eq (by omega) (by omega)).mpr c_16
      omega
    · have c_16 : sa = (mxS (mfs Q nr).1 nr) :=  (nI_eq (by omega) (by omega)).mp c_16
      refine lv_iload_n hx hb d_MO_oneRound_19 rfl (lv_at hl 0 rfl) ?_
      refine lv_bipush (v := -3) hx hb d_MO_oneRound_20 (by decide) ?_
      refine lv_icmp_ne (tgt := 30) hx hb d_MO_oneRound_22 (by decide) (fun c_22 => ?_) (fun c_22 => ?_)
      · refine lv_bipush (v := -4) hx hb d_MO_oneRound_30 (by decide) ?_
        exact gs_iret (v := (-4)) hx hb hr rfl hK hE hz hG hS hlocks (by first | decide | omega | (dsimp only [headSpec]; omega)) (by first | decide | omega | (dsimp only [headSpec]; omega)) (by rw [oneM_d hmk hsa]; exact ⟨⟨hNN, hnr, hFB, hTB, hrc, ⟨_, hc_2, z0, z1, z4, z7, z16, z17, z25, z26⟩, (hcol.fr hNN [0, 2] fr_8 (by decide) (by decide)), (hfac.fr hNN [0, 2] fr_8 (by decide) (by decide)), (htup.fr hNN [0, 2] fr_8 (by decide) (by decide)), (hbit.fr (k := 9) hNN [0, 2] fr_8 (by decide) (by decide) (by decide) rfl), (hfnd.fr (k := 10) hNN [0, 2] fr_8 (by decide) (by decide) (by decide) rfl), (hrul.fr hNN [0, 2] fr_8 (by decide) (by decide)), ⟨_, f24, f28, f29, f30, hc_7, kp hNN [0, 2] fr_8 17 (by decide) (by decide) (by decide) rfl m24, kp hNN [0, 2] fr_8 18 (by decide) (by decide) (by decide) rfl m28, kp hNN [0, 2] fr_8 19 (by decide) (by decide) (by decide) rfl m29, kp hNN [0, 2] fr_8 20 (by decide) (by decide) (by decide) rfl m30⟩⟩, fr_8.wk (by simp), rfl⟩) d_MO_oneRound_32
      · exact absurd c_22 (nI_nneg (by omega) (by decide))
set_option maxHeartbeats 4000000 in
set_option maxRecDepth 100000 in
/-- the reference: a round -/
theorem c_MO_oneRound_r (l : Launch) (X : gs_X) (σ : gs_St) (mo : Nat) (A : Nat → Nat) (cd nr : Nat) (cw : Nat → Nat) (F : List (Nat × Nat)) (T : List MT) (sa rc : Nat) (Q : List MR) (dr : Option MR)
    (hM : moA X σ mo A cd nr cw F T sa rc Q dr) (hrc1 : rc + 1 < 2 ^ 20) (hwQ : ∀ R ∈ Q, wfM cw R) (hmk : mok Q nr = true) (hsa : ¬ sa = mxS (mfs Q nr).1 nr) (hsa30 : sa < 2 ^ 30) : gs_Mi l X y_MO_oneRound b_MO_oneRound 3 (some .int) ({ frames := 4, cells := 0, slots := 0, locals := 99 }) σ [.ref mo] (fun r σ' => moA X σ' mo A cd nr cw F (oneM cw nr Q (T, sa, rc)).2.1 (oneM cw nr Q (T, sa, rc)).2.2.1 (oneM cw nr Q (T, sa, rc)).2.2.2 Q dr ∧ frm (aM mo A) σ σ' ∧ r = (oneM cw nr Q (T, sa, rc)).1) := by
  refine Met.ofW (cc := b_MO_oneRound) (maxL := 3) (ret := (some .int)) (by decide) rfl ?_
  intro p e s m args below meth c s₁ B₀ hml hv
  obtain ⟨rfl, hK, hG, hz, hE⟩ := hv
  have hx := B₀.exec
  have hb := B₀.bytes
  have hr := B₀.returns
  have hts := atoms_spec (ws := gs_ws y_MO_oneRound b_MO_oneRound 3 (some .int)) B₀.pre
  have ht : ∀ w ∈ gs_w, w.before _ s = true := fun w h => hts w (List.mem_cons_of_mem _ h)
  have hown : s.vm.findClass R_MO = some m.cls := findClass_of_methodNamed B₀.named
  have hlocks := B₀.notSynchronized
  have hA : ∀ q : Nat, s.heap.size ≤ q → gs_A X q := fun q h => Nat.le_trans hz h
  have hS : va_S (gs_A X) s.heap s.heap [] := va_S.rf
  have hl := lv_entry ([.ref mo]) (n := 3) (Nat.le_of_ble_eq_true rfl)
  rw [lg_entry_eq]
  generalize (lg_sl ([.ref mo]) ++ List.replicate (3 - (lg_sl ([.ref mo])).length) Slot.unset).toArray = ls at hl ⊢
  have hl : lv_has ls 3 [(0, .ref mo)] := hl
  obtain ⟨hNN, hnr, hFB, hTB, hrc, ⟨Z, m0, z0, z1, z4, z7, z16, z17, z25, z26⟩, hcol, hfac, htup, hbit, hfnd, hrul, hscr⟩ := id hM
  have hN := hN1 hNN
  have hFl := hFB.1
  have hTl := hTB.1
  obtain ⟨f2, m2, hcw⟩ := id hcol
  obtain ⟨f8, f9, f10, f11, m8, m9, m10, m11, hT⟩ := id htup
  obtain ⟨g, m12, hbi⟩ := id hbit
  obtain ⟨g3, m13, hb3⟩ := id hfnd
  obtain ⟨f18, f19, f20, f21, f22, f23, m18, m19, m20, m21, m22, m23, hQl, hQ, hdr⟩ := id hrul
  obtain ⟨f3, f24, f28, f29, f30, m3, m24, m28, m29, m30⟩ := id hscr
  have hQn : ∀ R ∈ Q, R.1.1 < nr := fun R hR => by obtain ⟨q, hq⟩ := List.getElem?_of_mem hR; exact (hQ q R hq).2.1
  have fr0 : frm [mo, A 3, A 8, A 9, A 10, A 11, A 12, A 13, A 24, A 28, A 29, A 30] σ σ := frm.rf
  refine lv_aload_n hx hb d_MO_oneRound_0 rfl (lv_at hl 0 rfl) ?_
  refine gs_callVi (As := []) (rest := []) ⟨hx, hb, hml, hown, hts⟩ hK hE hz hG hS (c_MO_strataOf l X σ mo A Z nr Q f3 f18 f19 f20 f21 f22 f23 m0 hN z1 z16 m3 m18 m20 m21 m22 hnr hQl hQ) mV_MO_strataOf w_820 m0 rfl rfl hl.1 rfl (Nat.le_of_ble_eq_true rfl) ⟨(by first | decide | omega | (dsimp only [headSpec]; omega)), (by first | decide | omega | (dsimp only [headSpec]; omega))⟩ ⟨(by first | decide | omega | (dsimp only [headSpec]; omega)), (by first | decide | omega | (dsimp only [headSpec]; omega))⟩ d_MO_oneRound_1 (fun r_1 σ_1 H locs hp_1 hG hS => ?_)
  obtain ⟨fz, ev9, hz9, er9⟩ := hp_1
  rw [ev9] at hG
  rw [if_pos hmk] at er9
  have hmx : mxS (mfs Q nr).1 nr ≤ 1901 := mxS_le nr (fun j hj => (hz9 j hj).2)
  refine gs_top er9 ?_
  have hG : gs_H X (gs_up σ (A 3) (gs_ia X 12 fz)) H := hG
  obtain ⟨σ_1, eσ_1⟩ : ∃ zq, zq = gs_up σ (A 3) (gs_ia X 12 fz) := ⟨_, rfl⟩
  rw [← eσ_1] at hG
  have hc_2 : σ_1 mo = some (moE A Z) := by rw [eσ_1]; exact gs_ku (gs_ne m0 m3 (by simp)) m0
  have hc_3 : σ_1 (A 2) = some (gs_ia X 12 f2) := by rw [eσ_1]; exact gs_ku (ndp hN 0 1 (by decide) rfl rfl) m2
  have hc_4 : σ_1 (A 12) = some (gs_la X 49152 g) := by rw [eσ_1]; exact gs_ku (Ne.symm (ndp hN 1 8 (by decide) rfl rfl)) m12
  have hc_5 : σ_1 (A 18) = some (gs_ia X 25 f18) := by rw [eσ_1]; exact gs_ku (Ne.symm (ndp hN 1 10 (by decide) rfl rfl)) m18
  have hc_6 : σ_1 (A 19) = some (gs_ia X 75 f19) := by rw [eσ_1]; exact gs_ku (Ne.symm (ndp hN 1 11 (by decide) rfl rfl)) m19
  have hc_7 : σ_1 (A 20) = some (gs_ia X 25 f20) := by rw [eσ_1]; exact gs_ku (Ne.symm (ndp hN 1 12 (by decide) rfl rfl)) m20
  have hc_8 : σ_1 (A 21) = some (gs_ia X 150 f21) := by rw [eσ_1]; exact gs_ku (Ne.symm (ndp hN 1 13 (by decide) rfl rfl)) m21
  have hc_9 : σ_1 (A 22) = some (gs_ia X 150 f22) := by rw [eσ_1]; exact gs_ku (Ne.symm (ndp hN 1 14 (by decide) rfl rfl)) m22
  have hc_10 : σ_1 (A 23) = some (gs_ia X 450 f23) := by rw [eσ_1]; exact gs_ku (Ne.symm (ndp hN 1 15 (by decide) rfl rfl)) m23
  have hc_11 : σ_1 (A 8) = some (gs_ia X 320 f8) := by rw [eσ_1]; exact gs_ku (Ne.symm (ndp hN 1 4 (by decide) rfl rfl)) m8
  have hc_12 : σ_1 (A 9) = some (gs_ia X 320 f9) := by rw [eσ_1]; exact gs_ku (Ne.symm (ndp hN 1 5 (by decide) rfl rfl)) m9
  have hc_13 : σ_1 (A 10) = some (gs_ia X 320 f10) := by rw [eσ_1]; exact gs_ku (Ne.symm (ndp hN 1 6 (by decide) rfl rfl)) m10
  have hc_14 : σ_1 (A 11) = some (gs_ia X 320 f11) := by rw [eσ_1]; exact gs_ku (Ne.symm (ndp hN 1 7 (by decide) rfl rfl)) m11
  have hc_15 : σ_1 (A 13) = some (gs_la X 49152 g3) := by rw [eσ_1]; exact gs_ku (Ne.symm (ndp hN 1 9 (by decide) rfl rfl)) m13
  have hc_16 : σ_1 (A 24) = some (gs_ia X 8 f24) := by rw [eσ_1]; exact gs_ku (Ne.symm (ndp hN 1 16 (by decide) rfl rfl)) m24
  have hc_17 : σ_1 (A 28) = some (gs_ia X 3 f28) := by rw [eσ_1]; exact gs_ku (Ne.symm (ndp hN 1 17 (by decide) rfl rfl)) m28
  have hc_18 : σ_1 (A 29) = some (gs_ia X 3 f29) := by rw [eσ_1]; exact gs_ku (Ne.symm (ndp hN 1 18 (by decide) rfl rfl)) m29
  have hc_19 : σ_1 (A 30) = some (gs_ia X 3 f30) := by rw [eσ_1]; exact gs_ku (Ne.symm (ndp hN 1 19 (by decide) rfl rfl)) m30
  have hc_20 : σ_1 (A 3) = some (gs_ia X 12 fz) := by rw [eσ_1]; exact gs_us
  have fr_21 : frm [mo, A 3, A 8, A 9, A 10, A 11, A 12, A 13, A 24, A 28, A 29, A 30] σ σ_1 := by rw [eσ_1]; exact fr0.up (by simp)
  refine lv_istore_n (lv' := [(1, .int (nI (mxS (mfs Q nr).1 nr))), (0, .ref mo)]) hx hb d_MO_oneRound_4 rfl hl (by decide) rfl (fun ls hl => ?_)
  refine lv_iload_n hx hb d_MO_oneRound_5 rfl (lv_at hl 0 rfl) ?_
  refine lv_bipush (v := -3) hx hb d_MO_oneRound_6 (by decide) ?_
  refine lv_icmp_eq (tgt := 19) hx hb d_MO_oneRound_8 (by decide) (fun c_8 => ?_) (fun c_8 => ?_)
  · exact absurd c_8 (nI_nneg (by omega) (by decide))
  · refine lv_aload_n hx hb d_MO_oneRound_11 rfl (lv_at hl 1 rfl) ?_
    refine gs_get (v := .int (nI (Z 25))) hx hb ht hown hK hG k_MO hc_2 25 (by decide) w_687 rfl d_MO_oneRound_12 ?_
    refine gs_top (show nI (Z 25) = nI sa from congrArg nI (show Z 25 = sa from z25)) ?_
    refine lv_iload_n hx hb d_MO_oneRound_15 rfl (lv_at hl 0 rfl) ?_
    refine lv_icmp_ne (tgt := 33) hx hb d_MO_oneRound_16 (by decide) (fun c_16 => ?_) (fun c_16 => ?_)
    · have c_16 : ¬ sa = (mxS (mfs Q nr).1 nr) := mt (nI_eq (by omega) (by omega)).mpr c_16
      refine lv_aload_n hx hb d_MO_oneRound_33 rfl (lv_at hl 1 rfl) ?_
      refine lv_iconst (v := nI 0) hx hb d_MO_oneRound_34 (by decide) ?_
      refine gs_put hx hb ht hown hK hG hS k_MO hc_2 14 (by decide) w_676 rfl rfl rfl (Nat.le_of_ble_eq_true rfl) d_MO_oneRound_35 (fun H locs hG hS => ?_)
      have hG : gs_H X (gs_up σ_1 mo (moE A (va_up Z 14 0))) H := hG
      obtain ⟨σ_22, eσ_22⟩ : ∃ zq, zq = gs_up σ_1 mo (moE A (va_up Z 14 0)) := ⟨_, rfl⟩
      rw [← eσ_22] at hG
      have hc_23 : σ_22 (A 2) = some (gs_ia X 12 f2) := by rw [eσ_22]; exact gs_ku (gs_ne hc_3 hc_2 (by simp)) hc_3
      have hc_24 : σ_22 (A 12) = some (gs_la X 49152 g) := by rw [eσ_22]; exact gs_ku (gs_ne hc_4 hc_2 (by simp)) hc_4
      have hc_25 : σ_22 (A 18) = some (gs_ia X 25 f18) := by rw [eσ_22]; exact gs_ku (gs_ne hc_5 hc_2 (by simp)) hc_5
      have hc_26 : σ_22 (A 19) = some (gs_ia X 75 f19) := by rw [eσ_22]; exact gs_ku (gs_ne hc_6 hc_2 (by simp)) hc_6
      have hc_27 : σ_22 (A 20) = some (gs_ia X 25 f20) := by rw [eσ_22]; exact gs_ku (gs_ne hc_7 hc_2 (by simp)) hc_7
      have hc_28 : σ_22 (A 21) = some (gs_ia X 150 f21) := by rw [eσ_22]; exact gs_ku (gs_ne hc_8 hc_2 (by simp)) hc_8
      have hc_29 : σ_22 (A 22) = some (gs_ia X 150 f22) := by rw [eσ_22]; exact gs_ku (gs_ne hc_9 hc_2 (by simp)) hc_9
      have hc_30 : σ_22 (A 23) = some (gs_ia X 450 f23) := by rw [eσ_22]; exact gs_ku (gs_ne hc_10 hc_2 (by simp)) hc_10
      have hc_31 : σ_22 (A 8) = some (gs_ia X 320 f8) := by rw [eσ_22]; exact gs_ku (gs_ne hc_11 hc_2 (by simp)) hc_11
      have hc_32 : σ_22 (A 9) = some (gs_ia X 320 f9) := by rw [eσ_22]; exact gs_ku (gs_ne hc_12 hc_2 (by simp)) hc_12
      have hc_33 : σ_22 (A 10) = some (gs_ia X 320 f10) := by rw [eσ_22]; exact gs_ku (gs_ne hc_13 hc_2 (by simp)) hc_13
      have hc_34 : σ_22 (A 11) = some (gs_ia X 320 f11) := by rw [eσ_22]; exact gs_ku (gs_ne hc_14 hc_2 (by simp)) hc_14
      have hc_35 : σ_22 (A 13) = some (gs_la X 49152 g3) := by rw [eσ_22]; exact gs_ku (gs_ne hc_15 hc_2 (by simp)) hc_15
      have hc_36 : σ_22 (A 24) = some (gs_ia X 8 f24) := by rw [eσ_22]; exact gs_ku (gs_ne hc_16 hc_2 (by simp)) hc_16
      have hc_37 : σ_22 (A 28) = some (gs_ia X 3 f28) := by rw [eσ_22]; exact gs_ku (gs_ne hc_17 hc_2 (by simp)) hc_17
      have hc_38 : σ_22 (A 29) = some (gs_ia X 3 f29) := by rw [eσ_22]; exact gs_ku (gs_ne hc_18 hc_2 (by simp)) hc_18
      have hc_39 : σ_22 (A 30) = some (gs_ia X 3 f30) := by rw [eσ_22]; exact gs_ku (gs_ne hc_19 hc_2 (by simp)) hc_19
      have hc_40 : σ_22 (A 3) = some (gs_ia X 12 fz) := by rw [eσ_22]; exact gs_ku (gs_ne hc_20 hc_2 (by simp)) hc_20
      have hc_41 : σ_22 mo = some (moE A (va_up Z 14 0)) := by rw [eσ_22]; exact gs_us
      have fr_42 : frm [mo, A 3, A 8, A 9, A 10, A 11, A 12, A 13, A 24, A 28, A 29, A 30] σ σ_22 := by rw [eσ_22]; exact fr_21.up (by simp)
      refine lv_aload_n hx hb d_MO_oneRound_38 rfl (lv_at hl 1 rfl) ?_
      refine lv_iconst (v := nI 0) hx hb d_MO_oneRound_39 (by decide) ?_
      refine gs_put hx hb ht hown hK hG hS k_MO hc_41 15 (by decide) w_677 rfl rfl rfl (Nat.le_of_ble_eq_true rfl) d_MO_oneRound_40 (fun H locs hG hS => ?_)
      have hG : gs_H X (gs_up σ_22 mo (moE A (va_up (va_up Z 14 0) 15 0))) H := hG
      obtain ⟨σ_43, eσ_43⟩ : ∃ zq, zq = gs_up σ_22 mo (moE A (va_up (va_up Z 14 0) 15 0)) := ⟨_, rfl⟩
      rw [← eσ_43] at hG
      have hc_44 : σ_43 (A 2) = some (gs_ia X 12 f2) := by rw [eσ_43]; exact gs_ku (gs_ne hc_23 hc_41 (by simp)) hc_23
      have hc_45 : σ_43 (A 12) = some (gs_la X 49152 g) := by rw [eσ_43]; exact gs_ku (gs_ne hc_24 hc_41 (by simp)) hc_24
      have hc_46 : σ_43 (A 18) = some (gs_ia X 25 f18) := by rw [eσ_43]; exact gs_ku (gs_ne hc_25 hc_41 (by simp)) hc_25
      have hc_47 : σ_43 (A 19) = some (gs_ia X 75 f19) := by rw [eσ_43]; exact gs_ku (gs_ne hc_26 hc_41 (by simp)) hc_26
      have hc_48 : σ_43 (A 20) = some (gs_ia X 25 f20) := by rw [eσ_43]; exact gs_ku (gs_ne hc_27 hc_41 (by simp)) hc_27
      have hc_49 : σ_43 (A 21) = some (gs_ia X 150 f21) := by rw [eσ_43]; exact gs_ku (gs_ne hc_28 hc_41 (by simp)) hc_28
      have hc_50 : σ_43 (A 22) = some (gs_ia X 150 f22) := by rw [eσ_43]; exact gs_ku (gs_ne hc_29 hc_41 (by simp)) hc_29
      have hc_51 : σ_43 (A 23) = some (gs_ia X 450 f23) := by rw [eσ_43]; exact gs_ku (gs_ne hc_30 hc_41 (by simp)) hc_30
      have hc_52 : σ_43 (A 8) = some (gs_ia X 320 f8) := by rw [eσ_43]; exact gs_ku (gs_ne hc_31 hc_41 (by simp)) hc_31
      have hc_53 : σ_43 (A 9) = some (gs_ia X 320 f9) := by rw [eσ_43]; exact gs_ku (gs_ne hc_32 hc_41 (by simp)) hc_32
      have hc_54 : σ_43 (A 10) = some (gs_ia X 320 f10) := by rw [eσ_43]; exact gs_ku (gs_ne hc_33 hc_41 (by simp)) hc_33
      have hc_55 : σ_43 (A 11) = some (gs_ia X 320 f11) := by rw [eσ_43]; exact gs_ku (gs_ne hc_34 hc_41 (by simp)) hc_34
      have hc_56 : σ_43 (A 13) = some (gs_la X 49152 g3) := by rw [eσ_43]; exact gs_ku (gs_ne hc_35 hc_41 (by simp)) hc_35
      have hc_57 : σ_43 (A 24) = some (gs_ia X 8 f24) := by rw [eσ_43]; exact gs_ku (gs_ne hc_36 hc_41 (by simp)) hc_36
      have hc_58 : σ_43 (A 28) = some (gs_ia X 3 f28) := by rw [eσ_43]; exact gs_ku (gs_ne hc_37 hc_41 (by simp)) hc_37
      have hc_59 : σ_43 (A 29) = some (gs_ia X 3 f29) := by rw [eσ_43]; exact gs_ku (gs_ne hc_38 hc_41 (by simp)) hc_38
      have hc_60 : σ_43 (A 30) = some (gs_ia X 3 f30) := by rw [eσ_43]; exact gs_ku (gs_ne hc_39 hc_41 (by simp)) hc_39
      have hc_61 : σ_43 (A 3) = some (gs_ia X 12 fz) := by rw [eσ_43]; exact gs_ku (gs_ne hc_40 hc_41 (by simp)) hc_40
      have hc_62 : σ_43 mo = some (moE A (va_up (va_up Z 14 0) 15 0)) := by rw [eσ_43]; exact gs_us
      have fr_63 : frm [mo, A 3, A 8, A 9, A 10, A 11, A 12, A 13, A 24, A 28, A 29, A 30] σ σ_43 := by rw [eσ_43]; exact fr_42.up (by simp)
      refine lv_iconst (v := nI 0) hx hb d_MO_oneRound_43 (by decide) ?_
      refine lv_istore_n (lv' := [(2, .int (nI 0)), (1, .int (nI (mxS (mfs Q nr).1 nr))), (0, .ref mo)]) hx hb d_MO_oneRound_44 rfl hl (by decide) rfl (fun ls hl => ?_)
      have hfs0 : fsB T rc (([], false, Z 27) : FS) := fun x hx => by cases hx
      have hfsT : fsB T rc (rdF cw T rc sa (mfs Q nr).1 Q 0 ([], false, Z 27)) := rdF_B hTB hnr Q 0 _ hQn hfs0
      have hfe : fEq (rdF cw T rc sa (mfs Q nr).1 Q 0 ([], false, Z 27)) (rdF cw T rc sa (mfs Q nr).1 Q 0 ([], false, 0)) := rdF_ct Q 0 _ _ ⟨rfl, rfl⟩
      have k83 : ∀ (s9 : FS) (h28 h29 h30 : Nat → Int32) (σ1 : gs_St), s9 = (rdF cw T rc sa (mfs Q nr).1 Q 0 ([], false, Z 27)) → trW X σ_43 σ1 mo A (va_up (va_up Z 14 0) 15 0) T true s9 h28 h29 h30 → ∀ (H : Heap) (locs : List Loc), gs_H X σ1 H → va_S (gs_A X) s.heap H locs → ∀ ls, lv_has ls 3 [(0, .ref mo)] → W p l e ({ frames := 4, cells := 0, slots := 0, locals := 99 } : Room) s m ([.ref mo] : List Value).toArray below meth c H locs 0 0 (MQ below (va_Qi (fun r σ' => moA X σ' mo A cd nr cw F (oneM cw nr Q (T, sa, rc)).2.1 (oneM cw nr Q (T, sa, rc)).2.2.1 (oneM cw nr Q (T, sa, rc)).2.2.2 Q dr ∧ frm (aM mo A) σ σ' ∧ r = (oneM cw nr Q (T, sa, rc)).1) (gs_U X) (gs_A X)) ([.ref mo] : List Value).toArray s 0 0 (gs_A X)) (F0 m 83 ls []) := by
        intro s9 h28 h29 h30 σ1 es9 hS9 H locs hG hS ls hl
        rw [← es9] at hfsT hfe
        obtain ⟨Z1, a8, a9, a10, a11, a24, b3, y_mo, y14, y15, y27, yz, y_8, y_9, y_10, y_11, y_13, y_24, y_28, y_29, y_30, yT, yb, yTN, yfr⟩ := hS9
        have x_2 : σ1 (A 2) = some (gs_ia X 12 f2) := kp hNN [0, 5, 6, 7, 8, 10, 17, 18, 19, 20] yfr 1 (by decide) (by decide) (by decide) rfl hc_44
        have x_12 : σ1 (A 12) = some (gs_la X 49152 g) := kp hNN [0, 5, 6, 7, 8, 10, 17, 18, 19, 20] yfr 9 (by decide) (by decide) (by decide) rfl hc_45
        have x_18 : σ1 (A 18) = some (gs_ia X 25 f18) := kp hNN [0, 5, 6, 7, 8, 10, 17, 18, 19, 20] yfr 11 (by decide) (by decide) (by decide) rfl hc_46
        have x_19 : σ1 (A 19) = some (gs_ia X 75 f19) := kp hNN [0, 5, 6, 7, 8, 10, 17, 18, 19, 20] yfr 12 (by decide) (by decide) (by decide) rfl hc_47
        have x_20 : σ1 (A 20) = some (gs_ia X 25 f20) := kp hNN [0, 5, 6, 7, 8, 10, 17, 18, 19, 20] yfr 13 (by decide) (by decide) (by decide) rfl hc_48
        have x_21 : σ1 (A 21) = some (gs_ia X 150 f21) := kp hNN [0, 5, 6, 7, 8, 10, 17, 18, 19, 20] yfr 14 (by decide) (by decide) (by decide) rfl hc_49
        have x_22 : σ1 (A 22) = some (gs_ia X 150 f22) := kp hNN [0, 5, 6, 7, 8, 10, 17, 18, 19, 20] yfr 15 (by decide) (by decide) (by decide) rfl hc_50
        have x_23 : σ1 (A 23) = some (gs_ia X 450 f23) := kp hNN [0, 5, 6, 7, 8, 10, 17, 18, 19, 20] yfr 16 (by decide) (by decide) (by decide) rfl hc_51
        have x_3 : σ1 (A 3) = some (gs_ia X 12 fz) := kp hNN [0, 5, 6, 7, 8, 10, 17, 18, 19, 20] yfr 2 (by decide) (by decide) (by decide) rfl hc_61
        have yfl : frm [mo, A 3, A 8, A 9, A 10, A 11, A 12, A 13, A 24, A 28, A 29, A 30] σ σ1 := fr_63.trans yfr (by simp)
        have y14 := y14 rfl
        have y15 := y15 rfl
        have hov := toN1 s9.2.1
        have z7s : Z1 7 = T.length := (yz 7 (by simp)).trans z7
        have hNl : s9.1.length ≤ 300 := by omega
        have loopz : ∀ (fl : Nat) (i : Nat) (g1 g2 : Nat → Int64) (σ2 : gs_St), (i ≤ s9.1.length) → (∀ k, gB g2 k = (decide (k ∈ tcs s9.1) && !decide (k ∈ tcs (s9.1.take i)))) → (bO g1 (if s9.2.1 = true then tcs T else tcs (T ++ s9.1.take i))) → (frm [A 12, A 13] σ1 σ2) → s9.1.length - i < fl → (σ2 mo = some (moE A Z1)) → (σ2 (A 8) = some (gs_ia X 320 a8)) → (σ2 (A 9) = some (gs_ia X 320 a9)) → (σ2 (A 12) = some (gs_la X 49152 g1)) → (σ2 (A 13) = some (gs_la X 49152 g2)) → ∀ (H : Heap) (locs : List Loc), gs_H X σ2 H → va_S (gs_A X) s.heap H locs → ∀ ls, lv_has ls 3 [(2, .int (nI (T.length + i))), (0, .ref mo)] → W p l e ({ frames := 4, cells := 0, slots := 0, locals := 99 } : Room) s m ([.ref mo] : List Value).toArray below meth c H locs 0 0 (MQ below (va_Qi (fun r σ' => moA X σ' mo A cd nr cw F (oneM cw nr Q (T, sa, rc)).2.1 (oneM cw nr Q (T, sa, rc)).2.2.1 (oneM cw nr Q (T, sa, rc)).2.2.2 Q dr ∧ frm (aM mo A) σ σ' ∧ r = (oneM cw nr Q (T, sa, rc)).1) (gs_U X) (gs_A X)) ([.ref mo] : List Value).toArray s 0 0 (gs_A X)) (F0 m 88 ls []) := by
          intro fl
          induction fl with
          | zero => intro i g1 g2 σ2 _ _ _ _ h9; omega
          | succ fl ih =>
            intro i g1 g2 σ2 hi hg2 hg1 hf2 hmu w_mo w_8 w_9 w_12 w_13 H locs hG hS ls hl
            refine lv_iload_n hx hb d_MO_oneRound_88 rfl (lv_at hl 0 rfl) ?_
            refine lv_aload_n hx hb d_MO_oneRound_89 rfl (lv_at hl 1 rfl) ?_
            refine gs_get (v := .int (nI (Z1 7))) hx hb ht hown hK hG k_MO w_mo 7 (by decide) w_669 rfl d_MO_oneRound_90 ?_
            refine gs_top (show nI (Z1 7) = nI T.length from congrArg nI (show Z1 7 = T.length from z7s)) ?_
            refine lv_aload_n hx hb d_MO_oneRound_93 rfl (lv_at hl 1 rfl) ?_
            refine gs_get (v := .int (nI (Z1 14))) hx hb ht hown hK hG k_MO w_mo 14 (by decide) w_676 rfl d_MO_oneRound_94 ?_
            refine gs_top (show nI (Z1 14) = nI s9.1.length from congrArg nI (show Z1 14 = s9.1.length from y14)) ?_
            refine lv_iadd hx hb d_MO_oneRound_97 ?_
            refine gs_top (nI_add T.length s9.1.length) ?_
            refine lv_icmp_ge (tgt := 158) hx hb d_MO_oneRound_98 (by decide) (fun c_98 => ?_) (fun c_98 => ?_)
            · have c_98 : (T.length + s9.1.length) ≤ (T.length + i) := (nI_leI (by omega) (by omega)).mp c_98
              have hie : i = s9.1.length := by omega
              rw [hie, List.take_length] at hg1
              rw [hie] at hg2
              have hg3 := bO_nil (clr_end hg2)
              have fr2 : frm [mo, A 3, A 8, A 9, A 10, A 11, A 12, A 13, A 24, A 28, A 29, A 30] σ σ2 := yfl.trans hf2 (by simp)
              have v_2 : σ2 (A 2) = some (gs_ia X 12 f2) := kp hNN [9, 10] hf2 1 (by decide) (by decide) (by decide) rfl x_2
              have v_18 : σ2 (A 18) = some (gs_ia X 25 f18) := kp hNN [9, 10] hf2 11 (by decide) (by decide) (by decide) rfl x_18
              have v_19 : σ2 (A 19) = some (gs_ia X 75 f19) := kp hNN [9, 10] hf2 12 (by decide) (by decide) (by decide) rfl x_19
              have v_20 : σ2 (A 20) = some (gs_ia X 25 f20) := kp hNN [9, 10] hf2 13 (by decide) (by decide) (by decide) rfl x_20
              have v_21 : σ2 (A 21) = some (gs_ia X 150 f21) := kp hNN [9, 10] hf2 14 (by decide) (by decide) (by decide) rfl x_21
              have v_22 : σ2 (A 22) = some (gs_ia X 150 f22) := kp hNN [9, 10] hf2 15 (by decide) (by decide) (by decide) rfl x_22
              have v_23 : σ2 (A 23) = some (gs_ia X 450 f23) := kp hNN [9, 10] hf2 16 (by decide) (by decide) (by decide) rfl x_23
              have v_3 : σ2 (A 3) = some (gs_ia X 12 fz) := kp hNN [9, 10] hf2 2 (by decide) (by decide) (by decide) rfl x_3
              have v_10 : σ2 (A 10) = some (gs_ia X 320 a10) := kp hNN [9, 10] hf2 7 (by decide) (by decide) (by decide) rfl y_10
              have v_11 : σ2 (A 11) = some (gs_ia X 320 a11) := kp hNN [9, 10] hf2 8 (by decide) (by decide) (by decide) rfl y_11
              have v_24 : σ2 (A 24) = some (gs_ia X 8 a24) := kp hNN [9, 10] hf2 17 (by decide) (by decide) (by decide) rfl y_24
              have v_28 : σ2 (A 28) = some (gs_ia X 3 h28) := kp hNN [9, 10] hf2 18 (by decide) (by decide) (by decide) rfl y_28
              have v_29 : σ2 (A 29) = some (gs_ia X 3 h29) := kp hNN [9, 10] hf2 19 (by decide) (by decide) (by decide) rfl y_29
              have v_30 : σ2 (A 30) = some (gs_ia X 3 h30) := kp hNN [9, 10] hf2 20 (by decide) (by decide) (by decide) rfl y_30
              refine lv_aload_n hx hb d_MO_oneRound_158 rfl (lv_at hl 1 rfl) ?_
              refine gs_get (v := .int (nI (Z1 15))) hx hb ht hown hK hG k_MO w_mo 15 (by decide) w_677 rfl d_MO_oneRound_159 ?_
              refine gs_top (show nI (Z1 15) = nI s9.2.1.toNat from congrArg nI (show Z1 15 = s9.2.1.toNat from y15)) ?_
              refine lv_if_eq (tgt := 168) hx hb d_MO_oneRound_162 (by decide) (fun c_162 => ?_) (fun c_162 => ?_)
              · have c_162 : s9.2.1.toNat = 0 := gs_z (by omega) c_162
                refine lv_aload_n hx hb d_MO_oneRound_168 rfl (lv_at hl 1 rfl) ?_
                refine lv_dup hx hb d_MO_oneRound_169 rfl ?_
                refine gs_get (v := .int (nI (Z1 26))) hx hb ht hown hK hG k_MO w_mo 26 (by decide) w_688 rfl d_MO_oneRound_170 ?_
                refine gs_top (show nI (Z1 26) = nI rc from congrArg nI (show Z1 26 = rc from (yz 26 (by simp)).trans z26)) ?_
                refine lv_iconst (v := nI 1) hx hb d_MO_oneRound_173 (by decide) ?_
                refine lv_iadd hx hb d_MO_oneRound_174 ?_
                refine gs_top (nI_add rc 1) ?_
                refine gs_put hx hb ht hown hK hG hS k_MO w_mo 26 (by decide) w_688 rfl rfl rfl (Nat.le_of_ble_eq_true rfl) d_MO_oneRound_175 (fun H locs hG hS => ?_)
                have hG : gs_H X (gs_up σ2 mo (moE A (va_up Z1 26 (rc + 1)))) H := hG
                obtain ⟨σ_64, eσ_64⟩ : ∃ zq, zq = gs_up σ2 mo (moE A (va_up Z1 26 (rc + 1))) := ⟨_, rfl⟩
                rw [← eσ_64] at hG
                have hc_65 : σ_64 (A 2) = some (gs_ia X 12 f2) := by rw [eσ_64]; exact gs_ku (gs_ne v_2 w_mo (by simp)) v_2
                have hc_66 : σ_64 (A 12) = some (gs_la X 49152 g1) := by rw [eσ_64]; exact gs_ku (gs_ne w_12 w_mo (by simp)) w_12
                have hc_67 : σ_64 (A 18) = some (gs_ia X 25 f18) := by rw [eσ_64]; exact gs_ku (gs_ne v_18 w_mo (by simp)) v_18
                have hc_68 : σ_64 (A 19) = some (gs_ia X 75 f19) := by rw [eσ_64]; exact gs_ku (gs_ne v_19 w_mo (by simp)) v_19
                have hc_69 : σ_64 (A 20) = some (gs_ia X 25 f20) := by rw [eσ_64]; exact gs_ku (gs_ne v_20 w_mo (by simp)) v_20
                have hc_70 : σ_64 (A 21) = some (gs_ia X 150 f21) := by rw [eσ_64]; exact gs_ku (gs_ne v_21 w_mo (by simp)) v_21
                have hc_71 : σ_64 (A 22) = some (gs_ia X 150 f22) := by rw [eσ_64]; exact gs_ku (gs_ne v_22 w_mo (by simp)) v_22
                have hc_72 : σ_64 (A 23) = some (gs_ia X 450 f23) := by rw [eσ_64]; exact gs_ku (gs_ne v_23 w_mo (by simp)) v_23
                have hc_73 : σ_64 (A 3) = some (gs_ia X 12 fz) := by rw [eσ_64]; exact gs_ku (gs_ne v_3 w_mo (by simp)) v_3
                have hc_74 : σ_64 (A 8) = some (gs_ia X 320 a8) := by rw [eσ_64]; exact gs_ku (gs_ne w_8 w_mo (by simp)) w_8
                have hc_75 : σ_64 (A 9) = some (gs_ia X 320 a9) := by rw [eσ_64]; exact gs_ku (gs_ne w_9 w_mo (by simp)) w_9
                have hc_76 : σ_64 (A 10) = some (gs_ia X 320 a10) := by rw [eσ_64]; exact gs_ku (gs_ne v_10 w_mo (by simp)) v_10
                have hc_77 : σ_64 (A 11) = some (gs_ia X 320 a11) := by rw [eσ_64]; exact gs_ku (gs_ne v_11 w_mo (by simp)) v_11
                have hc_78 : σ_64 (A 13) = some (gs_la X 49152 g2) := by rw [eσ_64]; exact gs_ku (gs_ne w_13 w_mo (by simp)) w_13
                have hc_79 : σ_64 (A 24) = some (gs_ia X 8 a24) := by rw [eσ_64]; exact gs_ku (gs_ne v_24 w_mo (by simp)) v_24
                have hc_80 : σ_64 (A 28) = some (gs_ia X 3 h28) := by rw [eσ_64]; exact gs_ku (gs_ne v_28 w_mo (by simp)) v_28
                have hc_81 : σ_64 (A 29) = some (gs_ia X 3 h29) := by rw [eσ_64]; exact gs_ku (gs_ne v_29 w_mo (by simp)) v_29
                have hc_82 : σ_64 (A 30) = some (gs_ia X 3 h30) := by rw [eσ_64]; exact gs_ku (gs_ne v_30 w_mo (by simp)) v_30
                have hc_83 : σ_64 mo = some (moE A (va_up Z1 26 (rc + 1))) := by rw [eσ_64]; exact gs_us
                have fr_84 : frm [mo, A 3, A 8, A 9, A 10, A 11, A 12, A 13, A 24, A 28, A 29, A 30] σ σ_64 := by rw [eσ_64]; exact fr2.up (by simp)
                refine lv_aload_n hx hb d_MO_oneRound_178 rfl (lv_at hl 1 rfl) ?_
                refine lv_dup hx hb d_MO_oneRound_179 rfl ?_
                refine gs_get (v := .int (nI (Z1 7))) hx hb ht hown hK hG k_MO hc_83 7 (by decide) w_669 rfl d_MO_oneRound_180 ?_
                refine gs_top (show nI (Z1 7) = nI T.length from congrArg nI (show Z1 7 = T.length from z7s)) ?_
                refine lv_aload_n hx hb d_MO_oneRound_183 rfl (lv_at hl 1 rfl) ?_
                refine gs_get (v := .int (nI (Z1 14))) hx hb ht hown hK hG k_MO hc_83 14 (by decide) w_676 rfl d_MO_oneRound_184 ?_
                refine gs_top (show nI (Z1 14) = nI s9.1.length from congrArg nI (show Z1 14 = s9.1.length from y14)) ?_
                refine lv_iadd hx hb d_MO_oneRound_187 ?_
                refine gs_top (nI_add T.length s9.1.length) ?_
                refine gs_put hx hb ht hown hK hG hS k_MO hc_83 7 (by decide) w_669 rfl rfl rfl (Nat.le_of_ble_eq_true rfl) d_MO_oneRound_188 (fun H locs hG hS => ?_)
                have hG : gs_H X (gs_up σ_64 mo (moE A (va_up (va_up Z1 26 (rc + 1)) 7 (T.length + s9.1.length)))) H := hG
                obtain ⟨σ_85, eσ_85⟩ : ∃ zq, zq = gs_up σ_64 mo (moE A (va_up (va_up Z1 26 (rc + 1)) 7 (T.length + s9.1.length))) := ⟨_, rfl⟩
                rw [← eσ_85] at hG
                have hc_86 : σ_85 (A 2) = some (gs_ia X 12 f2) := by rw [eσ_85]; exact gs_ku (gs_ne hc_65 hc_83 (by simp)) hc_65
                have hc_87 : σ_85 (A 12) = some (gs_la X 49152 g1) := by rw [eσ_85]; exact gs_ku (gs_ne hc_66 hc_83 (by simp)) hc_66
                have hc_88 : σ_85 (A 18) = some (gs_ia X 25 f18) := by rw [eσ_85]; exact gs_ku (gs_ne hc_67 hc_83 (by simp)) hc_67
                have hc_89 : σ_85 (A 19) = some (gs_ia X 75 f19) := by rw [eσ_85]; exact gs_ku (gs_ne hc_68 hc_83 (by simp)) hc_68
                have hc_90 : σ_85 (A 20) = some (gs_ia X 25 f20) := by rw [eσ_85]; exact gs_ku (gs_ne hc_69 hc_83 (by simp)) hc_69
                have hc_91 : σ_85 (A 21) = some (gs_ia X 150 f21) := by rw [eσ_85]; exact gs_ku (gs_ne hc_70 hc_83 (by simp)) hc_70
                have hc_92 : σ_85 (A 22) = some (gs_ia X 150 f22) := by rw [eσ_85]; exact gs_ku (gs_ne hc_71 hc_83 (by simp)) hc_71
                have hc_93 : σ_85 (A 23) = some (gs_ia X 450 f23) := by rw [eσ_85]; exact gs_ku (gs_ne hc_72 hc_83 (by simp)) hc_72
                have hc_94 : σ_85 (A 3) = some (gs_ia X 12 fz) := by rw [eσ_85]; exact gs_ku (gs_ne hc_73 hc_83 (by simp)) hc_73
                have hc_95 : σ_85 (A 8) = some (gs_ia X 320 a8) := by rw [eσ_85]; exact gs_ku (gs_ne hc_74 hc_83 (by simp)) hc_74
                have hc_96 : σ_85 (A 9) = some (gs_ia X 320 a9) := by rw [eσ_85]; exact gs_ku (gs_ne hc_75 hc_83 (by simp)) hc_75
                have hc_97 : σ_85 (A 10) = some (gs_ia X 320 a10) := by rw [eσ_85]; exact gs_ku (gs_ne hc_76 hc_83 (by simp)) hc_76
                have hc_98 : σ_85 (A 11) = some (gs_ia X 320 a11) := by rw [eσ_85]; exact gs_ku (gs_ne hc_77 hc_83 (by simp)) hc_77
                have hc_99 : σ_85 (A 13) = some (gs_la X 49152 g2) := by rw [eσ_85]; exact gs_ku (gs_ne hc_78 hc_83 (by simp)) hc_78
                have hc_100 : σ_85 (A 24) = some (gs_ia X 8 a24) := by rw [eσ_85]; exact gs_ku (gs_ne hc_79 hc_83 (by simp)) hc_79
                have hc_101 : σ_85 (A 28) = some (gs_ia X 3 h28) := by rw [eσ_85]; exact gs_ku (gs_ne hc_80 hc_83 (by simp)) hc_80
                have hc_102 : σ_85 (A 29) = some (gs_ia X 3 h29) := by rw [eσ_85]; exact gs_ku (gs_ne hc_81 hc_83 (by simp)) hc_81
                have hc_103 : σ_85 (A 30) = some (gs_ia X 3 h30) := by rw [eσ_85]; exact gs_ku (gs_ne hc_82 hc_83 (by simp)) hc_82
                have hc_104 : σ_85 mo = some (moE A (va_up (va_up Z1 26 (rc + 1)) 7 (T.length + s9.1.length))) := by rw [eσ_85]; exact gs_us
                have fr_105 : frm [mo, A 3, A 8, A 9, A 10, A 11, A 12, A 13, A 24, A 28, A 29, A 30] σ σ_85 := by rw [eσ_85]; exact fr_84.up (by simp)
                refine lv_aload_n hx hb d_MO_oneRound_191 rfl (lv_at hl 1 rfl) ?_
                refine lv_dup hx hb d_MO_oneRound_192 rfl ?_
                refine gs_get (v := .int (nI (Z1 25))) hx hb ht hown hK hG k_MO hc_104 25 (by decide) w_687 rfl d_MO_oneRound_193 ?_
                refine gs_top (show nI (Z1 25) = nI sa from congrArg nI (show Z1 25 = sa from (yz 25 (by simp)).trans z25)) ?_
                refine lv_aload_n hx hb d_MO_oneRound_196 rfl (lv_at hl 1 rfl) ?_
                refine gs_get (v := .int (nI (Z1 14))) hx hb ht hown hK hG k_MO hc_104 14 (by decide) w_676 rfl d_MO_oneRound_197 ?_
                refine gs_top (show nI (Z1 14) = nI s9.1.length from congrArg nI (show Z1 14 = s9.1.length from y14)) ?_
                refine lv_if_ne (tgt := 207) hx hb d_MO_oneRound_200 (by decide) (fun c_200 => ?_) (fun c_200 => ?_)
                · have c_200 : ¬ s9.1.length = 0 := gs_zn (by omega) c_200
                  refine lv_iconst (v := nI 0) hx hb d_MO_oneRound_207 (by decide) ?_
                  refine lv_iadd hx hb d_MO_oneRound_208 ?_
                  refine gs_top (nI_add sa 0) ?_
                  refine gs_put hx hb ht hown hK hG hS k_MO hc_104 25 (by decide) w_687 rfl rfl rfl (Nat.le_of_ble_eq_true rfl) d_MO_oneRound_209 (fun H locs hG hS => ?_)
                  have hG : gs_H X (gs_up σ_85 mo (moE A (va_up (va_up (va_up Z1 26 (rc + 1)) 7 (T.length + s9.1.length)) 25 (sa + 0)))) H := hG
                  obtain ⟨σ_106, eσ_106⟩ : ∃ zq, zq = gs_up σ_85 mo (moE A (va_up (va_up (va_up Z1 26 (rc + 1)) 7 (T.length + s9.1.length)) 25 (sa + 0))) := ⟨_, rfl⟩
                  rw [← eσ_106] at hG
                  have hc_107 : σ_106 (A 2) = some (gs_ia X 12 f2) := by rw [eσ_106]; exact gs_ku (gs_ne hc_86 hc_104 (by simp)) hc_86
                  have hc_108 : σ_106 (A 12) = some (gs_la X 49152 g1) := by rw [eσ_106]; exact gs_ku (gs_ne hc_87 hc_104 (by simp)) hc_87
                  have hc_109 : σ_106 (A 18) = some (gs_ia X 25 f18) := by rw [eσ_106]; exact gs_ku (gs_ne hc_88 hc_104 (by simp)) hc_88
                  have hc_110 : σ_106 (A 19) = some (gs_ia X 75 f19) := by rw [eσ_106]; exact gs_ku (gs_ne hc_89 hc_104 (by simp)) hc_89
                  have hc_111 : σ_106 (A 20) = some (gs_ia X 25 f20) := by rw [eσ_106]; exact gs_ku (gs_ne hc_90 hc_104 (by simp)) hc_90
                  have hc_112 : σ_106 (A 21) = some (gs_ia X 150 f21) := by rw [eσ_106]; exact gs_ku (gs_ne hc_91 hc_104 (by simp)) hc_91
                  have hc_113 : σ_106 (A 22) = some (gs_ia X 150 f22) := by rw [eσ_106]; exact gs_ku (gs_ne hc_92 hc_104 (by simp)) hc_92
                  have hc_114 : σ_106 (A 23) = some (gs_ia X 450 f23) := by rw [eσ_106]; exact gs_ku (gs_ne hc_93 hc_104 (by simp)) hc_93
                  have hc_115 : σ_106 (A 3) = some (gs_ia X 12 fz) := by rw [eσ_106]; exact gs_ku (gs_ne hc_94 hc_104 (by simp)) hc_94
                  have hc_116 : σ_106 (A 8) = some (gs_ia X 320 a8) := by rw [eσ_106]; exact gs_ku (gs_ne hc_95 hc_104 (by simp)) hc_95
                  have hc_117 : σ_106 (A 9) = some (gs_ia X 320 a9) := by rw [eσ_106]; exact gs_ku (gs_ne hc_96 hc_104 (by simp)) hc_96
                  have hc_118 : σ_106 (A 10) = some (gs_ia X 320 a10) := by rw [eσ_106]; exact gs_ku (gs_ne hc_97 hc_104 (by simp)) hc_97
                  have hc_119 : σ_106 (A 11) = some (gs_ia X 320 a11) := by rw [eσ_106]; exact gs_ku (gs_ne hc_98 hc_104 (by simp)) hc_98
                  have hc_120 : σ_106 (A 13) = some (gs_la X 49152 g2) := by rw [eσ_106]; exact gs_ku (gs_ne hc_99 hc_104 (by simp)) hc_99
                  have hc_121 : σ_106 (A 24) = some (gs_ia X 8 a24) := by rw [eσ_106]; exact gs_ku (gs_ne hc_100 hc_104 (by simp)) hc_100
                  have hc_122 : σ_106 (A 28) = some (gs_ia X 3 h28) := by rw [eσ_106]; exact gs_ku (gs_ne hc_101 hc_104 (by simp)) hc_101
                  have hc_123 : σ_106 (A 29) = some (gs_ia X 3 h29) := by rw [eσ_106]; exact gs_ku (gs_ne hc_102 hc_104 (by simp)) hc_102
                  have hc_124 : σ_106 (A 30) = some (gs_ia X 3 h30) := by rw [eσ_106]; exact gs_ku (gs_ne hc_103 hc_104 (by simp)) hc_103
                  have hc_125 : σ_106 mo = some (moE A (va_up (va_up (va_up Z1 26 (rc + 1)) 7 (T.length + s9.1.length)) 25 (sa + 0))) := by rw [eσ_106]; exact gs_us
                  have fr_126 : frm [mo, A 3, A 8, A 9, A 10, A 11, A 12, A 13, A 24, A 28, A 29, A 30] σ σ_106 := by rw [eσ_106]; exact fr_105.up (by simp)
                  refine lv_aload_n hx hb d_MO_oneRound_212 rfl (lv_at hl 1 rfl) ?_
                  refine gs_get (v := .int (nI (Z1 14))) hx hb ht hown hK hG k_MO hc_125 14 (by decide) w_676 rfl d_MO_oneRound_213 ?_
                  refine gs_top (show nI (Z1 14) = nI s9.1.length from congrArg nI (show Z1 14 = s9.1.length from y14)) ?_
                  exact gs_iret (v := (nI s9.1.length)) hx hb hr rfl hK hE hz hG hS hlocks (by first | decide | omega | (dsimp only [headSpec]; omega)) (by first | decide | omega | (dsimp only [headSpec]; omega)) (by rw [oneM_r hmk hsa hfe (toN0 c_162)]; exact ⟨⟨hNN, hnr, hFB, tpB_app hTB hfsT yTN hrc1, hrc1, ⟨_, hc_125, (yz 0 (by simp)).trans z0, (yz 1 (by simp)).trans z1, (yz 4 (by simp)).trans z4, (by rw [List.length_append]; rfl), (yz 16 (by simp)).trans z16, (yz 17 (by simp)).trans z17, (by show sa + _ = sa + _; congr 1; first | (rw [if_pos (List.length_eq_zero_iff.mp c_200)]; done) | (rw [if_neg (fun z => c_200 (by rw [z]; rfl))])), rfl⟩, ⟨_, hc_107, hcw⟩, (hfac.fr hNN [0, 2, 5, 6, 7, 8, 9, 10, 17, 18, 19, 20] fr_126 (by decide) (by decide)), ⟨_, _, _, _, hc_116, hc_117, hc_118, hc_119, yT⟩, ⟨_, hc_108, by rw [if_neg (by rw [toN0 c_162]; decide)] at hg1; exact hg1⟩, ⟨_, hc_120, hg3⟩, ⟨_, _, _, _, _, _, hc_109, hc_110, hc_111, hc_112, hc_113, hc_114, hQl, hQ, hdr⟩, ⟨_, _, _, _, _, hc_115, hc_121, hc_122, hc_123, hc_124⟩⟩, fr_126.wk (by simp), rfl⟩) d_MO_oneRound_216
                · have c_200 : s9.1.length = 0 := gs_z (by omega) c_200
                  refine lv_iconst (v := nI 1) hx hb d_MO_oneRound_203 (by decide) ?_
                  refine lv_goto (tgt := 208) hx hb d_MO_oneRound_204 (by decide) ?_
                  refine lv_iadd hx hb d_MO_oneRound_208 ?_
                  refine gs_top (nI_add sa 1) ?_
                  refine gs_put hx hb ht hown hK hG hS k_MO hc_104 25 (by decide) w_687 rfl rfl rfl (Nat.le_of_ble_eq_true rfl) d_MO_oneRound_209 (fun H locs hG hS => ?_)
                  have hG : gs_H X (gs_up σ_85 mo (moE A (va_up (va_up (va_up Z1 26 (rc + 1)) 7 (T.length + s9.1.length)) 25 (sa + 1)))) H := hG
                  obtain ⟨σ_127, eσ_127⟩ : ∃ zq, zq = gs_up σ_85 mo (moE A (va_up (va_up (va_up Z1 26 (rc + 1)) 7 (T.length + s9.1.length)) 25 (sa + 1))) := ⟨_, rfl⟩
                  rw [← eσ_127] at hG
                  have hc_128 : σ_127 (A 2) = some (gs_ia X 12 f2) := by rw [eσ_127]; exact gs_ku (gs_ne hc_86 hc_104 (by simp)) hc_86
                  have hc_129 : σ_127 (A 12) = some (gs_la X 49152 g1) := by rw [eσ_127]; exact gs_ku (gs_ne hc_87 hc_104 (by simp)) hc_87
                  have hc_130 : σ_127 (A 18) = some (gs_ia X 25 f18) := by rw [eσ_127]; exact gs_ku (gs_ne hc_88 hc_104 (by simp)) hc_88
                  have hc_131 : σ_127 (A 19) = some (gs_ia X 75 f19) := by rw [eσ_127]; exact gs_ku (gs_ne hc_89 hc_104 (by simp)) hc_89
                  have hc_132 : σ_127 (A 20) = some (gs_ia X 25 f20) := by rw [eσ_127]; exact gs_ku (gs_ne hc_90 hc_104 (by simp)) hc_90
                  have hc_133 : σ_127 (A 21) = some (gs_ia X 150 f21) := by rw [eσ_127]; exact gs_ku (gs_ne hc_91 hc_104 (by simp)) hc_91
                  have hc_134 : σ_127 (A 22) = some (gs_ia X 150 f22) := by rw [eσ_127]; exact gs_ku (gs_ne hc_92 hc_104 (by simp)) hc_92
                  have hc_135 : σ_127 (A 23) = some (gs_ia X 450 f23) := by rw [eσ_127]; exact gs_ku (gs_ne hc_93 hc_104 (by simp)) hc_93
                  have hc_136 : σ_127 (A 3) = some (gs_ia X 12 fz) := by rw [eσ_127]; exact gs_ku (gs_ne hc_94 hc_104 (by simp)) hc_94
                  have hc_137 : σ_127 (A 8) = some (gs_ia X 320 a8) := by rw [eσ_127]; exact gs_ku (gs_ne hc_95 hc_104 (by simp)) hc_95
                  have hc_138 : σ_127 (A 9) = some (gs_ia X 320 a9) := by rw [eσ_127]; exact gs_ku (gs_ne hc_96 hc_104 (by simp)) hc_96
                  have hc_139 : σ_127 (A 10) = some (gs_ia X 320 a10) := by rw [eσ_127]; exact gs_ku (gs_ne hc_97 hc_104 (by simp)) hc_97
                  have hc_140 : σ_127 (A 11) = some (gs_ia X 320 a11) := by rw [eσ_127]; exact gs_ku (gs_ne hc_98 hc_104 (by simp)) hc_98
                  have hc_141 : σ_127 (A 13) = some (gs_la X 49152 g2) := by rw [eσ_127]; exact gs_ku (gs_ne hc_99 hc_104 (by simp)) hc_99
                  have hc_142 : σ_127 (A 24) = some (gs_ia X 8 a24) := by rw [eσ_127]; exact gs_ku (gs_ne hc_100 hc_104 (by simp)) hc_100
                  have hc_143 : σ_127 (A 28) = some (gs_ia X 3 h28) := by rw [eσ_127]; exact gs_ku (gs_ne hc_101 hc_104 (by simp)) hc_101
                  have hc_144 : σ_127 (A 29) = some (gs_ia X 3 h29) := by rw [eσ_127]; exact gs_ku (gs_ne hc_102 hc_104 (by simp)) hc_102
                  have hc_145 : σ_127 (A 30) = some (gs_ia X 3 h30) := by rw [eσ_127]; exact gs_ku (gs_ne hc_103 hc_104 (by simp)) hc_103
                  have hc_146 : σ_127 mo = some (moE A (va_up (va_up (va_up Z1 26 (rc + 1)) 7 (T.length + s9.1.length)) 25 (sa + 1))) := by rw [eσ_127]; exact gs_us
                  have fr_147 : frm [mo, A 3, A 8, A 9, A 10, A 11, A 12, A 13, A 24, A 28, A 29, A 30] σ σ_127 := by rw [eσ_127]; exact fr_105.up (by simp)
                  refine lv_aload_n hx hb d_MO_oneRound_212 rfl (lv_at hl 1 rfl) ?_
                  refine gs_get (v := .int (nI (Z1 14))) hx hb ht hown hK hG k_MO hc_146 14 (by decide) w_676 rfl d_MO_oneRound_213 ?_
                  refine gs_top (show nI (Z1 14) = nI s9.1.length from congrArg nI (show Z1 14 = s9.1.length from y14)) ?_
                  exact gs_iret (v := (nI s9.1.length)) hx hb hr rfl hK hE hz hG hS hlocks (by first | decide | omega | (dsimp only [headSpec]; omega)) (by first | decide | omega | (dsimp only [headSpec]; omega)) (by rw [oneM_r hmk hsa hfe (toN0 c_162)]; exact ⟨⟨hNN, hnr, hFB, tpB_app hTB hfsT yTN hrc1, hrc1, ⟨_, hc_146, (yz 0 (by simp)).trans z0, (yz 1 (by simp)).trans z1, (yz 4 (by simp)).trans z4, (by rw [List.length_append]; rfl), (yz 16 (by simp)).trans z16, (yz 17 (by simp)).trans z17, (by show sa + _ = sa + _; congr 1; first | (rw [if_pos (List.length_eq_zero_iff.mp c_200)]; done) | (rw [if_neg (fun z => c_200 (by rw [z]; rfl))])), rfl⟩, ⟨_, hc_128, hcw⟩, (hfac.fr hNN [0, 2, 5, 6, 7, 8, 9, 10, 17, 18, 19, 20] fr_147 (by decide) (by decide)), ⟨_, _, _, _, hc_137, hc_138, hc_139, hc_140, yT⟩, ⟨_, hc_129, by rw [if_neg (by rw [toN0 c_162]; decide)] at hg1; exact hg1⟩, ⟨_, hc_141, hg3⟩, ⟨_, _, _, _, _, _, hc_130, hc_131, hc_132, hc_133, hc_134, hc_135, hQl, hQ, hdr⟩, ⟨_, _, _, _, _, hc_136, hc_142, hc_143, hc_144, hc_145⟩⟩, fr_147.wk (by simp), rfl⟩) d_MO_oneRound_216
              · have c_162 : ¬ s9.2.1.toNat = 0 := gs_zn (by omega) c_162
                refine lv_bipush (v := -5) hx hb d_MO_oneRound_165 (by decide) ?_
                exact gs_iret (v := (-5)) hx hb hr rfl hK hE hz hG hS hlocks (by first | decide | omega | (dsimp only [headSpec]; omega)) (by first | decide | omega | (dsimp only [headSpec]; omega)) (by rw [oneM_f hmk hsa hfe (toN0' c_162)]; exact ⟨⟨hNN, hnr, hFB, hTB, hrc, ⟨Z1, w_mo, (yz 0 (by simp)).trans z0, (yz 1 (by simp)).trans z1, (yz 4 (by simp)).trans z4, z7s, (yz 16 (by simp)).trans z16, (yz 17 (by simp)).trans z17, (yz 25 (by simp)).trans z25, (yz 26 (by simp)).trans z26⟩, ⟨_, v_2, hcw⟩, (hfac.fr hNN [0, 2, 5, 6, 7, 8, 9, 10, 17, 18, 19, 20] fr2 (by decide) (by decide)), ⟨_, _, _, _, w_8, w_9, v_10, v_11, tpOK_l yT⟩, ⟨_, w_12, by rw [if_pos (toN0' c_162)] at hg1; exact hg1⟩, ⟨_, w_13, hg3⟩, ⟨_, _, _, _, _, _, v_18, v_19, v_20, v_21, v_22, v_23, hQl, hQ, hdr⟩, ⟨_, _, _, _, _, v_3, v_24, v_28, v_29, v_30⟩⟩, fr2.wk (by simp), rfl⟩) d_MO_oneRound_167
              
            · have c_98 : ¬ (T.length + s9.1.length) ≤ (T.length + i) := mt (nI_leI (by omega) (by omega)).mpr c_98
              have hiN : i < s9.1.length := by omega
              obtain ⟨x, hx9⟩ := get_ex (L := s9.1) (j := i) hiN
              obtain ⟨hx1, hx2, _, _⟩ := yT _ _ (getapp hx9)
              obtain ⟨hx3, hx4, _, hx5⟩ := hfsT _ (List.mem_of_getElem? hx9)
              refine lv_aload_n hx hb d_MO_oneRound_101 rfl (lv_at hl 1 rfl) ?_
              refine gs_get (v := .ref (A 13)) hx hb ht hown hK hG k_MO w_mo 13 (by decide) w_675 rfl d_MO_oneRound_102 ?_
              refine lv_aload_n hx hb d_MO_oneRound_105 rfl (lv_at hl 1 rfl) ?_
              refine gs_get (v := .ref (A 8)) hx hb ht hown hK hG k_MO w_mo 8 (by decide) w_670 rfl d_MO_oneRound_106 ?_
              refine lv_iload_n hx hb d_MO_oneRound_109 rfl (lv_at hl 0 rfl) ?_
              refine gs_iald hx hb hK hG w_8 (j := T.length + i) (by omega) (by omega) d_MO_oneRound_110 ?_
              refine gs_top (show (a8 (T.length + i)) = (nI x.1) from hx1) ?_
              refine lv_aload_n hx hb d_MO_oneRound_111 rfl (lv_at hl 1 rfl) ?_
              refine gs_get (v := .ref (A 9)) hx hb ht hown hK hG k_MO w_mo 9 (by decide) w_671 rfl d_MO_oneRound_112 ?_
              refine lv_iload_n hx hb d_MO_oneRound_115 rfl (lv_at hl 0 rfl) ?_
              refine gs_iald hx hb hK hG w_9 (j := T.length + i) (by omega) (by omega) d_MO_oneRound_116 ?_
              refine gs_top (show (a9 (T.length + i)) = (nI x.2.1) from hx2) ?_
              refine lv_iconst (v := nI 0) hx hb d_MO_oneRound_117 (by decide) ?_
              refine gs_callSv (As := [.ref (A 13), .int (nI x.1), .int (nI x.2.1), .int (nI 0)]) (rest := []) ⟨hx, hb, hml, hown, hts⟩ hK hE hz hG hS (c_MO_setb l X σ2 (A 13) x.1 x.2.1 g2 false w_13 hx3 hx4) mS_MO_setb w_769 rfl hl.1 rfl (Nat.le_of_ble_eq_true rfl) ⟨(by first | decide | omega | (dsimp only [headSpec]; omega)), (by first | decide | omega | (dsimp only [headSpec]; omega))⟩ ⟨(by first | decide | omega | (dsimp only [headSpec]; omega)), (by first | decide | omega | (dsimp only [headSpec]; omega))⟩ d_MO_oneRound_118 (fun σ_118 H locs hp_118 hG hS => ?_)
              rw [hp_118] at hG
              have hG : gs_H X (gs_up σ2 (A 13) (gs_la X 49152 (stB g2 (262144 * x.1 + x.2.1) false))) H := hG
              obtain ⟨σ_148, eσ_148⟩ : ∃ zq, zq = gs_up σ2 (A 13) (gs_la X 49152 (stB g2 (262144 * x.1 + x.2.1) false)) := ⟨_, rfl⟩
              rw [← eσ_148] at hG
              have hc_149 : σ_148 mo = some (moE A Z1) := by rw [eσ_148]; exact gs_ku (gs_ne w_mo w_13 (by simp)) w_mo
              have hc_150 : σ_148 (A 8) = some (gs_ia X 320 a8) := by rw [eσ_148]; exact gs_ku (ndp hN 4 9 (by decide) rfl rfl) w_8
              have hc_151 : σ_148 (A 9) = some (gs_ia X 320 a9) := by rw [eσ_148]; exact gs_ku (ndp hN 5 9 (by decide) rfl rfl) w_9
              have hc_152 : σ_148 (A 12) = some (gs_la X 49152 g1) := by rw [eσ_148]; exact gs_ku (ndp hN 8 9 (by decide) rfl rfl) w_12
              have hc_153 : σ_148 (A 13) = some (gs_la X 49152 (stB g2 (262144 * x.1 + x.2.1) false)) := by rw [eσ_148]; exact gs_us
              have fr_154 : frm [A 12, A 13] σ1 σ_148 := by rw [eσ_148]; exact hf2.up (by simp)
              refine lv_aload_n hx hb d_MO_oneRound_121 rfl (lv_at hl 1 rfl) ?_
              refine gs_get (v := .ref (A 12)) hx hb ht hown hK hG k_MO hc_149 12 (by decide) w_674 rfl d_MO_oneRound_122 ?_
              refine lv_aload_n hx hb d_MO_oneRound_125 rfl (lv_at hl 1 rfl) ?_
              refine gs_get (v := .ref (A 8)) hx hb ht hown hK hG k_MO hc_149 8 (by decide) w_670 rfl d_MO_oneRound_126 ?_
              refine lv_iload_n hx hb d_MO_oneRound_129 rfl (lv_at hl 0 rfl) ?_
              refine gs_iald hx hb hK hG hc_150 (j := T.length + i) (by omega) (by omega) d_MO_oneRound_130 ?_
              refine gs_top (show (a8 (T.length + i)) = (nI x.1) from hx1) ?_
              refine lv_aload_n hx hb d_MO_oneRound_131 rfl (lv_at hl 1 rfl) ?_
              refine gs_get (v := .ref (A 9)) hx hb ht hown hK hG k_MO hc_149 9 (by decide) w_671 rfl d_MO_oneRound_132 ?_
              refine lv_iload_n hx hb d_MO_oneRound_135 rfl (lv_at hl 0 rfl) ?_
              refine gs_iald hx hb hK hG hc_151 (j := T.length + i) (by omega) (by omega) d_MO_oneRound_136 ?_
              refine gs_top (show (a9 (T.length + i)) = (nI x.2.1) from hx2) ?_
              refine lv_aload_n hx hb d_MO_oneRound_137 rfl (lv_at hl 1 rfl) ?_
              refine gs_get (v := .int (nI (Z1 15))) hx hb ht hown hK hG k_MO hc_149 15 (by decide) w_677 rfl d_MO_oneRound_138 ?_
              refine gs_top (show nI (Z1 15) = nI s9.2.1.toNat from congrArg nI (show Z1 15 = s9.2.1.toNat from y15)) ?_
              refine lv_if_ne (tgt := 148) hx hb d_MO_oneRound_141 (by decide) (fun c_141 => ?_) (fun c_141 => ?_)
              · have c_141 : ¬ s9.2.1.toNat = 0 := gs_zn (by omega) c_141
                refine lv_iconst (v := nI 0) hx hb d_MO_oneRound_148 (by decide) ?_
                refine gs_callSv (As := [.ref (A 12), .int (nI x.1), .int (nI x.2.1), .int (nI 0)]) (rest := []) ⟨hx, hb, hml, hown, hts⟩ hK hE hz hG hS (c_MO_setb l X σ_148 (A 12) x.1 x.2.1 g1 false hc_152 hx3 hx4) mS_MO_setb w_769 rfl hl.1 rfl (Nat.le_of_ble_eq_true rfl) ⟨(by first | decide | omega | (dsimp only [headSpec]; omega)), (by first | decide | omega | (dsimp only [headSpec]; omega))⟩ ⟨(by first | decide | omega | (dsimp only [headSpec]; omega)), (by first | decide | omega | (dsimp only [headSpec]; omega))⟩ d_MO_oneRound_149 (fun σ_149 H locs hp_149 hG hS => ?_)
                rw [hp_149] at hG
                have hG : gs_H X (gs_up σ_148 (A 12) (gs_la X 49152 (stB g1 (262144 * x.1 + x.2.1) false))) H := hG
                obtain ⟨σ_155, eσ_155⟩ : ∃ zq, zq = gs_up σ_148 (A 12) (gs_la X 49152 (stB g1 (262144 * x.1 + x.2.1) false)) := ⟨_, rfl⟩
                rw [← eσ_155] at hG
                have hc_156 : σ_155 mo = some (moE A Z1) := by rw [eσ_155]; exact gs_ku (gs_ne hc_149 hc_152 (by simp)) hc_149
                have hc_157 : σ_155 (A 8) = some (gs_ia X 320 a8) := by rw [eσ_155]; exact gs_ku (ndp hN 4 8 (by decide) rfl rfl) hc_150
                have hc_158 : σ_155 (A 9) = some (gs_ia X 320 a9) := by rw [eσ_155]; exact gs_ku (ndp hN 5 8 (by decide) rfl rfl) hc_151
                have hc_159 : σ_155 (A 13) = some (gs_la X 49152 (stB g2 (262144 * x.1 + x.2.1) false)) := by rw [eσ_155]; exact gs_ku (Ne.symm (ndp hN 8 9 (by decide) rfl rfl)) hc_153
                have hc_160 : σ_155 (A 12) = some (gs_la X 49152 (stB g1 (262144 * x.1 + x.2.1) false)) := by rw [eσ_155]; exact gs_us
                have fr_161 : frm [A 12, A 13] σ1 σ_155 := by rw [eσ_155]; exact fr_154.up (by simp)
                refine lv_iinc (v := (nI ((T.length + i) + 1))) (lv' := [(2, .int (nI ((T.length + i) + 1))), (0, .ref mo)]) hx hb d_MO_oneRound_152 hl (k := 0) rfl (by exact nI_1 _) (by decide) rfl (fun ls hl => ?_)
                refine lv_goto (tgt := 88) hx hb d_MO_oneRound_155 (by decide) ?_
                exact ih (i + 1) (stB g1 (262144 * x.1 + x.2.1) false) (stB g2 (262144 * x.1 + x.2.1) false) σ_155 (by omega) (clr_step hx9 hg2) (by rw [if_pos (toN0' c_141)] at hg1 ⊢; exact bO_keep hg1 hx5) fr_161 (by omega) hc_156 hc_157 hc_158 hc_160 hc_159 H locs hG hS ls (lv_sub hl [0, 1] rfl)
              · have c_141 : s9.2.1.toNat = 0 := gs_z (by omega) c_141
                refine lv_iconst (v := nI 1) hx hb d_MO_oneRound_144 (by decide) ?_
                refine lv_goto (tgt := 149) hx hb d_MO_oneRound_145 (by decide) ?_
                refine gs_callSv (As := [.ref (A 12), .int (nI x.1), .int (nI x.2.1), .int (nI 1)]) (rest := []) ⟨hx, hb, hml, hown, hts⟩ hK hE hz hG hS (c_MO_setb l X σ_148 (A 12) x.1 x.2.1 g1 true hc_152 hx3 hx4) mS_MO_setb w_769 rfl hl.1 rfl (Nat.le_of_ble_eq_true rfl) ⟨(by first | decide | omega | (dsimp only [headSpec]; omega)), (by first | decide | omega | (dsimp only [headSpec]; omega))⟩ ⟨(by first | decide | omega | (dsimp only [headSpec]; omega)), (by first | decide | omega | (dsimp only [headSpec]; omega))⟩ d_MO_oneRound_149 (fun σ_149 H locs hp_149 hG hS => ?_)
                rw [hp_149] at hG
                have hG : gs_H X (gs_up σ_148 (A 12) (gs_la X 49152 (stB g1 (262144 * x.1 + x.2.1) true))) H := hG
                obtain ⟨σ_162, eσ_162⟩ : ∃ zq, zq = gs_up σ_148 (A 12) (gs_la X 49152 (stB g1 (262144 * x.1 + x.2.1) true)) := ⟨_, rfl⟩
                rw [← eσ_162] at hG
                have hc_163 : σ_162 mo = some (moE A Z1) := by rw [eσ_162]; exact gs_ku (gs_ne hc_149 hc_152 (by simp)) hc_149
                have hc_164 : σ_162 (A 8) = some (gs_ia X 320 a8) := by rw [eσ_162]; exact gs_ku (ndp hN 4 8 (by decide) rfl rfl) hc_150
                have hc_165 : σ_162 (A 9) = some (gs_ia X 320 a9) := by rw [eσ_162]; exact gs_ku (ndp hN 5 8 (by decide) rfl rfl) hc_151
                have hc_166 : σ_162 (A 13) = some (gs_la X 49152 (stB g2 (262144 * x.1 + x.2.1) false)) := by rw [eσ_162]; exact gs_ku (Ne.symm (ndp hN 8 9 (by decide) rfl rfl)) hc_153
                have hc_167 : σ_162 (A 12) = some (gs_la X 49152 (stB g1 (262144 * x.1 + x.2.1) true)) := by rw [eσ_162]; exact gs_us
                have fr_168 : frm [A 12, A 13] σ1 σ_162 := by rw [eσ_162]; exact fr_154.up (by simp)
                refine lv_iinc (v := (nI ((T.length + i) + 1))) (lv' := [(2, .int (nI ((T.length + i) + 1))), (0, .ref mo)]) hx hb d_MO_oneRound_152 hl (k := 0) rfl (by exact nI_1 _) (by decide) rfl (fun ls hl => ?_)
                refine lv_goto (tgt := 88) hx hb d_MO_oneRound_155 (by decide) ?_
                exact ih (i + 1) (stB g1 (262144 * x.1 + x.2.1) true) (stB g2 (262144 * x.1 + x.2.1) false) σ_162 (by omega) (clr_step hx9 hg2) (by rw [if_neg (by rw [toN0 c_141]; decide)] at hg1 ⊢; rw [take_snoc hx9, ← List.append_assoc, tcs_snoc]; exact bO_snoc hg1) fr_168 (by omega) hc_163 hc_164 hc_165 hc_167 hc_166 H locs hG hS ls (lv_sub hl [0, 1] rfl)
        refine lv_aload_n hx hb d_MO_oneRound_83 rfl (lv_at hl 0 rfl) ?_
        refine gs_get (v := .int (nI (Z1 7))) hx hb ht hown hK hG k_MO y_mo 7 (by decide) w_669 rfl d_MO_oneRound_84 ?_
        refine gs_top (show nI (Z1 7) = nI T.length from congrArg nI (show Z1 7 = T.length from z7s)) ?_
        refine lv_istore_n (lv' := [(2, .int (nI T.length)), (0, .ref mo)]) hx hb d_MO_oneRound_87 rfl hl (by decide) rfl (fun ls hl => ?_)
        exact loopz (s9.1.length + 1) 0 g b3 σ1 (by omega) (fun k => by rw [yb k]; simp) (by split; exact hbi; simpa using hbi) frm.rf (by omega) y_mo y_8 y_9 x_12 y_13 H locs hG hS ls (lv_sub hl [0, 1] rfl)
      have loopq : ∀ (fl q : Nat) (s9 : FS) (h28 h29 h30 : Nat → Int32) (σ1 : gs_St), q ≤ Q.length → rdF cw T rc sa (mfs Q nr).1 (Q.drop q) q s9 = (rdF cw T rc sa (mfs Q nr).1 Q 0 ([], false, Z 27)) → Q.length - q < fl → trW X σ_43 σ1 mo A (va_up (va_up Z 14 0) 15 0) T true s9 h28 h29 h30 → ∀ (H : Heap) (locs : List Loc), gs_H X σ1 H → va_S (gs_A X) s.heap H locs → ∀ ls, lv_has ls 3 [(2, .int (nI q)), (1, .int (nI (mxS (mfs Q nr).1 nr))), (0, .ref mo)] → W p l e ({ frames := 4, cells := 0, slots := 0, locals := 99 } : Room) s m ([.ref mo] : List Value).toArray below meth c H locs 0 0 (MQ below (va_Qi (fun r σ' => moA X σ' mo A cd nr cw F (oneM cw nr Q (T, sa, rc)).2.1 (oneM cw nr Q (T, sa, rc)).2.2.1 (oneM cw nr Q (T, sa, rc)).2.2.2 Q dr ∧ frm (aM mo A) σ σ' ∧ r = (oneM cw nr Q (T, sa, rc)).1) (gs_U X) (gs_A X)) ([.ref mo] : List Value).toArray s 0 0 (gs_A X)) (F0 m 45 ls []) := by
        intro fl
        induction fl with
        | zero => intro q s9 h28 h29 h30 σ1 _ _ h9; omega
        | succ fl ih =>
          intro q s9 h28 h29 h30 σ1 hq hst hmu hS9 H locs hG hS ls hl
          obtain ⟨Z1, a8, a9, a10, a11, a24, b3, y_mo, y14, y15, y27, yz, y_8, y_9, y_10, y_11, y_13, y_24, y_28, y_29, y_30, yT, yb, yTN, yfr⟩ := id hS9
          have x_2 : σ1 (A 2) = some (gs_ia X 12 f2) := kp hNN [0, 5, 6, 7, 8, 10, 17, 18, 19, 20] yfr 1 (by decide) (by decide) (by decide) rfl hc_44
          have x_12 : σ1 (A 12) = some (gs_la X 49152 g) := kp hNN [0, 5, 6, 7, 8, 10, 17, 18, 19, 20] yfr 9 (by decide) (by decide) (by decide) rfl hc_45
          have x_18 : σ1 (A 18) = some (gs_ia X 25 f18) := kp hNN [0, 5, 6, 7, 8, 10, 17, 18, 19, 20] yfr 11 (by decide) (by decide) (by decide) rfl hc_46
          have x_19 : σ1 (A 19) = some (gs_ia X 75 f19) := kp hNN [0, 5, 6, 7, 8, 10, 17, 18, 19, 20] yfr 12 (by decide) (by decide) (by decide) rfl hc_47
          have x_20 : σ1 (A 20) = some (gs_ia X 25 f20) := kp hNN [0, 5, 6, 7, 8, 10, 17, 18, 19, 20] yfr 13 (by decide) (by decide) (by decide) rfl hc_48
          have x_21 : σ1 (A 21) = some (gs_ia X 150 f21) := kp hNN [0, 5, 6, 7, 8, 10, 17, 18, 19, 20] yfr 14 (by decide) (by decide) (by decide) rfl hc_49
          have x_22 : σ1 (A 22) = some (gs_ia X 150 f22) := kp hNN [0, 5, 6, 7, 8, 10, 17, 18, 19, 20] yfr 15 (by decide) (by decide) (by decide) rfl hc_50
          have x_23 : σ1 (A 23) = some (gs_ia X 450 f23) := kp hNN [0, 5, 6, 7, 8, 10, 17, 18, 19, 20] yfr 16 (by decide) (by decide) (by decide) rfl hc_51
          have x_3 : σ1 (A 3) = some (gs_ia X 12 fz) := kp hNN [0, 5, 6, 7, 8, 10, 17, 18, 19, 20] yfr 2 (by decide) (by decide) (by decide) rfl hc_61
          have yfl : frm [mo, A 3, A 8, A 9, A 10, A 11, A 12, A 13, A 24, A 28, A 29, A 30] σ σ1 := fr_63.trans yfr (by simp)
          refine lv_iload_n hx hb d_MO_oneRound_45 rfl (lv_at hl 0 rfl) ?_
          refine lv_aload_n hx hb d_MO_oneRound_46 rfl (lv_at hl 2 rfl) ?_
          refine gs_get (v := .int (nI (Z1 16))) hx hb ht hown hK hG k_MO y_mo 16 (by decide) w_678 rfl d_MO_oneRound_47 ?_
          refine gs_top (show nI (Z1 16) = nI Q.length from congrArg nI (show Z1 16 = Q.length from (yz 16 (by simp)).trans z16)) ?_
          refine lv_icmp_ge (tgt := 83) hx hb d_MO_oneRound_50 (by decide) (fun c_50 => ?_) (fun c_50 => ?_)
          · have c_50 : Q.length ≤ q := (nI_leI (by omega) (by omega)).mp c_50
            exact k83 s9 h28 h29 h30 σ1 (by rw [← hst, show q = Q.length by omega, List.drop_length]; rfl) hS9 H locs hG hS ls (lv_sub hl [2] rfl)
          · have c_50 : ¬ Q.length ≤ q := mt (nI_leI (by omega) (by omega)).mpr c_50
            have hqQ : q < Q.length := by omega
            obtain ⟨R, hq9⟩ := get_ex (L := Q) (j := q) hqQ
            obtain ⟨hR9, hRB⟩ := hQ _ _ hq9
            obtain ⟨hwf1, hwf2⟩ := hwQ R (List.mem_of_getElem? hq9)
            have hr9 := hRB.1
            have hzr := hz9 _ hr9
            have hst2 : rdF cw T rc sa (mfs Q nr).1 (Q.drop (q + 1)) (q + 1) (rdQ cw T rc sa (mfs Q nr).1 s9 (q, R)) = (rdF cw T rc sa (mfs Q nr).1 Q 0 ([], false, Z 27)) := by rw [← hst, drop_cons9 hq9]; rfl
            refine lv_aload_n hx hb d_MO_oneRound_53 rfl (lv_at hl 2 rfl) ?_
            refine gs_get (v := .ref (A 3)) hx hb ht hown hK hG k_MO y_mo 3 (by decide) w_665 rfl d_MO_oneRound_54 ?_
            refine lv_aload_n hx hb d_MO_oneRound_57 rfl (lv_at hl 2 rfl) ?_
            refine gs_get (v := .ref (A 18)) hx hb ht hown hK hG k_MO y_mo 18 (by decide) w_680 rfl d_MO_oneRound_58 ?_
            refine lv_iload_n hx hb d_MO_oneRound_61 rfl (lv_at hl 0 rfl) ?_
            refine gs_iald hx hb hK hG x_18 (j := q) (by omega) (by omega) d_MO_oneRound_62 ?_
            refine gs_top (show (f18 q) = (nI R.1.1) from hR9.1) ?_
            refine gs_iald hx hb hK hG x_3 (j := R.1.1) (by omega) (by omega) d_MO_oneRound_63 ?_
            refine gs_top (show (fz R.1.1) = (nI ((mfs Q nr).1 R.1.1)) from hzr.1) ?_
            refine lv_aload_n hx hb d_MO_oneRound_64 rfl (lv_at hl 2 rfl) ?_
            refine gs_get (v := .int (nI (Z1 25))) hx hb ht hown hK hG k_MO y_mo 25 (by decide) w_687 rfl d_MO_oneRound_65 ?_
            refine gs_top (show nI (Z1 25) = nI sa from congrArg nI (show Z1 25 = sa from (yz 25 (by simp)).trans z25)) ?_
            have hzr2 := hzr.2
            have hsab : sa < 2 ^ 30 := hsa30
            refine lv_icmp_ne (tgt := 77) hx hb d_MO_oneRound_68 (by decide) (fun c_68 => ?_) (fun c_68 => ?_)
            · have c_68 : ¬ ((mfs Q nr).1 R.1.1) = sa := mt (nI_eq (by omega) (by omega)).mpr c_68
              refine lv_iinc (v := (nI (q + 1))) (lv' := [(2, .int (nI (q + 1))), (1, .int (nI (mxS (mfs Q nr).1 nr))), (0, .ref mo)]) hx hb d_MO_oneRound_77 hl (k := 0) rfl (by exact nI_1 _) (by decide) rfl (fun ls hl => ?_)
              refine lv_goto (tgt := 45) hx hb d_MO_oneRound_80 (by decide) ?_
              rw [show rdQ cw T rc sa (mfs Q nr).1 s9 (q, R) = s9 from if_neg c_68] at hst2
              exact ih (q + 1) s9 h28 h29 h30 σ1 (by omega) hst2 (by omega) hS9 H locs hG hS ls (lv_sub hl [0, 1, 2] rfl)
            · have c_68 : ((mfs Q nr).1 R.1.1) = sa :=  (nI_eq (by omega) (by omega)).mp c_68
              refine lv_aload_n hx hb d_MO_oneRound_71 rfl (lv_at hl 2 rfl) ?_
              refine lv_iload_n hx hb d_MO_oneRound_72 rfl (lv_at hl 0 rfl) ?_
              refine lv_iconst (v := nI 1) hx hb d_MO_oneRound_73 (by decide) ?_
              refine gs_callVv (As := [.int (nI q), .int (nI 1)]) (rest := []) ⟨hx, hb, hml, hown, hts⟩ hK hE hz hG hS (c_MO_tries l X σ1 mo A Z1 f2 a8 a9 a10 a11 f18 f19 f20 f21 f22 f23 a24 h28 h29 h30 g b3 T s9 rc nr cw q R true y_mo hNN x_2 x_12 x_18 x_19 x_20 x_21 x_22 x_23 y_8 y_9 y_10 y_11 y_13 y_24 y_28 y_29 y_30 ((yz 7 (by simp)).trans z7) y14 y15 y27 ((yz 26 (by simp)).trans z26) yT hTB hbi yb yTN hcw hnr (hQ _ _ hq9).1 (hQ _ _ hq9).2 (by omega) hwf1 hwf2) mV_MO_tries w_840 y_mo rfl rfl hl.1 rfl (Nat.le_of_ble_eq_true rfl) ⟨(by first | decide | omega | (dsimp only [headSpec]; omega)), (by first | decide | omega | (dsimp only [headSpec]; omega))⟩ ⟨(by first | decide | omega | (dsimp only [headSpec]; omega)), (by first | decide | omega | (dsimp only [headSpec]; omega))⟩ d_MO_oneRound_74 (fun σ_74 H locs hp_74 hG hS => ?_)
              obtain ⟨ov9, n28, n29, n30, hSn⟩ := hp_74
              rw [show rdQ cw T rc sa (mfs Q nr).1 s9 (q, R) = trM cw T rc q R true (hls R) (fun _ => none) s9 from if_pos c_68] at hst2
              refine lv_iinc (v := (nI (q + 1))) (lv' := [(2, .int (nI (q + 1))), (1, .int (nI (mxS (mfs Q nr).1 nr))), (0, .ref mo)]) hx hb d_MO_oneRound_77 hl (k := 0) rfl (by exact nI_1 _) (by decide) rfl (fun ls hl => ?_)
              refine lv_goto (tgt := 45) hx hb d_MO_oneRound_80 (by decide) ?_
              exact ih (q + 1) _ n28 n29 n30 σ_74 (by omega) hst2 (by omega) (hSn.trans yfr yz).toW H locs hG hS ls (lv_sub hl [0, 1, 2] rfl)
      exact loopq (Q.length + 1) 0 ([], false, Z 27) f28 f29 f30 σ_43 (by omega) rfl (by omega) ⟨(va_up (va_up Z 14 0) 15 0), f8, f9, f10, f11, f24, g3, hc_62, fun _ => rfl, fun _ => rfl, rfl, zfr.rf, hc_52, hc_53, hc_54, hc_55, hc_56, hc_57, hc_58, hc_59, hc_60, (by simpa using hT), hb3, (by simpa using hTl), frm.rf⟩ H locs hG hS ls (lv_sub hl [0, 1, 2] rfl)
    · have c_16 : sa = (mxS (mfs Q nr).1 nr) :=  (nI_eq (by omega) (by omega)).mp c_16
      omega
