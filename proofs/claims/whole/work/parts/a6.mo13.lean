set_option maxHeartbeats 4000000 in
set_option maxRecDepth 100000 in
/-- the reference: matches of no rule -/
theorem c_MO_matches_t (l : Launch) (X : gs_X) (σ : gs_St) (mo : Nat) (A : Nat → Nat) (cd nr : Nat) (cw : Nat → Nat) (F : List (Nat × Nat)) (T : List MT) (sa rc : Nat) (Q : List MR) (dr : Option MR) (x : Int32)
    (hM : moA X σ mo A cd nr cw F T sa rc Q dr) (hok : wi Q.length x = false) : gs_Mi l X y_MO_matches b_MO_matches 2 (some .int) ({ frames := 0, cells := 0, slots := 0, locals := 0 }) σ [.ref mo, .int x] (fun r σ' => moA X σ' mo A 1 nr cw F T sa rc Q dr ∧ frm (aM mo A) σ σ' ∧ r = nI 0) := by
  refine Met.ofW (cc := b_MO_matches) (maxL := 2) (ret := (some .int)) (by decide) rfl ?_
  intro p e s m args below meth c s₁ B₀ hml hv
  obtain ⟨rfl, hK, hG, hz, hE⟩ := hv
  have hx := B₀.exec
  have hb := B₀.bytes
  have hr := B₀.returns
  have hts := atoms_spec (ws := gs_ws y_MO_matches b_MO_matches 2 (some .int)) B₀.pre
  have ht : ∀ w ∈ gs_w, w.before _ s = true := fun w h => hts w (List.mem_cons_of_mem _ h)
  have hown : s.vm.findClass R_MO = some m.cls := findClass_of_methodNamed B₀.named
  have hlocks := B₀.notSynchronized
  have hA : ∀ q : Nat, s.heap.size ≤ q → gs_A X q := fun q h => Nat.le_trans hz h
  have hS : va_S (gs_A X) s.heap s.heap [] := va_S.rf
  have hl := lv_entry ([.ref mo, .int x]) (n := 2) (Nat.le_of_ble_eq_true rfl)
  rw [lg_entry_eq]
  generalize (lg_sl ([.ref mo, .int x]) ++ List.replicate (2 - (lg_sl ([.ref mo, .int x])).length) Slot.unset).toArray = ls at hl ⊢
  have hl : lv_has ls 2 [(0, .ref mo), (1, .int x)] := hl
  obtain ⟨hNN, hnr, hFB, hTB, hrc, ⟨Z, m0, z0, z1, z4, z7, z16, z17, z25, z26⟩, hcol, hfac, htup, hbit, hfnd, hrul, hscr⟩ := id hM
  have hN := hN1 hNN
  have hFl := hFB.1
  have hTl := hTB.1
  
  have fr0 : frm [mo] σ σ := frm.rf
  refine lv_aload_n hx hb d_MO_matches_0 rfl (lv_at hl 0 rfl) ?_
  refine lv_iload_n hx hb d_MO_matches_1 rfl (lv_at hl 1 rfl) ?_
  refine lv_if_lt (tgt := 13) hx hb d_MO_matches_2 (by decide) (fun c_2 => ?_) (fun c_2 => ?_)
  · refine lv_iconst (v := nI 1) hx hb d_MO_matches_13 (by decide) ?_
    refine lv_goto (tgt := 18) hx hb d_MO_matches_14 (by decide) ?_
    refine gs_put hx hb ht hown hK hG hS k_MO m0 0 (by decide) w_662 rfl rfl rfl (Nat.le_of_ble_eq_true rfl) d_MO_matches_18 (fun H locs hG hS => ?_)
    have hG : gs_H X (gs_up σ mo (moE A (va_up Z 0 1))) H := hG
    obtain ⟨σ_1, eσ_1⟩ : ∃ zq, zq = gs_up σ mo (moE A (va_up Z 0 1)) := ⟨_, rfl⟩
    rw [← eσ_1] at hG
    have hc_2 : σ_1 mo = some (moE A (va_up Z 0 1)) := by rw [eσ_1]; exact gs_us
    have fr_3 : frm [mo] σ σ_1 := by rw [eσ_1]; exact fr0.up (by simp)
    refine lv_aload_n hx hb d_MO_matches_21 rfl (lv_at hl 0 rfl) ?_
    refine lv_iconst (v := nI 0) hx hb d_MO_matches_22 (by decide) ?_
    refine gs_put hx hb ht hown hK hG hS k_MO hc_2 27 (by decide) w_689 rfl rfl rfl (Nat.le_of_ble_eq_true rfl) d_MO_matches_23 (fun H locs hG hS => ?_)
    have hG : gs_H X (gs_up σ_1 mo (moE A (va_up (va_up Z 0 1) 27 0))) H := hG
    obtain ⟨σ_4, eσ_4⟩ : ∃ zq, zq = gs_up σ_1 mo (moE A (va_up (va_up Z 0 1) 27 0)) := ⟨_, rfl⟩
    rw [← eσ_4] at hG
    have hc_5 : σ_4 mo = some (moE A (va_up (va_up Z 0 1) 27 0)) := by rw [eσ_4]; exact gs_us
    have fr_6 : frm [mo] σ σ_4 := by rw [eσ_4]; exact fr_3.up (by simp)
    refine lv_aload_n hx hb d_MO_matches_26 rfl (lv_at hl 0 rfl) ?_
    refine gs_get (v := .int (nI 1)) hx hb ht hown hK hG k_MO hc_5 0 (by decide) w_662 rfl d_MO_matches_27 ?_
    refine lv_if_ne (tgt := 39) hx hb d_MO_matches_30 (by decide) (fun c_30 => ?_) (fun c_30 => ?_)
    · have c_30 : ¬ 1 = 0 := gs_zn (by omega) c_30
      refine lv_aload_n hx hb d_MO_matches_39 rfl (lv_at hl 0 rfl) ?_
      refine gs_get (v := .int (nI 0)) hx hb ht hown hK hG k_MO hc_5 27 (by decide) w_689 rfl d_MO_matches_40 ?_
      exact gs_iret (v := (nI 0)) hx hb hr rfl hK hE hz hG hS hlocks (by first | decide | omega | (dsimp only [headSpec]; omega)) (by first | decide | omega | (dsimp only [headSpec]; omega)) (⟨(hM.num fr_6 ⟨_, hc_5, rfl, z1, z4, z7, z16, z17, z25, z26⟩ hrc), fr_6.wk (by simp), rfl⟩) d_MO_matches_43
    · exact absurd c_30 (by decide)
  · refine lv_iload_n hx hb d_MO_matches_5 rfl (lv_at hl 1 rfl) ?_
    refine lv_aload_n hx hb d_MO_matches_6 rfl (lv_at hl 0 rfl) ?_
    refine gs_get (v := .int (nI (Z 16))) hx hb ht hown hK hG k_MO m0 16 (by decide) w_678 rfl d_MO_matches_7 ?_
    refine gs_top (show nI (Z 16) = nI Q.length from congrArg nI (show Z 16 = Q.length from z16)) ?_
    refine lv_icmp_lt (tgt := 17) hx hb d_MO_matches_10 (by decide) (fun c_10 => ?_) (fun c_10 => ?_)
    · exact absurd hok (by unfold wi; rw [decide_eq_false c_2, decide_eq_true c_10]; decide)
    · refine lv_iconst (v := nI 1) hx hb d_MO_matches_13 (by decide) ?_
      refine lv_goto (tgt := 18) hx hb d_MO_matches_14 (by decide) ?_
      refine gs_put hx hb ht hown hK hG hS k_MO m0 0 (by decide) w_662 rfl rfl rfl (Nat.le_of_ble_eq_true rfl) d_MO_matches_18 (fun H locs hG hS => ?_)
      have hG : gs_H X (gs_up σ mo (moE A (va_up Z 0 1))) H := hG
      obtain ⟨σ_7, eσ_7⟩ : ∃ zq, zq = gs_up σ mo (moE A (va_up Z 0 1)) := ⟨_, rfl⟩
      rw [← eσ_7] at hG
      have hc_8 : σ_7 mo = some (moE A (va_up Z 0 1)) := by rw [eσ_7]; exact gs_us
      have fr_9 : frm [mo] σ σ_7 := by rw [eσ_7]; exact fr0.up (by simp)
      refine lv_aload_n hx hb d_MO_matches_21 rfl (lv_at hl 0 rfl) ?_
      refine lv_iconst (v := nI 0) hx hb d_MO_matches_22 (by decide) ?_
      refine gs_put hx hb ht hown hK hG hS k_MO hc_8 27 (by decide) w_689 rfl rfl rfl (Nat.le_of_ble_eq_true rfl) d_MO_matches_23 (fun H locs hG hS => ?_)
      have hG : gs_H X (gs_up σ_7 mo (moE A (va_up (va_up Z 0 1) 27 0))) H := hG
      obtain ⟨σ_10, eσ_10⟩ : ∃ zq, zq = gs_up σ_7 mo (moE A (va_up (va_up Z 0 1) 27 0)) := ⟨_, rfl⟩
      rw [← eσ_10] at hG
      have hc_11 : σ_10 mo = some (moE A (va_up (va_up Z 0 1) 27 0)) := by rw [eσ_10]; exact gs_us
      have fr_12 : frm [mo] σ σ_10 := by rw [eσ_10]; exact fr_9.up (by simp)
      refine lv_aload_n hx hb d_MO_matches_26 rfl (lv_at hl 0 rfl) ?_
      refine gs_get (v := .int (nI 1)) hx hb ht hown hK hG k_MO hc_11 0 (by decide) w_662 rfl d_MO_matches_27 ?_
      refine lv_if_ne (tgt := 39) hx hb d_MO_matches_30 (by decide) (fun c_30 => ?_) (fun c_30 => ?_)
      · have c_30 : ¬ 1 = 0 := gs_zn (by omega) c_30
        refine lv_aload_n hx hb d_MO_matches_39 rfl (lv_at hl 0 rfl) ?_
        refine gs_get (v := .int (nI 0)) hx hb ht hown hK hG k_MO hc_11 27 (by decide) w_689 rfl d_MO_matches_40 ?_
        exact gs_iret (v := (nI 0)) hx hb hr rfl hK hE hz hG hS hlocks (by first | decide | omega | (dsimp only [headSpec]; omega)) (by first | decide | omega | (dsimp only [headSpec]; omega)) (⟨(hM.num fr_12 ⟨_, hc_11, rfl, z1, z4, z7, z16, z17, z25, z26⟩ hrc), fr_12.wk (by simp), rfl⟩) d_MO_matches_43
      · exact absurd c_30 (by decide)
set_option maxHeartbeats 4000000 in
set_option maxRecDepth 100000 in
/-- the reference: matches -/
theorem c_MO_matches (l : Launch) (X : gs_X) (σ : gs_St) (mo : Nat) (A : Nat → Nat) (cd nr : Nat) (cw : Nat → Nat) (F : List (Nat × Nat)) (T : List MT) (sa rc : Nat) (Q : List MR) (dr : Option MR) (qn : Nat) (R : MR)
    (hM : moA X σ mo A cd nr cw F T sa rc Q dr) (hq9 : Q[qn]? = some R) (hsf : sfJ R 3 = true) (hwf : ∀ y ∈ R.2, y.1 = 0 → ∀ j, cw y.2.1 ≤ j → j < 3 → t3 y.2.2 j < 64) : gs_Mi l X y_MO_matches b_MO_matches 2 (some .int) ({ frames := 4, cells := 0, slots := 0, locals := 99 }) σ [.ref mo, .int (nI qn)] (fun r σ' => moA X σ' mo A 0 nr cw F T sa rc Q dr ∧ frm (aM mo A) σ σ' ∧ r = nI (trM cw T rc qn R false (hls R) (fun _ => none) ([], false, 0)).2.2) := by
  refine Met.ofW (cc := b_MO_matches) (maxL := 2) (ret := (some .int)) (by decide) rfl ?_
  intro p e s m args below meth c s₁ B₀ hml hv
  obtain ⟨rfl, hK, hG, hz, hE⟩ := hv
  have hx := B₀.exec
  have hb := B₀.bytes
  have hr := B₀.returns
  have hts := atoms_spec (ws := gs_ws y_MO_matches b_MO_matches 2 (some .int)) B₀.pre
  have ht : ∀ w ∈ gs_w, w.before _ s = true := fun w h => hts w (List.mem_cons_of_mem _ h)
  have hown : s.vm.findClass R_MO = some m.cls := findClass_of_methodNamed B₀.named
  have hlocks := B₀.notSynchronized
  have hA : ∀ q : Nat, s.heap.size ≤ q → gs_A X q := fun q h => Nat.le_trans hz h
  have hS : va_S (gs_A X) s.heap s.heap [] := va_S.rf
  have hl := lv_entry ([.ref mo, .int (nI qn)]) (n := 2) (Nat.le_of_ble_eq_true rfl)
  rw [lg_entry_eq]
  generalize (lg_sl ([.ref mo, .int (nI qn)]) ++ List.replicate (2 - (lg_sl ([.ref mo, .int (nI qn)])).length) Slot.unset).toArray = ls at hl ⊢
  have hl : lv_has ls 2 [(0, .ref mo), (1, .int (nI qn))] := hl
  obtain ⟨hNN, hnr, hFB, hTB, hrc, ⟨Z, m0, z0, z1, z4, z7, z16, z17, z25, z26⟩, hcol, hfac, htup, hbit, hfnd, hrul, hscr⟩ := id hM
  have hN := hN1 hNN
  have hFl := hFB.1
  have hTl := hTB.1
  obtain ⟨f2, m2, hcw⟩ := id hcol
  obtain ⟨f8, f9, f10, f11, m8, m9, m10, m11, hT⟩ := id htup
  obtain ⟨g, m12, hbi⟩ := id hbit
  obtain ⟨g3, m13, hb3⟩ := id hfnd
  obtain ⟨f18, f19, f20, f21, f22, f23, m18, m19, m20, m21, m22, m23, hQl, hQ, hdr⟩ := id hrul
  obtain ⟨f3, f24, f28, f29, f30, m3, m24, m28, m29, m30⟩ := id hscr
  have hqn := (List.getElem?_eq_some_iff.mp hq9).1
  have hTn : tpOK (T ++ (([], false, 0) : FS).1) f8 f9 f10 f11 := by simpa using hT
  have fr0 : frm [mo, A 8, A 9, A 10, A 11, A 13, A 24, A 28, A 29, A 30] σ σ := frm.rf
  refine lv_aload_n hx hb d_MO_matches_0 rfl (lv_at hl 0 rfl) ?_
  refine lv_iload_n hx hb d_MO_matches_1 rfl (lv_at hl 1 rfl) ?_
  refine lv_if_lt (tgt := 13) hx hb d_MO_matches_2 (by decide) (fun c_2 => ?_) (fun c_2 => ?_)
  · exact absurd c_2 (nI_pos (by omega))
    
  · refine lv_iload_n hx hb d_MO_matches_5 rfl (lv_at hl 1 rfl) ?_
    refine lv_aload_n hx hb d_MO_matches_6 rfl (lv_at hl 0 rfl) ?_
    refine gs_get (v := .int (nI (Z 16))) hx hb ht hown hK hG k_MO m0 16 (by decide) w_678 rfl d_MO_matches_7 ?_
    refine gs_top (show nI (Z 16) = nI Q.length from congrArg nI (show Z 16 = Q.length from z16)) ?_
    refine lv_icmp_lt (tgt := 17) hx hb d_MO_matches_10 (by decide) (fun c_10 => ?_) (fun c_10 => ?_)
    · have c_10 : qn < Q.length := (nI_ltI (by omega) (by omega)).mp c_10
      refine lv_iconst (v := nI 0) hx hb d_MO_matches_17 (by decide) ?_
      refine gs_put hx hb ht hown hK hG hS k_MO m0 0 (by decide) w_662 rfl rfl rfl (Nat.le_of_ble_eq_true rfl) d_MO_matches_18 (fun H locs hG hS => ?_)
      have hG : gs_H X (gs_up σ mo (moE A (va_up Z 0 0))) H := hG
      obtain ⟨σ_1, eσ_1⟩ : ∃ zq, zq = gs_up σ mo (moE A (va_up Z 0 0)) := ⟨_, rfl⟩
      rw [← eσ_1] at hG
      have hc_2 : σ_1 (A 2) = some (gs_ia X 12 f2) := by rw [eσ_1]; exact gs_ku (gs_ne m2 m0 (by simp)) m2
      have hc_3 : σ_1 (A 12) = some (gs_la X 49152 g) := by rw [eσ_1]; exact gs_ku (gs_ne m12 m0 (by simp)) m12
      have hc_4 : σ_1 (A 18) = some (gs_ia X 25 f18) := by rw [eσ_1]; exact gs_ku (gs_ne m18 m0 (by simp)) m18
      have hc_5 : σ_1 (A 19) = some (gs_ia X 75 f19) := by rw [eσ_1]; exact gs_ku (gs_ne m19 m0 (by simp)) m19
      have hc_6 : σ_1 (A 20) = some (gs_ia X 25 f20) := by rw [eσ_1]; exact gs_ku (gs_ne m20 m0 (by simp)) m20
      have hc_7 : σ_1 (A 21) = some (gs_ia X 150 f21) := by rw [eσ_1]; exact gs_ku (gs_ne m21 m0 (by simp)) m21
      have hc_8 : σ_1 (A 22) = some (gs_ia X 150 f22) := by rw [eσ_1]; exact gs_ku (gs_ne m22 m0 (by simp)) m22
      have hc_9 : σ_1 (A 23) = some (gs_ia X 450 f23) := by rw [eσ_1]; exact gs_ku (gs_ne m23 m0 (by simp)) m23
      have hc_10 : σ_1 (A 8) = some (gs_ia X 320 f8) := by rw [eσ_1]; exact gs_ku (gs_ne m8 m0 (by simp)) m8
      have hc_11 : σ_1 (A 9) = some (gs_ia X 320 f9) := by rw [eσ_1]; exact gs_ku (gs_ne m9 m0 (by simp)) m9
      have hc_12 : σ_1 (A 10) = some (gs_ia X 320 f10) := by rw [eσ_1]; exact gs_ku (gs_ne m10 m0 (by simp)) m10
      have hc_13 : σ_1 (A 11) = some (gs_ia X 320 f11) := by rw [eσ_1]; exact gs_ku (gs_ne m11 m0 (by simp)) m11
      have hc_14 : σ_1 (A 13) = some (gs_la X 49152 g3) := by rw [eσ_1]; exact gs_ku (gs_ne m13 m0 (by simp)) m13
      have hc_15 : σ_1 (A 24) = some (gs_ia X 8 f24) := by rw [eσ_1]; exact gs_ku (gs_ne m24 m0 (by simp)) m24
      have hc_16 : σ_1 (A 28) = some (gs_ia X 3 f28) := by rw [eσ_1]; exact gs_ku (gs_ne m28 m0 (by simp)) m28
      have hc_17 : σ_1 (A 29) = some (gs_ia X 3 f29) := by rw [eσ_1]; exact gs_ku (gs_ne m29 m0 (by simp)) m29
      have hc_18 : σ_1 (A 30) = some (gs_ia X 3 f30) := by rw [eσ_1]; exact gs_ku (gs_ne m30 m0 (by simp)) m30
      have hc_19 : σ_1 mo = some (moE A (va_up Z 0 0)) := by rw [eσ_1]; exact gs_us
      have fr_20 : frm [mo, A 8, A 9, A 10, A 11, A 13, A 24, A 28, A 29, A 30] σ σ_1 := by rw [eσ_1]; exact fr0.up (by simp)
      refine lv_aload_n hx hb d_MO_matches_21 rfl (lv_at hl 0 rfl) ?_
      refine lv_iconst (v := nI 0) hx hb d_MO_matches_22 (by decide) ?_
      refine gs_put hx hb ht hown hK hG hS k_MO hc_19 27 (by decide) w_689 rfl rfl rfl (Nat.le_of_ble_eq_true rfl) d_MO_matches_23 (fun H locs hG hS => ?_)
      have hG : gs_H X (gs_up σ_1 mo (moE A (va_up (va_up Z 0 0) 27 0))) H := hG
      obtain ⟨σ_21, eσ_21⟩ : ∃ zq, zq = gs_up σ_1 mo (moE A (va_up (va_up Z 0 0) 27 0)) := ⟨_, rfl⟩
      rw [← eσ_21] at hG
      have hc_22 : σ_21 (A 2) = some (gs_ia X 12 f2) := by rw [eσ_21]; exact gs_ku (gs_ne hc_2 hc_19 (by simp)) hc_2
      have hc_23 : σ_21 (A 12) = some (gs_la X 49152 g) := by rw [eσ_21]; exact gs_ku (gs_ne hc_3 hc_19 (by simp)) hc_3
      have hc_24 : σ_21 (A 18) = some (gs_ia X 25 f18) := by rw [eσ_21]; exact gs_ku (gs_ne hc_4 hc_19 (by simp)) hc_4
      have hc_25 : σ_21 (A 19) = some (gs_ia X 75 f19) := by rw [eσ_21]; exact gs_ku (gs_ne hc_5 hc_19 (by simp)) hc_5
      have hc_26 : σ_21 (A 20) = some (gs_ia X 25 f20) := by rw [eσ_21]; exact gs_ku (gs_ne hc_6 hc_19 (by simp)) hc_6
      have hc_27 : σ_21 (A 21) = some (gs_ia X 150 f21) := by rw [eσ_21]; exact gs_ku (gs_ne hc_7 hc_19 (by simp)) hc_7
      have hc_28 : σ_21 (A 22) = some (gs_ia X 150 f22) := by rw [eσ_21]; exact gs_ku (gs_ne hc_8 hc_19 (by simp)) hc_8
      have hc_29 : σ_21 (A 23) = some (gs_ia X 450 f23) := by rw [eσ_21]; exact gs_ku (gs_ne hc_9 hc_19 (by simp)) hc_9
      have hc_30 : σ_21 (A 8) = some (gs_ia X 320 f8) := by rw [eσ_21]; exact gs_ku (gs_ne hc_10 hc_19 (by simp)) hc_10
      have hc_31 : σ_21 (A 9) = some (gs_ia X 320 f9) := by rw [eσ_21]; exact gs_ku (gs_ne hc_11 hc_19 (by simp)) hc_11
      have hc_32 : σ_21 (A 10) = some (gs_ia X 320 f10) := by rw [eσ_21]; exact gs_ku (gs_ne hc_12 hc_19 (by simp)) hc_12
      have hc_33 : σ_21 (A 11) = some (gs_ia X 320 f11) := by rw [eσ_21]; exact gs_ku (gs_ne hc_13 hc_19 (by simp)) hc_13
      have hc_34 : σ_21 (A 13) = some (gs_la X 49152 g3) := by rw [eσ_21]; exact gs_ku (gs_ne hc_14 hc_19 (by simp)) hc_14
      have hc_35 : σ_21 (A 24) = some (gs_ia X 8 f24) := by rw [eσ_21]; exact gs_ku (gs_ne hc_15 hc_19 (by simp)) hc_15
      have hc_36 : σ_21 (A 28) = some (gs_ia X 3 f28) := by rw [eσ_21]; exact gs_ku (gs_ne hc_16 hc_19 (by simp)) hc_16
      have hc_37 : σ_21 (A 29) = some (gs_ia X 3 f29) := by rw [eσ_21]; exact gs_ku (gs_ne hc_17 hc_19 (by simp)) hc_17
      have hc_38 : σ_21 (A 30) = some (gs_ia X 3 f30) := by rw [eσ_21]; exact gs_ku (gs_ne hc_18 hc_19 (by simp)) hc_18
      have hc_39 : σ_21 mo = some (moE A (va_up (va_up Z 0 0) 27 0)) := by rw [eσ_21]; exact gs_us
      have fr_40 : frm [mo, A 8, A 9, A 10, A 11, A 13, A 24, A 28, A 29, A 30] σ σ_21 := by rw [eσ_21]; exact fr_20.up (by simp)
      refine lv_aload_n hx hb d_MO_matches_26 rfl (lv_at hl 0 rfl) ?_
      refine gs_get (v := .int (nI 0)) hx hb ht hown hK hG k_MO hc_39 0 (by decide) w_662 rfl d_MO_matches_27 ?_
      refine lv_if_ne (tgt := 39) hx hb d_MO_matches_30 (by decide) (fun c_30 => ?_) (fun c_30 => ?_)
      · exact absurd c_30 (by decide)
      · have c_30 : 0 = 0 := gs_z (by omega) c_30
        refine lv_aload_n hx hb d_MO_matches_33 rfl (lv_at hl 0 rfl) ?_
        refine lv_iload_n hx hb d_MO_matches_34 rfl (lv_at hl 1 rfl) ?_
        refine lv_iconst (v := nI 0) hx hb d_MO_matches_35 (by decide) ?_
        refine gs_callVv (As := [.int (nI qn), .int (nI 0)]) (rest := []) ⟨hx, hb, hml, hown, hts⟩ hK hE hz hG hS (c_MO_tries l X σ_21 mo A (va_up (va_up Z 0 0) 27 0) f2 f8 f9 f10 f11 f18 f19 f20 f21 f22 f23 f24 f28 f29 f30 g g3 T ([], false, 0) rc nr cw qn R false hc_39 hNN hc_22 hc_23 hc_24 hc_25 hc_26 hc_27 hc_28 hc_29 hc_30 hc_31 hc_32 hc_33 hc_34 hc_35 hc_36 hc_37 hc_38 z7 (fun z => by cases z) (fun z => by cases z) rfl z26 hTn hTB hbi hb3 (by simpa using hTl) hcw hnr (hQ _ _ hq9).1 (hQ _ _ hq9).2 (by omega) hsf hwf) mV_MO_tries w_840 hc_39 rfl rfl hl.1 rfl (Nat.le_of_ble_eq_true rfl) ⟨(by first | decide | omega | (dsimp only [headSpec]; omega)), (by first | decide | omega | (dsimp only [headSpec]; omega))⟩ ⟨(by first | decide | omega | (dsimp only [headSpec]; omega)), (by first | decide | omega | (dsimp only [headSpec]; omega))⟩ d_MO_matches_36 (fun σ_36 H locs hp_36 hG hS => ?_)
        obtain ⟨ov9, h28, h29, h30, Z1, a8, a9, a10, a11, a24, b3, y_mo, y14, y15, y27, yz, y_8, y_9, y_10, y_11, y_13, y_24, y_28, y_29, y_30, yT, yb, yTN, yv, yfr⟩ := hp_36
        have hnf := (trM_nf (cw := cw) (T := T) (rc := rc) (q := qn) (R := R) (hls R) (fun _ => none) ([], false, 0)).1
        rw [hnf, List.append_nil] at yT
        rw [hnf] at yb
        have hc_41 : σ_36 (A 2) = some (gs_ia X 12 f2) := yfr _ _ (nin_cons (gs_ne hc_22 hc_39 (by simp)) (nin_cons (ndp hN 0 4 (by decide) rfl rfl) (nin_cons (ndp hN 0 5 (by decide) rfl rfl) (nin_cons (ndp hN 0 6 (by decide) rfl rfl) (nin_cons (ndp hN 0 7 (by decide) rfl rfl) (nin_cons (ndp hN 0 9 (by decide) rfl rfl) (nin_cons (ndp hN 0 16 (by decide) rfl rfl) (nin_cons (ndp hN 0 17 (by decide) rfl rfl) (nin_cons (ndp hN 0 18 (by decide) rfl rfl) (nin_cons (ndp hN 0 19 (by decide) rfl rfl) nin_nil)))))))))) hc_22
        have hc_42 : σ_36 (A 12) = some (gs_la X 49152 g) := yfr _ _ (nin_cons (gs_ne hc_23 hc_39 (by simp)) (nin_cons (Ne.symm (ndp hN 4 8 (by decide) rfl rfl)) (nin_cons (Ne.symm (ndp hN 5 8 (by decide) rfl rfl)) (nin_cons (Ne.symm (ndp hN 6 8 (by decide) rfl rfl)) (nin_cons (Ne.symm (ndp hN 7 8 (by decide) rfl rfl)) (nin_cons (ndp hN 8 9 (by decide) rfl rfl) (nin_cons (ndp hN 8 16 (by decide) rfl rfl) (nin_cons (ndp hN 8 17 (by decide) rfl rfl) (nin_cons (ndp hN 8 18 (by decide) rfl rfl) (nin_cons (ndp hN 8 19 (by decide) rfl rfl) nin_nil)))))))))) hc_23
        have hc_43 : σ_36 (A 18) = some (gs_ia X 25 f18) := yfr _ _ (nin_cons (gs_ne hc_24 hc_39 (by simp)) (nin_cons (Ne.symm (ndp hN 4 10 (by decide) rfl rfl)) (nin_cons (Ne.symm (ndp hN 5 10 (by decide) rfl rfl)) (nin_cons (Ne.symm (ndp hN 6 10 (by decide) rfl rfl)) (nin_cons (Ne.symm (ndp hN 7 10 (by decide) rfl rfl)) (nin_cons (Ne.symm (ndp hN 9 10 (by decide) rfl rfl)) (nin_cons (ndp hN 10 16 (by decide) rfl rfl) (nin_cons (ndp hN 10 17 (by decide) rfl rfl) (nin_cons (ndp hN 10 18 (by decide) rfl rfl) (nin_cons (ndp hN 10 19 (by decide) rfl rfl) nin_nil)))))))))) hc_24
        have hc_44 : σ_36 (A 19) = some (gs_ia X 75 f19) := yfr _ _ (nin_cons (gs_ne hc_25 hc_39 (by simp)) (nin_cons (Ne.symm (ndp hN 4 11 (by decide) rfl rfl)) (nin_cons (Ne.symm (ndp hN 5 11 (by decide) rfl rfl)) (nin_cons (Ne.symm (ndp hN 6 11 (by decide) rfl rfl)) (nin_cons (Ne.symm (ndp hN 7 11 (by decide) rfl rfl)) (nin_cons (Ne.symm (ndp hN 9 11 (by decide) rfl rfl)) (nin_cons (ndp hN 11 16 (by decide) rfl rfl) (nin_cons (ndp hN 11 17 (by decide) rfl rfl) (nin_cons (ndp hN 11 18 (by decide) rfl rfl) (nin_cons (ndp hN 11 19 (by decide) rfl rfl) nin_nil)))))))))) hc_25
        have hc_45 : σ_36 (A 20) = some (gs_ia X 25 f20) := yfr _ _ (nin_cons (gs_ne hc_26 hc_39 (by simp)) (nin_cons (Ne.symm (ndp hN 4 12 (by decide) rfl rfl)) (nin_cons (Ne.symm (ndp hN 5 12 (by decide) rfl rfl)) (nin_cons (Ne.symm (ndp hN 6 12 (by decide) rfl rfl)) (nin_cons (Ne.symm (ndp hN 7 12 (by decide) rfl rfl)) (nin_cons (Ne.symm (ndp hN 9 12 (by decide) rfl rfl)) (nin_cons (ndp hN 12 16 (by decide) rfl rfl) (nin_cons (ndp hN 12 17 (by decide) rfl rfl) (nin_cons (ndp hN 12 18 (by decide) rfl rfl) (nin_cons (ndp hN 12 19 (by decide) rfl rfl) nin_nil)))))))))) hc_26
        have hc_46 : σ_36 (A 21) = some (gs_ia X 150 f21) := yfr _ _ (nin_cons (gs_ne hc_27 hc_39 (by simp)) (nin_cons (Ne.symm (ndp hN 4 13 (by decide) rfl rfl)) (nin_cons (Ne.symm (ndp hN 5 13 (by decide) rfl rfl)) (nin_cons (Ne.symm (ndp hN 6 13 (by decide) rfl rfl)) (nin_cons (Ne.symm (ndp hN 7 13 (by decide) rfl rfl)) (nin_cons (Ne.symm (ndp hN 9 13 (by decide) rfl rfl)) (nin_cons (ndp hN 13 16 (by decide) rfl rfl) (nin_cons (ndp hN 13 17 (by decide) rfl rfl) (nin_cons (ndp hN 13 18 (by decide) rfl rfl) (nin_cons (ndp hN 13 19 (by decide) rfl rfl) nin_nil)))))))))) hc_27
        have hc_47 : σ_36 (A 22) = some (gs_ia X 150 f22) := yfr _ _ (nin_cons (gs_ne hc_28 hc_39 (by simp)) (nin_cons (Ne.symm (ndp hN 4 14 (by decide) rfl rfl)) (nin_cons (Ne.symm (ndp hN 5 14 (by decide) rfl rfl)) (nin_cons (Ne.symm (ndp hN 6 14 (by decide) rfl rfl)) (nin_cons (Ne.symm (ndp hN 7 14 (by decide) rfl rfl)) (nin_cons (Ne.symm (ndp hN 9 14 (by decide) rfl rfl)) (nin_cons (ndp hN 14 16 (by decide) rfl rfl) (nin_cons (ndp hN 14 17 (by decide) rfl rfl) (nin_cons (ndp hN 14 18 (by decide) rfl rfl) (nin_cons (ndp hN 14 19 (by decide) rfl rfl) nin_nil)))))))))) hc_28
        have hc_48 : σ_36 (A 23) = some (gs_ia X 450 f23) := yfr _ _ (nin_cons (gs_ne hc_29 hc_39 (by simp)) (nin_cons (Ne.symm (ndp hN 4 15 (by decide) rfl rfl)) (nin_cons (Ne.symm (ndp hN 5 15 (by decide) rfl rfl)) (nin_cons (Ne.symm (ndp hN 6 15 (by decide) rfl rfl)) (nin_cons (Ne.symm (ndp hN 7 15 (by decide) rfl rfl)) (nin_cons (Ne.symm (ndp hN 9 15 (by decide) rfl rfl)) (nin_cons (ndp hN 15 16 (by decide) rfl rfl) (nin_cons (ndp hN 15 17 (by decide) rfl rfl) (nin_cons (ndp hN 15 18 (by decide) rfl rfl) (nin_cons (ndp hN 15 19 (by decide) rfl rfl) nin_nil)))))))))) hc_29
        have fr_49 : frm [mo, A 8, A 9, A 10, A 11, A 13, A 24, A 28, A 29, A 30] σ σ_36 := fr_40.trans yfr (by simp)
        refine lv_aload_n hx hb d_MO_matches_39 rfl (lv_at hl 0 rfl) ?_
        refine gs_get (v := .int (nI (Z1 27))) hx hb ht hown hK hG k_MO y_mo 27 (by decide) w_689 rfl d_MO_matches_40 ?_
        refine gs_top (show nI (Z1 27) = nI ((trM cw T rc qn R false (hls R) (fun _ => none) ([], false, 0)).2.2) from congrArg nI (show Z1 27 = (trM cw T rc qn R false (hls R) (fun _ => none) ([], false, 0)).2.2 from y27)) ?_
        exact gs_iret (v := (nI ((trM cw T rc qn R false (hls R) (fun _ => none) ([], false, 0)).2.2))) hx hb hr rfl hK hE hz hG hS hlocks (by first | decide | omega | (dsimp only [headSpec]; omega)) (by first | decide | omega | (dsimp only [headSpec]; omega)) (⟨⟨hNN, hnr, hFB, hTB, hrc, ⟨Z1, y_mo, yz 0 (by simp), (yz 1 (by simp)).trans z1, (yz 4 (by simp)).trans z4, (yz 7 (by simp)).trans z7, (yz 16 (by simp)).trans z16, (yz 17 (by simp)).trans z17, (yz 25 (by simp)).trans z25, (yz 26 (by simp)).trans z26⟩, (hcol.fr hNN [0, 5, 6, 7, 8, 10, 17, 18, 19, 20] fr_49 (by decide) (by decide)), (hfac.fr hNN [0, 5, 6, 7, 8, 10, 17, 18, 19, 20] fr_49 (by decide) (by decide)), ⟨_, _, _, _, y_8, y_9, y_10, y_11, yT⟩, (hbit.fr (k := 9) hNN [0, 5, 6, 7, 8, 10, 17, 18, 19, 20] fr_49 (by decide) (by decide) (by decide) rfl), ⟨_, y_13, yb⟩, (hrul.fr hNN [0, 5, 6, 7, 8, 10, 17, 18, 19, 20] fr_49 (by decide) (by decide)), ⟨_, _, _, _, _, kp hNN [0, 5, 6, 7, 8, 10, 17, 18, 19, 20] fr_49 2 (by decide) (by decide) (by decide) rfl m3, y_24, y_28, y_29, y_30⟩⟩, fr_49.wk (by simp), rfl⟩) d_MO_matches_43
    · have c_10 : ¬ qn < Q.length := mt (nI_ltI (by omega) (by omega)).mpr c_10
      omega
set_option maxHeartbeats 4000000 in
set_option maxRecDepth 100000 in
/-- the reference: tuple, wrong -/
theorem c_MO_tuple_t (l : Launch) (X : gs_X) (σ : gs_St) (mo : Nat) (A : Nat → Nat) (cd nr : Nat) (cw : Nat → Nat) (F : List (Nat × Nat)) (T : List MT) (sa rc : Nat) (Q : List MR) (dr : Option MR) (r pl wh : Int32)
    (hM : moA X σ mo A cd nr cw F T sa rc Q dr) (hok : ¬ (wi nr r = true ∧ (atT T r pl T.length).isSome = true ∧ ¬ wh < 0 ∧ wh ≤ nI 4)) : gs_Mi l X y_MO_tuple b_MO_tuple 8 (some .int) ({ frames := 0, cells := 0, slots := 0, locals := 0 }) σ [.ref mo, .int r, .int pl, .int wh] (fun z σ' => moA X σ' mo A 1 nr cw F T sa rc Q dr ∧ frm (aM mo A) σ σ' ∧ z = nI 0) := by
  refine Met.ofW (cc := b_MO_tuple) (maxL := 8) (ret := (some .int)) (by decide) rfl ?_
  intro p e s m args below meth c s₁ B₀ hml hv
  obtain ⟨rfl, hK, hG, hz, hE⟩ := hv
  have hx := B₀.exec
  have hb := B₀.bytes
  have hr := B₀.returns
  have hts := atoms_spec (ws := gs_ws y_MO_tuple b_MO_tuple 8 (some .int)) B₀.pre
  have ht : ∀ w ∈ gs_w, w.before _ s = true := fun w h => hts w (List.mem_cons_of_mem _ h)
  have hown : s.vm.findClass R_MO = some m.cls := findClass_of_methodNamed B₀.named
  have hlocks := B₀.notSynchronized
  have hA : ∀ q : Nat, s.heap.size ≤ q → gs_A X q := fun q h => Nat.le_trans hz h
  have hS : va_S (gs_A X) s.heap s.heap [] := va_S.rf
  have hl := lv_entry ([.ref mo, .int r, .int pl, .int wh]) (n := 8) (Nat.le_of_ble_eq_true rfl)
  rw [lg_entry_eq]
  generalize (lg_sl ([.ref mo, .int r, .int pl, .int wh]) ++ List.replicate (8 - (lg_sl ([.ref mo, .int r, .int pl, .int wh])).length) Slot.unset).toArray = ls at hl ⊢
  have hl : lv_has ls 8 [(0, .ref mo), (1, .int r), (2, .int pl), (3, .int wh)] := hl
  obtain ⟨hNN, hnr, hFB, hTB, hrc, ⟨Z, m0, z0, z1, z4, z7, z16, z17, z25, z26⟩, hcol, hfac, htup, hbit, hfnd, hrul, hscr⟩ := id hM
  have hN := hN1 hNN
  have hFl := hFB.1
  have hTl := hTB.1
  obtain ⟨f8, f9, f10, f11, m8, m9, m10, m11, hT⟩ := id htup
  have fr0 : frm [mo] σ σ := frm.rf
  have k106 : ∀ ls, lv_has ls 8 [(4, .int (rdI (atT T r pl T.length))), (0, .ref mo), (1, .int r), (2, .int pl), (3, .int wh)] → W p l e ({ frames := 0, cells := 0, slots := 0, locals := 0 } : Room) s m ([.ref mo, .int r, .int pl, .int wh] : List Value).toArray below meth c s.heap [] 0 0 (MQ below (va_Qi (fun z σ' => moA X σ' mo A 1 nr cw F T sa rc Q dr ∧ frm (aM mo A) σ σ' ∧ z = nI 0) (gs_U X) (gs_A X)) ([.ref mo, .int r, .int pl, .int wh] : List Value).toArray s 0 0 (gs_A X)) (F0 m 106 ls []) := by
    intro ls hl
    have hlo : ∀ n, atT T r pl T.length = some n → n < 2 ^ 30 := fun n z => by have := atT_lt _ _ z; omega
    refine lv_aload_n hx hb d_MO_tuple_106 rfl (lv_at hl 1 rfl) ?_
    refine lv_iload_n hx hb d_MO_tuple_107 rfl (lv_at hl 2 rfl) ?_
    refine lv_if_lt (tgt := 133) hx hb d_MO_tuple_108 (by decide) (fun c_108 => ?_) (fun c_108 => ?_)
    · refine lv_iconst (v := nI 1) hx hb d_MO_tuple_133 (by decide) ?_
      refine lv_goto (tgt := 138) hx hb d_MO_tuple_134 (by decide) ?_
      refine gs_put hx hb ht hown hK hG hS k_MO m0 0 (by decide) w_662 rfl rfl rfl (Nat.le_of_ble_eq_true rfl) d_MO_tuple_138 (fun H locs hG hS => ?_)
      have hG : gs_H X (gs_up σ mo (moE A (va_up Z 0 1))) H := hG
      obtain ⟨σ_1, eσ_1⟩ : ∃ zq, zq = gs_up σ mo (moE A (va_up Z 0 1)) := ⟨_, rfl⟩
      rw [← eσ_1] at hG
      have hc_2 : σ_1 (A 8) = some (gs_ia X 320 f8) := by rw [eσ_1]; exact gs_ku (gs_ne m8 m0 (by simp)) m8
      have hc_3 : σ_1 (A 9) = some (gs_ia X 320 f9) := by rw [eσ_1]; exact gs_ku (gs_ne m9 m0 (by simp)) m9
      have hc_4 : σ_1 (A 10) = some (gs_ia X 320 f10) := by rw [eσ_1]; exact gs_ku (gs_ne m10 m0 (by simp)) m10
      have hc_5 : σ_1 (A 11) = some (gs_ia X 320 f11) := by rw [eσ_1]; exact gs_ku (gs_ne m11 m0 (by simp)) m11
      have hc_6 : σ_1 mo = some (moE A (va_up Z 0 1)) := by rw [eσ_1]; exact gs_us
      have fr_7 : frm [mo] σ σ_1 := by rw [eσ_1]; exact fr0.up (by simp)
      refine lv_aload_n hx hb d_MO_tuple_141 rfl (lv_at hl 1 rfl) ?_
      refine gs_get (v := .int (nI 1)) hx hb ht hown hK hG k_MO hc_6 0 (by decide) w_662 rfl d_MO_tuple_142 ?_
      refine lv_if_le (tgt := 150) hx hb d_MO_tuple_145 (by decide) (fun c_145 => ?_) (fun c_145 => ?_)
      · exact absurd c_145 (by decide)
      · have c_145 : 0 < 1 := by have := gs_le0 (a := 1) (by omega); have h9 := mt this.mpr c_145; omega
        refine lv_iconst (v := nI 0) hx hb d_MO_tuple_148 (by decide) ?_
        exact gs_iret (v := (nI 0)) hx hb hr rfl hK hE hz hG hS hlocks (by first | decide | omega | (dsimp only [headSpec]; omega)) (by first | decide | omega | (dsimp only [headSpec]; omega)) (⟨(hM.num fr_7 ⟨_, hc_6, rfl, z1, z4, z7, z16, z17, z25, z26⟩ hrc), fr_7.wk (by simp), rfl⟩) d_MO_tuple_149
    · refine lv_iload_n hx hb d_MO_tuple_111 rfl (lv_at hl 2 rfl) ?_
      refine lv_aload_n hx hb d_MO_tuple_112 rfl (lv_at hl 1 rfl) ?_
      refine gs_get (v := .int (nI (Z 1))) hx hb ht hown hK hG k_MO m0 1 (by decide) w_663 rfl d_MO_tuple_113 ?_
      refine gs_top (show nI (Z 1) = nI nr from congrArg nI (show Z 1 = nr from z1)) ?_
      refine lv_icmp_ge (tgt := 133) hx hb d_MO_tuple_116 (by decide) (fun c_116 => ?_) (fun c_116 => ?_)
      · refine lv_iconst (v := nI 1) hx hb d_MO_tuple_133 (by decide) ?_
        refine lv_goto (tgt := 138) hx hb d_MO_tuple_134 (by decide) ?_
        refine gs_put hx hb ht hown hK hG hS k_MO m0 0 (by decide) w_662 rfl rfl rfl (Nat.le_of_ble_eq_true rfl) d_MO_tuple_138 (fun H locs hG hS => ?_)
        have hG : gs_H X (gs_up σ mo (moE A (va_up Z 0 1))) H := hG
        obtain ⟨σ_8, eσ_8⟩ : ∃ zq, zq = gs_up σ mo (moE A (va_up Z 0 1)) := ⟨_, rfl⟩
        rw [← eσ_8] at hG
        have hc_9 : σ_8 (A 8) = some (gs_ia X 320 f8) := by rw [eσ_8]; exact gs_ku (gs_ne m8 m0 (by simp)) m8
        have hc_10 : σ_8 (A 9) = some (gs_ia X 320 f9) := by rw [eσ_8]; exact gs_ku (gs_ne m9 m0 (by simp)) m9
        have hc_11 : σ_8 (A 10) = some (gs_ia X 320 f10) := by rw [eσ_8]; exact gs_ku (gs_ne m10 m0 (by simp)) m10
        have hc_12 : σ_8 (A 11) = some (gs_ia X 320 f11) := by rw [eσ_8]; exact gs_ku (gs_ne m11 m0 (by simp)) m11
        have hc_13 : σ_8 mo = some (moE A (va_up Z 0 1)) := by rw [eσ_8]; exact gs_us
        have fr_14 : frm [mo] σ σ_8 := by rw [eσ_8]; exact fr0.up (by simp)
        refine lv_aload_n hx hb d_MO_tuple_141 rfl (lv_at hl 1 rfl) ?_
        refine gs_get (v := .int (nI 1)) hx hb ht hown hK hG k_MO hc_13 0 (by decide) w_662 rfl d_MO_tuple_142 ?_
        refine lv_if_le (tgt := 150) hx hb d_MO_tuple_145 (by decide) (fun c_145 => ?_) (fun c_145 => ?_)
        · exact absurd c_145 (by decide)
        · have c_145 : 0 < 1 := by have := gs_le0 (a := 1) (by omega); have h9 := mt this.mpr c_145; omega
          refine lv_iconst (v := nI 0) hx hb d_MO_tuple_148 (by decide) ?_
          exact gs_iret (v := (nI 0)) hx hb hr rfl hK hE hz hG hS hlocks (by first | decide | omega | (dsimp only [headSpec]; omega)) (by first | decide | omega | (dsimp only [headSpec]; omega)) (⟨(hM.num fr_14 ⟨_, hc_13, rfl, z1, z4, z7, z16, z17, z25, z26⟩ hrc), fr_14.wk (by simp), rfl⟩) d_MO_tuple_149
      · refine lv_iload hx hb d_MO_tuple_119 (lv_at hl 0 rfl) ?_
        refine lv_if_lt (tgt := 133) hx hb d_MO_tuple_121 (by decide) (fun c_121 => ?_) (fun c_121 => ?_)
        · refine lv_iconst (v := nI 1) hx hb d_MO_tuple_133 (by decide) ?_
          refine lv_goto (tgt := 138) hx hb d_MO_tuple_134 (by decide) ?_
          refine gs_put hx hb ht hown hK hG hS k_MO m0 0 (by decide) w_662 rfl rfl rfl (Nat.le_of_ble_eq_true rfl) d_MO_tuple_138 (fun H locs hG hS => ?_)
          have hG : gs_H X (gs_up σ mo (moE A (va_up Z 0 1))) H := hG
          obtain ⟨σ_15, eσ_15⟩ : ∃ zq, zq = gs_up σ mo (moE A (va_up Z 0 1)) := ⟨_, rfl⟩
          rw [← eσ_15] at hG
          have hc_16 : σ_15 (A 8) = some (gs_ia X 320 f8) := by rw [eσ_15]; exact gs_ku (gs_ne m8 m0 (by simp)) m8
          have hc_17 : σ_15 (A 9) = some (gs_ia X 320 f9) := by rw [eσ_15]; exact gs_ku (gs_ne m9 m0 (by simp)) m9
          have hc_18 : σ_15 (A 10) = some (gs_ia X 320 f10) := by rw [eσ_15]; exact gs_ku (gs_ne m10 m0 (by simp)) m10
          have hc_19 : σ_15 (A 11) = some (gs_ia X 320 f11) := by rw [eσ_15]; exact gs_ku (gs_ne m11 m0 (by simp)) m11
          have hc_20 : σ_15 mo = some (moE A (va_up Z 0 1)) := by rw [eσ_15]; exact gs_us
          have fr_21 : frm [mo] σ σ_15 := by rw [eσ_15]; exact fr0.up (by simp)
          refine lv_aload_n hx hb d_MO_tuple_141 rfl (lv_at hl 1 rfl) ?_
          refine gs_get (v := .int (nI 1)) hx hb ht hown hK hG k_MO hc_20 0 (by decide) w_662 rfl d_MO_tuple_142 ?_
          refine lv_if_le (tgt := 150) hx hb d_MO_tuple_145 (by decide) (fun c_145 => ?_) (fun c_145 => ?_)
          · exact absurd c_145 (by decide)
          · have c_145 : 0 < 1 := by have := gs_le0 (a := 1) (by omega); have h9 := mt this.mpr c_145; omega
            refine lv_iconst (v := nI 0) hx hb d_MO_tuple_148 (by decide) ?_
            exact gs_iret (v := (nI 0)) hx hb hr rfl hK hE hz hG hS hlocks (by first | decide | omega | (dsimp only [headSpec]; omega)) (by first | decide | omega | (dsimp only [headSpec]; omega)) (⟨(hM.num fr_21 ⟨_, hc_20, rfl, z1, z4, z7, z16, z17, z25, z26⟩ hrc), fr_21.wk (by simp), rfl⟩) d_MO_tuple_149
        · refine lv_iload_n hx hb d_MO_tuple_124 rfl (lv_at hl 4 rfl) ?_
          refine lv_if_lt (tgt := 133) hx hb d_MO_tuple_125 (by decide) (fun c_125 => ?_) (fun c_125 => ?_)
          · refine lv_iconst (v := nI 1) hx hb d_MO_tuple_133 (by decide) ?_
            refine lv_goto (tgt := 138) hx hb d_MO_tuple_134 (by decide) ?_
            refine gs_put hx hb ht hown hK hG hS k_MO m0 0 (by decide) w_662 rfl rfl rfl (Nat.le_of_ble_eq_true rfl) d_MO_tuple_138 (fun H locs hG hS => ?_)
            have hG : gs_H X (gs_up σ mo (moE A (va_up Z 0 1))) H := hG
            obtain ⟨σ_22, eσ_22⟩ : ∃ zq, zq = gs_up σ mo (moE A (va_up Z 0 1)) := ⟨_, rfl⟩
            rw [← eσ_22] at hG
            have hc_23 : σ_22 (A 8) = some (gs_ia X 320 f8) := by rw [eσ_22]; exact gs_ku (gs_ne m8 m0 (by simp)) m8
            have hc_24 : σ_22 (A 9) = some (gs_ia X 320 f9) := by rw [eσ_22]; exact gs_ku (gs_ne m9 m0 (by simp)) m9
            have hc_25 : σ_22 (A 10) = some (gs_ia X 320 f10) := by rw [eσ_22]; exact gs_ku (gs_ne m10 m0 (by simp)) m10
            have hc_26 : σ_22 (A 11) = some (gs_ia X 320 f11) := by rw [eσ_22]; exact gs_ku (gs_ne m11 m0 (by simp)) m11
            have hc_27 : σ_22 mo = some (moE A (va_up Z 0 1)) := by rw [eσ_22]; exact gs_us
            have fr_28 : frm [mo] σ σ_22 := by rw [eσ_22]; exact fr0.up (by simp)
            refine lv_aload_n hx hb d_MO_tuple_141 rfl (lv_at hl 1 rfl) ?_
            refine gs_get (v := .int (nI 1)) hx hb ht hown hK hG k_MO hc_27 0 (by decide) w_662 rfl d_MO_tuple_142 ?_
            refine lv_if_le (tgt := 150) hx hb d_MO_tuple_145 (by decide) (fun c_145 => ?_) (fun c_145 => ?_)
            · exact absurd c_145 (by decide)
            · have c_145 : 0 < 1 := by have := gs_le0 (a := 1) (by omega); have h9 := mt this.mpr c_145; omega
              refine lv_iconst (v := nI 0) hx hb d_MO_tuple_148 (by decide) ?_
              exact gs_iret (v := (nI 0)) hx hb hr rfl hK hE hz hG hS hlocks (by first | decide | omega | (dsimp only [headSpec]; omega)) (by first | decide | omega | (dsimp only [headSpec]; omega)) (⟨(hM.num fr_28 ⟨_, hc_27, rfl, z1, z4, z7, z16, z17, z25, z26⟩ hrc), fr_28.wk (by simp), rfl⟩) d_MO_tuple_149
          · refine lv_iload_n hx hb d_MO_tuple_128 rfl (lv_at hl 4 rfl) ?_
            refine lv_iconst (v := nI 4) hx hb d_MO_tuple_129 (by decide) ?_
            refine lv_icmp_le (tgt := 137) hx hb d_MO_tuple_130 (by decide) (fun c_130 => ?_) (fun c_130 => ?_)
            · exact absurd ⟨wi_in c_108 c_116, (by
                cases ha : atT T r pl T.length with
                | none => rw [ha] at c_121; exact absurd (by decide) c_121
                | some n => rfl), c_125, c_130⟩ hok
            · refine lv_iconst (v := nI 1) hx hb d_MO_tuple_133 (by decide) ?_
              refine lv_goto (tgt := 138) hx hb d_MO_tuple_134 (by decide) ?_
              refine gs_put hx hb ht hown hK hG hS k_MO m0 0 (by decide) w_662 rfl rfl rfl (Nat.le_of_ble_eq_true rfl) d_MO_tuple_138 (fun H locs hG hS => ?_)
              have hG : gs_H X (gs_up σ mo (moE A (va_up Z 0 1))) H := hG
              obtain ⟨σ_29, eσ_29⟩ : ∃ zq, zq = gs_up σ mo (moE A (va_up Z 0 1)) := ⟨_, rfl⟩
              rw [← eσ_29] at hG
              have hc_30 : σ_29 (A 8) = some (gs_ia X 320 f8) := by rw [eσ_29]; exact gs_ku (gs_ne m8 m0 (by simp)) m8
              have hc_31 : σ_29 (A 9) = some (gs_ia X 320 f9) := by rw [eσ_29]; exact gs_ku (gs_ne m9 m0 (by simp)) m9
              have hc_32 : σ_29 (A 10) = some (gs_ia X 320 f10) := by rw [eσ_29]; exact gs_ku (gs_ne m10 m0 (by simp)) m10
              have hc_33 : σ_29 (A 11) = some (gs_ia X 320 f11) := by rw [eσ_29]; exact gs_ku (gs_ne m11 m0 (by simp)) m11
              have hc_34 : σ_29 mo = some (moE A (va_up Z 0 1)) := by rw [eσ_29]; exact gs_us
              have fr_35 : frm [mo] σ σ_29 := by rw [eσ_29]; exact fr0.up (by simp)
              refine lv_aload_n hx hb d_MO_tuple_141 rfl (lv_at hl 1 rfl) ?_
              refine gs_get (v := .int (nI 1)) hx hb ht hown hK hG k_MO hc_34 0 (by decide) w_662 rfl d_MO_tuple_142 ?_
              refine lv_if_le (tgt := 150) hx hb d_MO_tuple_145 (by decide) (fun c_145 => ?_) (fun c_145 => ?_)
              · exact absurd c_145 (by decide)
              · have c_145 : 0 < 1 := by have := gs_le0 (a := 1) (by omega); have h9 := mt this.mpr c_145; omega
                refine lv_iconst (v := nI 0) hx hb d_MO_tuple_148 (by decide) ?_
                exact gs_iret (v := (nI 0)) hx hb hr rfl hK hE hz hG hS hlocks (by first | decide | omega | (dsimp only [headSpec]; omega)) (by first | decide | omega | (dsimp only [headSpec]; omega)) (⟨(hM.num fr_35 ⟨_, hc_34, rfl, z1, z4, z7, z16, z17, z25, z26⟩ hrc), fr_35.wk (by simp), rfl⟩) d_MO_tuple_149
  have loop : ∀ (fl : Nat) (k : Nat), (k ≤ T.length) → T.length - k < fl → ∀ ls, lv_has ls 8 [(5, .int (nI k)), (4, .int (rdI (atT T r pl k))), (0, .ref mo), (1, .int r), (2, .int pl), (3, .int wh)] → W p l e ({ frames := 0, cells := 0, slots := 0, locals := 0 } : Room) s m ([.ref mo, .int r, .int pl, .int wh] : List Value).toArray below meth c s.heap [] 0 0 (MQ below (va_Qi (fun z σ' => moA X σ' mo A 1 nr cw F T sa rc Q dr ∧ frm (aM mo A) σ σ' ∧ z = nI 0) (gs_U X) (gs_A X)) ([.ref mo, .int r, .int pl, .int wh] : List Value).toArray s 0 0 (gs_A X)) (F0 m 6 ls []) := by
    intro fl
    induction fl with
    | zero => intro k _ h9; omega
    | succ fl ih =>
      intro k hk hmu  ls hl
      refine lv_iload hx hb d_MO_tuple_6 (lv_at hl 0 rfl) ?_
      refine lv_aload_n hx hb d_MO_tuple_8 rfl (lv_at hl 2 rfl) ?_
      refine gs_get (v := .int (nI (Z 7))) hx hb ht hown hK hG k_MO m0 7 (by decide) w_669 rfl d_MO_tuple_9 ?_
      refine gs_top (show nI (Z 7) = nI T.length from congrArg nI (show Z 7 = T.length from z7)) ?_
      refine lv_icmp_ge (tgt := 106) hx hb d_MO_tuple_12 (by decide) (fun c_12 => ?_) (fun c_12 => ?_)
      · have c_12 : T.length ≤ k := (nI_leI (by omega) (by omega)).mp c_12
        exact k106 ls (by rw [← show k = T.length by omega]; exact (lv_sub hl [1, 2, 3, 4, 5] rfl))
      · have c_12 : ¬ T.length ≤ k := mt (nI_leI (by omega) (by omega)).mpr c_12
        have hkT : k < T.length := by omega
        obtain ⟨x, hx8⟩ := get_ex (L := T) (j := k) hkT
        obtain ⟨hx1, hx2, _, _⟩ := hT _ _ hx8
        obtain ⟨hx5, hx6, _⟩ := hTB.2 _ (List.mem_of_getElem? hx8)
        have has := atT_s (r := r) (pl := pl) hx8
        have lpj : ∀ (fl2 j : Nat), j ≤ T.length → T.length - j < fl2 → ∀ ls, lv_has ls 8 [(7, .int (nI j)), (6, .int (nI (bfT T r x.2.1 j))), (5, .int (nI k)), (4, .int (rdI (atT T r pl k))), (0, .ref mo), (1, .int r), (2, .int pl), (3, .int wh)] → W p l e ({ frames := 0, cells := 0, slots := 0, locals := 0 } : Room) s m ([.ref mo, .int r, .int pl, .int wh] : List Value).toArray below meth c s.heap [] 0 0 (MQ below (va_Qi (fun z σ' => moA X σ' mo A 1 nr cw F T sa rc Q dr ∧ frm (aM mo A) σ σ' ∧ z = nI 0) (gs_U X) (gs_A X)) ([.ref mo, .int r, .int pl, .int wh] : List Value).toArray s 0 0 (gs_A X)) (F0 m 21 ls []) := by
          intro fl2
          induction fl2 with
          | zero => intro j _ h9; omega
          | succ fl2 ih2 =>
            intro j hj hmu2 ls hl
            have hbl := bfT_le T r x.2.1 j
            refine lv_iload hx hb d_MO_tuple_21 (lv_at hl 0 rfl) ?_
            refine lv_aload_n hx hb d_MO_tuple_23 rfl (lv_at hl 4 rfl) ?_
            refine gs_get (v := .int (nI (Z 7))) hx hb ht hown hK hG k_MO m0 7 (by decide) w_669 rfl d_MO_tuple_24 ?_
            refine gs_top (show nI (Z 7) = nI T.length from congrArg nI (show Z 7 = T.length from z7)) ?_
            refine lv_icmp_ge (tgt := 74) hx hb d_MO_tuple_27 (by decide) (fun c_27 => ?_) (fun c_27 => ?_)
            · have c_27 : T.length ≤ j := (nI_leI (by omega) (by omega)).mp c_27
              have hje : j = T.length := by omega
              refine lv_aload_n hx hb d_MO_tuple_74 rfl (lv_at hl 4 rfl) ?_
              refine gs_get (v := .ref (A 8)) hx hb ht hown hK hG k_MO m0 8 (by decide) w_670 rfl d_MO_tuple_75 ?_
              refine lv_iload hx hb d_MO_tuple_78 (lv_at hl 2 rfl) ?_
              refine gs_iald hx hb hK hG m8 (j := k) (by omega) (by omega) d_MO_tuple_80 ?_
              refine gs_top (show (f8 k) = (nI x.1) from hx1) ?_
              refine lv_iload_n hx hb d_MO_tuple_81 rfl (lv_at hl 5 rfl) ?_
              refine lv_icmp_ne (tgt := 96) hx hb d_MO_tuple_82 (by decide) (fun c_82 => ?_) (fun c_82 => ?_)
              · refine lv_iload hx hb d_MO_tuple_96 (lv_at hl 3 rfl) ?_
                refine lv_istore (lv' := [(4, .int (rdI (atT T r pl k))), (7, .int (nI j)), (6, .int (nI (bfT T r x.2.1 j))), (5, .int (nI k)), (0, .ref mo), (1, .int r), (2, .int pl), (3, .int wh)]) hx hb d_MO_tuple_98 hl (by decide) rfl (fun ls hl => ?_)
                refine lv_iinc (v := (nI (k + 1))) (lv' := [(5, .int (nI (k + 1))), (4, .int (rdI (atT T r pl k))), (7, .int (nI j)), (6, .int (nI (bfT T r x.2.1 j))), (0, .ref mo), (1, .int r), (2, .int pl), (3, .int wh)]) hx hb d_MO_tuple_100 hl (k := 3) rfl (by exact nI_1 _) (by decide) rfl (fun ls hl => ?_)
                refine lv_goto (tgt := 6) hx hb d_MO_tuple_103 (by decide) ?_
                exact ih (k + 1) (by omega) (by omega) ls (by rw [has, if_neg (fun z => by first | exact c_82 z.1 | exact c_88 (by rw [hje]; exact z.2))]; exact (lv_sub hl [0, 1, 4, 5, 6, 7] rfl))
              · refine lv_iload hx hb d_MO_tuple_85 (lv_at hl 1 rfl) ?_
                refine lv_iload_n hx hb d_MO_tuple_87 rfl (lv_at hl 6 rfl) ?_
                refine lv_icmp_ne (tgt := 96) hx hb d_MO_tuple_88 (by decide) (fun c_88 => ?_) (fun c_88 => ?_)
                · refine lv_iload hx hb d_MO_tuple_96 (lv_at hl 3 rfl) ?_
                  refine lv_istore (lv' := [(4, .int (rdI (atT T r pl k))), (7, .int (nI j)), (6, .int (nI (bfT T r x.2.1 j))), (5, .int (nI k)), (0, .ref mo), (1, .int r), (2, .int pl), (3, .int wh)]) hx hb d_MO_tuple_98 hl (by decide) rfl (fun ls hl => ?_)
                  refine lv_iinc (v := (nI (k + 1))) (lv' := [(5, .int (nI (k + 1))), (4, .int (rdI (atT T r pl k))), (7, .int (nI j)), (6, .int (nI (bfT T r x.2.1 j))), (0, .ref mo), (1, .int r), (2, .int pl), (3, .int wh)]) hx hb d_MO_tuple_100 hl (k := 3) rfl (by exact nI_1 _) (by decide) rfl (fun ls hl => ?_)
                  refine lv_goto (tgt := 6) hx hb d_MO_tuple_103 (by decide) ?_
                  exact ih (k + 1) (by omega) (by omega) ls (by rw [has, if_neg (fun z => by first | exact c_82 z.1 | exact c_88 (by rw [hje]; exact z.2))]; exact (lv_sub hl [0, 1, 4, 5, 6, 7] rfl))
                · refine lv_iload hx hb d_MO_tuple_91 (lv_at hl 2 rfl) ?_
                  refine lv_goto (tgt := 98) hx hb d_MO_tuple_93 (by decide) ?_
                  refine lv_istore (lv' := [(4, .int (nI k)), (7, .int (nI j)), (6, .int (nI (bfT T r x.2.1 j))), (5, .int (nI k)), (0, .ref mo), (1, .int r), (2, .int pl), (3, .int wh)]) hx hb d_MO_tuple_98 hl (by decide) rfl (fun ls hl => ?_)
                  refine lv_iinc (v := (nI (k + 1))) (lv' := [(5, .int (nI (k + 1))), (4, .int (nI k)), (7, .int (nI j)), (6, .int (nI (bfT T r x.2.1 j))), (0, .ref mo), (1, .int r), (2, .int pl), (3, .int wh)]) hx hb d_MO_tuple_100 hl (k := 3) rfl (by exact nI_1 _) (by decide) rfl (fun ls hl => ?_)
                  refine lv_goto (tgt := 6) hx hb d_MO_tuple_103 (by decide) ?_
                  exact ih (k + 1) (by omega) (by omega) ls (by rw [has, if_pos ⟨c_82, by rw [← hje]; exact c_88⟩]; exact (lv_sub hl [0, 1, 4, 5, 6, 7] rfl))
            · have c_27 : ¬ T.length ≤ j := mt (nI_leI (by omega) (by omega)).mpr c_27
              have hjT : j < T.length := by omega
              obtain ⟨y, hy8⟩ := get_ex (L := T) (j := j) hjT
              obtain ⟨hw1, hw2, _, _⟩ := hT _ _ hy8
              obtain ⟨hw5, hw6, _⟩ := hTB.2 _ (List.mem_of_getElem? hy8)
              have hbs := bfT_s (r := r) (t := x.2.1) hy8
              refine lv_iload hx hb d_MO_tuple_30 (lv_at hl 1 rfl) ?_
              refine lv_aload_n hx hb d_MO_tuple_32 rfl (lv_at hl 4 rfl) ?_
              refine gs_get (v := .ref (A 8)) hx hb ht hown hK hG k_MO m0 8 (by decide) w_670 rfl d_MO_tuple_33 ?_
              refine lv_iload hx hb d_MO_tuple_36 (lv_at hl 0 rfl) ?_
              refine gs_iald hx hb hK hG m8 (j := j) (by omega) (by omega) d_MO_tuple_38 ?_
              refine gs_top (show (f8 j) = (nI y.1) from hw1) ?_
              refine lv_iload_n hx hb d_MO_tuple_39 rfl (lv_at hl 5 rfl) ?_
              refine lv_icmp_ne (tgt := 64) hx hb d_MO_tuple_40 (by decide) (fun c_40 => ?_) (fun c_40 => ?_)
              · refine lv_iconst (v := nI 0) hx hb d_MO_tuple_64 (by decide) ?_
                refine lv_iadd hx hb d_MO_tuple_65 ?_
                refine gs_top (nI_add (bfT T r x.2.1 j) 0) ?_
                refine lv_istore (lv' := [(6, .int (nI ((bfT T r x.2.1 j) + 0))), (7, .int (nI j)), (5, .int (nI k)), (4, .int (rdI (atT T r pl k))), (0, .ref mo), (1, .int r), (2, .int pl), (3, .int wh)]) hx hb d_MO_tuple_66 hl (by decide) rfl (fun ls hl => ?_)
                refine lv_iinc (v := (nI (j + 1))) (lv' := [(7, .int (nI (j + 1))), (6, .int (nI ((bfT T r x.2.1 j) + 0))), (5, .int (nI k)), (4, .int (rdI (atT T r pl k))), (0, .ref mo), (1, .int r), (2, .int pl), (3, .int wh)]) hx hb d_MO_tuple_68 hl (k := 1) rfl (by exact nI_1 _) (by decide) rfl (fun ls hl => ?_)
                refine lv_goto (tgt := 21) hx hb d_MO_tuple_71 (by decide) ?_
                exact ih2 (j + 1) (by omega) (by omega) ls (by rw [show bfT T r x.2.1 (j + 1) = (bfT T r x.2.1 j) + 0 from by rw [hbs]; first | (rw [if_pos ⟨c_40, by omega⟩]; done) | (rw [if_neg (fun z => c_40 z.1)]; done) | (rw [if_neg (fun z => by have := z.2; omega)])]; exact (lv_sub hl [0, 1, 2, 3, 4, 5, 6, 7] rfl))
              · refine lv_aload_n hx hb d_MO_tuple_43 rfl (lv_at hl 4 rfl) ?_
                refine gs_get (v := .ref (A 9)) hx hb ht hown hK hG k_MO m0 9 (by decide) w_671 rfl d_MO_tuple_44 ?_
                refine lv_iload hx hb d_MO_tuple_47 (lv_at hl 0 rfl) ?_
                refine gs_iald hx hb hK hG m9 (j := j) (by omega) (by omega) d_MO_tuple_49 ?_
                refine gs_top (show (f9 j) = (nI y.2.1) from hw2) ?_
                refine lv_aload_n hx hb d_MO_tuple_50 rfl (lv_at hl 4 rfl) ?_
                refine gs_get (v := .ref (A 9)) hx hb ht hown hK hG k_MO m0 9 (by decide) w_671 rfl d_MO_tuple_51 ?_
                refine lv_iload hx hb d_MO_tuple_54 (lv_at hl 2 rfl) ?_
                refine gs_iald hx hb hK hG m9 (j := k) (by omega) (by omega) d_MO_tuple_56 ?_
                refine gs_top (show (f9 k) = (nI x.2.1) from hx2) ?_
                refine lv_icmp_ge (tgt := 64) hx hb d_MO_tuple_57 (by decide) (fun c_57 => ?_) (fun c_57 => ?_)
                · have c_57 : x.2.1 ≤ y.2.1 := (nI_leI (by omega) (by omega)).mp c_57
                  refine lv_iconst (v := nI 0) hx hb d_MO_tuple_64 (by decide) ?_
                  refine lv_iadd hx hb d_MO_tuple_65 ?_
                  refine gs_top (nI_add (bfT T r x.2.1 j) 0) ?_
                  refine lv_istore (lv' := [(6, .int (nI ((bfT T r x.2.1 j) + 0))), (7, .int (nI j)), (5, .int (nI k)), (4, .int (rdI (atT T r pl k))), (0, .ref mo), (1, .int r), (2, .int pl), (3, .int wh)]) hx hb d_MO_tuple_66 hl (by decide) rfl (fun ls hl => ?_)
                  refine lv_iinc (v := (nI (j + 1))) (lv' := [(7, .int (nI (j + 1))), (6, .int (nI ((bfT T r x.2.1 j) + 0))), (5, .int (nI k)), (4, .int (rdI (atT T r pl k))), (0, .ref mo), (1, .int r), (2, .int pl), (3, .int wh)]) hx hb d_MO_tuple_68 hl (k := 1) rfl (by exact nI_1 _) (by decide) rfl (fun ls hl => ?_)
                  refine lv_goto (tgt := 21) hx hb d_MO_tuple_71 (by decide) ?_
                  exact ih2 (j + 1) (by omega) (by omega) ls (by rw [show bfT T r x.2.1 (j + 1) = (bfT T r x.2.1 j) + 0 from by rw [hbs]; first | (rw [if_pos ⟨c_40, by omega⟩]; done) | (rw [if_neg (fun z => c_40 z.1)]; done) | (rw [if_neg (fun z => by have := z.2; omega)])]; exact (lv_sub hl [0, 1, 2, 3, 4, 5, 6, 7] rfl))
                · have c_57 : ¬ x.2.1 ≤ y.2.1 := mt (nI_leI (by omega) (by omega)).mpr c_57
                  refine lv_iconst (v := nI 1) hx hb d_MO_tuple_60 (by decide) ?_
                  refine lv_goto (tgt := 65) hx hb d_MO_tuple_61 (by decide) ?_
                  refine lv_iadd hx hb d_MO_tuple_65 ?_
                  refine gs_top (nI_add (bfT T r x.2.1 j) 1) ?_
                  refine lv_istore (lv' := [(6, .int (nI ((bfT T r x.2.1 j) + 1))), (7, .int (nI j)), (5, .int (nI k)), (4, .int (rdI (atT T r pl k))), (0, .ref mo), (1, .int r), (2, .int pl), (3, .int wh)]) hx hb d_MO_tuple_66 hl (by decide) rfl (fun ls hl => ?_)
                  refine lv_iinc (v := (nI (j + 1))) (lv' := [(7, .int (nI (j + 1))), (6, .int (nI ((bfT T r x.2.1 j) + 1))), (5, .int (nI k)), (4, .int (rdI (atT T r pl k))), (0, .ref mo), (1, .int r), (2, .int pl), (3, .int wh)]) hx hb d_MO_tuple_68 hl (k := 1) rfl (by exact nI_1 _) (by decide) rfl (fun ls hl => ?_)
                  refine lv_goto (tgt := 21) hx hb d_MO_tuple_71 (by decide) ?_
                  exact ih2 (j + 1) (by omega) (by omega) ls (by rw [show bfT T r x.2.1 (j + 1) = (bfT T r x.2.1 j) + 1 from by rw [hbs]; first | (rw [if_pos ⟨c_40, by omega⟩]; done) | (rw [if_neg (fun z => c_40 z.1)]; done) | (rw [if_neg (fun z => by have := z.2; omega)])]; exact (lv_sub hl [0, 1, 2, 3, 4, 5, 6, 7] rfl))
        refine lv_iconst (v := nI 0) hx hb d_MO_tuple_15 (by decide) ?_
        refine lv_istore (lv' := [(6, .int (nI 0)), (5, .int (nI k)), (4, .int (rdI (atT T r pl k))), (0, .ref mo), (1, .int r), (2, .int pl), (3, .int wh)]) hx hb d_MO_tuple_16 hl (by decide) rfl (fun ls hl => ?_)
        refine lv_iconst (v := nI 0) hx hb d_MO_tuple_18 (by decide) ?_
        refine lv_istore (lv' := [(7, .int (nI 0)), (6, .int (nI 0)), (5, .int (nI k)), (4, .int (rdI (atT T r pl k))), (0, .ref mo), (1, .int r), (2, .int pl), (3, .int wh)]) hx hb d_MO_tuple_19 hl (by decide) rfl (fun ls hl => ?_)
        exact lpj (T.length + 1) 0 (by omega) (by omega) ls (by rw [show bfT T r x.2.1 0 = 0 from by unfold bfT; simp]; exact (lv_sub hl [0, 1, 2, 3, 4, 5, 6, 7] rfl))
  refine lv_iconst (v := -1) hx hb d_MO_tuple_0 (by decide) ?_
  refine lv_istore (lv' := [(4, .int (-1)), (0, .ref mo), (1, .int r), (2, .int pl), (3, .int wh)]) hx hb d_MO_tuple_1 hl (by decide) rfl (fun ls hl => ?_)
  refine lv_iconst (v := nI 0) hx hb d_MO_tuple_3 (by decide) ?_
  refine lv_istore (lv' := [(5, .int (nI 0)), (4, .int (-1)), (0, .ref mo), (1, .int r), (2, .int pl), (3, .int wh)]) hx hb d_MO_tuple_4 hl (by decide) rfl (fun ls hl => ?_)
  exact loop (T.length + 1) 0 (by omega) (by omega) ls (lv_sub hl [0, 1, 2, 3, 4, 5] rfl)
set_option maxHeartbeats 4000000 in
set_option maxRecDepth 100000 in
/-- the reference: tuple -/
theorem c_MO_tuple (l : Launch) (X : gs_X) (σ : gs_St) (mo : Nat) (A : Nat → Nat) (cd nr : Nat) (cw : Nat → Nat) (F : List (Nat × Nat)) (T : List MT) (sa rc : Nat) (Q : List MR) (dr : Option MR) (r pl : Int32) (rl k9 wh : Nat) (x9 : MT)
    (hM : moA X σ mo A cd nr cw F T sa rc Q dr) (er : r = nI rl) (hrl : rl < nr) (hat : atT T r pl T.length = some k9) (hx9 : T[k9]? = some x9) (hwh : wh < 5) : gs_Mi l X y_MO_tuple b_MO_tuple 8 (some .int) ({ frames := 0, cells := 0, slots := 0, locals := 0 }) σ [.ref mo, .int r, .int pl, .int (nI wh)] (fun z σ' => moA X σ' mo A 0 nr cw F T sa rc Q dr ∧ frm (aM mo A) σ σ' ∧ z = tupM x9 wh) := by
  refine Met.ofW (cc := b_MO_tuple) (maxL := 8) (ret := (some .int)) (by decide) rfl ?_
  intro p e s m args below meth c s₁ B₀ hml hv
  obtain ⟨rfl, hK, hG, hz, hE⟩ := hv
  have hx := B₀.exec
  have hb := B₀.bytes
  have hr := B₀.returns
  have hts := atoms_spec (ws := gs_ws y_MO_tuple b_MO_tuple 8 (some .int)) B₀.pre
  have ht : ∀ w ∈ gs_w, w.before _ s = true := fun w h => hts w (List.mem_cons_of_mem _ h)
  have hown : s.vm.findClass R_MO = some m.cls := findClass_of_methodNamed B₀.named
  have hlocks := B₀.notSynchronized
  have hA : ∀ q : Nat, s.heap.size ≤ q → gs_A X q := fun q h => Nat.le_trans hz h
  have hS : va_S (gs_A X) s.heap s.heap [] := va_S.rf
  have hl := lv_entry ([.ref mo, .int r, .int pl, .int (nI wh)]) (n := 8) (Nat.le_of_ble_eq_true rfl)
  rw [lg_entry_eq]
  generalize (lg_sl ([.ref mo, .int r, .int pl, .int (nI wh)]) ++ List.replicate (8 - (lg_sl ([.ref mo, .int r, .int pl, .int (nI wh)])).length) Slot.unset).toArray = ls at hl ⊢
  have hl : lv_has ls 8 [(0, .ref mo), (1, .int r), (2, .int pl), (3, .int (nI wh))] := hl
  obtain ⟨hNN, hnr, hFB, hTB, hrc, ⟨Z, m0, z0, z1, z4, z7, z16, z17, z25, z26⟩, hcol, hfac, htup, hbit, hfnd, hrul, hscr⟩ := id hM
  have hN := hN1 hNN
  have hFl := hFB.1
  have hTl := hTB.1
  obtain ⟨f8, f9, f10, f11, m8, m9, m10, m11, hT⟩ := id htup
  have fr0 : frm [mo] σ σ := frm.rf
  have k106 : ∀ ls, lv_has ls 8 [(4, .int (rdI (atT T r pl T.length))), (0, .ref mo), (1, .int r), (2, .int pl), (3, .int (nI wh))] → W p l e ({ frames := 0, cells := 0, slots := 0, locals := 0 } : Room) s m ([.ref mo, .int r, .int pl, .int (nI wh)] : List Value).toArray below meth c s.heap [] 0 0 (MQ below (va_Qi (fun z σ' => moA X σ' mo A 0 nr cw F T sa rc Q dr ∧ frm (aM mo A) σ σ' ∧ z = tupM x9 wh) (gs_U X) (gs_A X)) ([.ref mo, .int r, .int pl, .int (nI wh)] : List Value).toArray s 0 0 (gs_A X)) (F0 m 106 ls []) := by
    intro ls hl
    rw [hat] at hl
    have hl : lv_has ls 8 [(4, .int (nI k9)), (0, .ref mo), (1, .int r), (2, .int pl), (3, .int (nI wh))] := hl
    have hk9 := (List.getElem?_eq_some_iff.mp hx9).1
    obtain ⟨hy1, hy2, hy3, hy4⟩ := hT _ _ hx9
    obtain ⟨hy5, hy6, _⟩ := hTB.2 _ (List.mem_of_getElem? hx9)
    have hwr : wi nr r = true := by rw [er]; exact wi_nI hrl (by omega)
    refine lv_aload_n hx hb d_MO_tuple_106 rfl (lv_at hl 1 rfl) ?_
    refine lv_iload_n hx hb d_MO_tuple_107 rfl (lv_at hl 2 rfl) ?_
    refine lv_if_lt (tgt := 133) hx hb d_MO_tuple_108 (by decide) (fun c_108 => ?_) (fun c_108 => ?_)
    · exact absurd hwr (by rw [wi_neg c_108]; decide)
    · refine lv_iload_n hx hb d_MO_tuple_111 rfl (lv_at hl 2 rfl) ?_
      refine lv_aload_n hx hb d_MO_tuple_112 rfl (lv_at hl 1 rfl) ?_
      refine gs_get (v := .int (nI (Z 1))) hx hb ht hown hK hG k_MO m0 1 (by decide) w_663 rfl d_MO_tuple_113 ?_
      refine gs_top (show nI (Z 1) = nI nr from congrArg nI (show Z 1 = nr from z1)) ?_
      refine lv_icmp_ge (tgt := 133) hx hb d_MO_tuple_116 (by decide) (fun c_116 => ?_) (fun c_116 => ?_)
      · exact absurd hwr (by rw [wi_ge c_116]; decide)
      · refine lv_iload hx hb d_MO_tuple_119 (lv_at hl 0 rfl) ?_
        refine lv_if_lt (tgt := 133) hx hb d_MO_tuple_121 (by decide) (fun c_121 => ?_) (fun c_121 => ?_)
        · exact absurd c_121 (nI_pos (by omega))
          
        · refine lv_iload_n hx hb d_MO_tuple_124 rfl (lv_at hl 4 rfl) ?_
          refine lv_if_lt (tgt := 133) hx hb d_MO_tuple_125 (by decide) (fun c_125 => ?_) (fun c_125 => ?_)
          · exact absurd c_125 (nI_pos (by omega))
            
          · refine lv_iload_n hx hb d_MO_tuple_128 rfl (lv_at hl 4 rfl) ?_
            refine lv_iconst (v := nI 4) hx hb d_MO_tuple_129 (by decide) ?_
            refine lv_icmp_le (tgt := 137) hx hb d_MO_tuple_130 (by decide) (fun c_130 => ?_) (fun c_130 => ?_)
            · have c_130 : wh ≤ 4 := (nI_leI (by omega) (by omega)).mp c_130
              refine lv_iconst (v := nI 0) hx hb d_MO_tuple_137 (by decide) ?_
              refine gs_put hx hb ht hown hK hG hS k_MO m0 0 (by decide) w_662 rfl rfl rfl (Nat.le_of_ble_eq_true rfl) d_MO_tuple_138 (fun H locs hG hS => ?_)
              have hG : gs_H X (gs_up σ mo (moE A (va_up Z 0 0))) H := hG
              obtain ⟨σ_1, eσ_1⟩ : ∃ zq, zq = gs_up σ mo (moE A (va_up Z 0 0)) := ⟨_, rfl⟩
              rw [← eσ_1] at hG
              have hc_2 : σ_1 (A 8) = some (gs_ia X 320 f8) := by rw [eσ_1]; exact gs_ku (gs_ne m8 m0 (by simp)) m8
              have hc_3 : σ_1 (A 9) = some (gs_ia X 320 f9) := by rw [eσ_1]; exact gs_ku (gs_ne m9 m0 (by simp)) m9
              have hc_4 : σ_1 (A 10) = some (gs_ia X 320 f10) := by rw [eσ_1]; exact gs_ku (gs_ne m10 m0 (by simp)) m10
              have hc_5 : σ_1 (A 11) = some (gs_ia X 320 f11) := by rw [eσ_1]; exact gs_ku (gs_ne m11 m0 (by simp)) m11
              have hc_6 : σ_1 mo = some (moE A (va_up Z 0 0)) := by rw [eσ_1]; exact gs_us
              have fr_7 : frm [mo] σ σ_1 := by rw [eσ_1]; exact fr0.up (by simp)
              refine lv_aload_n hx hb d_MO_tuple_141 rfl (lv_at hl 1 rfl) ?_
              refine gs_get (v := .int (nI 0)) hx hb ht hown hK hG k_MO hc_6 0 (by decide) w_662 rfl d_MO_tuple_142 ?_
              refine lv_if_le (tgt := 150) hx hb d_MO_tuple_145 (by decide) (fun c_145 => ?_) (fun c_145 => ?_)
              · have c_145 : 0 = 0 := by have := gs_le0 (a := 0) (by omega); exact this.mp c_145
                refine lv_iload_n hx hb d_MO_tuple_150 rfl (lv_at hl 4 rfl) ?_
                rcases Nat.lt_or_ge wh 4 with hsw_151 | hsw_151
                · rcases (show wh = 0 ∨ wh = 1 ∨ wh = 2 ∨ wh = 3 by omega) with hsw_151 | hsw_151 | hsw_151 | hsw_151
                  · refine gs_top (show nI wh = nI 0 from congrArg nI hsw_151) ?_
                    refine lv_tableIn (off := 29) (tgt := 180) hx hb d_MO_tuple_151 (by decide) (by decide) (by decide) (by decide) ?_
                    refine lv_aload_n hx hb d_MO_tuple_180 rfl (lv_at hl 1 rfl) ?_
                    refine gs_get (v := .ref (A 9)) hx hb ht hown hK hG k_MO hc_6 9 (by decide) w_671 rfl d_MO_tuple_181 ?_
                    refine lv_iload hx hb d_MO_tuple_184 (lv_at hl 0 rfl) ?_
                    refine gs_iald hx hb hK hG hc_3 (j := k9) (by omega) (by omega) d_MO_tuple_186 ?_
                    refine gs_top (show (f9 k9) = (nI x9.2.1) from hy2) ?_
                    refine lv_sipush (v := nI 4096) hx hb d_MO_tuple_187 (by decide) ?_
                    refine lv_idiv hx hb d_MO_tuple_190 (by decide) ?_
                    refine gs_top (pk_div (a := x9.2.1) (d := 4096) (by omega) (by omega) (by omega)) ?_
                    exact gs_iret (v := (nI (x9.2.1 / 4096))) hx hb hr rfl hK hE hz hG hS hlocks (by first | decide | omega | (dsimp only [headSpec]; omega)) (by first | decide | omega | (dsimp only [headSpec]; omega)) (⟨(hM.num fr_7 ⟨_, hc_6, rfl, z1, z4, z7, z16, z17, z25, z26⟩ hrc), fr_7.wk (by simp), by unfold tupM clM; rw [hsw_151]; rfl⟩) d_MO_tuple_191
                  · refine gs_top (show nI wh = nI 1 from congrArg nI hsw_151) ?_
                    refine lv_tableIn (off := 41) (tgt := 192) hx hb d_MO_tuple_151 (by decide) (by decide) (by decide) (by decide) ?_
                    refine lv_aload_n hx hb d_MO_tuple_192 rfl (lv_at hl 1 rfl) ?_
                    refine gs_get (v := .ref (A 9)) hx hb ht hown hK hG k_MO hc_6 9 (by decide) w_671 rfl d_MO_tuple_193 ?_
                    refine lv_iload hx hb d_MO_tuple_196 (lv_at hl 0 rfl) ?_
                    refine gs_iald hx hb hK hG hc_3 (j := k9) (by omega) (by omega) d_MO_tuple_198 ?_
                    refine gs_top (show (f9 k9) = (nI x9.2.1) from hy2) ?_
                    refine lv_bipush (v := nI 64) hx hb d_MO_tuple_199 (by decide) ?_
                    refine lv_idiv hx hb d_MO_tuple_201 (by decide) ?_
                    refine gs_top (pk_div (a := x9.2.1) (d := 64) (by omega) (by omega) (by omega)) ?_
                    refine lv_bipush (v := nI 64) hx hb d_MO_tuple_202 (by decide) ?_
                    refine lv_irem hx hb d_MO_tuple_204 (by decide) ?_
                    refine gs_top (pk_rem (a := (x9.2.1 / 64)) (d := 64) (by omega) (by omega) (by omega)) ?_
                    exact gs_iret (v := (nI ((x9.2.1 / 64) % 64))) hx hb hr rfl hK hE hz hG hS hlocks (by first | decide | omega | (dsimp only [headSpec]; omega)) (by first | decide | omega | (dsimp only [headSpec]; omega)) (⟨(hM.num fr_7 ⟨_, hc_6, rfl, z1, z4, z7, z16, z17, z25, z26⟩ hrc), fr_7.wk (by simp), by unfold tupM clM; rw [hsw_151]; rfl⟩) d_MO_tuple_205
                  · refine gs_top (show nI wh = nI 2 from congrArg nI hsw_151) ?_
                    refine lv_tableIn (off := 55) (tgt := 206) hx hb d_MO_tuple_151 (by decide) (by decide) (by decide) (by decide) ?_
                    refine lv_aload_n hx hb d_MO_tuple_206 rfl (lv_at hl 1 rfl) ?_
                    refine gs_get (v := .ref (A 9)) hx hb ht hown hK hG k_MO hc_6 9 (by decide) w_671 rfl d_MO_tuple_207 ?_
                    refine lv_iload hx hb d_MO_tuple_210 (lv_at hl 0 rfl) ?_
                    refine gs_iald hx hb hK hG hc_3 (j := k9) (by omega) (by omega) d_MO_tuple_212 ?_
                    refine gs_top (show (f9 k9) = (nI x9.2.1) from hy2) ?_
                    refine lv_bipush (v := nI 64) hx hb d_MO_tuple_213 (by decide) ?_
                    refine lv_irem hx hb d_MO_tuple_215 (by decide) ?_
                    refine gs_top (pk_rem (a := x9.2.1) (d := 64) (by omega) (by omega) (by omega)) ?_
                    exact gs_iret (v := (nI (x9.2.1 % 64))) hx hb hr rfl hK hE hz hG hS hlocks (by first | decide | omega | (dsimp only [headSpec]; omega)) (by first | decide | omega | (dsimp only [headSpec]; omega)) (⟨(hM.num fr_7 ⟨_, hc_6, rfl, z1, z4, z7, z16, z17, z25, z26⟩ hrc), fr_7.wk (by simp), by unfold tupM clM; rw [hsw_151]; rfl⟩) d_MO_tuple_216
                  · refine gs_top (show nI wh = nI 3 from congrArg nI hsw_151) ?_
                    refine lv_tableIn (off := 66) (tgt := 217) hx hb d_MO_tuple_151 (by decide) (by decide) (by decide) (by decide) ?_
                    refine lv_aload_n hx hb d_MO_tuple_217 rfl (lv_at hl 1 rfl) ?_
                    refine gs_get (v := .ref (A 10)) hx hb ht hown hK hG k_MO hc_6 10 (by decide) w_672 rfl d_MO_tuple_218 ?_
                    refine lv_iload hx hb d_MO_tuple_221 (lv_at hl 0 rfl) ?_
                    refine gs_iald hx hb hK hG hc_4 (j := k9) (by omega) (by omega) d_MO_tuple_223 ?_
                    refine gs_top (show (f10 k9) = (nI x9.2.2.1) from hy3) ?_
                    exact gs_iret (v := (nI x9.2.2.1)) hx hb hr rfl hK hE hz hG hS hlocks (by first | decide | omega | (dsimp only [headSpec]; omega)) (by first | decide | omega | (dsimp only [headSpec]; omega)) (⟨(hM.num fr_7 ⟨_, hc_6, rfl, z1, z4, z7, z16, z17, z25, z26⟩ hrc), fr_7.wk (by simp), by unfold tupM; rw [hsw_151]; rfl⟩) d_MO_tuple_224
                · refine lv_tableOut (tgt := 225) hx hb d_MO_tuple_151 (Or.inr (by rw [nI_toInt (by omega)]; omega)) (by decide) ?_
                  refine lv_aload_n hx hb d_MO_tuple_225 rfl (lv_at hl 1 rfl) ?_
                  refine gs_get (v := .ref (A 11)) hx hb ht hown hK hG k_MO hc_6 11 (by decide) w_673 rfl d_MO_tuple_226 ?_
                  refine lv_iload hx hb d_MO_tuple_229 (lv_at hl 0 rfl) ?_
                  refine gs_iald hx hb hK hG hc_5 (j := k9) (by omega) (by omega) d_MO_tuple_231 ?_
                  refine gs_top (show (f11 k9) = x9.2.2.2 from hy4) ?_
                  exact gs_iret (v := x9.2.2.2) hx hb hr rfl hK hE hz hG hS hlocks (by first | decide | omega | (dsimp only [headSpec]; omega)) (by first | decide | omega | (dsimp only [headSpec]; omega)) (⟨(hM.num fr_7 ⟨_, hc_6, rfl, z1, z4, z7, z16, z17, z25, z26⟩ hrc), fr_7.wk (by simp), by unfold tupM; rw [if_neg (by omega), if_neg (by omega)]⟩) d_MO_tuple_232
              · exact absurd c_145 (by decide)
            · have c_130 : ¬ wh ≤ 4 := mt (nI_leI (by omega) (by omega)).mpr c_130
              omega
  have loop : ∀ (fl : Nat) (k : Nat), (k ≤ T.length) → T.length - k < fl → ∀ ls, lv_has ls 8 [(5, .int (nI k)), (4, .int (rdI (atT T r pl k))), (0, .ref mo), (1, .int r), (2, .int pl), (3, .int (nI wh))] → W p l e ({ frames := 0, cells := 0, slots := 0, locals := 0 } : Room) s m ([.ref mo, .int r, .int pl, .int (nI wh)] : List Value).toArray below meth c s.heap [] 0 0 (MQ below (va_Qi (fun z σ' => moA X σ' mo A 0 nr cw F T sa rc Q dr ∧ frm (aM mo A) σ σ' ∧ z = tupM x9 wh) (gs_U X) (gs_A X)) ([.ref mo, .int r, .int pl, .int (nI wh)] : List Value).toArray s 0 0 (gs_A X)) (F0 m 6 ls []) := by
    intro fl
    induction fl with
    | zero => intro k _ h9; omega
    | succ fl ih =>
      intro k hk hmu  ls hl
      refine lv_iload hx hb d_MO_tuple_6 (lv_at hl 0 rfl) ?_
      refine lv_aload_n hx hb d_MO_tuple_8 rfl (lv_at hl 2 rfl) ?_
      refine gs_get (v := .int (nI (Z 7))) hx hb ht hown hK hG k_MO m0 7 (by decide) w_669 rfl d_MO_tuple_9 ?_
      refine gs_top (show nI (Z 7) = nI T.length from congrArg nI (show Z 7 = T.length from z7)) ?_
      refine lv_icmp_ge (tgt := 106) hx hb d_MO_tuple_12 (by decide) (fun c_12 => ?_) (fun c_12 => ?_)
      · have c_12 : T.length ≤ k := (nI_leI (by omega) (by omega)).mp c_12
        exact k106 ls (by rw [← show k = T.length by omega]; exact (lv_sub hl [1, 2, 3, 4, 5] rfl))
      · have c_12 : ¬ T.length ≤ k := mt (nI_leI (by omega) (by omega)).mpr c_12
        have hkT : k < T.length := by omega
        obtain ⟨x, hx8⟩ := get_ex (L := T) (j := k) hkT
        obtain ⟨hx1, hx2, _, _⟩ := hT _ _ hx8
        obtain ⟨hx5, hx6, _⟩ := hTB.2 _ (List.mem_of_getElem? hx8)
        have has := atT_s (r := r) (pl := pl) hx8
        have lpj : ∀ (fl2 j : Nat), j ≤ T.length → T.length - j < fl2 → ∀ ls, lv_has ls 8 [(7, .int (nI j)), (6, .int (nI (bfT T r x.2.1 j))), (5, .int (nI k)), (4, .int (rdI (atT T r pl k))), (0, .ref mo), (1, .int r), (2, .int pl), (3, .int (nI wh))] → W p l e ({ frames := 0, cells := 0, slots := 0, locals := 0 } : Room) s m ([.ref mo, .int r, .int pl, .int (nI wh)] : List Value).toArray below meth c s.heap [] 0 0 (MQ below (va_Qi (fun z σ' => moA X σ' mo A 0 nr cw F T sa rc Q dr ∧ frm (aM mo A) σ σ' ∧ z = tupM x9 wh) (gs_U X) (gs_A X)) ([.ref mo, .int r, .int pl, .int (nI wh)] : List Value).toArray s 0 0 (gs_A X)) (F0 m 21 ls []) := by
          intro fl2
          induction fl2 with
          | zero => intro j _ h9; omega
          | succ fl2 ih2 =>
            intro j hj hmu2 ls hl
            have hbl := bfT_le T r x.2.1 j
            refine lv_iload hx hb d_MO_tuple_21 (lv_at hl 0 rfl) ?_
            refine lv_aload_n hx hb d_MO_tuple_23 rfl (lv_at hl 4 rfl) ?_
            refine gs_get (v := .int (nI (Z 7))) hx hb ht hown hK hG k_MO m0 7 (by decide) w_669 rfl d_MO_tuple_24 ?_
            refine gs_top (show nI (Z 7) = nI T.length from congrArg nI (show Z 7 = T.length from z7)) ?_
            refine lv_icmp_ge (tgt := 74) hx hb d_MO_tuple_27 (by decide) (fun c_27 => ?_) (fun c_27 => ?_)
            · have c_27 : T.length ≤ j := (nI_leI (by omega) (by omega)).mp c_27
              have hje : j = T.length := by omega
              refine lv_aload_n hx hb d_MO_tuple_74 rfl (lv_at hl 4 rfl) ?_
              refine gs_get (v := .ref (A 8)) hx hb ht hown hK hG k_MO m0 8 (by decide) w_670 rfl d_MO_tuple_75 ?_
              refine lv_iload hx hb d_MO_tuple_78 (lv_at hl 2 rfl) ?_
              refine gs_iald hx hb hK hG m8 (j := k) (by omega) (by omega) d_MO_tuple_80 ?_
              refine gs_top (show (f8 k) = (nI x.1) from hx1) ?_
              refine lv_iload_n hx hb d_MO_tuple_81 rfl (lv_at hl 5 rfl) ?_
              refine lv_icmp_ne (tgt := 96) hx hb d_MO_tuple_82 (by decide) (fun c_82 => ?_) (fun c_82 => ?_)
              · refine lv_iload hx hb d_MO_tuple_96 (lv_at hl 3 rfl) ?_
                refine lv_istore (lv' := [(4, .int (rdI (atT T r pl k))), (7, .int (nI j)), (6, .int (nI (bfT T r x.2.1 j))), (5, .int (nI k)), (0, .ref mo), (1, .int r), (2, .int pl), (3, .int (nI wh))]) hx hb d_MO_tuple_98 hl (by decide) rfl (fun ls hl => ?_)
                refine lv_iinc (v := (nI (k + 1))) (lv' := [(5, .int (nI (k + 1))), (4, .int (rdI (atT T r pl k))), (7, .int (nI j)), (6, .int (nI (bfT T r x.2.1 j))), (0, .ref mo), (1, .int r), (2, .int pl), (3, .int (nI wh))]) hx hb d_MO_tuple_100 hl (k := 3) rfl (by exact nI_1 _) (by decide) rfl (fun ls hl => ?_)
                refine lv_goto (tgt := 6) hx hb d_MO_tuple_103 (by decide) ?_
                exact ih (k + 1) (by omega) (by omega) ls (by rw [has, if_neg (fun z => by first | exact c_82 z.1 | exact c_88 (by rw [hje]; exact z.2))]; exact (lv_sub hl [0, 1, 4, 5, 6, 7] rfl))
              · refine lv_iload hx hb d_MO_tuple_85 (lv_at hl 1 rfl) ?_
                refine lv_iload_n hx hb d_MO_tuple_87 rfl (lv_at hl 6 rfl) ?_
                refine lv_icmp_ne (tgt := 96) hx hb d_MO_tuple_88 (by decide) (fun c_88 => ?_) (fun c_88 => ?_)
                · refine lv_iload hx hb d_MO_tuple_96 (lv_at hl 3 rfl) ?_
                  refine lv_istore (lv' := [(4, .int (rdI (atT T r pl k))), (7, .int (nI j)), (6, .int (nI (bfT T r x.2.1 j))), (5, .int (nI k)), (0, .ref mo), (1, .int r), (2, .int pl), (3, .int (nI wh))]) hx hb d_MO_tuple_98 hl (by decide) rfl (fun ls hl => ?_)
                  refine lv_iinc (v := (nI (k + 1))) (lv' := [(5, .int (nI (k + 1))), (4, .int (rdI (atT T r pl k))), (7, .int (nI j)), (6, .int (nI (bfT T r x.2.1 j))), (0, .ref mo), (1, .int r), (2, .int pl), (3, .int (nI wh))]) hx hb d_MO_tuple_100 hl (k := 3) rfl (by exact nI_1 _) (by decide) rfl (fun ls hl => ?_)
                  refine lv_goto (tgt := 6) hx hb d_MO_tuple_103 (by decide) ?_
                  exact ih (k + 1) (by omega) (by omega) ls (by rw [has, if_neg (fun z => by first | exact c_82 z.1 | exact c_88 (by rw [hje]; exact z.2))]; exact (lv_sub hl [0, 1, 4, 5, 6, 7] rfl))
                · refine lv_iload hx hb d_MO_tuple_91 (lv_at hl 2 rfl) ?_
                  refine lv_goto (tgt := 98) hx hb d_MO_tuple_93 (by decide) ?_
                  refine lv_istore (lv' := [(4, .int (nI k)), (7, .int (nI j)), (6, .int (nI (bfT T r x.2.1 j))), (5, .int (nI k)), (0, .ref mo), (1, .int r), (2, .int pl), (3, .int (nI wh))]) hx hb d_MO_tuple_98 hl (by decide) rfl (fun ls hl => ?_)
                  refine lv_iinc (v := (nI (k + 1))) (lv' := [(5, .int (nI (k + 1))), (4, .int (nI k)), (7, .int (nI j)), (6, .int (nI (bfT T r x.2.1 j))), (0, .ref mo), (1, .int r), (2, .int pl), (3, .int (nI wh))]) hx hb d_MO_tuple_100 hl (k := 3) rfl (by exact nI_1 _) (by decide) rfl (fun ls hl => ?_)
                  refine lv_goto (tgt := 6) hx hb d_MO_tuple_103 (by decide) ?_
                  exact ih (k + 1) (by omega) (by omega) ls (by rw [has, if_pos ⟨c_82, by rw [← hje]; exact c_88⟩]; exact (lv_sub hl [0, 1, 4, 5, 6, 7] rfl))
            · have c_27 : ¬ T.length ≤ j := mt (nI_leI (by omega) (by omega)).mpr c_27
              have hjT : j < T.length := by omega
              obtain ⟨y, hy8⟩ := get_ex (L := T) (j := j) hjT
              obtain ⟨hw1, hw2, _, _⟩ := hT _ _ hy8
              obtain ⟨hw5, hw6, _⟩ := hTB.2 _ (List.mem_of_getElem? hy8)
              have hbs := bfT_s (r := r) (t := x.2.1) hy8
              refine lv_iload hx hb d_MO_tuple_30 (lv_at hl 1 rfl) ?_
              refine lv_aload_n hx hb d_MO_tuple_32 rfl (lv_at hl 4 rfl) ?_
              refine gs_get (v := .ref (A 8)) hx hb ht hown hK hG k_MO m0 8 (by decide) w_670 rfl d_MO_tuple_33 ?_
              refine lv_iload hx hb d_MO_tuple_36 (lv_at hl 0 rfl) ?_
              refine gs_iald hx hb hK hG m8 (j := j) (by omega) (by omega) d_MO_tuple_38 ?_
              refine gs_top (show (f8 j) = (nI y.1) from hw1) ?_
              refine lv_iload_n hx hb d_MO_tuple_39 rfl (lv_at hl 5 rfl) ?_
              refine lv_icmp_ne (tgt := 64) hx hb d_MO_tuple_40 (by decide) (fun c_40 => ?_) (fun c_40 => ?_)
              · refine lv_iconst (v := nI 0) hx hb d_MO_tuple_64 (by decide) ?_
                refine lv_iadd hx hb d_MO_tuple_65 ?_
                refine gs_top (nI_add (bfT T r x.2.1 j) 0) ?_
                refine lv_istore (lv' := [(6, .int (nI ((bfT T r x.2.1 j) + 0))), (7, .int (nI j)), (5, .int (nI k)), (4, .int (rdI (atT T r pl k))), (0, .ref mo), (1, .int r), (2, .int pl), (3, .int (nI wh))]) hx hb d_MO_tuple_66 hl (by decide) rfl (fun ls hl => ?_)
                refine lv_iinc (v := (nI (j + 1))) (lv' := [(7, .int (nI (j + 1))), (6, .int (nI ((bfT T r x.2.1 j) + 0))), (5, .int (nI k)), (4, .int (rdI (atT T r pl k))), (0, .ref mo), (1, .int r), (2, .int pl), (3, .int (nI wh))]) hx hb d_MO_tuple_68 hl (k := 1) rfl (by exact nI_1 _) (by decide) rfl (fun ls hl => ?_)
                refine lv_goto (tgt := 21) hx hb d_MO_tuple_71 (by decide) ?_
                exact ih2 (j + 1) (by omega) (by omega) ls (by rw [show bfT T r x.2.1 (j + 1) = (bfT T r x.2.1 j) + 0 from by rw [hbs]; first | (rw [if_pos ⟨c_40, by omega⟩]; done) | (rw [if_neg (fun z => c_40 z.1)]; done) | (rw [if_neg (fun z => by have := z.2; omega)])]; exact (lv_sub hl [0, 1, 2, 3, 4, 5, 6, 7] rfl))
              · refine lv_aload_n hx hb d_MO_tuple_43 rfl (lv_at hl 4 rfl) ?_
                refine gs_get (v := .ref (A 9)) hx hb ht hown hK hG k_MO m0 9 (by decide) w_671 rfl d_MO_tuple_44 ?_
                refine lv_iload hx hb d_MO_tuple_47 (lv_at hl 0 rfl) ?_
                refine gs_iald hx hb hK hG m9 (j := j) (by omega) (by omega) d_MO_tuple_49 ?_
                refine gs_top (show (f9 j) = (nI y.2.1) from hw2) ?_
                refine lv_aload_n hx hb d_MO_tuple_50 rfl (lv_at hl 4 rfl) ?_
                refine gs_get (v := .ref (A 9)) hx hb ht hown hK hG k_MO m0 9 (by decide) w_671 rfl d_MO_tuple_51 ?_
                refine lv_iload hx hb d_MO_tuple_54 (lv_at hl 2 rfl) ?_
                refine gs_iald hx hb hK hG m9 (j := k) (by omega) (by omega) d_MO_tuple_56 ?_
                refine gs_top (show (f9 k) = (nI x.2.1) from hx2) ?_
                refine lv_icmp_ge (tgt := 64) hx hb d_MO_tuple_57 (by decide) (fun c_57 => ?_) (fun c_57 => ?_)
                · have c_57 : x.2.1 ≤ y.2.1 := (nI_leI (by omega) (by omega)).mp c_57
                  refine lv_iconst (v := nI 0) hx hb d_MO_tuple_64 (by decide) ?_
                  refine lv_iadd hx hb d_MO_tuple_65 ?_
                  refine gs_top (nI_add (bfT T r x.2.1 j) 0) ?_
                  refine lv_istore (lv' := [(6, .int (nI ((bfT T r x.2.1 j) + 0))), (7, .int (nI j)), (5, .int (nI k)), (4, .int (rdI (atT T r pl k))), (0, .ref mo), (1, .int r), (2, .int pl), (3, .int (nI wh))]) hx hb d_MO_tuple_66 hl (by decide) rfl (fun ls hl => ?_)
                  refine lv_iinc (v := (nI (j + 1))) (lv' := [(7, .int (nI (j + 1))), (6, .int (nI ((bfT T r x.2.1 j) + 0))), (5, .int (nI k)), (4, .int (rdI (atT T r pl k))), (0, .ref mo), (1, .int r), (2, .int pl), (3, .int (nI wh))]) hx hb d_MO_tuple_68 hl (k := 1) rfl (by exact nI_1 _) (by decide) rfl (fun ls hl => ?_)
                  refine lv_goto (tgt := 21) hx hb d_MO_tuple_71 (by decide) ?_
                  exact ih2 (j + 1) (by omega) (by omega) ls (by rw [show bfT T r x.2.1 (j + 1) = (bfT T r x.2.1 j) + 0 from by rw [hbs]; first | (rw [if_pos ⟨c_40, by omega⟩]; done) | (rw [if_neg (fun z => c_40 z.1)]; done) | (rw [if_neg (fun z => by have := z.2; omega)])]; exact (lv_sub hl [0, 1, 2, 3, 4, 5, 6, 7] rfl))
                · have c_57 : ¬ x.2.1 ≤ y.2.1 := mt (nI_leI (by omega) (by omega)).mpr c_57
                  refine lv_iconst (v := nI 1) hx hb d_MO_tuple_60 (by decide) ?_
                  refine lv_goto (tgt := 65) hx hb d_MO_tuple_61 (by decide) ?_
                  refine lv_iadd hx hb d_MO_tuple_65 ?_
                  refine gs_top (nI_add (bfT T r x.2.1 j) 1) ?_
                  refine lv_istore (lv' := [(6, .int (nI ((bfT T r x.2.1 j) + 1))), (7, .int (nI j)), (5, .int (nI k)), (4, .int (rdI (atT T r pl k))), (0, .ref mo), (1, .int r), (2, .int pl), (3, .int (nI wh))]) hx hb d_MO_tuple_66 hl (by decide) rfl (fun ls hl => ?_)
                  refine lv_iinc (v := (nI (j + 1))) (lv' := [(7, .int (nI (j + 1))), (6, .int (nI ((bfT T r x.2.1 j) + 1))), (5, .int (nI k)), (4, .int (rdI (atT T r pl k))), (0, .ref mo), (1, .int r), (2, .int pl), (3, .int (nI wh))]) hx hb d_MO_tuple_68 hl (k := 1) rfl (by exact nI_1 _) (by decide) rfl (fun ls hl => ?_)
                  refine lv_goto (tgt := 21) hx hb d_MO_tuple_71 (by decide) ?_
                  exact ih2 (j + 1) (by omega) (by omega) ls (by rw [show bfT T r x.2.1 (j + 1) = (bfT T r x.2.1 j) + 1 from by rw [hbs]; first | (rw [if_pos ⟨c_40, by omega⟩]; done) | (rw [if_neg (fun z => c_40 z.1)]; done) | (rw [if_neg (fun z => by have := z.2; omega)])]; exact (lv_sub hl [0, 1, 2, 3, 4, 5, 6, 7] rfl))
        refine lv_iconst (v := nI 0) hx hb d_MO_tuple_15 (by decide) ?_
        refine lv_istore (lv' := [(6, .int (nI 0)), (5, .int (nI k)), (4, .int (rdI (atT T r pl k))), (0, .ref mo), (1, .int r), (2, .int pl), (3, .int (nI wh))]) hx hb d_MO_tuple_16 hl (by decide) rfl (fun ls hl => ?_)
        refine lv_iconst (v := nI 0) hx hb d_MO_tuple_18 (by decide) ?_
        refine lv_istore (lv' := [(7, .int (nI 0)), (6, .int (nI 0)), (5, .int (nI k)), (4, .int (rdI (atT T r pl k))), (0, .ref mo), (1, .int r), (2, .int pl), (3, .int (nI wh))]) hx hb d_MO_tuple_19 hl (by decide) rfl (fun ls hl => ?_)
        exact lpj (T.length + 1) 0 (by omega) (by omega) ls (by rw [show bfT T r x.2.1 0 = 0 from by unfold bfT; simp]; exact (lv_sub hl [0, 1, 2, 3, 4, 5, 6, 7] rfl))
  refine lv_iconst (v := -1) hx hb d_MO_tuple_0 (by decide) ?_
  refine lv_istore (lv' := [(4, .int (-1)), (0, .ref mo), (1, .int r), (2, .int pl), (3, .int (nI wh))]) hx hb d_MO_tuple_1 hl (by decide) rfl (fun ls hl => ?_)
  refine lv_iconst (v := nI 0) hx hb d_MO_tuple_3 (by decide) ?_
  refine lv_istore (lv' := [(5, .int (nI 0)), (4, .int (-1)), (0, .ref mo), (1, .int r), (2, .int pl), (3, .int (nI wh))]) hx hb d_MO_tuple_4 hl (by decide) rfl (fun ls hl => ?_)
  exact loop (T.length + 1) 0 (by omega) (by omega) ls (lv_sub hl [0, 1, 2, 3, 4, 5] rfl)
