set_option maxHeartbeats 4000000 in
set_option maxRecDepth 100000 in
/-- the reference: relation of no number of columns -/
theorem c_MO_relation_t (l : Launch) (X : gs_X) (σ : gs_St) (mo : Nat) (A : Nat → Nat) (cd nr : Nat) (cw : Nat → Nat) (F : List (Nat × Nat)) (T : List MT) (sa rc : Nat) (Q : List MR) (dr : Option MR) (x : Int32)
    (hM : moA X σ mo A cd nr cw F T sa rc Q dr) (hok : ¬ (¬ x < nI 1 ∧ x ≤ nI 3)) : gs_Mi l X y_MO_relation b_MO_relation 2 (some .int) ({ frames := 0, cells := 0, slots := 0, locals := 0 }) σ [.ref mo, .int x] (fun r σ' => moA X σ' mo A 1 nr cw F T sa rc Q dr ∧ frm (aM mo A) σ σ' ∧ r = nI 0) := by
  refine Met.ofW (cc := b_MO_relation) (maxL := 2) (ret := (some .int)) (by decide) rfl ?_
  intro p e s m args below meth c s₁ B₀ hml hv
  obtain ⟨rfl, hK, hG, hz, hE⟩ := hv
  have hx := B₀.exec
  have hb := B₀.bytes
  have hr := B₀.returns
  have hts := atoms_spec (ws := gs_ws y_MO_relation b_MO_relation 2 (some .int)) B₀.pre
  have ht : ∀ w ∈ gs_w, w.before _ s = true := fun w h => hts w (List.mem_cons_of_mem _ h)
  have hown : s.vm.findClass R_MO = some m.cls := findClass_of_methodNamed B₀.named
  have hlocks := B₀.notSynchronized
  have hA : ∀ q : Nat, s.heap.size ≤ q → gs_A X q := fun q h => Nat.le_trans hz h
  have hS : va_S (gs_A X) s.heap s.heap [] := va_S.rf
  have hl := lv_entry ([.ref mo, .int x]) (n := 2) (Nat.le_of_ble_eq_true rfl)
  rw [lg_entry_eq]
  generalize (lg_sl ([.ref mo, .int x]) ++ List.replicate (2 - (lg_sl ([.ref mo, .int x])).length) Slot.unset).toArray = ls at hl ⊢
  have hl : lv_has ls 2 [(0, .ref mo), (1, .int x)] := hl
  obtain ⟨hNN, hnr, hFB, hTB, hrc, ⟨Z, m0, z0, z1, z4, z7, z16, z17, z25, z26⟩, hcol, hfac, htup, hbit, hfnd, hrul, hscr⟩ := id hM
  have hN := hN1 hNN
  have hFl := hFB.1
  have hTl := hTB.1
  
  have fr0 : frm [mo] σ σ := frm.rf
  refine lv_aload_n hx hb d_MO_relation_0 rfl (lv_at hl 0 rfl) ?_
  refine lv_iload_n hx hb d_MO_relation_1 rfl (lv_at hl 1 rfl) ?_
  refine lv_iconst (v := nI 1) hx hb d_MO_relation_2 (by decide) ?_
  refine lv_icmp_lt (tgt := 11) hx hb d_MO_relation_3 (by decide) (fun c_3 => ?_) (fun c_3 => ?_)
  · refine lv_iconst (v := nI 1) hx hb d_MO_relation_11 (by decide) ?_
    refine lv_goto (tgt := 29) hx hb d_MO_relation_12 (by decide) ?_
    refine gs_put hx hb ht hown hK hG hS k_MO m0 0 (by decide) w_662 rfl rfl rfl (Nat.le_of_ble_eq_true rfl) d_MO_relation_29 (fun H locs hG hS => ?_)
    have hG : gs_H X (gs_up σ mo (moE A (va_up Z 0 1))) H := hG
    obtain ⟨σ_1, eσ_1⟩ : ∃ zq, zq = gs_up σ mo (moE A (va_up Z 0 1)) := ⟨_, rfl⟩
    rw [← eσ_1] at hG
    have hc_2 : σ_1 mo = some (moE A (va_up Z 0 1)) := by rw [eσ_1]; exact gs_us
    have fr_3 : frm [mo] σ σ_1 := by rw [eσ_1]; exact fr0.up (by simp)
    refine lv_aload_n hx hb d_MO_relation_32 rfl (lv_at hl 0 rfl) ?_
    refine gs_get (v := .int (nI 1)) hx hb ht hown hK hG k_MO hc_2 0 (by decide) w_662 rfl d_MO_relation_33 ?_
    refine lv_if_le (tgt := 41) hx hb d_MO_relation_36 (by decide) (fun c_36 => ?_) (fun c_36 => ?_)
    · exact absurd c_36 (by decide)
    · have c_36 : 0 < 1 := by have := gs_le0 (a := 1) (by omega); have h9 := mt this.mpr c_36; omega
      refine lv_iconst (v := nI 0) hx hb d_MO_relation_39 (by decide) ?_
      exact gs_iret (v := (nI 0)) hx hb hr rfl hK hE hz hG hS hlocks (by first | decide | omega | (dsimp only [headSpec]; omega)) (by first | decide | omega | (dsimp only [headSpec]; omega)) (⟨(hM.num fr_3 ⟨_, hc_2, rfl, z1, z4, z7, z16, z17, z25, z26⟩ hrc), fr_3.wk (by simp), rfl⟩) d_MO_relation_40
  · refine lv_iload_n hx hb d_MO_relation_6 rfl (lv_at hl 1 rfl) ?_
    refine lv_iconst (v := nI 3) hx hb d_MO_relation_7 (by decide) ?_
    refine lv_icmp_le (tgt := 15) hx hb d_MO_relation_8 (by decide) (fun c_8 => ?_) (fun c_8 => ?_)
    · exact absurd ⟨c_3, c_8⟩ hok
    · refine lv_iconst (v := nI 1) hx hb d_MO_relation_11 (by decide) ?_
      refine lv_goto (tgt := 29) hx hb d_MO_relation_12 (by decide) ?_
      refine gs_put hx hb ht hown hK hG hS k_MO m0 0 (by decide) w_662 rfl rfl rfl (Nat.le_of_ble_eq_true rfl) d_MO_relation_29 (fun H locs hG hS => ?_)
      have hG : gs_H X (gs_up σ mo (moE A (va_up Z 0 1))) H := hG
      obtain ⟨σ_4, eσ_4⟩ : ∃ zq, zq = gs_up σ mo (moE A (va_up Z 0 1)) := ⟨_, rfl⟩
      rw [← eσ_4] at hG
      have hc_5 : σ_4 mo = some (moE A (va_up Z 0 1)) := by rw [eσ_4]; exact gs_us
      have fr_6 : frm [mo] σ σ_4 := by rw [eσ_4]; exact fr0.up (by simp)
      refine lv_aload_n hx hb d_MO_relation_32 rfl (lv_at hl 0 rfl) ?_
      refine gs_get (v := .int (nI 1)) hx hb ht hown hK hG k_MO hc_5 0 (by decide) w_662 rfl d_MO_relation_33 ?_
      refine lv_if_le (tgt := 41) hx hb d_MO_relation_36 (by decide) (fun c_36 => ?_) (fun c_36 => ?_)
      · exact absurd c_36 (by decide)
      · have c_36 : 0 < 1 := by have := gs_le0 (a := 1) (by omega); have h9 := mt this.mpr c_36; omega
        refine lv_iconst (v := nI 0) hx hb d_MO_relation_39 (by decide) ?_
        exact gs_iret (v := (nI 0)) hx hb hr rfl hK hE hz hG hS hlocks (by first | decide | omega | (dsimp only [headSpec]; omega)) (by first | decide | omega | (dsimp only [headSpec]; omega)) (⟨(hM.num fr_6 ⟨_, hc_5, rfl, z1, z4, z7, z16, z17, z25, z26⟩ hrc), fr_6.wk (by simp), rfl⟩) d_MO_relation_40
set_option maxHeartbeats 4000000 in
set_option maxRecDepth 100000 in
/-- the reference: relation, too many -/
theorem c_MO_relation_s (l : Launch) (X : gs_X) (σ : gs_St) (mo : Nat) (A : Nat → Nat) (cd nr : Nat) (cw : Nat → Nat) (F : List (Nat × Nat)) (T : List MT) (sa rc : Nat) (Q : List MR) (dr : Option MR) (wd : Nat)
    (hM : moA X σ mo A cd nr cw F T sa rc Q dr) (hw1 : 1 ≤ wd) (hw3 : wd ≤ 3) (hok : nr = 12) : gs_Mi l X y_MO_relation b_MO_relation 2 (some .int) ({ frames := 0, cells := 0, slots := 0, locals := 0 }) σ [.ref mo, .int (nI wd)] (fun r σ' => moA X σ' mo A 2 nr cw F T sa rc Q dr ∧ frm (aM mo A) σ σ' ∧ r = nI 0) := by
  refine Met.ofW (cc := b_MO_relation) (maxL := 2) (ret := (some .int)) (by decide) rfl ?_
  intro p e s m args below meth c s₁ B₀ hml hv
  obtain ⟨rfl, hK, hG, hz, hE⟩ := hv
  have hx := B₀.exec
  have hb := B₀.bytes
  have hr := B₀.returns
  have hts := atoms_spec (ws := gs_ws y_MO_relation b_MO_relation 2 (some .int)) B₀.pre
  have ht : ∀ w ∈ gs_w, w.before _ s = true := fun w h => hts w (List.mem_cons_of_mem _ h)
  have hown : s.vm.findClass R_MO = some m.cls := findClass_of_methodNamed B₀.named
  have hlocks := B₀.notSynchronized
  have hA : ∀ q : Nat, s.heap.size ≤ q → gs_A X q := fun q h => Nat.le_trans hz h
  have hS : va_S (gs_A X) s.heap s.heap [] := va_S.rf
  have hl := lv_entry ([.ref mo, .int (nI wd)]) (n := 2) (Nat.le_of_ble_eq_true rfl)
  rw [lg_entry_eq]
  generalize (lg_sl ([.ref mo, .int (nI wd)]) ++ List.replicate (2 - (lg_sl ([.ref mo, .int (nI wd)])).length) Slot.unset).toArray = ls at hl ⊢
  have hl : lv_has ls 2 [(0, .ref mo), (1, .int (nI wd))] := hl
  obtain ⟨hNN, hnr, hFB, hTB, hrc, ⟨Z, m0, z0, z1, z4, z7, z16, z17, z25, z26⟩, hcol, hfac, htup, hbit, hfnd, hrul, hscr⟩ := id hM
  have hN := hN1 hNN
  have hFl := hFB.1
  have hTl := hTB.1
  
  have fr0 : frm [mo] σ σ := frm.rf
  refine lv_aload_n hx hb d_MO_relation_0 rfl (lv_at hl 0 rfl) ?_
  refine lv_iload_n hx hb d_MO_relation_1 rfl (lv_at hl 1 rfl) ?_
  refine lv_iconst (v := nI 1) hx hb d_MO_relation_2 (by decide) ?_
  refine lv_icmp_lt (tgt := 11) hx hb d_MO_relation_3 (by decide) (fun c_3 => ?_) (fun c_3 => ?_)
  · have c_3 : wd < 1 := (nI_ltI (by omega) (by omega)).mp c_3
    omega
  · have c_3 : ¬ wd < 1 := mt (nI_ltI (by omega) (by omega)).mpr c_3
    refine lv_iload_n hx hb d_MO_relation_6 rfl (lv_at hl 1 rfl) ?_
    refine lv_iconst (v := nI 3) hx hb d_MO_relation_7 (by decide) ?_
    refine lv_icmp_le (tgt := 15) hx hb d_MO_relation_8 (by decide) (fun c_8 => ?_) (fun c_8 => ?_)
    · have c_8 : wd ≤ 3 := (nI_leI (by omega) (by omega)).mp c_8
      refine lv_aload_n hx hb d_MO_relation_15 rfl (lv_at hl 0 rfl) ?_
      refine gs_get (v := .int (nI (Z 1))) hx hb ht hown hK hG k_MO m0 1 (by decide) w_663 rfl d_MO_relation_16 ?_
      refine gs_top (show nI (Z 1) = nI nr from congrArg nI (show Z 1 = nr from z1)) ?_
      refine lv_bipush (v := nI 12) hx hb d_MO_relation_19 (by decide) ?_
      refine lv_icmp_ne (tgt := 28) hx hb d_MO_relation_21 (by decide) (fun c_21 => ?_) (fun c_21 => ?_)
      · have c_21 : ¬ nr = 12 := mt (nI_eq (by omega) (by omega)).mpr c_21
        omega
      · have c_21 : nr = 12 :=  (nI_eq (by omega) (by omega)).mp c_21
        refine lv_iconst (v := nI 2) hx hb d_MO_relation_24 (by decide) ?_
        refine lv_goto (tgt := 29) hx hb d_MO_relation_25 (by decide) ?_
        refine gs_put hx hb ht hown hK hG hS k_MO m0 0 (by decide) w_662 rfl rfl rfl (Nat.le_of_ble_eq_true rfl) d_MO_relation_29 (fun H locs hG hS => ?_)
        have hG : gs_H X (gs_up σ mo (moE A (va_up Z 0 2))) H := hG
        obtain ⟨σ_1, eσ_1⟩ : ∃ zq, zq = gs_up σ mo (moE A (va_up Z 0 2)) := ⟨_, rfl⟩
        rw [← eσ_1] at hG
        have hc_2 : σ_1 mo = some (moE A (va_up Z 0 2)) := by rw [eσ_1]; exact gs_us
        have fr_3 : frm [mo] σ σ_1 := by rw [eσ_1]; exact fr0.up (by simp)
        refine lv_aload_n hx hb d_MO_relation_32 rfl (lv_at hl 0 rfl) ?_
        refine gs_get (v := .int (nI 2)) hx hb ht hown hK hG k_MO hc_2 0 (by decide) w_662 rfl d_MO_relation_33 ?_
        refine lv_if_le (tgt := 41) hx hb d_MO_relation_36 (by decide) (fun c_36 => ?_) (fun c_36 => ?_)
        · exact absurd c_36 (by decide)
        · have c_36 : 0 < 2 := by have := gs_le0 (a := 2) (by omega); have h9 := mt this.mpr c_36; omega
          refine lv_iconst (v := nI 0) hx hb d_MO_relation_39 (by decide) ?_
          exact gs_iret (v := (nI 0)) hx hb hr rfl hK hE hz hG hS hlocks (by first | decide | omega | (dsimp only [headSpec]; omega)) (by first | decide | omega | (dsimp only [headSpec]; omega)) (⟨(hM.num fr_3 ⟨_, hc_2, rfl, z1, z4, z7, z16, z17, z25, z26⟩ hrc), fr_3.wk (by simp), rfl⟩) d_MO_relation_40
    · have c_8 : ¬ wd ≤ 3 := mt (nI_leI (by omega) (by omega)).mpr c_8
      omega
set_option maxHeartbeats 4000000 in
set_option maxRecDepth 100000 in
/-- the reference: relation -/
theorem c_MO_relation (l : Launch) (X : gs_X) (σ : gs_St) (mo : Nat) (A : Nat → Nat) (cd nr : Nat) (cw : Nat → Nat) (F : List (Nat × Nat)) (T : List MT) (sa rc : Nat) (Q : List MR) (dr : Option MR) (wd : Nat)
    (hM : moA X σ mo A cd nr cw F T sa rc Q dr) (hw1 : 1 ≤ wd) (hw3 : wd ≤ 3) (hok : nr < 12) : gs_Mi l X y_MO_relation b_MO_relation 2 (some .int) ({ frames := 2, cells := 0, slots := 0, locals := 47 }) σ [.ref mo, .int (nI wd)] (fun r σ' => moA X σ' mo A 0 (nr + 1) (va_up cw nr wd) F (F.map agT) 0 0 Q dr ∧ frm (aM mo A) σ σ' ∧ r = nI nr) := by
  refine Met.ofW (cc := b_MO_relation) (maxL := 2) (ret := (some .int)) (by decide) rfl ?_
  intro p e s m args below meth c s₁ B₀ hml hv
  obtain ⟨rfl, hK, hG, hz, hE⟩ := hv
  have hx := B₀.exec
  have hb := B₀.bytes
  have hr := B₀.returns
  have hts := atoms_spec (ws := gs_ws y_MO_relation b_MO_relation 2 (some .int)) B₀.pre
  have ht : ∀ w ∈ gs_w, w.before _ s = true := fun w h => hts w (List.mem_cons_of_mem _ h)
  have hown : s.vm.findClass R_MO = some m.cls := findClass_of_methodNamed B₀.named
  have hlocks := B₀.notSynchronized
  have hA : ∀ q : Nat, s.heap.size ≤ q → gs_A X q := fun q h => Nat.le_trans hz h
  have hS : va_S (gs_A X) s.heap s.heap [] := va_S.rf
  have hl := lv_entry ([.ref mo, .int (nI wd)]) (n := 2) (Nat.le_of_ble_eq_true rfl)
  rw [lg_entry_eq]
  generalize (lg_sl ([.ref mo, .int (nI wd)]) ++ List.replicate (2 - (lg_sl ([.ref mo, .int (nI wd)])).length) Slot.unset).toArray = ls at hl ⊢
  have hl : lv_has ls 2 [(0, .ref mo), (1, .int (nI wd))] := hl
  obtain ⟨hNN, hnr, hFB, hTB, hrc, ⟨Z, m0, z0, z1, z4, z7, z16, z17, z25, z26⟩, hcol, hfac, htup, hbit, hfnd, hrul, hscr⟩ := id hM
  have hN := hN1 hNN
  have hFl := hFB.1
  have hTl := hTB.1
  obtain ⟨f2, m2, hcw⟩ := id hcol
  obtain ⟨f5, f6, m5, m6, hF⟩ := id hfac
  obtain ⟨f8, f9, f10, f11, m8, m9, m10, m11, hT⟩ := id htup
  obtain ⟨g, m12, hbi⟩ := id hbit
  have fr0 : frm [mo, A 2, A 8, A 9, A 10, A 11, A 12] σ σ := frm.rf
  refine lv_aload_n hx hb d_MO_relation_0 rfl (lv_at hl 0 rfl) ?_
  refine lv_iload_n hx hb d_MO_relation_1 rfl (lv_at hl 1 rfl) ?_
  refine lv_iconst (v := nI 1) hx hb d_MO_relation_2 (by decide) ?_
  refine lv_icmp_lt (tgt := 11) hx hb d_MO_relation_3 (by decide) (fun c_3 => ?_) (fun c_3 => ?_)
  · have c_3 : wd < 1 := (nI_ltI (by omega) (by omega)).mp c_3
    omega
  · have c_3 : ¬ wd < 1 := mt (nI_ltI (by omega) (by omega)).mpr c_3
    refine lv_iload_n hx hb d_MO_relation_6 rfl (lv_at hl 1 rfl) ?_
    refine lv_iconst (v := nI 3) hx hb d_MO_relation_7 (by decide) ?_
    refine lv_icmp_le (tgt := 15) hx hb d_MO_relation_8 (by decide) (fun c_8 => ?_) (fun c_8 => ?_)
    · have c_8 : wd ≤ 3 := (nI_leI (by omega) (by omega)).mp c_8
      refine lv_aload_n hx hb d_MO_relation_15 rfl (lv_at hl 0 rfl) ?_
      refine gs_get (v := .int (nI (Z 1))) hx hb ht hown hK hG k_MO m0 1 (by decide) w_663 rfl d_MO_relation_16 ?_
      refine gs_top (show nI (Z 1) = nI nr from congrArg nI (show Z 1 = nr from z1)) ?_
      refine lv_bipush (v := nI 12) hx hb d_MO_relation_19 (by decide) ?_
      refine lv_icmp_ne (tgt := 28) hx hb d_MO_relation_21 (by decide) (fun c_21 => ?_) (fun c_21 => ?_)
      · have c_21 : ¬ nr = 12 := mt (nI_eq (by omega) (by omega)).mpr c_21
        refine lv_iconst (v := nI 0) hx hb d_MO_relation_28 (by decide) ?_
        refine gs_put hx hb ht hown hK hG hS k_MO m0 0 (by decide) w_662 rfl rfl rfl (Nat.le_of_ble_eq_true rfl) d_MO_relation_29 (fun H locs hG hS => ?_)
        have hG : gs_H X (gs_up σ mo (moE A (va_up Z 0 0))) H := hG
        obtain ⟨σ_1, eσ_1⟩ : ∃ zq, zq = gs_up σ mo (moE A (va_up Z 0 0)) := ⟨_, rfl⟩
        rw [← eσ_1] at hG
        have hc_2 : σ_1 (A 2) = some (gs_ia X 12 f2) := by rw [eσ_1]; exact gs_ku (gs_ne m2 m0 (by simp)) m2
        have hc_3 : σ_1 (A 5) = some (gs_ia X 200 f5) := by rw [eσ_1]; exact gs_ku (gs_ne m5 m0 (by simp)) m5
        have hc_4 : σ_1 (A 6) = some (gs_ia X 200 f6) := by rw [eσ_1]; exact gs_ku (gs_ne m6 m0 (by simp)) m6
        have hc_5 : σ_1 (A 8) = some (gs_ia X 320 f8) := by rw [eσ_1]; exact gs_ku (gs_ne m8 m0 (by simp)) m8
        have hc_6 : σ_1 (A 9) = some (gs_ia X 320 f9) := by rw [eσ_1]; exact gs_ku (gs_ne m9 m0 (by simp)) m9
        have hc_7 : σ_1 (A 10) = some (gs_ia X 320 f10) := by rw [eσ_1]; exact gs_ku (gs_ne m10 m0 (by simp)) m10
        have hc_8 : σ_1 (A 11) = some (gs_ia X 320 f11) := by rw [eσ_1]; exact gs_ku (gs_ne m11 m0 (by simp)) m11
        have hc_9 : σ_1 (A 12) = some (gs_la X 49152 g) := by rw [eσ_1]; exact gs_ku (gs_ne m12 m0 (by simp)) m12
        have hc_10 : σ_1 mo = some (moE A (va_up Z 0 0)) := by rw [eσ_1]; exact gs_us
        have fr_11 : frm [mo, A 2, A 8, A 9, A 10, A 11, A 12] σ σ_1 := by rw [eσ_1]; exact fr0.up (by simp)
        refine lv_aload_n hx hb d_MO_relation_32 rfl (lv_at hl 0 rfl) ?_
        refine gs_get (v := .int (nI 0)) hx hb ht hown hK hG k_MO hc_10 0 (by decide) w_662 rfl d_MO_relation_33 ?_
        refine lv_if_le (tgt := 41) hx hb d_MO_relation_36 (by decide) (fun c_36 => ?_) (fun c_36 => ?_)
        · have c_36 : 0 = 0 := by have := gs_le0 (a := 0) (by omega); exact this.mp c_36
          refine lv_aload_n hx hb d_MO_relation_41 rfl (lv_at hl 0 rfl) ?_
          refine gs_get (v := .ref (A 2)) hx hb ht hown hK hG k_MO hc_10 2 (by decide) w_664 rfl d_MO_relation_42 ?_
          refine lv_aload_n hx hb d_MO_relation_45 rfl (lv_at hl 0 rfl) ?_
          refine gs_get (v := .int (nI (Z 1))) hx hb ht hown hK hG k_MO hc_10 1 (by decide) w_663 rfl d_MO_relation_46 ?_
          refine gs_top (show nI (Z 1) = nI nr from congrArg nI (show Z 1 = nr from z1)) ?_
          refine lv_iload_n hx hb d_MO_relation_49 rfl (lv_at hl 1 rfl) ?_
          refine gs_iast hx hb hK hG hS hc_2 (j := nr) (by omega) (by omega) d_MO_relation_50 (fun H locs hG hS => ?_)
          have hG : gs_H X (gs_up σ_1 (A 2) (gs_ia X 12 (upd f2 nr (nI wd)))) H := hG
          obtain ⟨σ_12, eσ_12⟩ : ∃ zq, zq = gs_up σ_1 (A 2) (gs_ia X 12 (upd f2 nr (nI wd))) := ⟨_, rfl⟩
          rw [← eσ_12] at hG
          have hc_13 : σ_12 (A 5) = some (gs_ia X 200 f5) := by rw [eσ_12]; exact gs_ku (Ne.symm (ndp hN 0 2 (by decide) rfl rfl)) hc_3
          have hc_14 : σ_12 (A 6) = some (gs_ia X 200 f6) := by rw [eσ_12]; exact gs_ku (Ne.symm (ndp hN 0 3 (by decide) rfl rfl)) hc_4
          have hc_15 : σ_12 (A 8) = some (gs_ia X 320 f8) := by rw [eσ_12]; exact gs_ku (Ne.symm (ndp hN 0 4 (by decide) rfl rfl)) hc_5
          have hc_16 : σ_12 (A 9) = some (gs_ia X 320 f9) := by rw [eσ_12]; exact gs_ku (Ne.symm (ndp hN 0 5 (by decide) rfl rfl)) hc_6
          have hc_17 : σ_12 (A 10) = some (gs_ia X 320 f10) := by rw [eσ_12]; exact gs_ku (Ne.symm (ndp hN 0 6 (by decide) rfl rfl)) hc_7
          have hc_18 : σ_12 (A 11) = some (gs_ia X 320 f11) := by rw [eσ_12]; exact gs_ku (Ne.symm (ndp hN 0 7 (by decide) rfl rfl)) hc_8
          have hc_19 : σ_12 (A 12) = some (gs_la X 49152 g) := by rw [eσ_12]; exact gs_ku (Ne.symm (ndp hN 0 8 (by decide) rfl rfl)) hc_9
          have hc_20 : σ_12 mo = some (moE A (va_up Z 0 0)) := by rw [eσ_12]; exact gs_ku (gs_ne hc_10 hc_2 (by simp)) hc_10
          have hc_21 : σ_12 (A 2) = some (gs_ia X 12 (upd f2 nr (nI wd))) := by rw [eσ_12]; exact gs_us
          have fr_22 : frm [mo, A 2, A 8, A 9, A 10, A 11, A 12] σ σ_12 := by rw [eσ_12]; exact fr_11.up (by simp)
          refine lv_aload_n hx hb d_MO_relation_51 rfl (lv_at hl 0 rfl) ?_
          refine lv_dup hx hb d_MO_relation_52 rfl ?_
          refine gs_get (v := .int (nI (Z 1))) hx hb ht hown hK hG k_MO hc_20 1 (by decide) w_663 rfl d_MO_relation_53 ?_
          refine gs_top (show nI (Z 1) = nI nr from congrArg nI (show Z 1 = nr from z1)) ?_
          refine lv_iconst (v := nI 1) hx hb d_MO_relation_56 (by decide) ?_
          refine lv_iadd hx hb d_MO_relation_57 ?_
          refine gs_top (nI_add nr 1) ?_
          refine gs_put hx hb ht hown hK hG hS k_MO hc_20 1 (by decide) w_663 rfl rfl rfl (Nat.le_of_ble_eq_true rfl) d_MO_relation_58 (fun H locs hG hS => ?_)
          have hG : gs_H X (gs_up σ_12 mo (moE A (va_up (va_up Z 0 0) 1 (nr + 1)))) H := hG
          obtain ⟨σ_23, eσ_23⟩ : ∃ zq, zq = gs_up σ_12 mo (moE A (va_up (va_up Z 0 0) 1 (nr + 1))) := ⟨_, rfl⟩
          rw [← eσ_23] at hG
          have hc_24 : σ_23 (A 5) = some (gs_ia X 200 f5) := by rw [eσ_23]; exact gs_ku (gs_ne hc_13 hc_20 (by simp)) hc_13
          have hc_25 : σ_23 (A 6) = some (gs_ia X 200 f6) := by rw [eσ_23]; exact gs_ku (gs_ne hc_14 hc_20 (by simp)) hc_14
          have hc_26 : σ_23 (A 8) = some (gs_ia X 320 f8) := by rw [eσ_23]; exact gs_ku (gs_ne hc_15 hc_20 (by simp)) hc_15
          have hc_27 : σ_23 (A 9) = some (gs_ia X 320 f9) := by rw [eσ_23]; exact gs_ku (gs_ne hc_16 hc_20 (by simp)) hc_16
          have hc_28 : σ_23 (A 10) = some (gs_ia X 320 f10) := by rw [eσ_23]; exact gs_ku (gs_ne hc_17 hc_20 (by simp)) hc_17
          have hc_29 : σ_23 (A 11) = some (gs_ia X 320 f11) := by rw [eσ_23]; exact gs_ku (gs_ne hc_18 hc_20 (by simp)) hc_18
          have hc_30 : σ_23 (A 12) = some (gs_la X 49152 g) := by rw [eσ_23]; exact gs_ku (gs_ne hc_19 hc_20 (by simp)) hc_19
          have hc_31 : σ_23 (A 2) = some (gs_ia X 12 (upd f2 nr (nI wd))) := by rw [eσ_23]; exact gs_ku (gs_ne hc_21 hc_20 (by simp)) hc_21
          have hc_32 : σ_23 mo = some (moE A (va_up (va_up Z 0 0) 1 (nr + 1))) := by rw [eσ_23]; exact gs_us
          have fr_33 : frm [mo, A 2, A 8, A 9, A 10, A 11, A 12] σ σ_23 := by rw [eσ_23]; exact fr_22.up (by simp)
          refine lv_aload_n hx hb d_MO_relation_61 rfl (lv_at hl 0 rfl) ?_
          refine gs_callVv (As := []) (rest := []) ⟨hx, hb, hml, hown, hts⟩ hK hE hz hG hS (c_MO_again l X σ_23 mo A (va_up (va_up Z 0 0) 1 (nr + 1)) T F f5 f6 f8 f9 f10 f11 g hc_32 hN z7 z4 hc_24 hc_25 hc_26 hc_27 hc_28 hc_29 hc_30 hT hTB hF hFB hbi) mV_MO_again w_765 hc_32 rfl rfl hl.1 rfl (Nat.le_of_ble_eq_true rfl) ⟨(by first | decide | omega | (dsimp only [headSpec]; omega)), (by first | decide | omega | (dsimp only [headSpec]; omega))⟩ ⟨(by first | decide | omega | (dsimp only [headSpec]; omega)), (by first | decide | omega | (dsimp only [headSpec]; omega))⟩ d_MO_relation_62 (fun σ_62 H locs hp_62 hG hS => ?_)
          obtain ⟨⟨Z9, mz9, hz7, hz25, hz26, hzf⟩, htp9, hbt9, hf9⟩ := hp_62
          have hc_34 : σ_62 (A 5) = some (gs_ia X 200 f5) := hf9 _ _ (nin_cons (gs_ne hc_24 hc_32 (by simp)) (nin_cons (ndp hN 2 4 (by decide) rfl rfl) (nin_cons (ndp hN 2 5 (by decide) rfl rfl) (nin_cons (ndp hN 2 6 (by decide) rfl rfl) (nin_cons (ndp hN 2 7 (by decide) rfl rfl) (nin_cons (ndp hN 2 8 (by decide) rfl rfl) nin_nil)))))) hc_24
          have hc_35 : σ_62 (A 6) = some (gs_ia X 200 f6) := hf9 _ _ (nin_cons (gs_ne hc_25 hc_32 (by simp)) (nin_cons (ndp hN 3 4 (by decide) rfl rfl) (nin_cons (ndp hN 3 5 (by decide) rfl rfl) (nin_cons (ndp hN 3 6 (by decide) rfl rfl) (nin_cons (ndp hN 3 7 (by decide) rfl rfl) (nin_cons (ndp hN 3 8 (by decide) rfl rfl) nin_nil)))))) hc_25
          have hc_36 : σ_62 (A 2) = some (gs_ia X 12 (upd f2 nr (nI wd))) := hf9 _ _ (nin_cons (gs_ne hc_31 hc_32 (by simp)) (nin_cons (ndp hN 0 4 (by decide) rfl rfl) (nin_cons (ndp hN 0 5 (by decide) rfl rfl) (nin_cons (ndp hN 0 6 (by decide) rfl rfl) (nin_cons (ndp hN 0 7 (by decide) rfl rfl) (nin_cons (ndp hN 0 8 (by decide) rfl rfl) nin_nil)))))) hc_31
          have fr_37 : frm [mo, A 2, A 8, A 9, A 10, A 11, A 12] σ σ_62 := fr_33.trans hf9 (by simp)
          refine lv_aload_n hx hb d_MO_relation_65 rfl (lv_at hl 0 rfl) ?_
          refine gs_get (v := .int (nI (Z9 1))) hx hb ht hown hK hG k_MO mz9 1 (by decide) w_663 rfl d_MO_relation_66 ?_
          refine gs_top (show nI (Z9 1) = nI (nr + 1) from congrArg nI (show Z9 1 = nr + 1 from hzf 1 (by simp))) ?_
          refine lv_iconst (v := nI 1) hx hb d_MO_relation_69 (by decide) ?_
          refine lv_isub hx hb d_MO_relation_70 ?_
          refine gs_top (pk_sub (a := (nr + 1)) (b := 1) (by omega)) ?_
          exact gs_iret (v := (nI ((nr + 1) - 1))) hx hb hr rfl hK hE hz hG hS hlocks (by first | decide | omega | (dsimp only [headSpec]; omega)) (by first | decide | omega | (dsimp only [headSpec]; omega)) (⟨⟨hNN, by omega, hFB, tpB_ag hFB, by decide, ⟨Z9, mz9, hzf 0 (by simp), hzf 1 (by simp), (hzf 4 (by simp)).trans z4, by rw [hz7]; simp, (hzf 16 (by simp)).trans z16, (hzf 17 (by simp)).trans z17, hz25, hz26⟩, ⟨_, hc_36, col_snoc hcw hw1 hw3⟩, ⟨_, _, hc_34, hc_35, hF⟩, htp9, bit_ag hbt9, (hfnd.fr (k := 10) hNN [0, 1, 5, 6, 7, 8, 9] fr_37 (by decide) (by decide) (by decide) rfl), (hrul.fr hNN [0, 1, 5, 6, 7, 8, 9] fr_37 (by decide) (by decide)).mono (by omega), (hscr.fr hNN [0, 1, 5, 6, 7, 8, 9] fr_37 (by decide) (by decide))⟩, fr_37.wk (by simp), congrArg nI (by omega)⟩) d_MO_relation_71
        · exact absurd c_36 (by decide)
      · have c_21 : nr = 12 :=  (nI_eq (by omega) (by omega)).mp c_21
        omega
    · have c_8 : ¬ wd ≤ 3 := mt (nI_leI (by omega) (by omega)).mpr c_8
      omega
set_option maxHeartbeats 4000000 in
set_option maxRecDepth 100000 in
/-- the reference: fact of no tuple (t) -/
theorem c_MO_fact_t (l : Launch) (X : gs_X) (σ : gs_St) (mo : Nat) (A : Nat → Nat) (cd nr : Nat) (cw : Nat → Nat) (F : List (Nat × Nat)) (T : List MT) (sa rc : Nat) (Q : List MR) (dr : Option MR) (rl : Nat) (x y z : Int32)
    (hM : moA X σ mo A cd nr cw F T sa rc Q dr) (hrl : rl < nr) (hok : wi3 64 (cw rl) x y z = false) : gs_Mi l X y_MO_fact b_MO_fact 5 (some .boolean) ({ frames := 1, cells := 0, slots := 0, locals := 27 }) σ [.ref mo, .int (nI rl), .int x, .int y, .int z] (fun r σ' => moA X σ' mo A 1 nr cw F T sa rc Q dr ∧ frm (aM mo A) σ σ' ∧ r = nI 0) := by
  refine Met.ofW (cc := b_MO_fact) (maxL := 5) (ret := (some .boolean)) (by decide) rfl ?_
  intro p e s m args below meth c s₁ B₀ hml hv
  obtain ⟨rfl, hK, hG, hz, hE⟩ := hv
  have hx := B₀.exec
  have hb := B₀.bytes
  have hr := B₀.returns
  have hts := atoms_spec (ws := gs_ws y_MO_fact b_MO_fact 5 (some .boolean)) B₀.pre
  have ht : ∀ w ∈ gs_w, w.before _ s = true := fun w h => hts w (List.mem_cons_of_mem _ h)
  have hown : s.vm.findClass R_MO = some m.cls := findClass_of_methodNamed B₀.named
  have hlocks := B₀.notSynchronized
  have hA : ∀ q : Nat, s.heap.size ≤ q → gs_A X q := fun q h => Nat.le_trans hz h
  have hS : va_S (gs_A X) s.heap s.heap [] := va_S.rf
  have hl := lv_entry ([.ref mo, .int (nI rl), .int x, .int y, .int z]) (n := 5) (Nat.le_of_ble_eq_true rfl)
  rw [lg_entry_eq]
  generalize (lg_sl ([.ref mo, .int (nI rl), .int x, .int y, .int z]) ++ List.replicate (5 - (lg_sl ([.ref mo, .int (nI rl), .int x, .int y, .int z])).length) Slot.unset).toArray = ls at hl ⊢
  have hl : lv_has ls 5 [(0, .ref mo), (1, .int (nI rl)), (2, .int x), (3, .int y), (4, .int z)] := hl
  obtain ⟨hNN, hnr, hFB, hTB, hrc, ⟨Z, m0, z0, z1, z4, z7, z16, z17, z25, z26⟩, hcol, hfac, htup, hbit, hfnd, hrul, hscr⟩ := id hM
  have hN := hN1 hNN
  have hFl := hFB.1
  have hTl := hTB.1
  obtain ⟨f2, m2, hcw⟩ := id hcol
  have fr0 : frm [mo] σ σ := frm.rf
  refine lv_aload_n hx hb d_MO_fact_0 rfl (lv_at hl 0 rfl) ?_
  refine lv_aload_n hx hb d_MO_fact_1 rfl (lv_at hl 0 rfl) ?_
  refine lv_iload_n hx hb d_MO_fact_2 rfl (lv_at hl 1 rfl) ?_
  refine lv_iload_n hx hb d_MO_fact_3 rfl (lv_at hl 2 rfl) ?_
  refine lv_iload_n hx hb d_MO_fact_4 rfl (lv_at hl 3 rfl) ?_
  refine lv_iload hx hb d_MO_fact_5 (lv_at hl 4 rfl) ?_
  refine lv_bipush (v := nI 64) hx hb d_MO_fact_7 (by decide) ?_
  refine gs_callVp (As := [.int (nI rl), .int x, .int y, .int z, .int (nI 64)]) (rest := [.ref mo]) ⟨hx, hb, hml, hown, hts⟩ hK hE hz hG hS (c_MO_fits l X σ mo A Z f2 rl (cw rl) 64 x y z m0 m2 (by omega) (by omega) (hcw rl hrl).1 (hcw rl hrl).2.2) ⟨rfl, rfl⟩ mV_MO_fits w_777 m0 rfl rfl hl.1 rfl (Nat.le_of_ble_eq_true rfl) ⟨(by first | decide | omega | (dsimp only [headSpec]; omega)), (by first | decide | omega | (dsimp only [headSpec]; omega))⟩ ⟨(by first | decide | omega | (dsimp only [headSpec]; omega)), (by first | decide | omega | (dsimp only [headSpec]; omega))⟩ d_MO_fact_9 (fun r_9 hp_9 => ?_)
  refine gs_top (show r_9 = (bI (wi3 64 (cw rl) x y z)) from hp_9) ?_
  refine lv_if_eq (tgt := 19) hx hb d_MO_fact_12 (by decide) (fun c_12 => ?_) (fun c_12 => ?_)
  · refine lv_iconst (v := nI 1) hx hb d_MO_fact_19 (by decide) ?_
    refine gs_put hx hb ht hown hK hG hS k_MO m0 0 (by decide) w_662 rfl rfl rfl (Nat.le_of_ble_eq_true rfl) d_MO_fact_20 (fun H locs hG hS => ?_)
    have hG : gs_H X (gs_up σ mo (moE A (va_up Z 0 1))) H := hG
    obtain ⟨σ_1, eσ_1⟩ : ∃ zq, zq = gs_up σ mo (moE A (va_up Z 0 1)) := ⟨_, rfl⟩
    rw [← eσ_1] at hG
    have hc_2 : σ_1 (A 2) = some (gs_ia X 12 f2) := by rw [eσ_1]; exact gs_ku (gs_ne m2 m0 (by simp)) m2
    have hc_3 : σ_1 mo = some (moE A (va_up Z 0 1)) := by rw [eσ_1]; exact gs_us
    have fr_4 : frm [mo] σ σ_1 := by rw [eσ_1]; exact fr0.up (by simp)
    refine lv_aload_n hx hb d_MO_fact_23 rfl (lv_at hl 0 rfl) ?_
    refine gs_get (v := .int (nI 1)) hx hb ht hown hK hG k_MO hc_3 0 (by decide) w_662 rfl d_MO_fact_24 ?_
    refine lv_if_gt (tgt := 49) hx hb d_MO_fact_27 (by decide) (fun c_27 => ?_) (fun c_27 => ?_)
    · have c_27 : 0 < 1 := by have := gs_gt0 (a := 1) (by omega); exact this.mp c_27
      refine lv_iconst (v := nI 0) hx hb d_MO_fact_49 (by decide) ?_
      exact gs_iret (v := (nI 0)) hx hb hr rfl hK hE hz hG hS hlocks (by first | decide | omega | (dsimp only [headSpec]; omega)) (by first | decide | omega | (dsimp only [headSpec]; omega)) (⟨(hM.num fr_4 ⟨_, hc_3, rfl, z1, z4, z7, z16, z17, z25, z26⟩ hrc), fr_4.wk (by simp), rfl⟩) d_MO_fact_50
    · exact absurd c_27 (by decide)
  · exact absurd ((bI_n0 c_12).symm.trans hok) (by decide)
set_option maxHeartbeats 4000000 in
set_option maxRecDepth 100000 in
/-- the reference: fact of no tuple (r) -/
theorem c_MO_fact_r (l : Launch) (X : gs_X) (σ : gs_St) (mo : Nat) (A : Nat → Nat) (cd nr : Nat) (cw : Nat → Nat) (F : List (Nat × Nat)) (T : List MT) (sa rc : Nat) (Q : List MR) (dr : Option MR) (r x y z : Int32)
    (hM : moA X σ mo A cd nr cw F T sa rc Q dr) (hok : wi nr r = false) : gs_Mi l X y_MO_fact b_MO_fact 5 (some .boolean) ({ frames := 1, cells := 0, slots := 0, locals := 27 }) σ [.ref mo, .int r, .int x, .int y, .int z] (fun r σ' => moA X σ' mo A 1 nr cw F T sa rc Q dr ∧ frm (aM mo A) σ σ' ∧ r = nI 0) := by
  refine Met.ofW (cc := b_MO_fact) (maxL := 5) (ret := (some .boolean)) (by decide) rfl ?_
  intro p e s m args below meth c s₁ B₀ hml hv
  obtain ⟨rfl, hK, hG, hz, hE⟩ := hv
  have hx := B₀.exec
  have hb := B₀.bytes
  have hr := B₀.returns
  have hts := atoms_spec (ws := gs_ws y_MO_fact b_MO_fact 5 (some .boolean)) B₀.pre
  have ht : ∀ w ∈ gs_w, w.before _ s = true := fun w h => hts w (List.mem_cons_of_mem _ h)
  have hown : s.vm.findClass R_MO = some m.cls := findClass_of_methodNamed B₀.named
  have hlocks := B₀.notSynchronized
  have hA : ∀ q : Nat, s.heap.size ≤ q → gs_A X q := fun q h => Nat.le_trans hz h
  have hS : va_S (gs_A X) s.heap s.heap [] := va_S.rf
  have hl := lv_entry ([.ref mo, .int r, .int x, .int y, .int z]) (n := 5) (Nat.le_of_ble_eq_true rfl)
  rw [lg_entry_eq]
  generalize (lg_sl ([.ref mo, .int r, .int x, .int y, .int z]) ++ List.replicate (5 - (lg_sl ([.ref mo, .int r, .int x, .int y, .int z])).length) Slot.unset).toArray = ls at hl ⊢
  have hl : lv_has ls 5 [(0, .ref mo), (1, .int r), (2, .int x), (3, .int y), (4, .int z)] := hl
  obtain ⟨hNN, hnr, hFB, hTB, hrc, ⟨Z, m0, z0, z1, z4, z7, z16, z17, z25, z26⟩, hcol, hfac, htup, hbit, hfnd, hrul, hscr⟩ := id hM
  have hN := hN1 hNN
  have hFl := hFB.1
  have hTl := hTB.1
  
  have fr0 : frm [mo] σ σ := frm.rf
  refine lv_aload_n hx hb d_MO_fact_0 rfl (lv_at hl 0 rfl) ?_
  refine lv_aload_n hx hb d_MO_fact_1 rfl (lv_at hl 0 rfl) ?_
  refine lv_iload_n hx hb d_MO_fact_2 rfl (lv_at hl 1 rfl) ?_
  refine lv_iload_n hx hb d_MO_fact_3 rfl (lv_at hl 2 rfl) ?_
  refine lv_iload_n hx hb d_MO_fact_4 rfl (lv_at hl 3 rfl) ?_
  refine lv_iload hx hb d_MO_fact_5 (lv_at hl 4 rfl) ?_
  refine lv_bipush (v := nI 64) hx hb d_MO_fact_7 (by decide) ?_
  refine gs_callVp (As := [.int r, .int x, .int y, .int z, .int (nI 64)]) (rest := [.ref mo]) ⟨hx, hb, hml, hown, hts⟩ hK hE hz hG hS (c_MO_fits_r l X σ mo A Z 64 r x y z m0 (by rw [z1]; exact hok)) ⟨rfl, rfl⟩ mV_MO_fits w_777 m0 rfl rfl hl.1 rfl (Nat.le_of_ble_eq_true rfl) ⟨(by first | decide | omega | (dsimp only [headSpec]; omega)), (by first | decide | omega | (dsimp only [headSpec]; omega))⟩ ⟨(by first | decide | omega | (dsimp only [headSpec]; omega)), (by first | decide | omega | (dsimp only [headSpec]; omega))⟩ d_MO_fact_9 (fun r_9 hp_9 => ?_)
  refine gs_top (show r_9 = (nI 0) from hp_9) ?_
  refine lv_if_eq (tgt := 19) hx hb d_MO_fact_12 (by decide) (fun c_12 => ?_) (fun c_12 => ?_)
  · have c_12 : 0 = 0 := gs_z (by omega) c_12
    refine lv_iconst (v := nI 1) hx hb d_MO_fact_19 (by decide) ?_
    refine gs_put hx hb ht hown hK hG hS k_MO m0 0 (by decide) w_662 rfl rfl rfl (Nat.le_of_ble_eq_true rfl) d_MO_fact_20 (fun H locs hG hS => ?_)
    have hG : gs_H X (gs_up σ mo (moE A (va_up Z 0 1))) H := hG
    obtain ⟨σ_1, eσ_1⟩ : ∃ zq, zq = gs_up σ mo (moE A (va_up Z 0 1)) := ⟨_, rfl⟩
    rw [← eσ_1] at hG
    have hc_2 : σ_1 mo = some (moE A (va_up Z 0 1)) := by rw [eσ_1]; exact gs_us
    have fr_3 : frm [mo] σ σ_1 := by rw [eσ_1]; exact fr0.up (by simp)
    refine lv_aload_n hx hb d_MO_fact_23 rfl (lv_at hl 0 rfl) ?_
    refine gs_get (v := .int (nI 1)) hx hb ht hown hK hG k_MO hc_2 0 (by decide) w_662 rfl d_MO_fact_24 ?_
    refine lv_if_gt (tgt := 49) hx hb d_MO_fact_27 (by decide) (fun c_27 => ?_) (fun c_27 => ?_)
    · have c_27 : 0 < 1 := by have := gs_gt0 (a := 1) (by omega); exact this.mp c_27
      refine lv_iconst (v := nI 0) hx hb d_MO_fact_49 (by decide) ?_
      exact gs_iret (v := (nI 0)) hx hb hr rfl hK hE hz hG hS hlocks (by first | decide | omega | (dsimp only [headSpec]; omega)) (by first | decide | omega | (dsimp only [headSpec]; omega)) (⟨(hM.num fr_3 ⟨_, hc_2, rfl, z1, z4, z7, z16, z17, z25, z26⟩ hrc), fr_3.wk (by simp), rfl⟩) d_MO_fact_50
    · exact absurd c_27 (by decide)
  · exact absurd c_12 (by decide)
set_option maxHeartbeats 4000000 in
set_option maxRecDepth 100000 in
/-- the reference: drop of no tuple (t) -/
theorem c_MO_drop_t (l : Launch) (X : gs_X) (σ : gs_St) (mo : Nat) (A : Nat → Nat) (cd nr : Nat) (cw : Nat → Nat) (F : List (Nat × Nat)) (T : List MT) (sa rc : Nat) (Q : List MR) (dr : Option MR) (rl : Nat) (x y z : Int32)
    (hM : moA X σ mo A cd nr cw F T sa rc Q dr) (hrl : rl < nr) (hok : wi3 64 (cw rl) x y z = false) : gs_Mi l X y_MO_drop b_MO_drop 7 (some .boolean) ({ frames := 1, cells := 0, slots := 0, locals := 27 }) σ [.ref mo, .int (nI rl), .int x, .int y, .int z] (fun r σ' => moA X σ' mo A 1 nr cw F T sa rc Q dr ∧ frm (aM mo A) σ σ' ∧ r = nI 0) := by
  refine Met.ofW (cc := b_MO_drop) (maxL := 7) (ret := (some .boolean)) (by decide) rfl ?_
  intro p e s m args below meth c s₁ B₀ hml hv
  obtain ⟨rfl, hK, hG, hz, hE⟩ := hv
  have hx := B₀.exec
  have hb := B₀.bytes
  have hr := B₀.returns
  have hts := atoms_spec (ws := gs_ws y_MO_drop b_MO_drop 7 (some .boolean)) B₀.pre
  have ht : ∀ w ∈ gs_w, w.before _ s = true := fun w h => hts w (List.mem_cons_of_mem _ h)
  have hown : s.vm.findClass R_MO = some m.cls := findClass_of_methodNamed B₀.named
  have hlocks := B₀.notSynchronized
  have hA : ∀ q : Nat, s.heap.size ≤ q → gs_A X q := fun q h => Nat.le_trans hz h
  have hS : va_S (gs_A X) s.heap s.heap [] := va_S.rf
  have hl := lv_entry ([.ref mo, .int (nI rl), .int x, .int y, .int z]) (n := 7) (Nat.le_of_ble_eq_true rfl)
  rw [lg_entry_eq]
  generalize (lg_sl ([.ref mo, .int (nI rl), .int x, .int y, .int z]) ++ List.replicate (7 - (lg_sl ([.ref mo, .int (nI rl), .int x, .int y, .int z])).length) Slot.unset).toArray = ls at hl ⊢
  have hl : lv_has ls 7 [(0, .ref mo), (1, .int (nI rl)), (2, .int x), (3, .int y), (4, .int z)] := hl
  obtain ⟨hNN, hnr, hFB, hTB, hrc, ⟨Z, m0, z0, z1, z4, z7, z16, z17, z25, z26⟩, hcol, hfac, htup, hbit, hfnd, hrul, hscr⟩ := id hM
  have hN := hN1 hNN
  have hFl := hFB.1
  have hTl := hTB.1
  obtain ⟨f2, m2, hcw⟩ := id hcol
  have fr0 : frm [mo] σ σ := frm.rf
  refine lv_aload_n hx hb d_MO_drop_0 rfl (lv_at hl 0 rfl) ?_
  refine lv_aload_n hx hb d_MO_drop_1 rfl (lv_at hl 0 rfl) ?_
  refine lv_iload_n hx hb d_MO_drop_2 rfl (lv_at hl 1 rfl) ?_
  refine lv_iload_n hx hb d_MO_drop_3 rfl (lv_at hl 2 rfl) ?_
  refine lv_iload_n hx hb d_MO_drop_4 rfl (lv_at hl 3 rfl) ?_
  refine lv_iload hx hb d_MO_drop_5 (lv_at hl 4 rfl) ?_
  refine lv_bipush (v := nI 64) hx hb d_MO_drop_7 (by decide) ?_
  refine gs_callVp (As := [.int (nI rl), .int x, .int y, .int z, .int (nI 64)]) (rest := [.ref mo]) ⟨hx, hb, hml, hown, hts⟩ hK hE hz hG hS (c_MO_fits l X σ mo A Z f2 rl (cw rl) 64 x y z m0 m2 (by omega) (by omega) (hcw rl hrl).1 (hcw rl hrl).2.2) ⟨rfl, rfl⟩ mV_MO_fits w_777 m0 rfl rfl hl.1 rfl (Nat.le_of_ble_eq_true rfl) ⟨(by first | decide | omega | (dsimp only [headSpec]; omega)), (by first | decide | omega | (dsimp only [headSpec]; omega))⟩ ⟨(by first | decide | omega | (dsimp only [headSpec]; omega)), (by first | decide | omega | (dsimp only [headSpec]; omega))⟩ d_MO_drop_9 (fun r_9 hp_9 => ?_)
  refine gs_top (show r_9 = (bI (wi3 64 (cw rl) x y z)) from hp_9) ?_
  refine lv_if_eq (tgt := 19) hx hb d_MO_drop_12 (by decide) (fun c_12 => ?_) (fun c_12 => ?_)
  · refine lv_iconst (v := nI 1) hx hb d_MO_drop_19 (by decide) ?_
    refine gs_put hx hb ht hown hK hG hS k_MO m0 0 (by decide) w_662 rfl rfl rfl (Nat.le_of_ble_eq_true rfl) d_MO_drop_20 (fun H locs hG hS => ?_)
    have hG : gs_H X (gs_up σ mo (moE A (va_up Z 0 1))) H := hG
    obtain ⟨σ_1, eσ_1⟩ : ∃ zq, zq = gs_up σ mo (moE A (va_up Z 0 1)) := ⟨_, rfl⟩
    rw [← eσ_1] at hG
    have hc_2 : σ_1 (A 2) = some (gs_ia X 12 f2) := by rw [eσ_1]; exact gs_ku (gs_ne m2 m0 (by simp)) m2
    have hc_3 : σ_1 mo = some (moE A (va_up Z 0 1)) := by rw [eσ_1]; exact gs_us
    have fr_4 : frm [mo] σ σ_1 := by rw [eσ_1]; exact fr0.up (by simp)
    refine lv_aload_n hx hb d_MO_drop_23 rfl (lv_at hl 0 rfl) ?_
    refine gs_get (v := .int (nI 1)) hx hb ht hown hK hG k_MO hc_3 0 (by decide) w_662 rfl d_MO_drop_24 ?_
    refine lv_if_le (tgt := 37) hx hb d_MO_drop_27 (by decide) (fun c_27 => ?_) (fun c_27 => ?_)
    · exact absurd c_27 (by decide)
    · have c_27 : 0 < 1 := by have := gs_le0 (a := 1) (by omega); have h9 := mt this.mpr c_27; omega
      refine lv_aload_n hx hb d_MO_drop_30 rfl (lv_at hl 0 rfl) ?_
      refine gs_get (v := .int (nI (Z 4))) hx hb ht hown hK hG k_MO hc_3 4 (by decide) w_666 rfl d_MO_drop_31 ?_
      refine gs_top (show nI (Z 4) = nI F.length from congrArg nI (show Z 4 = F.length from z4)) ?_
      refine lv_goto (tgt := 49) hx hb d_MO_drop_34 (by decide) ?_
      refine lv_istore (lv' := [(5, .int (nI F.length)), (0, .ref mo), (1, .int (nI rl)), (2, .int x), (3, .int y), (4, .int z)]) hx hb d_MO_drop_49 hl (by decide) rfl (fun ls hl => ?_)
      refine lv_iload hx hb d_MO_drop_51 (lv_at hl 0 rfl) ?_
      refine lv_aload_n hx hb d_MO_drop_53 rfl (lv_at hl 1 rfl) ?_
      refine gs_get (v := .int (nI (Z 4))) hx hb ht hown hK hG k_MO hc_3 4 (by decide) w_666 rfl d_MO_drop_54 ?_
      refine gs_top (show nI (Z 4) = nI F.length from congrArg nI (show Z 4 = F.length from z4)) ?_
      refine lv_icmp_ne (tgt := 62) hx hb d_MO_drop_57 (by decide) (fun c_57 => ?_) (fun c_57 => ?_)
      · have c_57 : ¬ F.length = F.length := mt (nI_eq (by omega) (by omega)).mpr c_57
        exact absurd rfl c_57
      · have c_57 : F.length = F.length :=  (nI_eq (by omega) (by omega)).mp c_57
        refine lv_iconst (v := nI 0) hx hb d_MO_drop_60 (by decide) ?_
        exact gs_iret (v := (nI 0)) hx hb hr rfl hK hE hz hG hS hlocks (by first | decide | omega | (dsimp only [headSpec]; omega)) (by first | decide | omega | (dsimp only [headSpec]; omega)) (⟨(hM.num fr_4 ⟨_, hc_3, rfl, z1, z4, z7, z16, z17, z25, z26⟩ hrc), fr_4.wk (by simp), rfl⟩) d_MO_drop_61
  · exact absurd ((bI_n0 c_12).symm.trans hok) (by decide)
set_option maxHeartbeats 4000000 in
set_option maxRecDepth 100000 in
/-- the reference: drop of no tuple (r) -/
theorem c_MO_drop_r (l : Launch) (X : gs_X) (σ : gs_St) (mo : Nat) (A : Nat → Nat) (cd nr : Nat) (cw : Nat → Nat) (F : List (Nat × Nat)) (T : List MT) (sa rc : Nat) (Q : List MR) (dr : Option MR) (r x y z : Int32)
    (hM : moA X σ mo A cd nr cw F T sa rc Q dr) (hok : wi nr r = false) : gs_Mi l X y_MO_drop b_MO_drop 7 (some .boolean) ({ frames := 1, cells := 0, slots := 0, locals := 27 }) σ [.ref mo, .int r, .int x, .int y, .int z] (fun r σ' => moA X σ' mo A 1 nr cw F T sa rc Q dr ∧ frm (aM mo A) σ σ' ∧ r = nI 0) := by
  refine Met.ofW (cc := b_MO_drop) (maxL := 7) (ret := (some .boolean)) (by decide) rfl ?_
  intro p e s m args below meth c s₁ B₀ hml hv
  obtain ⟨rfl, hK, hG, hz, hE⟩ := hv
  have hx := B₀.exec
  have hb := B₀.bytes
  have hr := B₀.returns
  have hts := atoms_spec (ws := gs_ws y_MO_drop b_MO_drop 7 (some .boolean)) B₀.pre
  have ht : ∀ w ∈ gs_w, w.before _ s = true := fun w h => hts w (List.mem_cons_of_mem _ h)
  have hown : s.vm.findClass R_MO = some m.cls := findClass_of_methodNamed B₀.named
  have hlocks := B₀.notSynchronized
  have hA : ∀ q : Nat, s.heap.size ≤ q → gs_A X q := fun q h => Nat.le_trans hz h
  have hS : va_S (gs_A X) s.heap s.heap [] := va_S.rf
  have hl := lv_entry ([.ref mo, .int r, .int x, .int y, .int z]) (n := 7) (Nat.le_of_ble_eq_true rfl)
  rw [lg_entry_eq]
  generalize (lg_sl ([.ref mo, .int r, .int x, .int y, .int z]) ++ List.replicate (7 - (lg_sl ([.ref mo, .int r, .int x, .int y, .int z])).length) Slot.unset).toArray = ls at hl ⊢
  have hl : lv_has ls 7 [(0, .ref mo), (1, .int r), (2, .int x), (3, .int y), (4, .int z)] := hl
  obtain ⟨hNN, hnr, hFB, hTB, hrc, ⟨Z, m0, z0, z1, z4, z7, z16, z17, z25, z26⟩, hcol, hfac, htup, hbit, hfnd, hrul, hscr⟩ := id hM
  have hN := hN1 hNN
  have hFl := hFB.1
  have hTl := hTB.1
  
  have fr0 : frm [mo] σ σ := frm.rf
  refine lv_aload_n hx hb d_MO_drop_0 rfl (lv_at hl 0 rfl) ?_
  refine lv_aload_n hx hb d_MO_drop_1 rfl (lv_at hl 0 rfl) ?_
  refine lv_iload_n hx hb d_MO_drop_2 rfl (lv_at hl 1 rfl) ?_
  refine lv_iload_n hx hb d_MO_drop_3 rfl (lv_at hl 2 rfl) ?_
  refine lv_iload_n hx hb d_MO_drop_4 rfl (lv_at hl 3 rfl) ?_
  refine lv_iload hx hb d_MO_drop_5 (lv_at hl 4 rfl) ?_
  refine lv_bipush (v := nI 64) hx hb d_MO_drop_7 (by decide) ?_
  refine gs_callVp (As := [.int r, .int x, .int y, .int z, .int (nI 64)]) (rest := [.ref mo]) ⟨hx, hb, hml, hown, hts⟩ hK hE hz hG hS (c_MO_fits_r l X σ mo A Z 64 r x y z m0 (by rw [z1]; exact hok)) ⟨rfl, rfl⟩ mV_MO_fits w_777 m0 rfl rfl hl.1 rfl (Nat.le_of_ble_eq_true rfl) ⟨(by first | decide | omega | (dsimp only [headSpec]; omega)), (by first | decide | omega | (dsimp only [headSpec]; omega))⟩ ⟨(by first | decide | omega | (dsimp only [headSpec]; omega)), (by first | decide | omega | (dsimp only [headSpec]; omega))⟩ d_MO_drop_9 (fun r_9 hp_9 => ?_)
  refine gs_top (show r_9 = (nI 0) from hp_9) ?_
  refine lv_if_eq (tgt := 19) hx hb d_MO_drop_12 (by decide) (fun c_12 => ?_) (fun c_12 => ?_)
  · have c_12 : 0 = 0 := gs_z (by omega) c_12
    refine lv_iconst (v := nI 1) hx hb d_MO_drop_19 (by decide) ?_
    refine gs_put hx hb ht hown hK hG hS k_MO m0 0 (by decide) w_662 rfl rfl rfl (Nat.le_of_ble_eq_true rfl) d_MO_drop_20 (fun H locs hG hS => ?_)
    have hG : gs_H X (gs_up σ mo (moE A (va_up Z 0 1))) H := hG
    obtain ⟨σ_1, eσ_1⟩ : ∃ zq, zq = gs_up σ mo (moE A (va_up Z 0 1)) := ⟨_, rfl⟩
    rw [← eσ_1] at hG
    have hc_2 : σ_1 mo = some (moE A (va_up Z 0 1)) := by rw [eσ_1]; exact gs_us
    have fr_3 : frm [mo] σ σ_1 := by rw [eσ_1]; exact fr0.up (by simp)
    refine lv_aload_n hx hb d_MO_drop_23 rfl (lv_at hl 0 rfl) ?_
    refine gs_get (v := .int (nI 1)) hx hb ht hown hK hG k_MO hc_2 0 (by decide) w_662 rfl d_MO_drop_24 ?_
    refine lv_if_le (tgt := 37) hx hb d_MO_drop_27 (by decide) (fun c_27 => ?_) (fun c_27 => ?_)
    · exact absurd c_27 (by decide)
    · have c_27 : 0 < 1 := by have := gs_le0 (a := 1) (by omega); have h9 := mt this.mpr c_27; omega
      refine lv_aload_n hx hb d_MO_drop_30 rfl (lv_at hl 0 rfl) ?_
      refine gs_get (v := .int (nI (Z 4))) hx hb ht hown hK hG k_MO hc_2 4 (by decide) w_666 rfl d_MO_drop_31 ?_
      refine gs_top (show nI (Z 4) = nI F.length from congrArg nI (show Z 4 = F.length from z4)) ?_
      refine lv_goto (tgt := 49) hx hb d_MO_drop_34 (by decide) ?_
      refine lv_istore (lv' := [(5, .int (nI F.length)), (0, .ref mo), (1, .int r), (2, .int x), (3, .int y), (4, .int z)]) hx hb d_MO_drop_49 hl (by decide) rfl (fun ls hl => ?_)
      refine lv_iload hx hb d_MO_drop_51 (lv_at hl 0 rfl) ?_
      refine lv_aload_n hx hb d_MO_drop_53 rfl (lv_at hl 1 rfl) ?_
      refine gs_get (v := .int (nI (Z 4))) hx hb ht hown hK hG k_MO hc_2 4 (by decide) w_666 rfl d_MO_drop_54 ?_
      refine gs_top (show nI (Z 4) = nI F.length from congrArg nI (show Z 4 = F.length from z4)) ?_
      refine lv_icmp_ne (tgt := 62) hx hb d_MO_drop_57 (by decide) (fun c_57 => ?_) (fun c_57 => ?_)
      · have c_57 : ¬ F.length = F.length := mt (nI_eq (by omega) (by omega)).mpr c_57
        exact absurd rfl c_57
      · have c_57 : F.length = F.length :=  (nI_eq (by omega) (by omega)).mp c_57
        refine lv_iconst (v := nI 0) hx hb d_MO_drop_60 (by decide) ?_
        exact gs_iret (v := (nI 0)) hx hb hr rfl hK hE hz hG hS hlocks (by first | decide | omega | (dsimp only [headSpec]; omega)) (by first | decide | omega | (dsimp only [headSpec]; omega)) (⟨(hM.num fr_3 ⟨_, hc_2, rfl, z1, z4, z7, z16, z17, z25, z26⟩ hrc), fr_3.wk (by simp), rfl⟩) d_MO_drop_61
  · exact absurd c_12 (by decide)
set_option maxHeartbeats 4000000 in
set_option maxRecDepth 100000 in
/-- the reference: has of no tuple (t) -/
theorem c_MO_has_t (l : Launch) (X : gs_X) (σ : gs_St) (mo : Nat) (A : Nat → Nat) (cd nr : Nat) (cw : Nat → Nat) (F : List (Nat × Nat)) (T : List MT) (sa rc : Nat) (Q : List MR) (dr : Option MR) (rl : Nat) (x y z : Int32)
    (hM : moA X σ mo A cd nr cw F T sa rc Q dr) (hrl : rl < nr) (hok : wi3 64 (cw rl) x y z = false) : gs_Mi l X y_MO_has b_MO_has 5 (some .boolean) ({ frames := 1, cells := 0, slots := 0, locals := 27 }) σ [.ref mo, .int (nI rl), .int x, .int y, .int z] (fun r σ' => moA X σ' mo A 1 nr cw F T sa rc Q dr ∧ frm (aM mo A) σ σ' ∧ r = nI 0) := by
  refine Met.ofW (cc := b_MO_has) (maxL := 5) (ret := (some .boolean)) (by decide) rfl ?_
  intro p e s m args below meth c s₁ B₀ hml hv
  obtain ⟨rfl, hK, hG, hz, hE⟩ := hv
  have hx := B₀.exec
  have hb := B₀.bytes
  have hr := B₀.returns
  have hts := atoms_spec (ws := gs_ws y_MO_has b_MO_has 5 (some .boolean)) B₀.pre
  have ht : ∀ w ∈ gs_w, w.before _ s = true := fun w h => hts w (List.mem_cons_of_mem _ h)
  have hown : s.vm.findClass R_MO = some m.cls := findClass_of_methodNamed B₀.named
  have hlocks := B₀.notSynchronized
  have hA : ∀ q : Nat, s.heap.size ≤ q → gs_A X q := fun q h => Nat.le_trans hz h
  have hS : va_S (gs_A X) s.heap s.heap [] := va_S.rf
  have hl := lv_entry ([.ref mo, .int (nI rl), .int x, .int y, .int z]) (n := 5) (Nat.le_of_ble_eq_true rfl)
  rw [lg_entry_eq]
  generalize (lg_sl ([.ref mo, .int (nI rl), .int x, .int y, .int z]) ++ List.replicate (5 - (lg_sl ([.ref mo, .int (nI rl), .int x, .int y, .int z])).length) Slot.unset).toArray = ls at hl ⊢
  have hl : lv_has ls 5 [(0, .ref mo), (1, .int (nI rl)), (2, .int x), (3, .int y), (4, .int z)] := hl
  obtain ⟨hNN, hnr, hFB, hTB, hrc, ⟨Z, m0, z0, z1, z4, z7, z16, z17, z25, z26⟩, hcol, hfac, htup, hbit, hfnd, hrul, hscr⟩ := id hM
  have hN := hN1 hNN
  have hFl := hFB.1
  have hTl := hTB.1
  obtain ⟨f2, m2, hcw⟩ := id hcol
  have fr0 : frm [mo] σ σ := frm.rf
  refine lv_aload_n hx hb d_MO_has_0 rfl (lv_at hl 0 rfl) ?_
  refine lv_aload_n hx hb d_MO_has_1 rfl (lv_at hl 0 rfl) ?_
  refine lv_iload_n hx hb d_MO_has_2 rfl (lv_at hl 1 rfl) ?_
  refine lv_iload_n hx hb d_MO_has_3 rfl (lv_at hl 2 rfl) ?_
  refine lv_iload_n hx hb d_MO_has_4 rfl (lv_at hl 3 rfl) ?_
  refine lv_iload hx hb d_MO_has_5 (lv_at hl 4 rfl) ?_
  refine lv_bipush (v := nI 64) hx hb d_MO_has_7 (by decide) ?_
  refine gs_callVp (As := [.int (nI rl), .int x, .int y, .int z, .int (nI 64)]) (rest := [.ref mo]) ⟨hx, hb, hml, hown, hts⟩ hK hE hz hG hS (c_MO_fits l X σ mo A Z f2 rl (cw rl) 64 x y z m0 m2 (by omega) (by omega) (hcw rl hrl).1 (hcw rl hrl).2.2) ⟨rfl, rfl⟩ mV_MO_fits w_777 m0 rfl rfl hl.1 rfl (Nat.le_of_ble_eq_true rfl) ⟨(by first | decide | omega | (dsimp only [headSpec]; omega)), (by first | decide | omega | (dsimp only [headSpec]; omega))⟩ ⟨(by first | decide | omega | (dsimp only [headSpec]; omega)), (by first | decide | omega | (dsimp only [headSpec]; omega))⟩ d_MO_has_9 (fun r_9 hp_9 => ?_)
  refine gs_top (show r_9 = (bI (wi3 64 (cw rl) x y z)) from hp_9) ?_
  refine lv_if_eq (tgt := 19) hx hb d_MO_has_12 (by decide) (fun c_12 => ?_) (fun c_12 => ?_)
  · refine lv_iconst (v := nI 1) hx hb d_MO_has_19 (by decide) ?_
    refine gs_put hx hb ht hown hK hG hS k_MO m0 0 (by decide) w_662 rfl rfl rfl (Nat.le_of_ble_eq_true rfl) d_MO_has_20 (fun H locs hG hS => ?_)
    have hG : gs_H X (gs_up σ mo (moE A (va_up Z 0 1))) H := hG
    obtain ⟨σ_1, eσ_1⟩ : ∃ zq, zq = gs_up σ mo (moE A (va_up Z 0 1)) := ⟨_, rfl⟩
    rw [← eσ_1] at hG
    have hc_2 : σ_1 (A 2) = some (gs_ia X 12 f2) := by rw [eσ_1]; exact gs_ku (gs_ne m2 m0 (by simp)) m2
    have hc_3 : σ_1 mo = some (moE A (va_up Z 0 1)) := by rw [eσ_1]; exact gs_us
    have fr_4 : frm [mo] σ σ_1 := by rw [eσ_1]; exact fr0.up (by simp)
    refine lv_aload_n hx hb d_MO_has_23 rfl (lv_at hl 0 rfl) ?_
    refine gs_get (v := .int (nI 1)) hx hb ht hown hK hG k_MO hc_3 0 (by decide) w_662 rfl d_MO_has_24 ?_
    refine lv_if_ne (tgt := 49) hx hb d_MO_has_27 (by decide) (fun c_27 => ?_) (fun c_27 => ?_)
    · have c_27 : ¬ 1 = 0 := gs_zn (by omega) c_27
      refine lv_iconst (v := nI 0) hx hb d_MO_has_49 (by decide) ?_
      exact gs_iret (v := (nI 0)) hx hb hr rfl hK hE hz hG hS hlocks (by first | decide | omega | (dsimp only [headSpec]; omega)) (by first | decide | omega | (dsimp only [headSpec]; omega)) (⟨(hM.num fr_4 ⟨_, hc_3, rfl, z1, z4, z7, z16, z17, z25, z26⟩ hrc), fr_4.wk (by simp), rfl⟩) d_MO_has_50
    · exact absurd c_27 (by decide)
  · exact absurd ((bI_n0 c_12).symm.trans hok) (by decide)
set_option maxHeartbeats 4000000 in
set_option maxRecDepth 100000 in
/-- the reference: has of no tuple (r) -/
theorem c_MO_has_r (l : Launch) (X : gs_X) (σ : gs_St) (mo : Nat) (A : Nat → Nat) (cd nr : Nat) (cw : Nat → Nat) (F : List (Nat × Nat)) (T : List MT) (sa rc : Nat) (Q : List MR) (dr : Option MR) (r x y z : Int32)
    (hM : moA X σ mo A cd nr cw F T sa rc Q dr) (hok : wi nr r = false) : gs_Mi l X y_MO_has b_MO_has 5 (some .boolean) ({ frames := 1, cells := 0, slots := 0, locals := 27 }) σ [.ref mo, .int r, .int x, .int y, .int z] (fun r σ' => moA X σ' mo A 1 nr cw F T sa rc Q dr ∧ frm (aM mo A) σ σ' ∧ r = nI 0) := by
  refine Met.ofW (cc := b_MO_has) (maxL := 5) (ret := (some .boolean)) (by decide) rfl ?_
  intro p e s m args below meth c s₁ B₀ hml hv
  obtain ⟨rfl, hK, hG, hz, hE⟩ := hv
  have hx := B₀.exec
  have hb := B₀.bytes
  have hr := B₀.returns
  have hts := atoms_spec (ws := gs_ws y_MO_has b_MO_has 5 (some .boolean)) B₀.pre
  have ht : ∀ w ∈ gs_w, w.before _ s = true := fun w h => hts w (List.mem_cons_of_mem _ h)
  have hown : s.vm.findClass R_MO = some m.cls := findClass_of_methodNamed B₀.named
  have hlocks := B₀.notSynchronized
  have hA : ∀ q : Nat, s.heap.size ≤ q → gs_A X q := fun q h => Nat.le_trans hz h
  have hS : va_S (gs_A X) s.heap s.heap [] := va_S.rf
  have hl := lv_entry ([.ref mo, .int r, .int x, .int y, .int z]) (n := 5) (Nat.le_of_ble_eq_true rfl)
  rw [lg_entry_eq]
  generalize (lg_sl ([.ref mo, .int r, .int x, .int y, .int z]) ++ List.replicate (5 - (lg_sl ([.ref mo, .int r, .int x, .int y, .int z])).length) Slot.unset).toArray = ls at hl ⊢
  have hl : lv_has ls 5 [(0, .ref mo), (1, .int r), (2, .int x), (3, .int y), (4, .int z)] := hl
  obtain ⟨hNN, hnr, hFB, hTB, hrc, ⟨Z, m0, z0, z1, z4, z7, z16, z17, z25, z26⟩, hcol, hfac, htup, hbit, hfnd, hrul, hscr⟩ := id hM
  have hN := hN1 hNN
  have hFl := hFB.1
  have hTl := hTB.1
  
  have fr0 : frm [mo] σ σ := frm.rf
  refine lv_aload_n hx hb d_MO_has_0 rfl (lv_at hl 0 rfl) ?_
  refine lv_aload_n hx hb d_MO_has_1 rfl (lv_at hl 0 rfl) ?_
  refine lv_iload_n hx hb d_MO_has_2 rfl (lv_at hl 1 rfl) ?_
  refine lv_iload_n hx hb d_MO_has_3 rfl (lv_at hl 2 rfl) ?_
  refine lv_iload_n hx hb d_MO_has_4 rfl (lv_at hl 3 rfl) ?_
  refine lv_iload hx hb d_MO_has_5 (lv_at hl 4 rfl) ?_
  refine lv_bipush (v := nI 64) hx hb d_MO_has_7 (by decide) ?_
  refine gs_callVp (As := [.int r, .int x, .int y, .int z, .int (nI 64)]) (rest := [.ref mo]) ⟨hx, hb, hml, hown, hts⟩ hK hE hz hG hS (c_MO_fits_r l X σ mo A Z 64 r x y z m0 (by rw [z1]; exact hok)) ⟨rfl, rfl⟩ mV_MO_fits w_777 m0 rfl rfl hl.1 rfl (Nat.le_of_ble_eq_true rfl) ⟨(by first | decide | omega | (dsimp only [headSpec]; omega)), (by first | decide | omega | (dsimp only [headSpec]; omega))⟩ ⟨(by first | decide | omega | (dsimp only [headSpec]; omega)), (by first | decide | omega | (dsimp only [headSpec]; omega))⟩ d_MO_has_9 (fun r_9 hp_9 => ?_)
  refine gs_top (show r_9 = (nI 0) from hp_9) ?_
  refine lv_if_eq (tgt := 19) hx hb d_MO_has_12 (by decide) (fun c_12 => ?_) (fun c_12 => ?_)
  · have c_12 : 0 = 0 := gs_z (by omega) c_12
    refine lv_iconst (v := nI 1) hx hb d_MO_has_19 (by decide) ?_
    refine gs_put hx hb ht hown hK hG hS k_MO m0 0 (by decide) w_662 rfl rfl rfl (Nat.le_of_ble_eq_true rfl) d_MO_has_20 (fun H locs hG hS => ?_)
    have hG : gs_H X (gs_up σ mo (moE A (va_up Z 0 1))) H := hG
    obtain ⟨σ_1, eσ_1⟩ : ∃ zq, zq = gs_up σ mo (moE A (va_up Z 0 1)) := ⟨_, rfl⟩
    rw [← eσ_1] at hG
    have hc_2 : σ_1 mo = some (moE A (va_up Z 0 1)) := by rw [eσ_1]; exact gs_us
    have fr_3 : frm [mo] σ σ_1 := by rw [eσ_1]; exact fr0.up (by simp)
    refine lv_aload_n hx hb d_MO_has_23 rfl (lv_at hl 0 rfl) ?_
    refine gs_get (v := .int (nI 1)) hx hb ht hown hK hG k_MO hc_2 0 (by decide) w_662 rfl d_MO_has_24 ?_
    refine lv_if_ne (tgt := 49) hx hb d_MO_has_27 (by decide) (fun c_27 => ?_) (fun c_27 => ?_)
    · have c_27 : ¬ 1 = 0 := gs_zn (by omega) c_27
      refine lv_iconst (v := nI 0) hx hb d_MO_has_49 (by decide) ?_
      exact gs_iret (v := (nI 0)) hx hb hr rfl hK hE hz hG hS hlocks (by first | decide | omega | (dsimp only [headSpec]; omega)) (by first | decide | omega | (dsimp only [headSpec]; omega)) (⟨(hM.num fr_3 ⟨_, hc_2, rfl, z1, z4, z7, z16, z17, z25, z26⟩ hrc), fr_3.wk (by simp), rfl⟩) d_MO_has_50
    · exact absurd c_27 (by decide)
  · exact absurd c_12 (by decide)
