set_option maxHeartbeats 4000000 in
set_option maxRecDepth 100000 in
/-- the reference: rule without a head -/
theorem c_MO_rule_n (l : Launch) (X : gs_X) (σ : gs_St) (mo : Nat) (A : Nat → Nat) (cd nr : Nat) (cw : Nat → Nat) (F : List (Nat × Nat)) (T : List MT) (sa rc : Nat) (Q : List MR)
    (hM : moA X σ mo A cd nr cw F T sa rc Q none) : gs_Mi l X y_MO_rule b_MO_rule 5 (some .int) ({ frames := 0, cells := 0, slots := 0, locals := 0 }) σ [.ref mo] (fun q σ' => moA X σ' mo A 1 nr cw F T sa rc Q none ∧ frm (aM mo A) σ σ' ∧ q = nI 0) := by
  refine Met.ofW (cc := b_MO_rule) (maxL := 5) (ret := (some .int)) (by decide) rfl ?_
  intro p e s m args below meth c s₁ B₀ hml hv
  obtain ⟨rfl, hK, hG, hz, hE⟩ := hv
  have hx := B₀.exec
  have hb := B₀.bytes
  have hr := B₀.returns
  have hts := atoms_spec (ws := gs_ws y_MO_rule b_MO_rule 5 (some .int)) B₀.pre
  have ht : ∀ w ∈ gs_w, w.before _ s = true := fun w h => hts w (List.mem_cons_of_mem _ h)
  have hown : s.vm.findClass R_MO = some m.cls := findClass_of_methodNamed B₀.named
  have hlocks := B₀.notSynchronized
  have hA : ∀ q : Nat, s.heap.size ≤ q → gs_A X q := fun q h => Nat.le_trans hz h
  have hS : va_S (gs_A X) s.heap s.heap [] := va_S.rf
  have hl := lv_entry ([.ref mo]) (n := 5) (Nat.le_of_ble_eq_true rfl)
  rw [lg_entry_eq]
  generalize (lg_sl ([.ref mo]) ++ List.replicate (5 - (lg_sl ([.ref mo])).length) Slot.unset).toArray = ls at hl ⊢
  have hl : lv_has ls 5 [(0, .ref mo)] := hl
  obtain ⟨hNN, hnr, hFB, hTB, hrc, ⟨Z, m0, z0, z1, z4, z7, z16, z17, z25, z26⟩, hcol, hfac, htup, hbit, hfnd, hrul, hscr⟩ := id hM
  have hN := hN1 hNN
  have hFl := hFB.1
  have hTl := hTB.1
  
  have fr0 : frm [mo] σ σ := frm.rf
  refine lv_aload_n hx hb d_MO_rule_0 rfl (lv_at hl 0 rfl) ?_
  refine lv_aload_n hx hb d_MO_rule_1 rfl (lv_at hl 0 rfl) ?_
  refine gs_get (v := .int (nI (Z 17))) hx hb ht hown hK hG k_MO m0 17 (by decide) w_679 rfl d_MO_rule_2 ?_
  refine gs_top (show nI (Z 17) = nI 0 from congrArg nI (show Z 17 = 0 from z17)) ?_
  refine lv_if_eq (tgt := 17) hx hb d_MO_rule_5 (by decide) (fun c_5 => ?_) (fun c_5 => ?_)
  · have c_5 : 0 = 0 := gs_z (by omega) c_5
    refine lv_iconst (v := nI 1) hx hb d_MO_rule_17 (by decide) ?_
    refine lv_goto (tgt := 22) hx hb d_MO_rule_18 (by decide) ?_
    refine gs_put hx hb ht hown hK hG hS k_MO m0 0 (by decide) w_662 rfl rfl rfl (Nat.le_of_ble_eq_true rfl) d_MO_rule_22 (fun H locs hG hS => ?_)
    have hG : gs_H X (gs_up σ mo (moE A (va_up Z 0 1))) H := hG
    obtain ⟨σ_1, eσ_1⟩ : ∃ zq, zq = gs_up σ mo (moE A (va_up Z 0 1)) := ⟨_, rfl⟩
    rw [← eσ_1] at hG
    have hc_2 : σ_1 mo = some (moE A (va_up Z 0 1)) := by rw [eσ_1]; exact gs_us
    have fr_3 : frm [mo] σ σ_1 := by rw [eσ_1]; exact fr0.up (by simp)
    refine lv_aload_n hx hb d_MO_rule_25 rfl (lv_at hl 0 rfl) ?_
    refine gs_get (v := .int (nI 1)) hx hb ht hown hK hG k_MO hc_2 0 (by decide) w_662 rfl d_MO_rule_26 ?_
    refine lv_if_le (tgt := 34) hx hb d_MO_rule_29 (by decide) (fun c_29 => ?_) (fun c_29 => ?_)
    · exact absurd c_29 (by decide)
    · have c_29 : 0 < 1 := by have := gs_le0 (a := 1) (by omega); have h9 := mt this.mpr c_29; omega
      refine lv_iconst (v := nI 0) hx hb d_MO_rule_32 (by decide) ?_
      exact gs_iret (v := (nI 0)) hx hb hr rfl hK hE hz hG hS hlocks (by first | decide | omega | (dsimp only [headSpec]; omega)) (by first | decide | omega | (dsimp only [headSpec]; omega)) (⟨(hM.num fr_3 ⟨_, hc_2, rfl, z1, z4, z7, z16, z17, z25, z26⟩ hrc), fr_3.wk (by simp), rfl⟩) d_MO_rule_33
  · exact absurd c_5 (by decide)
set_option maxHeartbeats 4000000 in
set_option maxRecDepth 100000 in
/-- the reference: rule, too many -/
theorem c_MO_rule_f (l : Launch) (X : gs_X) (σ : gs_St) (mo : Nat) (A : Nat → Nat) (cd nr : Nat) (cw : Nat → Nat) (F : List (Nat × Nat)) (T : List MT) (sa rc : Nat) (Q : List MR) (R : MR)
    (hM : moA X σ mo A cd nr cw F T sa rc Q (some R)) (hfu : Q.length = 24) : gs_Mi l X y_MO_rule b_MO_rule 5 (some .int) ({ frames := 0, cells := 0, slots := 0, locals := 0 }) σ [.ref mo] (fun q σ' => moA X σ' mo A 1 nr cw F T sa rc Q (some R) ∧ frm (aM mo A) σ σ' ∧ q = nI 0) := by
  refine Met.ofW (cc := b_MO_rule) (maxL := 5) (ret := (some .int)) (by decide) rfl ?_
  intro p e s m args below meth c s₁ B₀ hml hv
  obtain ⟨rfl, hK, hG, hz, hE⟩ := hv
  have hx := B₀.exec
  have hb := B₀.bytes
  have hr := B₀.returns
  have hts := atoms_spec (ws := gs_ws y_MO_rule b_MO_rule 5 (some .int)) B₀.pre
  have ht : ∀ w ∈ gs_w, w.before _ s = true := fun w h => hts w (List.mem_cons_of_mem _ h)
  have hown : s.vm.findClass R_MO = some m.cls := findClass_of_methodNamed B₀.named
  have hlocks := B₀.notSynchronized
  have hA : ∀ q : Nat, s.heap.size ≤ q → gs_A X q := fun q h => Nat.le_trans hz h
  have hS : va_S (gs_A X) s.heap s.heap [] := va_S.rf
  have hl := lv_entry ([.ref mo]) (n := 5) (Nat.le_of_ble_eq_true rfl)
  rw [lg_entry_eq]
  generalize (lg_sl ([.ref mo]) ++ List.replicate (5 - (lg_sl ([.ref mo])).length) Slot.unset).toArray = ls at hl ⊢
  have hl : lv_has ls 5 [(0, .ref mo)] := hl
  obtain ⟨hNN, hnr, hFB, hTB, hrc, ⟨Z, m0, z0, z1, z4, z7, z16, z17, z25, z26⟩, hcol, hfac, htup, hbit, hfnd, hrul, hscr⟩ := id hM
  have hN := hN1 hNN
  have hFl := hFB.1
  have hTl := hTB.1
  
  have fr0 : frm [mo] σ σ := frm.rf
  refine lv_aload_n hx hb d_MO_rule_0 rfl (lv_at hl 0 rfl) ?_
  refine lv_aload_n hx hb d_MO_rule_1 rfl (lv_at hl 0 rfl) ?_
  refine gs_get (v := .int (nI (Z 17))) hx hb ht hown hK hG k_MO m0 17 (by decide) w_679 rfl d_MO_rule_2 ?_
  refine gs_top (show nI (Z 17) = nI 1 from congrArg nI (show Z 17 = 1 from z17)) ?_
  refine lv_if_eq (tgt := 17) hx hb d_MO_rule_5 (by decide) (fun c_5 => ?_) (fun c_5 => ?_)
  · exact absurd c_5 (by decide)
  · have c_5 : ¬ 1 = 0 := gs_zn (by omega) c_5
    refine lv_aload_n hx hb d_MO_rule_8 rfl (lv_at hl 0 rfl) ?_
    refine gs_get (v := .int (nI (Z 16))) hx hb ht hown hK hG k_MO m0 16 (by decide) w_678 rfl d_MO_rule_9 ?_
    refine gs_top (show nI (Z 16) = nI Q.length from congrArg nI (show Z 16 = Q.length from z16)) ?_
    refine lv_bipush (v := nI 24) hx hb d_MO_rule_12 (by decide) ?_
    refine lv_icmp_ne (tgt := 21) hx hb d_MO_rule_14 (by decide) (fun c_14 => ?_) (fun c_14 => ?_)
    · have c_14 : ¬ Q.length = 24 := mt (nI_eq (by omega) (by omega)).mpr c_14
      omega
    · have c_14 : Q.length = 24 :=  (nI_eq (by omega) (by omega)).mp c_14
      refine lv_iconst (v := nI 1) hx hb d_MO_rule_17 (by decide) ?_
      refine lv_goto (tgt := 22) hx hb d_MO_rule_18 (by decide) ?_
      refine gs_put hx hb ht hown hK hG hS k_MO m0 0 (by decide) w_662 rfl rfl rfl (Nat.le_of_ble_eq_true rfl) d_MO_rule_22 (fun H locs hG hS => ?_)
      have hG : gs_H X (gs_up σ mo (moE A (va_up Z 0 1))) H := hG
      obtain ⟨σ_1, eσ_1⟩ : ∃ zq, zq = gs_up σ mo (moE A (va_up Z 0 1)) := ⟨_, rfl⟩
      rw [← eσ_1] at hG
      have hc_2 : σ_1 mo = some (moE A (va_up Z 0 1)) := by rw [eσ_1]; exact gs_us
      have fr_3 : frm [mo] σ σ_1 := by rw [eσ_1]; exact fr0.up (by simp)
      refine lv_aload_n hx hb d_MO_rule_25 rfl (lv_at hl 0 rfl) ?_
      refine gs_get (v := .int (nI 1)) hx hb ht hown hK hG k_MO hc_2 0 (by decide) w_662 rfl d_MO_rule_26 ?_
      refine lv_if_le (tgt := 34) hx hb d_MO_rule_29 (by decide) (fun c_29 => ?_) (fun c_29 => ?_)
      · exact absurd c_29 (by decide)
      · have c_29 : 0 < 1 := by have := gs_le0 (a := 1) (by omega); have h9 := mt this.mpr c_29; omega
        refine lv_iconst (v := nI 0) hx hb d_MO_rule_32 (by decide) ?_
        exact gs_iret (v := (nI 0)) hx hb hr rfl hK hE hz hG hS hlocks (by first | decide | omega | (dsimp only [headSpec]; omega)) (by first | decide | omega | (dsimp only [headSpec]; omega)) (⟨(hM.num fr_3 ⟨_, hc_2, rfl, z1, z4, z7, z16, z17, z25, z26⟩ hrc), fr_3.wk (by simp), rfl⟩) d_MO_rule_33
set_option maxHeartbeats 4000000 in
set_option maxRecDepth 100000 in
/-- the reference: rule of one that may not be -/
theorem c_MO_rule_u (l : Launch) (X : gs_X) (σ : gs_St) (mo : Nat) (A : Nat → Nat) (cd nr : Nat) (cw : Nat → Nat) (F : List (Nat × Nat)) (T : List MT) (sa rc : Nat) (Q : List MR) (R : MR)
    (hM : moA X σ mo A cd nr cw F T sa rc Q (some R)) (hq24 : Q.length < 24) (hsf : sfJ R 3 = false) : gs_Mi l X y_MO_rule b_MO_rule 5 (some .int) ({ frames := 1, cells := 0, slots := 0, locals := 25 }) σ [.ref mo] (fun q σ' => moA X σ' mo A 0 nr cw F T sa rc Q (some R) ∧ frm (aM mo A) σ σ' ∧ q = -2) := by
  refine Met.ofW (cc := b_MO_rule) (maxL := 5) (ret := (some .int)) (by decide) rfl ?_
  intro p e s m args below meth c s₁ B₀ hml hv
  obtain ⟨rfl, hK, hG, hz, hE⟩ := hv
  have hx := B₀.exec
  have hb := B₀.bytes
  have hr := B₀.returns
  have hts := atoms_spec (ws := gs_ws y_MO_rule b_MO_rule 5 (some .int)) B₀.pre
  have ht : ∀ w ∈ gs_w, w.before _ s = true := fun w h => hts w (List.mem_cons_of_mem _ h)
  have hown : s.vm.findClass R_MO = some m.cls := findClass_of_methodNamed B₀.named
  have hlocks := B₀.notSynchronized
  have hA : ∀ q : Nat, s.heap.size ≤ q → gs_A X q := fun q h => Nat.le_trans hz h
  have hS : va_S (gs_A X) s.heap s.heap [] := va_S.rf
  have hl := lv_entry ([.ref mo]) (n := 5) (Nat.le_of_ble_eq_true rfl)
  rw [lg_entry_eq]
  generalize (lg_sl ([.ref mo]) ++ List.replicate (5 - (lg_sl ([.ref mo])).length) Slot.unset).toArray = ls at hl ⊢
  have hl : lv_has ls 5 [(0, .ref mo)] := hl
  obtain ⟨hNN, hnr, hFB, hTB, hrc, ⟨Z, m0, z0, z1, z4, z7, z16, z17, z25, z26⟩, hcol, hfac, htup, hbit, hfnd, hrul, hscr⟩ := id hM
  have hN := hN1 hNN
  have hFl := hFB.1
  have hTl := hTB.1
  obtain ⟨f18, f19, f20, f21, f22, f23, m18, m19, m20, m21, m22, m23, hQl, hQ, hdr⟩ := id hrul
  obtain ⟨hR9, hRB⟩ := hdr R rfl
  have hRl := hRB.2.2.1
  have fr0 : frm [mo] σ σ := frm.rf
  have k125 : ∀ (σ1 : gs_St), frm [mo] σ σ1 → (σ1 mo = some (moE A (va_up Z 0 0))) → (σ1 (A 18) = some (gs_ia X 25 f18)) → (σ1 (A 19) = some (gs_ia X 75 f19)) → (σ1 (A 20) = some (gs_ia X 25 f20)) → (σ1 (A 21) = some (gs_ia X 150 f21)) → (σ1 (A 22) = some (gs_ia X 150 f22)) → (σ1 (A 23) = some (gs_ia X 450 f23)) → ∀ (H : Heap) (locs : List Loc), gs_H X σ1 H → va_S (gs_A X) s.heap H locs → ∀ ls, lv_has ls 5 [(1, .int (bI (sfJ R 3))), (0, .ref mo)] → W p l e ({ frames := 1, cells := 0, slots := 0, locals := 25 } : Room) s m ([.ref mo] : List Value).toArray below meth c H locs 0 0 (MQ below (va_Qi (fun q σ' => moA X σ' mo A 0 nr cw F T sa rc Q (some R) ∧ frm (aM mo A) σ σ' ∧ q = -2) (gs_U X) (gs_A X)) ([.ref mo] : List Value).toArray s 0 0 (gs_A X)) (F0 m 125 ls []) := by
    intro σ1 hf1 y_mo y_18 y_19 y_20 y_21 y_22 y_23 H locs hG hS ls hl
    refine lv_iload_n hx hb d_MO_rule_125 rfl (lv_at hl 0 rfl) ?_
    refine lv_if_ne (tgt := 132) hx hb d_MO_rule_126 (by decide) (fun c_126 => ?_) (fun c_126 => ?_)
    · exact absurd ((bI_n0 c_126).symm.trans hsf) (by decide)
    · refine lv_bipush (v := -2) hx hb d_MO_rule_129 (by decide) ?_
      exact gs_iret (v := (-2)) hx hb hr rfl hK hE hz hG hS hlocks (by first | decide | omega | (dsimp only [headSpec]; omega)) (by first | decide | omega | (dsimp only [headSpec]; omega)) (⟨(hM.num hf1 ⟨_, y_mo, rfl, z1, z4, z7, z16, z17, z25, z26⟩ hrc), hf1.wk (by simp), rfl⟩) d_MO_rule_131
  have loopj : ∀ (fl : Nat) (j : Nat) (σ1 : gs_St), (j ≤ 3) → (frm [mo] σ σ1) → 3 - j < fl → (σ1 mo = some (moE A (va_up Z 0 0))) → (σ1 (A 18) = some (gs_ia X 25 f18)) → (σ1 (A 19) = some (gs_ia X 75 f19)) → (σ1 (A 20) = some (gs_ia X 25 f20)) → (σ1 (A 21) = some (gs_ia X 150 f21)) → (σ1 (A 22) = some (gs_ia X 150 f22)) → (σ1 (A 23) = some (gs_ia X 450 f23)) → ∀ (H : Heap) (locs : List Loc), gs_H X σ1 H → va_S (gs_A X) s.heap H locs → ∀ ls, lv_has ls 5 [(2, .int (nI j)), (1, .int (bI (sfJ R j))), (0, .ref mo)] → W p l e ({ frames := 1, cells := 0, slots := 0, locals := 25 } : Room) s m ([.ref mo] : List Value).toArray below meth c H locs 0 0 (MQ below (va_Qi (fun q σ' => moA X σ' mo A 0 nr cw F T sa rc Q (some R) ∧ frm (aM mo A) σ σ' ∧ q = -2) (gs_U X) (gs_A X)) ([.ref mo] : List Value).toArray s 0 0 (gs_A X)) (F0 m 38 ls []) := by
    intro fl
    induction fl with
    | zero => intro j σ1 _ _ h9; omega
    | succ fl ih =>
      intro j σ1 hj hf1 hmu y_mo y_18 y_19 y_20 y_21 y_22 y_23 H locs hG hS ls hl
      refine lv_iload_n hx hb d_MO_rule_38 rfl (lv_at hl 0 rfl) ?_
      refine lv_iconst (v := nI 3) hx hb d_MO_rule_39 (by decide) ?_
      refine lv_icmp_ge (tgt := 125) hx hb d_MO_rule_40 (by decide) (fun c_40 => ?_) (fun c_40 => ?_)
      · have c_40 : 3 ≤ j := (nI_leI (by omega) (by omega)).mp c_40
        have hje : j = 3 := by omega
        subst hje
        exact k125 σ1 hf1 y_mo y_18 y_19 y_20 y_21 y_22 y_23 H locs hG hS ls (lv_sub hl [1, 2] rfl)
      · have c_40 : ¬ 3 ≤ j := mt (nI_leI (by omega) (by omega)).mpr c_40
        have hj3 : j < 3 := by omega
        have k71i : ∀ (fl i : Nat), i ≤ R.2.length → R.2.length - i < fl → ∀ ls, lv_has ls 5 [(3, .int (nI i)), (2, .int (nI j)), (1, .int (bI (sfI R j i))), (0, .ref mo)] → W p l e ({ frames := 1, cells := 0, slots := 0, locals := 25 } : Room) s m ([.ref mo] : List Value).toArray below meth c H locs 0 0 (MQ below (va_Qi (fun q σ' => moA X σ' mo A 0 nr cw F T sa rc Q (some R) ∧ frm (aM mo A) σ σ' ∧ q = -2) (gs_U X) (gs_A X)) ([.ref mo] : List Value).toArray s 0 0 (gs_A X)) (F0 m 71 ls []) := by
          intro fl
          induction fl with
          | zero => intro i _ h9; omega
          | succ fl ih2 =>
            intro i hi hmu2 ls hl
            refine lv_iload_n hx hb d_MO_rule_71 rfl (lv_at hl 0 rfl) ?_
            refine lv_aload_n hx hb d_MO_rule_72 rfl (lv_at hl 3 rfl) ?_
            refine gs_get (v := .ref (A 20)) hx hb ht hown hK hG k_MO y_mo 20 (by decide) w_682 rfl d_MO_rule_73 ?_
            refine lv_bipush (v := nI 24) hx hb d_MO_rule_76 (by decide) ?_
            refine gs_iald hx hb hK hG y_20 (j := 24) (by omega) (by omega) d_MO_rule_78 ?_
            refine gs_top (show (f20 24) = (nI R.2.length) from hR9.2.2.1) ?_
            refine lv_icmp_ge (tgt := 119) hx hb d_MO_rule_79 (by decide) (fun c_79 => ?_) (fun c_79 => ?_)
            · have c_79 : R.2.length ≤ i := (nI_leI (by omega) (by omega)).mp c_79
              refine lv_iinc (v := (nI (j + 1))) (lv' := [(2, .int (nI (j + 1))), (3, .int (nI i)), (1, .int (bI (sfI R j i))), (0, .ref mo)]) hx hb d_MO_rule_119 hl (k := 1) rfl (by exact nI_1 _) (by decide) rfl (fun ls hl => ?_)
              refine lv_goto (tgt := 38) hx hb d_MO_rule_122 (by decide) ?_
              exact ih (j + 1) σ1 (by omega) hf1 (by omega) y_mo y_18 y_19 y_20 y_21 y_22 y_23 H locs hG hS ls (by rw [sfJ_s, ← show i = R.2.length by omega]; exact (lv_sub hl [0, 2, 3] rfl))
            · have c_79 : ¬ R.2.length ≤ i := mt (nI_leI (by omega) (by omega)).mpr c_79
              have hiR : i < R.2.length := by omega
              obtain ⟨x, hx9⟩ := get_ex (L := R.2) (j := i) hiR
              obtain ⟨hx1, hx2, hx3⟩ := hR9.2.2.2 _ _ hx9
              have hx4 := hRB.2.2.2.2 _ (List.mem_of_getElem? hx9)
              refine lv_iload_n hx hb d_MO_rule_82 rfl (lv_at hl 2 rfl) ?_
              refine lv_if_eq (tgt := 111) hx hb d_MO_rule_83 (by decide) (fun c_83 => ?_) (fun c_83 => ?_)
              · refine lv_iconst (v := nI 0) hx hb d_MO_rule_111 (by decide) ?_
                refine lv_istore_n (lv' := [(1, .int (nI 0)), (3, .int (nI i)), (2, .int (nI j)), (0, .ref mo)]) hx hb d_MO_rule_112 rfl hl (by decide) rfl (fun ls hl => ?_)
                refine lv_iinc (v := (nI (i + 1))) (lv' := [(3, .int (nI (i + 1))), (1, .int (nI 0)), (2, .int (nI j)), (0, .ref mo)]) hx hb d_MO_rule_113 hl (k := 1) rfl (by exact nI_1 _) (by decide) rfl (fun ls hl => ?_)
                refine lv_goto (tgt := 71) hx hb d_MO_rule_116 (by decide) ?_
                exact ih2 (i + 1) (by omega) (by omega) ls (by rw [show bI (sfI R j (i + 1)) = nI 0 from by rw [sfI_s hx9]; first | (rw [bI_0 c_83]; rfl) | (rw [bI_0 c_104, Bool.and_false]; rfl)]; exact (lv_sub hl [0, 2, 1, 3] rfl))
              · refine lv_aload_n hx hb d_MO_rule_86 rfl (lv_at hl 3 rfl) ?_
                refine lv_aload_n hx hb d_MO_rule_87 rfl (lv_at hl 3 rfl) ?_
                refine gs_get (v := .ref (A 23)) hx hb ht hown hK hG k_MO y_mo 23 (by decide) w_685 rfl d_MO_rule_88 ?_
                refine lv_iconst (v := nI 3) hx hb d_MO_rule_91 (by decide) ?_
                refine lv_sipush (v := nI 144) hx hb d_MO_rule_92 (by decide) ?_
                refine lv_iload_n hx hb d_MO_rule_95 rfl (lv_at hl 0 rfl) ?_
                refine lv_iadd hx hb d_MO_rule_96 ?_
                refine gs_top (nI_add 144 i) ?_
                refine lv_imul hx hb d_MO_rule_97 ?_
                refine gs_top (pk_mul 3 (144 + i)) ?_
                refine lv_iload_n hx hb d_MO_rule_98 rfl (lv_at hl 1 rfl) ?_
                refine lv_iadd hx hb d_MO_rule_99 ?_
                refine gs_top (nI_add (3 * (144 + i)) j) ?_
                refine gs_iald hx hb hK hG y_23 (j := (3 * (144 + i)) + j) (by omega) (by omega) d_MO_rule_100 ?_
                refine gs_top (show (f23 ((3 * (144 + i)) + j)) = (nI (t3 x.2.2 j)) from hx3 j hj3) ?_
                refine gs_callVp (As := [.int (nI (t3 x.2.2 j))]) (rest := []) ⟨hx, hb, hml, hown, hts⟩ hK hE hz hG hS (c_MO_isHeld l X σ1 mo A (va_up Z 0 0) f18 f19 f20 f21 f22 f23 nr R (t3 x.2.2 j) y_mo y_20 y_21 y_23 hR9 hRB (hx4.2.2.2 j)) ⟨rfl, rfl⟩ mV_MO_isHeld w_812 y_mo rfl rfl hl.1 rfl (Nat.le_of_ble_eq_true rfl) ⟨(by first | decide | omega | (dsimp only [headSpec]; omega)), (by first | decide | omega | (dsimp only [headSpec]; omega))⟩ ⟨(by first | decide | omega | (dsimp only [headSpec]; omega)), (by first | decide | omega | (dsimp only [headSpec]; omega))⟩ d_MO_rule_101 (fun r_101 hp_101 => ?_)
                refine gs_top (show r_101 = (bI (hdB R (t3 x.2.2 j))) from hp_101) ?_
                refine lv_if_eq (tgt := 111) hx hb d_MO_rule_104 (by decide) (fun c_104 => ?_) (fun c_104 => ?_)
                · refine lv_iconst (v := nI 0) hx hb d_MO_rule_111 (by decide) ?_
                  refine lv_istore_n (lv' := [(1, .int (nI 0)), (3, .int (nI i)), (2, .int (nI j)), (0, .ref mo)]) hx hb d_MO_rule_112 rfl hl (by decide) rfl (fun ls hl => ?_)
                  refine lv_iinc (v := (nI (i + 1))) (lv' := [(3, .int (nI (i + 1))), (1, .int (nI 0)), (2, .int (nI j)), (0, .ref mo)]) hx hb d_MO_rule_113 hl (k := 1) rfl (by exact nI_1 _) (by decide) rfl (fun ls hl => ?_)
                  refine lv_goto (tgt := 71) hx hb d_MO_rule_116 (by decide) ?_
                  exact ih2 (i + 1) (by omega) (by omega) ls (by rw [show bI (sfI R j (i + 1)) = nI 0 from by rw [sfI_s hx9]; first | (rw [bI_0 c_83]; rfl) | (rw [bI_0 c_104, Bool.and_false]; rfl)]; exact (lv_sub hl [0, 2, 1, 3] rfl))
                · refine lv_iconst (v := nI 1) hx hb d_MO_rule_107 (by decide) ?_
                  refine lv_goto (tgt := 112) hx hb d_MO_rule_108 (by decide) ?_
                  refine lv_istore_n (lv' := [(1, .int (nI 1)), (3, .int (nI i)), (2, .int (nI j)), (0, .ref mo)]) hx hb d_MO_rule_112 rfl hl (by decide) rfl (fun ls hl => ?_)
                  refine lv_iinc (v := (nI (i + 1))) (lv' := [(3, .int (nI (i + 1))), (1, .int (nI 1)), (2, .int (nI j)), (0, .ref mo)]) hx hb d_MO_rule_113 hl (k := 1) rfl (by exact nI_1 _) (by decide) rfl (fun ls hl => ?_)
                  refine lv_goto (tgt := 71) hx hb d_MO_rule_116 (by decide) ?_
                  exact ih2 (i + 1) (by omega) (by omega) ls (by rw [show bI (sfI R j (i + 1)) = nI 1 from by rw [sfI_s hx9]; (rw [bI_n0 c_83, bI_n0 c_104]; rfl)]; exact (lv_sub hl [0, 2, 1, 3] rfl))
        have k71 := k71i (R.2.length + 1) 0 (by omega) (by omega)
        refine lv_iload_n hx hb d_MO_rule_43 rfl (lv_at hl 1 rfl) ?_
        refine lv_if_eq (tgt := 67) hx hb d_MO_rule_44 (by decide) (fun c_44 => ?_) (fun c_44 => ?_)
        · refine lv_iconst (v := nI 0) hx hb d_MO_rule_67 (by decide) ?_
          refine lv_istore_n (lv' := [(1, .int (nI 0)), (2, .int (nI j)), (0, .ref mo)]) hx hb d_MO_rule_68 rfl hl (by decide) rfl (fun ls hl => ?_)
          refine lv_iconst (v := nI 0) hx hb d_MO_rule_69 (by decide) ?_
          refine lv_istore_n (lv' := [(3, .int (nI 0)), (1, .int (nI 0)), (2, .int (nI j)), (0, .ref mo)]) hx hb d_MO_rule_70 rfl hl (by decide) rfl (fun ls hl => ?_)
          exact k71 ls (by rw [show bI (sfI R j 0) = nI 0 from by unfold sfI; rw [List.take_zero, List.all_nil, Bool.and_true]; first | (rw [bI_0 c_44]; rfl) | (rw [bI_0 c_60, Bool.and_false]; rfl)]; exact (lv_sub hl [0, 2, 1, 3] rfl))
        · refine lv_aload_n hx hb d_MO_rule_47 rfl (lv_at hl 2 rfl) ?_
          refine lv_aload_n hx hb d_MO_rule_48 rfl (lv_at hl 2 rfl) ?_
          refine gs_get (v := .ref (A 19)) hx hb ht hown hK hG k_MO y_mo 19 (by decide) w_681 rfl d_MO_rule_49 ?_
          refine lv_bipush (v := nI 72) hx hb d_MO_rule_52 (by decide) ?_
          refine lv_iload_n hx hb d_MO_rule_54 rfl (lv_at hl 0 rfl) ?_
          refine lv_iadd hx hb d_MO_rule_55 ?_
          refine gs_top (nI_add 72 j) ?_
          refine gs_iald hx hb hK hG y_19 (j := 72 + j) (by omega) (by omega) d_MO_rule_56 ?_
          refine gs_top (show (f19 (72 + j)) = (nI (t3 R.1.2 j)) from hR9.2.1 j hj3) ?_
          refine gs_callVp (As := [.int (nI (t3 R.1.2 j))]) (rest := []) ⟨hx, hb, hml, hown, hts⟩ hK hE hz hG hS (c_MO_isHeld l X σ1 mo A (va_up Z 0 0) f18 f19 f20 f21 f22 f23 nr R (t3 R.1.2 j) y_mo y_20 y_21 y_23 hR9 hRB (hRB.2.1 j)) ⟨rfl, rfl⟩ mV_MO_isHeld w_812 y_mo rfl rfl hl.1 rfl (Nat.le_of_ble_eq_true rfl) ⟨(by first | decide | omega | (dsimp only [headSpec]; omega)), (by first | decide | omega | (dsimp only [headSpec]; omega))⟩ ⟨(by first | decide | omega | (dsimp only [headSpec]; omega)), (by first | decide | omega | (dsimp only [headSpec]; omega))⟩ d_MO_rule_57 (fun r_57 hp_57 => ?_)
          refine gs_top (show r_57 = (bI (hdB R (t3 R.1.2 j))) from hp_57) ?_
          refine lv_if_eq (tgt := 67) hx hb d_MO_rule_60 (by decide) (fun c_60 => ?_) (fun c_60 => ?_)
          · refine lv_iconst (v := nI 0) hx hb d_MO_rule_67 (by decide) ?_
            refine lv_istore_n (lv' := [(1, .int (nI 0)), (2, .int (nI j)), (0, .ref mo)]) hx hb d_MO_rule_68 rfl hl (by decide) rfl (fun ls hl => ?_)
            refine lv_iconst (v := nI 0) hx hb d_MO_rule_69 (by decide) ?_
            refine lv_istore_n (lv' := [(3, .int (nI 0)), (1, .int (nI 0)), (2, .int (nI j)), (0, .ref mo)]) hx hb d_MO_rule_70 rfl hl (by decide) rfl (fun ls hl => ?_)
            exact k71 ls (by rw [show bI (sfI R j 0) = nI 0 from by unfold sfI; rw [List.take_zero, List.all_nil, Bool.and_true]; first | (rw [bI_0 c_44]; rfl) | (rw [bI_0 c_60, Bool.and_false]; rfl)]; exact (lv_sub hl [0, 2, 1, 3] rfl))
          · refine lv_iconst (v := nI 1) hx hb d_MO_rule_63 (by decide) ?_
            refine lv_goto (tgt := 68) hx hb d_MO_rule_64 (by decide) ?_
            refine lv_istore_n (lv' := [(1, .int (nI 1)), (2, .int (nI j)), (0, .ref mo)]) hx hb d_MO_rule_68 rfl hl (by decide) rfl (fun ls hl => ?_)
            refine lv_iconst (v := nI 0) hx hb d_MO_rule_69 (by decide) ?_
            refine lv_istore_n (lv' := [(3, .int (nI 0)), (1, .int (nI 1)), (2, .int (nI j)), (0, .ref mo)]) hx hb d_MO_rule_70 rfl hl (by decide) rfl (fun ls hl => ?_)
            exact k71 ls (by rw [show bI (sfI R j 0) = nI 1 from by unfold sfI; rw [List.take_zero, List.all_nil, Bool.and_true]; (rw [bI_n0 c_44, bI_n0 c_60]; rfl)]; exact (lv_sub hl [0, 2, 1, 3] rfl))
  refine lv_aload_n hx hb d_MO_rule_0 rfl (lv_at hl 0 rfl) ?_
  refine lv_aload_n hx hb d_MO_rule_1 rfl (lv_at hl 0 rfl) ?_
  refine gs_get (v := .int (nI (Z 17))) hx hb ht hown hK hG k_MO m0 17 (by decide) w_679 rfl d_MO_rule_2 ?_
  refine gs_top (show nI (Z 17) = nI 1 from congrArg nI (show Z 17 = 1 from z17)) ?_
  refine lv_if_eq (tgt := 17) hx hb d_MO_rule_5 (by decide) (fun c_5 => ?_) (fun c_5 => ?_)
  · exact absurd c_5 (by decide)
  · have c_5 : ¬ 1 = 0 := gs_zn (by omega) c_5
    refine lv_aload_n hx hb d_MO_rule_8 rfl (lv_at hl 0 rfl) ?_
    refine gs_get (v := .int (nI (Z 16))) hx hb ht hown hK hG k_MO m0 16 (by decide) w_678 rfl d_MO_rule_9 ?_
    refine gs_top (show nI (Z 16) = nI Q.length from congrArg nI (show Z 16 = Q.length from z16)) ?_
    refine lv_bipush (v := nI 24) hx hb d_MO_rule_12 (by decide) ?_
    refine lv_icmp_ne (tgt := 21) hx hb d_MO_rule_14 (by decide) (fun c_14 => ?_) (fun c_14 => ?_)
    · have c_14 : ¬ Q.length = 24 := mt (nI_eq (by omega) (by omega)).mpr c_14
      refine lv_iconst (v := nI 0) hx hb d_MO_rule_21 (by decide) ?_
      refine gs_put hx hb ht hown hK hG hS k_MO m0 0 (by decide) w_662 rfl rfl rfl (Nat.le_of_ble_eq_true rfl) d_MO_rule_22 (fun H locs hG hS => ?_)
      have hG : gs_H X (gs_up σ mo (moE A (va_up Z 0 0))) H := hG
      obtain ⟨σ_1, eσ_1⟩ : ∃ zq, zq = gs_up σ mo (moE A (va_up Z 0 0)) := ⟨_, rfl⟩
      rw [← eσ_1] at hG
      have hc_2 : σ_1 (A 18) = some (gs_ia X 25 f18) := by rw [eσ_1]; exact gs_ku (gs_ne m18 m0 (by simp)) m18
      have hc_3 : σ_1 (A 19) = some (gs_ia X 75 f19) := by rw [eσ_1]; exact gs_ku (gs_ne m19 m0 (by simp)) m19
      have hc_4 : σ_1 (A 20) = some (gs_ia X 25 f20) := by rw [eσ_1]; exact gs_ku (gs_ne m20 m0 (by simp)) m20
      have hc_5 : σ_1 (A 21) = some (gs_ia X 150 f21) := by rw [eσ_1]; exact gs_ku (gs_ne m21 m0 (by simp)) m21
      have hc_6 : σ_1 (A 22) = some (gs_ia X 150 f22) := by rw [eσ_1]; exact gs_ku (gs_ne m22 m0 (by simp)) m22
      have hc_7 : σ_1 (A 23) = some (gs_ia X 450 f23) := by rw [eσ_1]; exact gs_ku (gs_ne m23 m0 (by simp)) m23
      have hc_8 : σ_1 mo = some (moE A (va_up Z 0 0)) := by rw [eσ_1]; exact gs_us
      have fr_9 : frm [mo] σ σ_1 := by rw [eσ_1]; exact fr0.up (by simp)
      refine lv_aload_n hx hb d_MO_rule_25 rfl (lv_at hl 0 rfl) ?_
      refine gs_get (v := .int (nI 0)) hx hb ht hown hK hG k_MO hc_8 0 (by decide) w_662 rfl d_MO_rule_26 ?_
      refine lv_if_le (tgt := 34) hx hb d_MO_rule_29 (by decide) (fun c_29 => ?_) (fun c_29 => ?_)
      · have c_29 : 0 = 0 := by have := gs_le0 (a := 0) (by omega); exact this.mp c_29
        refine lv_iconst (v := nI 1) hx hb d_MO_rule_34 (by decide) ?_
        refine lv_istore_n (lv' := [(1, .int (nI 1)), (0, .ref mo)]) hx hb d_MO_rule_35 rfl hl (by decide) rfl (fun ls hl => ?_)
        refine lv_iconst (v := nI 0) hx hb d_MO_rule_36 (by decide) ?_
        refine lv_istore_n (lv' := [(2, .int (nI 0)), (1, .int (nI 1)), (0, .ref mo)]) hx hb d_MO_rule_37 rfl hl (by decide) rfl (fun ls hl => ?_)
        exact loopj 4 0 σ_1 (by omega) fr_9 (by omega) hc_8 hc_2 hc_3 hc_4 hc_5 hc_6 hc_7 H locs hG hS ls (lv_sub hl [0, 1, 2] rfl)
      · exact absurd c_29 (by decide)
    · have c_14 : Q.length = 24 :=  (nI_eq (by omega) (by omega)).mp c_14
      omega
set_option maxHeartbeats 4000000 in
set_option maxRecDepth 100000 in
/-- the reference: rule -/
theorem c_MO_rule (l : Launch) (X : gs_X) (σ : gs_St) (mo : Nat) (A : Nat → Nat) (cd nr : Nat) (cw : Nat → Nat) (F : List (Nat × Nat)) (T : List MT) (sa rc : Nat) (Q : List MR) (R : MR)
    (hM : moA X σ mo A cd nr cw F T sa rc Q (some R)) (hq24 : Q.length < 24) (hsf : sfJ R 3 = true) : gs_Mi l X y_MO_rule b_MO_rule 5 (some .int) ({ frames := 2, cells := 0, slots := 0, locals := 47 }) σ [.ref mo] (fun q σ' => moA X σ' mo A 0 nr cw F (F.map agT) 0 0 (Q ++ [R]) none ∧ frm (aM mo A) σ σ' ∧ q = nI Q.length) := by
  refine Met.ofW (cc := b_MO_rule) (maxL := 5) (ret := (some .int)) (by decide) rfl ?_
  intro p e s m args below meth c s₁ B₀ hml hv
  obtain ⟨rfl, hK, hG, hz, hE⟩ := hv
  have hx := B₀.exec
  have hb := B₀.bytes
  have hr := B₀.returns
  have hts := atoms_spec (ws := gs_ws y_MO_rule b_MO_rule 5 (some .int)) B₀.pre
  have ht : ∀ w ∈ gs_w, w.before _ s = true := fun w h => hts w (List.mem_cons_of_mem _ h)
  have hown : s.vm.findClass R_MO = some m.cls := findClass_of_methodNamed B₀.named
  have hlocks := B₀.notSynchronized
  have hA : ∀ q : Nat, s.heap.size ≤ q → gs_A X q := fun q h => Nat.le_trans hz h
  have hS : va_S (gs_A X) s.heap s.heap [] := va_S.rf
  have hl := lv_entry ([.ref mo]) (n := 5) (Nat.le_of_ble_eq_true rfl)
  rw [lg_entry_eq]
  generalize (lg_sl ([.ref mo]) ++ List.replicate (5 - (lg_sl ([.ref mo])).length) Slot.unset).toArray = ls at hl ⊢
  have hl : lv_has ls 5 [(0, .ref mo)] := hl
  obtain ⟨hNN, hnr, hFB, hTB, hrc, ⟨Z, m0, z0, z1, z4, z7, z16, z17, z25, z26⟩, hcol, hfac, htup, hbit, hfnd, hrul, hscr⟩ := id hM
  have hN := hN1 hNN
  have hFl := hFB.1
  have hTl := hTB.1
  obtain ⟨f18, f19, f20, f21, f22, f23, m18, m19, m20, m21, m22, m23, hQl, hQ, hdr⟩ := id hrul
  obtain ⟨hR9, hRB⟩ := hdr R rfl
  have hRl := hRB.2.2.1
  obtain ⟨f5, f6, m5, m6, hF⟩ := id hfac
  obtain ⟨f8, f9, f10, f11, m8, m9, m10, m11, hT⟩ := id htup
  obtain ⟨g, m12, hbi⟩ := id hbit
  have fr0 : frm [mo, A 18, A 19, A 20, A 21, A 22, A 23, A 8, A 9, A 10, A 11, A 12] σ σ := frm.rf
  have loop3 : ∀ (fl : Nat) (i : Nat) (σ1 : gs_St), (i ≤ R.2.length) → (frm [mo, A 18, A 19, A 20, A 21, A 22, A 23, A 8, A 9, A 10, A 11, A 12] σ σ1) → R.2.length - i < fl → (σ1 mo = some (moE A (va_up Z 0 0))) → (σ1 (A 18) = some (gs_ia X 25 (upd f18 Q.length (f18 24)))) → (σ1 (A 19) = some (gs_ia X 75 (cpF f19 72 (3 * Q.length) 3))) → (σ1 (A 20) = some (gs_ia X 25 (upd f20 Q.length (f20 24)))) → (σ1 (A 21) = some (gs_ia X 150 (cpF f21 144 (6 * Q.length) i))) → (σ1 (A 22) = some (gs_ia X 150 (cpF f22 144 (6 * Q.length) i))) → (σ1 (A 23) = some (gs_ia X 450 (cpF f23 432 (18 * Q.length) (3 * i)))) → (σ1 (A 5) = some (gs_ia X 200 f5)) → (σ1 (A 6) = some (gs_ia X 200 f6)) → (σ1 (A 8) = some (gs_ia X 320 f8)) → (σ1 (A 9) = some (gs_ia X 320 f9)) → (σ1 (A 10) = some (gs_ia X 320 f10)) → (σ1 (A 11) = some (gs_ia X 320 f11)) → (σ1 (A 12) = some (gs_la X 49152 g)) → ∀ (H : Heap) (locs : List Loc), gs_H X σ1 H → va_S (gs_A X) s.heap H locs → ∀ ls, lv_has ls 5 [(2, .int (nI i)), (0, .ref mo)] → W p l e ({ frames := 2, cells := 0, slots := 0, locals := 47 } : Room) s m ([.ref mo] : List Value).toArray below meth c H locs 0 0 (MQ below (va_Qi (fun q σ' => moA X σ' mo A 0 nr cw F (F.map agT) 0 0 (Q ++ [R]) none ∧ frm (aM mo A) σ σ' ∧ q = nI Q.length) (gs_U X) (gs_A X)) ([.ref mo] : List Value).toArray s 0 0 (gs_A X)) (F0 m 201 ls []) := by
    intro fl
    induction fl with
    | zero => intro i σ1 _ _ h9; omega
    | succ fl ih =>
      intro i σ1 hi hf1 hmu y_mo y_18 y_19 y_20 y_21 y_22 y_23 y_5 y_6 y_8 y_9 y_10 y_11 y_12 H locs hG hS ls hl
      refine lv_iload_n hx hb d_MO_rule_201 rfl (lv_at hl 0 rfl) ?_
      refine lv_aload_n hx hb d_MO_rule_202 rfl (lv_at hl 1 rfl) ?_
      refine gs_get (v := .ref (A 20)) hx hb ht hown hK hG k_MO y_mo 20 (by decide) w_682 rfl d_MO_rule_203 ?_
      refine lv_bipush (v := nI 24) hx hb d_MO_rule_206 (by decide) ?_
      refine gs_iald hx hb hK hG y_20 (j := 24) (by omega) (by omega) d_MO_rule_208 ?_
      refine gs_top (show ((upd f20 Q.length (f20 24)) 24) = (nI R.2.length) from (by unfold upd; rw [if_neg (by omega)]; exact hR9.2.2.1)) ?_
      refine lv_icmp_ge (tgt := 295) hx hb d_MO_rule_209 (by decide) (fun c_209 => ?_) (fun c_209 => ?_)
      · have c_209 : R.2.length ≤ i := (nI_leI (by omega) (by omega)).mp c_209
        refine lv_aload_n hx hb d_MO_rule_295 rfl (lv_at hl 1 rfl) ?_
        refine lv_dup hx hb d_MO_rule_296 rfl ?_
        refine gs_get (v := .int (nI (Z 16))) hx hb ht hown hK hG k_MO y_mo 16 (by decide) w_678 rfl d_MO_rule_297 ?_
        refine gs_top (show nI (Z 16) = nI Q.length from congrArg nI (show Z 16 = Q.length from z16)) ?_
        refine lv_iconst (v := nI 1) hx hb d_MO_rule_300 (by decide) ?_
        refine lv_iadd hx hb d_MO_rule_301 ?_
        refine gs_top (nI_add Q.length 1) ?_
        refine gs_put hx hb ht hown hK hG hS k_MO y_mo 16 (by decide) w_678 rfl rfl rfl (Nat.le_of_ble_eq_true rfl) d_MO_rule_302 (fun H locs hG hS => ?_)
        have hG : gs_H X (gs_up σ1 mo (moE A (va_up (va_up Z 0 0) 16 (Q.length + 1)))) H := hG
        obtain ⟨σ_1, eσ_1⟩ : ∃ zq, zq = gs_up σ1 mo (moE A (va_up (va_up Z 0 0) 16 (Q.length + 1))) := ⟨_, rfl⟩
        rw [← eσ_1] at hG
        have hc_2 : σ_1 (A 18) = some (gs_ia X 25 (upd f18 Q.length (f18 24))) := by rw [eσ_1]; exact gs_ku (gs_ne y_18 y_mo (by simp)) y_18
        have hc_3 : σ_1 (A 19) = some (gs_ia X 75 (cpF f19 72 (3 * Q.length) 3)) := by rw [eσ_1]; exact gs_ku (gs_ne y_19 y_mo (by simp)) y_19
        have hc_4 : σ_1 (A 20) = some (gs_ia X 25 (upd f20 Q.length (f20 24))) := by rw [eσ_1]; exact gs_ku (gs_ne y_20 y_mo (by simp)) y_20
        have hc_5 : σ_1 (A 21) = some (gs_ia X 150 (cpF f21 144 (6 * Q.length) i)) := by rw [eσ_1]; exact gs_ku (gs_ne y_21 y_mo (by simp)) y_21
        have hc_6 : σ_1 (A 22) = some (gs_ia X 150 (cpF f22 144 (6 * Q.length) i)) := by rw [eσ_1]; exact gs_ku (gs_ne y_22 y_mo (by simp)) y_22
        have hc_7 : σ_1 (A 23) = some (gs_ia X 450 (cpF f23 432 (18 * Q.length) (3 * i))) := by rw [eσ_1]; exact gs_ku (gs_ne y_23 y_mo (by simp)) y_23
        have hc_8 : σ_1 (A 5) = some (gs_ia X 200 f5) := by rw [eσ_1]; exact gs_ku (gs_ne y_5 y_mo (by simp)) y_5
        have hc_9 : σ_1 (A 6) = some (gs_ia X 200 f6) := by rw [eσ_1]; exact gs_ku (gs_ne y_6 y_mo (by simp)) y_6
        have hc_10 : σ_1 (A 8) = some (gs_ia X 320 f8) := by rw [eσ_1]; exact gs_ku (gs_ne y_8 y_mo (by simp)) y_8
        have hc_11 : σ_1 (A 9) = some (gs_ia X 320 f9) := by rw [eσ_1]; exact gs_ku (gs_ne y_9 y_mo (by simp)) y_9
        have hc_12 : σ_1 (A 10) = some (gs_ia X 320 f10) := by rw [eσ_1]; exact gs_ku (gs_ne y_10 y_mo (by simp)) y_10
        have hc_13 : σ_1 (A 11) = some (gs_ia X 320 f11) := by rw [eσ_1]; exact gs_ku (gs_ne y_11 y_mo (by simp)) y_11
        have hc_14 : σ_1 (A 12) = some (gs_la X 49152 g) := by rw [eσ_1]; exact gs_ku (gs_ne y_12 y_mo (by simp)) y_12
        have hc_15 : σ_1 mo = some (moE A (va_up (va_up Z 0 0) 16 (Q.length + 1))) := by rw [eσ_1]; exact gs_us
        have fr_16 : frm [mo, A 18, A 19, A 20, A 21, A 22, A 23, A 8, A 9, A 10, A 11, A 12] σ σ_1 := by rw [eσ_1]; exact hf1.up (by simp)
        refine lv_aload_n hx hb d_MO_rule_305 rfl (lv_at hl 1 rfl) ?_
        refine lv_iconst (v := nI 0) hx hb d_MO_rule_306 (by decide) ?_
        refine gs_put hx hb ht hown hK hG hS k_MO hc_15 17 (by decide) w_679 rfl rfl rfl (Nat.le_of_ble_eq_true rfl) d_MO_rule_307 (fun H locs hG hS => ?_)
        have hG : gs_H X (gs_up σ_1 mo (moE A (va_up (va_up (va_up Z 0 0) 16 (Q.length + 1)) 17 0))) H := hG
        obtain ⟨σ_17, eσ_17⟩ : ∃ zq, zq = gs_up σ_1 mo (moE A (va_up (va_up (va_up Z 0 0) 16 (Q.length + 1)) 17 0)) := ⟨_, rfl⟩
        rw [← eσ_17] at hG
        have hc_18 : σ_17 (A 18) = some (gs_ia X 25 (upd f18 Q.length (f18 24))) := by rw [eσ_17]; exact gs_ku (gs_ne hc_2 hc_15 (by simp)) hc_2
        have hc_19 : σ_17 (A 19) = some (gs_ia X 75 (cpF f19 72 (3 * Q.length) 3)) := by rw [eσ_17]; exact gs_ku (gs_ne hc_3 hc_15 (by simp)) hc_3
        have hc_20 : σ_17 (A 20) = some (gs_ia X 25 (upd f20 Q.length (f20 24))) := by rw [eσ_17]; exact gs_ku (gs_ne hc_4 hc_15 (by simp)) hc_4
        have hc_21 : σ_17 (A 21) = some (gs_ia X 150 (cpF f21 144 (6 * Q.length) i)) := by rw [eσ_17]; exact gs_ku (gs_ne hc_5 hc_15 (by simp)) hc_5
        have hc_22 : σ_17 (A 22) = some (gs_ia X 150 (cpF f22 144 (6 * Q.length) i)) := by rw [eσ_17]; exact gs_ku (gs_ne hc_6 hc_15 (by simp)) hc_6
        have hc_23 : σ_17 (A 23) = some (gs_ia X 450 (cpF f23 432 (18 * Q.length) (3 * i))) := by rw [eσ_17]; exact gs_ku (gs_ne hc_7 hc_15 (by simp)) hc_7
        have hc_24 : σ_17 (A 5) = some (gs_ia X 200 f5) := by rw [eσ_17]; exact gs_ku (gs_ne hc_8 hc_15 (by simp)) hc_8
        have hc_25 : σ_17 (A 6) = some (gs_ia X 200 f6) := by rw [eσ_17]; exact gs_ku (gs_ne hc_9 hc_15 (by simp)) hc_9
        have hc_26 : σ_17 (A 8) = some (gs_ia X 320 f8) := by rw [eσ_17]; exact gs_ku (gs_ne hc_10 hc_15 (by simp)) hc_10
        have hc_27 : σ_17 (A 9) = some (gs_ia X 320 f9) := by rw [eσ_17]; exact gs_ku (gs_ne hc_11 hc_15 (by simp)) hc_11
        have hc_28 : σ_17 (A 10) = some (gs_ia X 320 f10) := by rw [eσ_17]; exact gs_ku (gs_ne hc_12 hc_15 (by simp)) hc_12
        have hc_29 : σ_17 (A 11) = some (gs_ia X 320 f11) := by rw [eσ_17]; exact gs_ku (gs_ne hc_13 hc_15 (by simp)) hc_13
        have hc_30 : σ_17 (A 12) = some (gs_la X 49152 g) := by rw [eσ_17]; exact gs_ku (gs_ne hc_14 hc_15 (by simp)) hc_14
        have hc_31 : σ_17 mo = some (moE A (va_up (va_up (va_up Z 0 0) 16 (Q.length + 1)) 17 0)) := by rw [eσ_17]; exact gs_us
        have fr_32 : frm [mo, A 18, A 19, A 20, A 21, A 22, A 23, A 8, A 9, A 10, A 11, A 12] σ σ_17 := by rw [eσ_17]; exact fr_16.up (by simp)
        refine lv_aload_n hx hb d_MO_rule_310 rfl (lv_at hl 1 rfl) ?_
        have hie : i = R.2.length := by omega
        rw [hie] at hc_21
        rw [hie] at hc_22
        rw [hie] at hc_23
        refine gs_callVv (As := []) (rest := []) ⟨hx, hb, hml, hown, hts⟩ hK hE hz hG hS (c_MO_again l X σ_17 mo A (va_up (va_up (va_up Z 0 0) 16 (Q.length + 1)) 17 0) T F f5 f6 f8 f9 f10 f11 g hc_31 hN z7 z4 hc_24 hc_25 hc_26 hc_27 hc_28 hc_29 hc_30 hT hTB hF hFB hbi) mV_MO_again w_765 hc_31 rfl rfl hl.1 rfl (Nat.le_of_ble_eq_true rfl) ⟨(by first | decide | omega | (dsimp only [headSpec]; omega)), (by first | decide | omega | (dsimp only [headSpec]; omega))⟩ ⟨(by first | decide | omega | (dsimp only [headSpec]; omega)), (by first | decide | omega | (dsimp only [headSpec]; omega))⟩ d_MO_rule_311 (fun σ_311 H locs hp_311 hG hS => ?_)
        obtain ⟨⟨Z9, mz9, hz7, hz25, hz26, hzf⟩, htp9, hbt9, hf9⟩ := hp_311
        have hc_33 : σ_311 (A 18) = some (gs_ia X 25 (upd f18 Q.length (f18 24))) := hf9 _ _ (nin_cons (gs_ne hc_18 hc_31 (by simp)) (nin_cons (Ne.symm (ndp hN 4 10 (by decide) rfl rfl)) (nin_cons (Ne.symm (ndp hN 5 10 (by decide) rfl rfl)) (nin_cons (Ne.symm (ndp hN 6 10 (by decide) rfl rfl)) (nin_cons (Ne.symm (ndp hN 7 10 (by decide) rfl rfl)) (nin_cons (Ne.symm (ndp hN 8 10 (by decide) rfl rfl)) nin_nil)))))) hc_18
        have hc_34 : σ_311 (A 19) = some (gs_ia X 75 (cpF f19 72 (3 * Q.length) 3)) := hf9 _ _ (nin_cons (gs_ne hc_19 hc_31 (by simp)) (nin_cons (Ne.symm (ndp hN 4 11 (by decide) rfl rfl)) (nin_cons (Ne.symm (ndp hN 5 11 (by decide) rfl rfl)) (nin_cons (Ne.symm (ndp hN 6 11 (by decide) rfl rfl)) (nin_cons (Ne.symm (ndp hN 7 11 (by decide) rfl rfl)) (nin_cons (Ne.symm (ndp hN 8 11 (by decide) rfl rfl)) nin_nil)))))) hc_19
        have hc_35 : σ_311 (A 20) = some (gs_ia X 25 (upd f20 Q.length (f20 24))) := hf9 _ _ (nin_cons (gs_ne hc_20 hc_31 (by simp)) (nin_cons (Ne.symm (ndp hN 4 12 (by decide) rfl rfl)) (nin_cons (Ne.symm (ndp hN 5 12 (by decide) rfl rfl)) (nin_cons (Ne.symm (ndp hN 6 12 (by decide) rfl rfl)) (nin_cons (Ne.symm (ndp hN 7 12 (by decide) rfl rfl)) (nin_cons (Ne.symm (ndp hN 8 12 (by decide) rfl rfl)) nin_nil)))))) hc_20
        have hc_36 : σ_311 (A 21) = some (gs_ia X 150 (cpF f21 144 (6 * Q.length) R.2.length)) := hf9 _ _ (nin_cons (gs_ne hc_21 hc_31 (by simp)) (nin_cons (Ne.symm (ndp hN 4 13 (by decide) rfl rfl)) (nin_cons (Ne.symm (ndp hN 5 13 (by decide) rfl rfl)) (nin_cons (Ne.symm (ndp hN 6 13 (by decide) rfl rfl)) (nin_cons (Ne.symm (ndp hN 7 13 (by decide) rfl rfl)) (nin_cons (Ne.symm (ndp hN 8 13 (by decide) rfl rfl)) nin_nil)))))) hc_21
        have hc_37 : σ_311 (A 22) = some (gs_ia X 150 (cpF f22 144 (6 * Q.length) R.2.length)) := hf9 _ _ (nin_cons (gs_ne hc_22 hc_31 (by simp)) (nin_cons (Ne.symm (ndp hN 4 14 (by decide) rfl rfl)) (nin_cons (Ne.symm (ndp hN 5 14 (by decide) rfl rfl)) (nin_cons (Ne.symm (ndp hN 6 14 (by decide) rfl rfl)) (nin_cons (Ne.symm (ndp hN 7 14 (by decide) rfl rfl)) (nin_cons (Ne.symm (ndp hN 8 14 (by decide) rfl rfl)) nin_nil)))))) hc_22
        have hc_38 : σ_311 (A 23) = some (gs_ia X 450 (cpF f23 432 (18 * Q.length) (3 * R.2.length))) := hf9 _ _ (nin_cons (gs_ne hc_23 hc_31 (by simp)) (nin_cons (Ne.symm (ndp hN 4 15 (by decide) rfl rfl)) (nin_cons (Ne.symm (ndp hN 5 15 (by decide) rfl rfl)) (nin_cons (Ne.symm (ndp hN 6 15 (by decide) rfl rfl)) (nin_cons (Ne.symm (ndp hN 7 15 (by decide) rfl rfl)) (nin_cons (Ne.symm (ndp hN 8 15 (by decide) rfl rfl)) nin_nil)))))) hc_23
        have hc_39 : σ_311 (A 5) = some (gs_ia X 200 f5) := hf9 _ _ (nin_cons (gs_ne hc_24 hc_31 (by simp)) (nin_cons (ndp hN 2 4 (by decide) rfl rfl) (nin_cons (ndp hN 2 5 (by decide) rfl rfl) (nin_cons (ndp hN 2 6 (by decide) rfl rfl) (nin_cons (ndp hN 2 7 (by decide) rfl rfl) (nin_cons (ndp hN 2 8 (by decide) rfl rfl) nin_nil)))))) hc_24
        have hc_40 : σ_311 (A 6) = some (gs_ia X 200 f6) := hf9 _ _ (nin_cons (gs_ne hc_25 hc_31 (by simp)) (nin_cons (ndp hN 3 4 (by decide) rfl rfl) (nin_cons (ndp hN 3 5 (by decide) rfl rfl) (nin_cons (ndp hN 3 6 (by decide) rfl rfl) (nin_cons (ndp hN 3 7 (by decide) rfl rfl) (nin_cons (ndp hN 3 8 (by decide) rfl rfl) nin_nil)))))) hc_25
        have fr_41 : frm [mo, A 18, A 19, A 20, A 21, A 22, A 23, A 8, A 9, A 10, A 11, A 12] σ σ_311 := fr_32.trans hf9 (by simp)
        refine lv_aload_n hx hb d_MO_rule_314 rfl (lv_at hl 1 rfl) ?_
        refine gs_get (v := .int (nI (Z9 16))) hx hb ht hown hK hG k_MO mz9 16 (by decide) w_678 rfl d_MO_rule_315 ?_
        refine gs_top (show nI (Z9 16) = nI (Q.length + 1) from congrArg nI (show Z9 16 = Q.length + 1 from hzf 16 (by simp))) ?_
        refine lv_iconst (v := nI 1) hx hb d_MO_rule_318 (by decide) ?_
        refine lv_isub hx hb d_MO_rule_319 ?_
        refine gs_top (pk_sub (a := (Q.length + 1)) (b := 1) (by omega)) ?_
        exact gs_iret (v := (nI ((Q.length + 1) - 1))) hx hb hr rfl hK hE hz hG hS hlocks (by first | decide | omega | (dsimp only [headSpec]; omega)) (by first | decide | omega | (dsimp only [headSpec]; omega)) (⟨⟨hNN, hnr, hFB, tpB_ag hFB, by decide, ⟨Z9, mz9, hzf 0 (by simp), (hzf 1 (by simp)).trans z1, (hzf 4 (by simp)).trans z4, by rw [hz7]; simp, (hzf 16 (by simp)).trans (by show Q.length + 1 = _; simp), hzf 17 (by simp), hz25, hz26⟩, (hcol.fr hNN [0, 11, 12, 13, 14, 15, 16, 5, 6, 7, 8, 9] fr_41 (by decide) (by decide)), ⟨_, _, hc_39, hc_40, hF⟩, htp9, bit_ag hbt9, (hfnd.fr (k := 10) hNN [0, 11, 12, 13, 14, 15, 16, 5, 6, 7, 8, 9] fr_41 (by decide) (by decide) (by decide) rfl), rul_snoc hq24 hQ hR9 hRB hc_33 hc_34 hc_35 hc_36 hc_37 hc_38, (hscr.fr hNN [0, 11, 12, 13, 14, 15, 16, 5, 6, 7, 8, 9] fr_41 (by decide) (by decide))⟩, fr_41.wk (by simp), congrArg nI (by omega)⟩) d_MO_rule_320
      · have c_209 : ¬ R.2.length ≤ i := mt (nI_leI (by omega) (by omega)).mpr c_209
        refine lv_sipush (v := nI 144) hx hb d_MO_rule_212 (by decide) ?_
        refine lv_iload_n hx hb d_MO_rule_215 rfl (lv_at hl 0 rfl) ?_
        refine lv_iadd hx hb d_MO_rule_216 ?_
        refine gs_top (nI_add 144 i) ?_
        refine lv_istore_n (lv' := [(3, .int (nI (144 + i))), (2, .int (nI i)), (0, .ref mo)]) hx hb d_MO_rule_217 rfl hl (by decide) rfl (fun ls hl => ?_)
        refine lv_bipush (v := nI 6) hx hb d_MO_rule_218 (by decide) ?_
        refine lv_aload_n hx hb d_MO_rule_220 rfl (lv_at hl 2 rfl) ?_
        refine gs_get (v := .int (nI (Z 16))) hx hb ht hown hK hG k_MO y_mo 16 (by decide) w_678 rfl d_MO_rule_221 ?_
        refine gs_top (show nI (Z 16) = nI Q.length from congrArg nI (show Z 16 = Q.length from z16)) ?_
        refine lv_imul hx hb d_MO_rule_224 ?_
        refine gs_top (pk_mul 6 Q.length) ?_
        refine lv_iload_n hx hb d_MO_rule_225 rfl (lv_at hl 1 rfl) ?_
        refine lv_iadd hx hb d_MO_rule_226 ?_
        refine gs_top (nI_add (6 * Q.length) i) ?_
        refine lv_istore (lv' := [(4, .int (nI ((6 * Q.length) + i))), (3, .int (nI (144 + i))), (2, .int (nI i)), (0, .ref mo)]) hx hb d_MO_rule_227 hl (by decide) rfl (fun ls hl => ?_)
        refine lv_aload_n hx hb d_MO_rule_229 rfl (lv_at hl 3 rfl) ?_
        refine gs_get (v := .ref (A 21)) hx hb ht hown hK hG k_MO y_mo 21 (by decide) w_683 rfl d_MO_rule_230 ?_
        refine lv_iload hx hb d_MO_rule_233 (lv_at hl 0 rfl) ?_
        refine lv_aload_n hx hb d_MO_rule_235 rfl (lv_at hl 3 rfl) ?_
        refine gs_get (v := .ref (A 21)) hx hb ht hown hK hG k_MO y_mo 21 (by decide) w_683 rfl d_MO_rule_236 ?_
        refine lv_iload_n hx hb d_MO_rule_239 rfl (lv_at hl 1 rfl) ?_
        refine gs_iald hx hb hK hG y_21 (j := 144 + i) (by omega) (by omega) d_MO_rule_240 ?_
        refine gs_top (show ((cpF f21 144 (6 * Q.length) i) (144 + i)) = (f21 (144 + i)) from cpF_at (by omega)) ?_
        refine gs_iast hx hb hK hG hS y_21 (j := (6 * Q.length) + i) (by omega) (by omega) d_MO_rule_241 (fun H locs hG hS => ?_)
        have hG : gs_H X (gs_up σ1 (A 21) (gs_ia X 150 (upd (cpF f21 144 (6 * Q.length) i) ((6 * Q.length) + i) (f21 (144 + i))))) H := hG
        obtain ⟨σ_42, eσ_42⟩ : ∃ zq, zq = gs_up σ1 (A 21) (gs_ia X 150 (upd (cpF f21 144 (6 * Q.length) i) ((6 * Q.length) + i) (f21 (144 + i)))) := ⟨_, rfl⟩
        rw [← eσ_42] at hG
        have hc_43 : σ_42 mo = some (moE A (va_up Z 0 0)) := by rw [eσ_42]; exact gs_ku (gs_ne y_mo y_21 (by simp)) y_mo
        have hc_44 : σ_42 (A 18) = some (gs_ia X 25 (upd f18 Q.length (f18 24))) := by rw [eσ_42]; exact gs_ku (ndp hN 10 13 (by decide) rfl rfl) y_18
        have hc_45 : σ_42 (A 19) = some (gs_ia X 75 (cpF f19 72 (3 * Q.length) 3)) := by rw [eσ_42]; exact gs_ku (ndp hN 11 13 (by decide) rfl rfl) y_19
        have hc_46 : σ_42 (A 20) = some (gs_ia X 25 (upd f20 Q.length (f20 24))) := by rw [eσ_42]; exact gs_ku (ndp hN 12 13 (by decide) rfl rfl) y_20
        have hc_47 : σ_42 (A 22) = some (gs_ia X 150 (cpF f22 144 (6 * Q.length) i)) := by rw [eσ_42]; exact gs_ku (Ne.symm (ndp hN 13 14 (by decide) rfl rfl)) y_22
        have hc_48 : σ_42 (A 23) = some (gs_ia X 450 (cpF f23 432 (18 * Q.length) (3 * i))) := by rw [eσ_42]; exact gs_ku (Ne.symm (ndp hN 13 15 (by decide) rfl rfl)) y_23
        have hc_49 : σ_42 (A 5) = some (gs_ia X 200 f5) := by rw [eσ_42]; exact gs_ku (ndp hN 2 13 (by decide) rfl rfl) y_5
        have hc_50 : σ_42 (A 6) = some (gs_ia X 200 f6) := by rw [eσ_42]; exact gs_ku (ndp hN 3 13 (by decide) rfl rfl) y_6
        have hc_51 : σ_42 (A 8) = some (gs_ia X 320 f8) := by rw [eσ_42]; exact gs_ku (ndp hN 4 13 (by decide) rfl rfl) y_8
        have hc_52 : σ_42 (A 9) = some (gs_ia X 320 f9) := by rw [eσ_42]; exact gs_ku (ndp hN 5 13 (by decide) rfl rfl) y_9
        have hc_53 : σ_42 (A 10) = some (gs_ia X 320 f10) := by rw [eσ_42]; exact gs_ku (ndp hN 6 13 (by decide) rfl rfl) y_10
        have hc_54 : σ_42 (A 11) = some (gs_ia X 320 f11) := by rw [eσ_42]; exact gs_ku (ndp hN 7 13 (by decide) rfl rfl) y_11
        have hc_55 : σ_42 (A 12) = some (gs_la X 49152 g) := by rw [eσ_42]; exact gs_ku (ndp hN 8 13 (by decide) rfl rfl) y_12
        have hc_56 : σ_42 (A 21) = some (gs_ia X 150 (upd (cpF f21 144 (6 * Q.length) i) ((6 * Q.length) + i) (f21 (144 + i)))) := by rw [eσ_42]; exact gs_us
        have fr_57 : frm [mo, A 18, A 19, A 20, A 21, A 22, A 23, A 8, A 9, A 10, A 11, A 12] σ σ_42 := by rw [eσ_42]; exact hf1.up (by simp)
        refine lv_aload_n hx hb d_MO_rule_242 rfl (lv_at hl 3 rfl) ?_
        refine gs_get (v := .ref (A 22)) hx hb ht hown hK hG k_MO hc_43 22 (by decide) w_684 rfl d_MO_rule_243 ?_
        refine lv_iload hx hb d_MO_rule_246 (lv_at hl 0 rfl) ?_
        refine lv_aload_n hx hb d_MO_rule_248 rfl (lv_at hl 3 rfl) ?_
        refine gs_get (v := .ref (A 22)) hx hb ht hown hK hG k_MO hc_43 22 (by decide) w_684 rfl d_MO_rule_249 ?_
        refine lv_iload_n hx hb d_MO_rule_252 rfl (lv_at hl 1 rfl) ?_
        refine gs_iald hx hb hK hG hc_47 (j := 144 + i) (by omega) (by omega) d_MO_rule_253 ?_
        refine gs_top (show ((cpF f22 144 (6 * Q.length) i) (144 + i)) = (f22 (144 + i)) from cpF_at (by omega)) ?_
        refine gs_iast hx hb hK hG hS hc_47 (j := (6 * Q.length) + i) (by omega) (by omega) d_MO_rule_254 (fun H locs hG hS => ?_)
        have hG : gs_H X (gs_up σ_42 (A 22) (gs_ia X 150 (upd (cpF f22 144 (6 * Q.length) i) ((6 * Q.length) + i) (f22 (144 + i))))) H := hG
        obtain ⟨σ_58, eσ_58⟩ : ∃ zq, zq = gs_up σ_42 (A 22) (gs_ia X 150 (upd (cpF f22 144 (6 * Q.length) i) ((6 * Q.length) + i) (f22 (144 + i)))) := ⟨_, rfl⟩
        rw [← eσ_58] at hG
        have hc_59 : σ_58 mo = some (moE A (va_up Z 0 0)) := by rw [eσ_58]; exact gs_ku (gs_ne hc_43 hc_47 (by simp)) hc_43
        have hc_60 : σ_58 (A 18) = some (gs_ia X 25 (upd f18 Q.length (f18 24))) := by rw [eσ_58]; exact gs_ku (ndp hN 10 14 (by decide) rfl rfl) hc_44
        have hc_61 : σ_58 (A 19) = some (gs_ia X 75 (cpF f19 72 (3 * Q.length) 3)) := by rw [eσ_58]; exact gs_ku (ndp hN 11 14 (by decide) rfl rfl) hc_45
        have hc_62 : σ_58 (A 20) = some (gs_ia X 25 (upd f20 Q.length (f20 24))) := by rw [eσ_58]; exact gs_ku (ndp hN 12 14 (by decide) rfl rfl) hc_46
        have hc_63 : σ_58 (A 23) = some (gs_ia X 450 (cpF f23 432 (18 * Q.length) (3 * i))) := by rw [eσ_58]; exact gs_ku (Ne.symm (ndp hN 14 15 (by decide) rfl rfl)) hc_48
        have hc_64 : σ_58 (A 5) = some (gs_ia X 200 f5) := by rw [eσ_58]; exact gs_ku (ndp hN 2 14 (by decide) rfl rfl) hc_49
        have hc_65 : σ_58 (A 6) = some (gs_ia X 200 f6) := by rw [eσ_58]; exact gs_ku (ndp hN 3 14 (by decide) rfl rfl) hc_50
        have hc_66 : σ_58 (A 8) = some (gs_ia X 320 f8) := by rw [eσ_58]; exact gs_ku (ndp hN 4 14 (by decide) rfl rfl) hc_51
        have hc_67 : σ_58 (A 9) = some (gs_ia X 320 f9) := by rw [eσ_58]; exact gs_ku (ndp hN 5 14 (by decide) rfl rfl) hc_52
        have hc_68 : σ_58 (A 10) = some (gs_ia X 320 f10) := by rw [eσ_58]; exact gs_ku (ndp hN 6 14 (by decide) rfl rfl) hc_53
        have hc_69 : σ_58 (A 11) = some (gs_ia X 320 f11) := by rw [eσ_58]; exact gs_ku (ndp hN 7 14 (by decide) rfl rfl) hc_54
        have hc_70 : σ_58 (A 12) = some (gs_la X 49152 g) := by rw [eσ_58]; exact gs_ku (ndp hN 8 14 (by decide) rfl rfl) hc_55
        have hc_71 : σ_58 (A 21) = some (gs_ia X 150 (upd (cpF f21 144 (6 * Q.length) i) ((6 * Q.length) + i) (f21 (144 + i)))) := by rw [eσ_58]; exact gs_ku (ndp hN 13 14 (by decide) rfl rfl) hc_56
        have hc_72 : σ_58 (A 22) = some (gs_ia X 150 (upd (cpF f22 144 (6 * Q.length) i) ((6 * Q.length) + i) (f22 (144 + i)))) := by rw [eσ_58]; exact gs_us
        have fr_73 : frm [mo, A 18, A 19, A 20, A 21, A 22, A 23, A 8, A 9, A 10, A 11, A 12] σ σ_58 := by rw [eσ_58]; exact fr_57.up (by simp)
        refine lv_aload_n hx hb d_MO_rule_255 rfl (lv_at hl 3 rfl) ?_
        refine lv_iload hx hb d_MO_rule_256 (lv_at hl 0 rfl) ?_
        refine lv_aload_n hx hb d_MO_rule_258 rfl (lv_at hl 3 rfl) ?_
        refine gs_get (v := .ref (A 23)) hx hb ht hown hK hG k_MO hc_59 23 (by decide) w_685 rfl d_MO_rule_259 ?_
        refine lv_iconst (v := nI 3) hx hb d_MO_rule_262 (by decide) ?_
        refine lv_iload_n hx hb d_MO_rule_263 rfl (lv_at hl 1 rfl) ?_
        refine lv_imul hx hb d_MO_rule_264 ?_
        refine gs_top (pk_mul 3 (144 + i)) ?_
        refine gs_iald hx hb hK hG hc_63 (j := 3 * (144 + i)) (by omega) (by omega) d_MO_rule_265 ?_
        refine gs_top (show ((cpF f23 432 (18 * Q.length) (3 * i)) (3 * (144 + i))) = (f23 (3 * (144 + i))) from cpF_at (by omega)) ?_
        refine lv_aload_n hx hb d_MO_rule_266 rfl (lv_at hl 3 rfl) ?_
        refine gs_get (v := .ref (A 23)) hx hb ht hown hK hG k_MO hc_59 23 (by decide) w_685 rfl d_MO_rule_267 ?_
        refine lv_iconst (v := nI 3) hx hb d_MO_rule_270 (by decide) ?_
        refine lv_iload_n hx hb d_MO_rule_271 rfl (lv_at hl 1 rfl) ?_
        refine lv_imul hx hb d_MO_rule_272 ?_
        refine gs_top (pk_mul 3 (144 + i)) ?_
        refine lv_iconst (v := nI 1) hx hb d_MO_rule_273 (by decide) ?_
        refine lv_iadd hx hb d_MO_rule_274 ?_
        refine gs_top (nI_add (3 * (144 + i)) 1) ?_
        refine gs_iald hx hb hK hG hc_63 (j := (3 * (144 + i)) + 1) (by omega) (by omega) d_MO_rule_275 ?_
        refine gs_top (show ((cpF f23 432 (18 * Q.length) (3 * i)) ((3 * (144 + i)) + 1)) = (f23 (3 * (144 + i) + 1)) from cpF_at (by omega)) ?_
        refine lv_aload_n hx hb d_MO_rule_276 rfl (lv_at hl 3 rfl) ?_
        refine gs_get (v := .ref (A 23)) hx hb ht hown hK hG k_MO hc_59 23 (by decide) w_685 rfl d_MO_rule_277 ?_
        refine lv_iconst (v := nI 3) hx hb d_MO_rule_280 (by decide) ?_
        refine lv_iload_n hx hb d_MO_rule_281 rfl (lv_at hl 1 rfl) ?_
        refine lv_imul hx hb d_MO_rule_282 ?_
        refine gs_top (pk_mul 3 (144 + i)) ?_
        refine lv_iconst (v := nI 2) hx hb d_MO_rule_283 (by decide) ?_
        refine lv_iadd hx hb d_MO_rule_284 ?_
        refine gs_top (nI_add (3 * (144 + i)) 2) ?_
        refine gs_iald hx hb hK hG hc_63 (j := (3 * (144 + i)) + 2) (by omega) (by omega) d_MO_rule_285 ?_
        refine gs_top (show ((cpF f23 432 (18 * Q.length) (3 * i)) ((3 * (144 + i)) + 2)) = (f23 (3 * (144 + i) + 2)) from cpF_at (by omega)) ?_
        refine gs_callVv (As := [.int (nI ((6 * Q.length) + i)), .int (f23 (3 * (144 + i))), .int (f23 (3 * (144 + i) + 1)), .int (f23 (3 * (144 + i) + 2))]) (rest := []) ⟨hx, hb, hml, hown, hts⟩ hK hE hz hG hS (c_MO_sett l X σ_58 mo A (va_up Z 0 0) (cpF f23 432 (18 * Q.length) (3 * i)) ((6 * Q.length) + i) (f23 (3 * (144 + i))) (f23 (3 * (144 + i) + 1)) (f23 (3 * (144 + i) + 2)) hc_59 hc_63 (by omega)) mV_MO_sett w_804 hc_59 rfl rfl hl.1 rfl (Nat.le_of_ble_eq_true rfl) ⟨(by first | decide | omega | (dsimp only [headSpec]; omega)), (by first | decide | omega | (dsimp only [headSpec]; omega))⟩ ⟨(by first | decide | omega | (dsimp only [headSpec]; omega)), (by first | decide | omega | (dsimp only [headSpec]; omega))⟩ d_MO_rule_286 (fun σ_286 H locs hp_286 hG hS => ?_)
        rw [hp_286, cpF_3] at hG
        have hG : gs_H X (gs_up σ_58 (A 23) (gs_ia X 450 (cpF f23 432 (18 * Q.length) (3 * (i + 1))))) H := hG
        obtain ⟨σ_74, eσ_74⟩ : ∃ zq, zq = gs_up σ_58 (A 23) (gs_ia X 450 (cpF f23 432 (18 * Q.length) (3 * (i + 1)))) := ⟨_, rfl⟩
        rw [← eσ_74] at hG
        have hc_75 : σ_74 mo = some (moE A (va_up Z 0 0)) := by rw [eσ_74]; exact gs_ku (gs_ne hc_59 hc_63 (by simp)) hc_59
        have hc_76 : σ_74 (A 18) = some (gs_ia X 25 (upd f18 Q.length (f18 24))) := by rw [eσ_74]; exact gs_ku (ndp hN 10 15 (by decide) rfl rfl) hc_60
        have hc_77 : σ_74 (A 19) = some (gs_ia X 75 (cpF f19 72 (3 * Q.length) 3)) := by rw [eσ_74]; exact gs_ku (ndp hN 11 15 (by decide) rfl rfl) hc_61
        have hc_78 : σ_74 (A 20) = some (gs_ia X 25 (upd f20 Q.length (f20 24))) := by rw [eσ_74]; exact gs_ku (ndp hN 12 15 (by decide) rfl rfl) hc_62
        have hc_79 : σ_74 (A 5) = some (gs_ia X 200 f5) := by rw [eσ_74]; exact gs_ku (ndp hN 2 15 (by decide) rfl rfl) hc_64
        have hc_80 : σ_74 (A 6) = some (gs_ia X 200 f6) := by rw [eσ_74]; exact gs_ku (ndp hN 3 15 (by decide) rfl rfl) hc_65
        have hc_81 : σ_74 (A 8) = some (gs_ia X 320 f8) := by rw [eσ_74]; exact gs_ku (ndp hN 4 15 (by decide) rfl rfl) hc_66
        have hc_82 : σ_74 (A 9) = some (gs_ia X 320 f9) := by rw [eσ_74]; exact gs_ku (ndp hN 5 15 (by decide) rfl rfl) hc_67
        have hc_83 : σ_74 (A 10) = some (gs_ia X 320 f10) := by rw [eσ_74]; exact gs_ku (ndp hN 6 15 (by decide) rfl rfl) hc_68
        have hc_84 : σ_74 (A 11) = some (gs_ia X 320 f11) := by rw [eσ_74]; exact gs_ku (ndp hN 7 15 (by decide) rfl rfl) hc_69
        have hc_85 : σ_74 (A 12) = some (gs_la X 49152 g) := by rw [eσ_74]; exact gs_ku (ndp hN 8 15 (by decide) rfl rfl) hc_70
        have hc_86 : σ_74 (A 21) = some (gs_ia X 150 (upd (cpF f21 144 (6 * Q.length) i) ((6 * Q.length) + i) (f21 (144 + i)))) := by rw [eσ_74]; exact gs_ku (ndp hN 13 15 (by decide) rfl rfl) hc_71
        have hc_87 : σ_74 (A 22) = some (gs_ia X 150 (upd (cpF f22 144 (6 * Q.length) i) ((6 * Q.length) + i) (f22 (144 + i)))) := by rw [eσ_74]; exact gs_ku (ndp hN 14 15 (by decide) rfl rfl) hc_72
        have hc_88 : σ_74 (A 23) = some (gs_ia X 450 (cpF f23 432 (18 * Q.length) (3 * (i + 1)))) := by rw [eσ_74]; exact gs_us
        have fr_89 : frm [mo, A 18, A 19, A 20, A 21, A 22, A 23, A 8, A 9, A 10, A 11, A 12] σ σ_74 := by rw [eσ_74]; exact fr_73.up (by simp)
        refine lv_iinc (v := (nI (i + 1))) (lv' := [(2, .int (nI (i + 1))), (4, .int (nI ((6 * Q.length) + i))), (3, .int (nI (144 + i))), (0, .ref mo)]) hx hb d_MO_rule_289 hl (k := 2) rfl (by exact nI_1 _) (by decide) rfl (fun ls hl => ?_)
        refine lv_goto (tgt := 201) hx hb d_MO_rule_292 (by decide) ?_
        exact ih (i + 1) σ_74 (by omega) fr_89 (by omega) hc_75 hc_76 hc_77 hc_78 (by rw [← cpF_s]; exact hc_86) (by rw [← cpF_s]; exact hc_87) hc_88 hc_79 hc_80 hc_81 hc_82 hc_83 hc_84 hc_85 H locs hG hS ls (lv_sub hl [0, 3] rfl)
  have loop2 : ∀ (fl : Nat) (j : Nat) (σ1 : gs_St), (j ≤ 3) → (frm [mo, A 18, A 19, A 20, A 21, A 22, A 23, A 8, A 9, A 10, A 11, A 12] σ σ1) → 3 - j < fl → (σ1 mo = some (moE A (va_up Z 0 0))) → (σ1 (A 18) = some (gs_ia X 25 (upd f18 Q.length (f18 24)))) → (σ1 (A 19) = some (gs_ia X 75 (cpF f19 72 (3 * Q.length) j))) → (σ1 (A 20) = some (gs_ia X 25 (upd f20 Q.length (f20 24)))) → (σ1 (A 21) = some (gs_ia X 150 f21)) → (σ1 (A 22) = some (gs_ia X 150 f22)) → (σ1 (A 23) = some (gs_ia X 450 f23)) → (σ1 (A 5) = some (gs_ia X 200 f5)) → (σ1 (A 6) = some (gs_ia X 200 f6)) → (σ1 (A 8) = some (gs_ia X 320 f8)) → (σ1 (A 9) = some (gs_ia X 320 f9)) → (σ1 (A 10) = some (gs_ia X 320 f10)) → (σ1 (A 11) = some (gs_ia X 320 f11)) → (σ1 (A 12) = some (gs_la X 49152 g)) → ∀ (H : Heap) (locs : List Loc), gs_H X σ1 H → va_S (gs_A X) s.heap H locs → ∀ ls, lv_has ls 5 [(2, .int (nI j)), (0, .ref mo)] → W p l e ({ frames := 2, cells := 0, slots := 0, locals := 47 } : Room) s m ([.ref mo] : List Value).toArray below meth c H locs 0 0 (MQ below (va_Qi (fun q σ' => moA X σ' mo A 0 nr cw F (F.map agT) 0 0 (Q ++ [R]) none ∧ frm (aM mo A) σ σ' ∧ q = nI Q.length) (gs_U X) (gs_A X)) ([.ref mo] : List Value).toArray s 0 0 (gs_A X)) (F0 m 166 ls []) := by
    intro fl
    induction fl with
    | zero => intro j σ1 _ _ h9; omega
    | succ fl ih =>
      intro j σ1 hj hf1 hmu y_mo y_18 y_19 y_20 y_21 y_22 y_23 y_5 y_6 y_8 y_9 y_10 y_11 y_12 H locs hG hS ls hl
      refine lv_iload_n hx hb d_MO_rule_166 rfl (lv_at hl 0 rfl) ?_
      refine lv_iconst (v := nI 3) hx hb d_MO_rule_167 (by decide) ?_
      refine lv_icmp_ge (tgt := 199) hx hb d_MO_rule_168 (by decide) (fun c_168 => ?_) (fun c_168 => ?_)
      · have c_168 : 3 ≤ j := (nI_leI (by omega) (by omega)).mp c_168
        refine lv_iconst (v := nI 0) hx hb d_MO_rule_199 (by decide) ?_
        refine lv_istore_n (lv' := [(2, .int (nI 0)), (0, .ref mo)]) hx hb d_MO_rule_200 rfl hl (by decide) rfl (fun ls hl => ?_)
        have hje : j = 3 := by omega
        rw [hje] at y_19
        exact loop3 (R.2.length + 1) 0 σ1 (by omega) hf1 (by omega) y_mo y_18 y_19 y_20 (by rw [cpF_0]; exact y_21) (by rw [cpF_0]; exact y_22) (by rw [Nat.mul_zero, cpF_0]; exact y_23) y_5 y_6 y_8 y_9 y_10 y_11 y_12 H locs hG hS ls (lv_sub hl [0, 1] rfl)
      · have c_168 : ¬ 3 ≤ j := mt (nI_leI (by omega) (by omega)).mpr c_168
        refine lv_aload_n hx hb d_MO_rule_171 rfl (lv_at hl 1 rfl) ?_
        refine gs_get (v := .ref (A 19)) hx hb ht hown hK hG k_MO y_mo 19 (by decide) w_681 rfl d_MO_rule_172 ?_
        refine lv_iconst (v := nI 3) hx hb d_MO_rule_175 (by decide) ?_
        refine lv_aload_n hx hb d_MO_rule_176 rfl (lv_at hl 1 rfl) ?_
        refine gs_get (v := .int (nI (Z 16))) hx hb ht hown hK hG k_MO y_mo 16 (by decide) w_678 rfl d_MO_rule_177 ?_
        refine gs_top (show nI (Z 16) = nI Q.length from congrArg nI (show Z 16 = Q.length from z16)) ?_
        refine lv_imul hx hb d_MO_rule_180 ?_
        refine gs_top (pk_mul 3 Q.length) ?_
        refine lv_iload_n hx hb d_MO_rule_181 rfl (lv_at hl 0 rfl) ?_
        refine lv_iadd hx hb d_MO_rule_182 ?_
        refine gs_top (nI_add (3 * Q.length) j) ?_
        refine lv_aload_n hx hb d_MO_rule_183 rfl (lv_at hl 1 rfl) ?_
        refine gs_get (v := .ref (A 19)) hx hb ht hown hK hG k_MO y_mo 19 (by decide) w_681 rfl d_MO_rule_184 ?_
        refine lv_bipush (v := nI 72) hx hb d_MO_rule_187 (by decide) ?_
        refine lv_iload_n hx hb d_MO_rule_189 rfl (lv_at hl 0 rfl) ?_
        refine lv_iadd hx hb d_MO_rule_190 ?_
        refine gs_top (nI_add 72 j) ?_
        refine gs_iald hx hb hK hG y_19 (j := 72 + j) (by omega) (by omega) d_MO_rule_191 ?_
        refine gs_top (show ((cpF f19 72 (3 * Q.length) j) (72 + j)) = (f19 (72 + j)) from cpF_at (by omega)) ?_
        refine gs_iast hx hb hK hG hS y_19 (j := (3 * Q.length) + j) (by omega) (by omega) d_MO_rule_192 (fun H locs hG hS => ?_)
        have hG : gs_H X (gs_up σ1 (A 19) (gs_ia X 75 (upd (cpF f19 72 (3 * Q.length) j) ((3 * Q.length) + j) (f19 (72 + j))))) H := hG
        obtain ⟨σ_1, eσ_1⟩ : ∃ zq, zq = gs_up σ1 (A 19) (gs_ia X 75 (upd (cpF f19 72 (3 * Q.length) j) ((3 * Q.length) + j) (f19 (72 + j)))) := ⟨_, rfl⟩
        rw [← eσ_1] at hG
        have hc_2 : σ_1 mo = some (moE A (va_up Z 0 0)) := by rw [eσ_1]; exact gs_ku (gs_ne y_mo y_19 (by simp)) y_mo
        have hc_3 : σ_1 (A 18) = some (gs_ia X 25 (upd f18 Q.length (f18 24))) := by rw [eσ_1]; exact gs_ku (ndp hN 10 11 (by decide) rfl rfl) y_18
        have hc_4 : σ_1 (A 20) = some (gs_ia X 25 (upd f20 Q.length (f20 24))) := by rw [eσ_1]; exact gs_ku (Ne.symm (ndp hN 11 12 (by decide) rfl rfl)) y_20
        have hc_5 : σ_1 (A 21) = some (gs_ia X 150 f21) := by rw [eσ_1]; exact gs_ku (Ne.symm (ndp hN 11 13 (by decide) rfl rfl)) y_21
        have hc_6 : σ_1 (A 22) = some (gs_ia X 150 f22) := by rw [eσ_1]; exact gs_ku (Ne.symm (ndp hN 11 14 (by decide) rfl rfl)) y_22
        have hc_7 : σ_1 (A 23) = some (gs_ia X 450 f23) := by rw [eσ_1]; exact gs_ku (Ne.symm (ndp hN 11 15 (by decide) rfl rfl)) y_23
        have hc_8 : σ_1 (A 5) = some (gs_ia X 200 f5) := by rw [eσ_1]; exact gs_ku (ndp hN 2 11 (by decide) rfl rfl) y_5
        have hc_9 : σ_1 (A 6) = some (gs_ia X 200 f6) := by rw [eσ_1]; exact gs_ku (ndp hN 3 11 (by decide) rfl rfl) y_6
        have hc_10 : σ_1 (A 8) = some (gs_ia X 320 f8) := by rw [eσ_1]; exact gs_ku (ndp hN 4 11 (by decide) rfl rfl) y_8
        have hc_11 : σ_1 (A 9) = some (gs_ia X 320 f9) := by rw [eσ_1]; exact gs_ku (ndp hN 5 11 (by decide) rfl rfl) y_9
        have hc_12 : σ_1 (A 10) = some (gs_ia X 320 f10) := by rw [eσ_1]; exact gs_ku (ndp hN 6 11 (by decide) rfl rfl) y_10
        have hc_13 : σ_1 (A 11) = some (gs_ia X 320 f11) := by rw [eσ_1]; exact gs_ku (ndp hN 7 11 (by decide) rfl rfl) y_11
        have hc_14 : σ_1 (A 12) = some (gs_la X 49152 g) := by rw [eσ_1]; exact gs_ku (ndp hN 8 11 (by decide) rfl rfl) y_12
        have hc_15 : σ_1 (A 19) = some (gs_ia X 75 (upd (cpF f19 72 (3 * Q.length) j) ((3 * Q.length) + j) (f19 (72 + j)))) := by rw [eσ_1]; exact gs_us
        have fr_16 : frm [mo, A 18, A 19, A 20, A 21, A 22, A 23, A 8, A 9, A 10, A 11, A 12] σ σ_1 := by rw [eσ_1]; exact hf1.up (by simp)
        refine lv_iinc (v := (nI (j + 1))) (lv' := [(2, .int (nI (j + 1))), (0, .ref mo)]) hx hb d_MO_rule_193 hl (k := 0) rfl (by exact nI_1 _) (by decide) rfl (fun ls hl => ?_)
        refine lv_goto (tgt := 166) hx hb d_MO_rule_196 (by decide) ?_
        exact ih (j + 1) σ_1 (by omega) fr_16 (by omega) hc_2 hc_3 (by rw [← cpF_s]; exact hc_15) hc_4 hc_5 hc_6 hc_7 hc_8 hc_9 hc_10 hc_11 hc_12 hc_13 hc_14 H locs hG hS ls (lv_sub hl [0, 1] rfl)
  have k125 : ∀ (σ1 : gs_St), frm [mo, A 18, A 19, A 20, A 21, A 22, A 23, A 8, A 9, A 10, A 11, A 12] σ σ1 → (σ1 mo = some (moE A (va_up Z 0 0))) → (σ1 (A 18) = some (gs_ia X 25 f18)) → (σ1 (A 19) = some (gs_ia X 75 f19)) → (σ1 (A 20) = some (gs_ia X 25 f20)) → (σ1 (A 21) = some (gs_ia X 150 f21)) → (σ1 (A 22) = some (gs_ia X 150 f22)) → (σ1 (A 23) = some (gs_ia X 450 f23)) → (σ1 (A 5) = some (gs_ia X 200 f5)) → (σ1 (A 6) = some (gs_ia X 200 f6)) → (σ1 (A 8) = some (gs_ia X 320 f8)) → (σ1 (A 9) = some (gs_ia X 320 f9)) → (σ1 (A 10) = some (gs_ia X 320 f10)) → (σ1 (A 11) = some (gs_ia X 320 f11)) → (σ1 (A 12) = some (gs_la X 49152 g)) → ∀ (H : Heap) (locs : List Loc), gs_H X σ1 H → va_S (gs_A X) s.heap H locs → ∀ ls, lv_has ls 5 [(1, .int (bI (sfJ R 3))), (0, .ref mo)] → W p l e ({ frames := 2, cells := 0, slots := 0, locals := 47 } : Room) s m ([.ref mo] : List Value).toArray below meth c H locs 0 0 (MQ below (va_Qi (fun q σ' => moA X σ' mo A 0 nr cw F (F.map agT) 0 0 (Q ++ [R]) none ∧ frm (aM mo A) σ σ' ∧ q = nI Q.length) (gs_U X) (gs_A X)) ([.ref mo] : List Value).toArray s 0 0 (gs_A X)) (F0 m 125 ls []) := by
    intro σ1 hf1 y_mo y_18 y_19 y_20 y_21 y_22 y_23 y_5 y_6 y_8 y_9 y_10 y_11 y_12 H locs hG hS ls hl
    refine lv_iload_n hx hb d_MO_rule_125 rfl (lv_at hl 0 rfl) ?_
    refine lv_if_ne (tgt := 132) hx hb d_MO_rule_126 (by decide) (fun c_126 => ?_) (fun c_126 => ?_)
    · refine lv_aload_n hx hb d_MO_rule_132 rfl (lv_at hl 1 rfl) ?_
      refine gs_get (v := .ref (A 18)) hx hb ht hown hK hG k_MO y_mo 18 (by decide) w_680 rfl d_MO_rule_133 ?_
      refine lv_aload_n hx hb d_MO_rule_136 rfl (lv_at hl 1 rfl) ?_
      refine gs_get (v := .int (nI (Z 16))) hx hb ht hown hK hG k_MO y_mo 16 (by decide) w_678 rfl d_MO_rule_137 ?_
      refine gs_top (show nI (Z 16) = nI Q.length from congrArg nI (show Z 16 = Q.length from z16)) ?_
      refine lv_aload_n hx hb d_MO_rule_140 rfl (lv_at hl 1 rfl) ?_
      refine gs_get (v := .ref (A 18)) hx hb ht hown hK hG k_MO y_mo 18 (by decide) w_680 rfl d_MO_rule_141 ?_
      refine lv_bipush (v := nI 24) hx hb d_MO_rule_144 (by decide) ?_
      refine gs_iald hx hb hK hG y_18 (j := 24) (by omega) (by omega) d_MO_rule_146 ?_
      refine gs_iast hx hb hK hG hS y_18 (j := Q.length) (by omega) (by omega) d_MO_rule_147 (fun H locs hG hS => ?_)
      have hG : gs_H X (gs_up σ1 (A 18) (gs_ia X 25 (upd f18 Q.length (f18 24)))) H := hG
      obtain ⟨σ_1, eσ_1⟩ : ∃ zq, zq = gs_up σ1 (A 18) (gs_ia X 25 (upd f18 Q.length (f18 24))) := ⟨_, rfl⟩
      rw [← eσ_1] at hG
      have hc_2 : σ_1 mo = some (moE A (va_up Z 0 0)) := by rw [eσ_1]; exact gs_ku (gs_ne y_mo y_18 (by simp)) y_mo
      have hc_3 : σ_1 (A 19) = some (gs_ia X 75 f19) := by rw [eσ_1]; exact gs_ku (Ne.symm (ndp hN 10 11 (by decide) rfl rfl)) y_19
      have hc_4 : σ_1 (A 20) = some (gs_ia X 25 f20) := by rw [eσ_1]; exact gs_ku (Ne.symm (ndp hN 10 12 (by decide) rfl rfl)) y_20
      have hc_5 : σ_1 (A 21) = some (gs_ia X 150 f21) := by rw [eσ_1]; exact gs_ku (Ne.symm (ndp hN 10 13 (by decide) rfl rfl)) y_21
      have hc_6 : σ_1 (A 22) = some (gs_ia X 150 f22) := by rw [eσ_1]; exact gs_ku (Ne.symm (ndp hN 10 14 (by decide) rfl rfl)) y_22
      have hc_7 : σ_1 (A 23) = some (gs_ia X 450 f23) := by rw [eσ_1]; exact gs_ku (Ne.symm (ndp hN 10 15 (by decide) rfl rfl)) y_23
      have hc_8 : σ_1 (A 5) = some (gs_ia X 200 f5) := by rw [eσ_1]; exact gs_ku (ndp hN 2 10 (by decide) rfl rfl) y_5
      have hc_9 : σ_1 (A 6) = some (gs_ia X 200 f6) := by rw [eσ_1]; exact gs_ku (ndp hN 3 10 (by decide) rfl rfl) y_6
      have hc_10 : σ_1 (A 8) = some (gs_ia X 320 f8) := by rw [eσ_1]; exact gs_ku (ndp hN 4 10 (by decide) rfl rfl) y_8
      have hc_11 : σ_1 (A 9) = some (gs_ia X 320 f9) := by rw [eσ_1]; exact gs_ku (ndp hN 5 10 (by decide) rfl rfl) y_9
      have hc_12 : σ_1 (A 10) = some (gs_ia X 320 f10) := by rw [eσ_1]; exact gs_ku (ndp hN 6 10 (by decide) rfl rfl) y_10
      have hc_13 : σ_1 (A 11) = some (gs_ia X 320 f11) := by rw [eσ_1]; exact gs_ku (ndp hN 7 10 (by decide) rfl rfl) y_11
      have hc_14 : σ_1 (A 12) = some (gs_la X 49152 g) := by rw [eσ_1]; exact gs_ku (ndp hN 8 10 (by decide) rfl rfl) y_12
      have hc_15 : σ_1 (A 18) = some (gs_ia X 25 (upd f18 Q.length (f18 24))) := by rw [eσ_1]; exact gs_us
      have fr_16 : frm [mo, A 18, A 19, A 20, A 21, A 22, A 23, A 8, A 9, A 10, A 11, A 12] σ σ_1 := by rw [eσ_1]; exact hf1.up (by simp)
      refine lv_aload_n hx hb d_MO_rule_148 rfl (lv_at hl 1 rfl) ?_
      refine gs_get (v := .ref (A 20)) hx hb ht hown hK hG k_MO hc_2 20 (by decide) w_682 rfl d_MO_rule_149 ?_
      refine lv_aload_n hx hb d_MO_rule_152 rfl (lv_at hl 1 rfl) ?_
      refine gs_get (v := .int (nI (Z 16))) hx hb ht hown hK hG k_MO hc_2 16 (by decide) w_678 rfl d_MO_rule_153 ?_
      refine gs_top (show nI (Z 16) = nI Q.length from congrArg nI (show Z 16 = Q.length from z16)) ?_
      refine lv_aload_n hx hb d_MO_rule_156 rfl (lv_at hl 1 rfl) ?_
      refine gs_get (v := .ref (A 20)) hx hb ht hown hK hG k_MO hc_2 20 (by decide) w_682 rfl d_MO_rule_157 ?_
      refine lv_bipush (v := nI 24) hx hb d_MO_rule_160 (by decide) ?_
      refine gs_iald hx hb hK hG hc_4 (j := 24) (by omega) (by omega) d_MO_rule_162 ?_
      refine gs_iast hx hb hK hG hS hc_4 (j := Q.length) (by omega) (by omega) d_MO_rule_163 (fun H locs hG hS => ?_)
      have hG : gs_H X (gs_up σ_1 (A 20) (gs_ia X 25 (upd f20 Q.length (f20 24)))) H := hG
      obtain ⟨σ_17, eσ_17⟩ : ∃ zq, zq = gs_up σ_1 (A 20) (gs_ia X 25 (upd f20 Q.length (f20 24))) := ⟨_, rfl⟩
      rw [← eσ_17] at hG
      have hc_18 : σ_17 mo = some (moE A (va_up Z 0 0)) := by rw [eσ_17]; exact gs_ku (gs_ne hc_2 hc_4 (by simp)) hc_2
      have hc_19 : σ_17 (A 19) = some (gs_ia X 75 f19) := by rw [eσ_17]; exact gs_ku (ndp hN 11 12 (by decide) rfl rfl) hc_3
      have hc_20 : σ_17 (A 21) = some (gs_ia X 150 f21) := by rw [eσ_17]; exact gs_ku (Ne.symm (ndp hN 12 13 (by decide) rfl rfl)) hc_5
      have hc_21 : σ_17 (A 22) = some (gs_ia X 150 f22) := by rw [eσ_17]; exact gs_ku (Ne.symm (ndp hN 12 14 (by decide) rfl rfl)) hc_6
      have hc_22 : σ_17 (A 23) = some (gs_ia X 450 f23) := by rw [eσ_17]; exact gs_ku (Ne.symm (ndp hN 12 15 (by decide) rfl rfl)) hc_7
      have hc_23 : σ_17 (A 5) = some (gs_ia X 200 f5) := by rw [eσ_17]; exact gs_ku (ndp hN 2 12 (by decide) rfl rfl) hc_8
      have hc_24 : σ_17 (A 6) = some (gs_ia X 200 f6) := by rw [eσ_17]; exact gs_ku (ndp hN 3 12 (by decide) rfl rfl) hc_9
      have hc_25 : σ_17 (A 8) = some (gs_ia X 320 f8) := by rw [eσ_17]; exact gs_ku (ndp hN 4 12 (by decide) rfl rfl) hc_10
      have hc_26 : σ_17 (A 9) = some (gs_ia X 320 f9) := by rw [eσ_17]; exact gs_ku (ndp hN 5 12 (by decide) rfl rfl) hc_11
      have hc_27 : σ_17 (A 10) = some (gs_ia X 320 f10) := by rw [eσ_17]; exact gs_ku (ndp hN 6 12 (by decide) rfl rfl) hc_12
      have hc_28 : σ_17 (A 11) = some (gs_ia X 320 f11) := by rw [eσ_17]; exact gs_ku (ndp hN 7 12 (by decide) rfl rfl) hc_13
      have hc_29 : σ_17 (A 12) = some (gs_la X 49152 g) := by rw [eσ_17]; exact gs_ku (ndp hN 8 12 (by decide) rfl rfl) hc_14
      have hc_30 : σ_17 (A 18) = some (gs_ia X 25 (upd f18 Q.length (f18 24))) := by rw [eσ_17]; exact gs_ku (ndp hN 10 12 (by decide) rfl rfl) hc_15
      have hc_31 : σ_17 (A 20) = some (gs_ia X 25 (upd f20 Q.length (f20 24))) := by rw [eσ_17]; exact gs_us
      have fr_32 : frm [mo, A 18, A 19, A 20, A 21, A 22, A 23, A 8, A 9, A 10, A 11, A 12] σ σ_17 := by rw [eσ_17]; exact fr_16.up (by simp)
      refine lv_iconst (v := nI 0) hx hb d_MO_rule_164 (by decide) ?_
      refine lv_istore_n (lv' := [(2, .int (nI 0)), (1, .int (bI (sfJ R 3))), (0, .ref mo)]) hx hb d_MO_rule_165 rfl hl (by decide) rfl (fun ls hl => ?_)
      exact loop2 4 0 σ_17 (by omega) fr_32 (by omega) hc_18 hc_30 (by rw [cpF_0]; exact hc_19) hc_31 hc_20 hc_21 hc_22 hc_23 hc_24 hc_25 hc_26 hc_27 hc_28 hc_29 H locs hG hS ls (lv_sub hl [0, 2] rfl)
    · exact absurd ((bI_0 c_126).symm.trans hsf) (by decide)
  have loopj : ∀ (fl : Nat) (j : Nat) (σ1 : gs_St), (j ≤ 3) → (frm [mo, A 18, A 19, A 20, A 21, A 22, A 23, A 8, A 9, A 10, A 11, A 12] σ σ1) → 3 - j < fl → (σ1 mo = some (moE A (va_up Z 0 0))) → (σ1 (A 18) = some (gs_ia X 25 f18)) → (σ1 (A 19) = some (gs_ia X 75 f19)) → (σ1 (A 20) = some (gs_ia X 25 f20)) → (σ1 (A 21) = some (gs_ia X 150 f21)) → (σ1 (A 22) = some (gs_ia X 150 f22)) → (σ1 (A 23) = some (gs_ia X 450 f23)) → (σ1 (A 5) = some (gs_ia X 200 f5)) → (σ1 (A 6) = some (gs_ia X 200 f6)) → (σ1 (A 8) = some (gs_ia X 320 f8)) → (σ1 (A 9) = some (gs_ia X 320 f9)) → (σ1 (A 10) = some (gs_ia X 320 f10)) → (σ1 (A 11) = some (gs_ia X 320 f11)) → (σ1 (A 12) = some (gs_la X 49152 g)) → ∀ (H : Heap) (locs : List Loc), gs_H X σ1 H → va_S (gs_A X) s.heap H locs → ∀ ls, lv_has ls 5 [(2, .int (nI j)), (1, .int (bI (sfJ R j))), (0, .ref mo)] → W p l e ({ frames := 2, cells := 0, slots := 0, locals := 47 } : Room) s m ([.ref mo] : List Value).toArray below meth c H locs 0 0 (MQ below (va_Qi (fun q σ' => moA X σ' mo A 0 nr cw F (F.map agT) 0 0 (Q ++ [R]) none ∧ frm (aM mo A) σ σ' ∧ q = nI Q.length) (gs_U X) (gs_A X)) ([.ref mo] : List Value).toArray s 0 0 (gs_A X)) (F0 m 38 ls []) := by
    intro fl
    induction fl with
    | zero => intro j σ1 _ _ h9; omega
    | succ fl ih =>
      intro j σ1 hj hf1 hmu y_mo y_18 y_19 y_20 y_21 y_22 y_23 y_5 y_6 y_8 y_9 y_10 y_11 y_12 H locs hG hS ls hl
      refine lv_iload_n hx hb d_MO_rule_38 rfl (lv_at hl 0 rfl) ?_
      refine lv_iconst (v := nI 3) hx hb d_MO_rule_39 (by decide) ?_
      refine lv_icmp_ge (tgt := 125) hx hb d_MO_rule_40 (by decide) (fun c_40 => ?_) (fun c_40 => ?_)
      · have c_40 : 3 ≤ j := (nI_leI (by omega) (by omega)).mp c_40
        have hje : j = 3 := by omega
        subst hje
        exact k125 σ1 hf1 y_mo y_18 y_19 y_20 y_21 y_22 y_23 y_5 y_6 y_8 y_9 y_10 y_11 y_12 H locs hG hS ls (lv_sub hl [1, 2] rfl)
      · have c_40 : ¬ 3 ≤ j := mt (nI_leI (by omega) (by omega)).mpr c_40
        have hj3 : j < 3 := by omega
        have k71i : ∀ (fl i : Nat), i ≤ R.2.length → R.2.length - i < fl → ∀ ls, lv_has ls 5 [(3, .int (nI i)), (2, .int (nI j)), (1, .int (bI (sfI R j i))), (0, .ref mo)] → W p l e ({ frames := 2, cells := 0, slots := 0, locals := 47 } : Room) s m ([.ref mo] : List Value).toArray below meth c H locs 0 0 (MQ below (va_Qi (fun q σ' => moA X σ' mo A 0 nr cw F (F.map agT) 0 0 (Q ++ [R]) none ∧ frm (aM mo A) σ σ' ∧ q = nI Q.length) (gs_U X) (gs_A X)) ([.ref mo] : List Value).toArray s 0 0 (gs_A X)) (F0 m 71 ls []) := by
          intro fl
          induction fl with
          | zero => intro i _ h9; omega
          | succ fl ih2 =>
            intro i hi hmu2 ls hl
            refine lv_iload_n hx hb d_MO_rule_71 rfl (lv_at hl 0 rfl) ?_
            refine lv_aload_n hx hb d_MO_rule_72 rfl (lv_at hl 3 rfl) ?_
            refine gs_get (v := .ref (A 20)) hx hb ht hown hK hG k_MO y_mo 20 (by decide) w_682 rfl d_MO_rule_73 ?_
            refine lv_bipush (v := nI 24) hx hb d_MO_rule_76 (by decide) ?_
            refine gs_iald hx hb hK hG y_20 (j := 24) (by omega) (by omega) d_MO_rule_78 ?_
            refine gs_top (show (f20 24) = (nI R.2.length) from hR9.2.2.1) ?_
            refine lv_icmp_ge (tgt := 119) hx hb d_MO_rule_79 (by decide) (fun c_79 => ?_) (fun c_79 => ?_)
            · have c_79 : R.2.length ≤ i := (nI_leI (by omega) (by omega)).mp c_79
              refine lv_iinc (v := (nI (j + 1))) (lv' := [(2, .int (nI (j + 1))), (3, .int (nI i)), (1, .int (bI (sfI R j i))), (0, .ref mo)]) hx hb d_MO_rule_119 hl (k := 1) rfl (by exact nI_1 _) (by decide) rfl (fun ls hl => ?_)
              refine lv_goto (tgt := 38) hx hb d_MO_rule_122 (by decide) ?_
              exact ih (j + 1) σ1 (by omega) hf1 (by omega) y_mo y_18 y_19 y_20 y_21 y_22 y_23 y_5 y_6 y_8 y_9 y_10 y_11 y_12 H locs hG hS ls (by rw [sfJ_s, ← show i = R.2.length by omega]; exact (lv_sub hl [0, 2, 3] rfl))
            · have c_79 : ¬ R.2.length ≤ i := mt (nI_leI (by omega) (by omega)).mpr c_79
              have hiR : i < R.2.length := by omega
              obtain ⟨x, hx9⟩ := get_ex (L := R.2) (j := i) hiR
              obtain ⟨hx1, hx2, hx3⟩ := hR9.2.2.2 _ _ hx9
              have hx4 := hRB.2.2.2.2 _ (List.mem_of_getElem? hx9)
              refine lv_iload_n hx hb d_MO_rule_82 rfl (lv_at hl 2 rfl) ?_
              refine lv_if_eq (tgt := 111) hx hb d_MO_rule_83 (by decide) (fun c_83 => ?_) (fun c_83 => ?_)
              · refine lv_iconst (v := nI 0) hx hb d_MO_rule_111 (by decide) ?_
                refine lv_istore_n (lv' := [(1, .int (nI 0)), (3, .int (nI i)), (2, .int (nI j)), (0, .ref mo)]) hx hb d_MO_rule_112 rfl hl (by decide) rfl (fun ls hl => ?_)
                refine lv_iinc (v := (nI (i + 1))) (lv' := [(3, .int (nI (i + 1))), (1, .int (nI 0)), (2, .int (nI j)), (0, .ref mo)]) hx hb d_MO_rule_113 hl (k := 1) rfl (by exact nI_1 _) (by decide) rfl (fun ls hl => ?_)
                refine lv_goto (tgt := 71) hx hb d_MO_rule_116 (by decide) ?_
                exact ih2 (i + 1) (by omega) (by omega) ls (by rw [show bI (sfI R j (i + 1)) = nI 0 from by rw [sfI_s hx9]; first | (rw [bI_0 c_83]; rfl) | (rw [bI_0 c_104, Bool.and_false]; rfl)]; exact (lv_sub hl [0, 2, 1, 3] rfl))
              · refine lv_aload_n hx hb d_MO_rule_86 rfl (lv_at hl 3 rfl) ?_
                refine lv_aload_n hx hb d_MO_rule_87 rfl (lv_at hl 3 rfl) ?_
                refine gs_get (v := .ref (A 23)) hx hb ht hown hK hG k_MO y_mo 23 (by decide) w_685 rfl d_MO_rule_88 ?_
                refine lv_iconst (v := nI 3) hx hb d_MO_rule_91 (by decide) ?_
                refine lv_sipush (v := nI 144) hx hb d_MO_rule_92 (by decide) ?_
                refine lv_iload_n hx hb d_MO_rule_95 rfl (lv_at hl 0 rfl) ?_
                refine lv_iadd hx hb d_MO_rule_96 ?_
                refine gs_top (nI_add 144 i) ?_
                refine lv_imul hx hb d_MO_rule_97 ?_
                refine gs_top (pk_mul 3 (144 + i)) ?_
                refine lv_iload_n hx hb d_MO_rule_98 rfl (lv_at hl 1 rfl) ?_
                refine lv_iadd hx hb d_MO_rule_99 ?_
                refine gs_top (nI_add (3 * (144 + i)) j) ?_
                refine gs_iald hx hb hK hG y_23 (j := (3 * (144 + i)) + j) (by omega) (by omega) d_MO_rule_100 ?_
                refine gs_top (show (f23 ((3 * (144 + i)) + j)) = (nI (t3 x.2.2 j)) from hx3 j hj3) ?_
                refine gs_callVp (As := [.int (nI (t3 x.2.2 j))]) (rest := []) ⟨hx, hb, hml, hown, hts⟩ hK hE hz hG hS (c_MO_isHeld l X σ1 mo A (va_up Z 0 0) f18 f19 f20 f21 f22 f23 nr R (t3 x.2.2 j) y_mo y_20 y_21 y_23 hR9 hRB (hx4.2.2.2 j)) ⟨rfl, rfl⟩ mV_MO_isHeld w_812 y_mo rfl rfl hl.1 rfl (Nat.le_of_ble_eq_true rfl) ⟨(by first | decide | omega | (dsimp only [headSpec]; omega)), (by first | decide | omega | (dsimp only [headSpec]; omega))⟩ ⟨(by first | decide | omega | (dsimp only [headSpec]; omega)), (by first | decide | omega | (dsimp only [headSpec]; omega))⟩ d_MO_rule_101 (fun r_101 hp_101 => ?_)
                refine gs_top (show r_101 = (bI (hdB R (t3 x.2.2 j))) from hp_101) ?_
                refine lv_if_eq (tgt := 111) hx hb d_MO_rule_104 (by decide) (fun c_104 => ?_) (fun c_104 => ?_)
                · refine lv_iconst (v := nI 0) hx hb d_MO_rule_111 (by decide) ?_
                  refine lv_istore_n (lv' := [(1, .int (nI 0)), (3, .int (nI i)), (2, .int (nI j)), (0, .ref mo)]) hx hb d_MO_rule_112 rfl hl (by decide) rfl (fun ls hl => ?_)
                  refine lv_iinc (v := (nI (i + 1))) (lv' := [(3, .int (nI (i + 1))), (1, .int (nI 0)), (2, .int (nI j)), (0, .ref mo)]) hx hb d_MO_rule_113 hl (k := 1) rfl (by exact nI_1 _) (by decide) rfl (fun ls hl => ?_)
                  refine lv_goto (tgt := 71) hx hb d_MO_rule_116 (by decide) ?_
                  exact ih2 (i + 1) (by omega) (by omega) ls (by rw [show bI (sfI R j (i + 1)) = nI 0 from by rw [sfI_s hx9]; first | (rw [bI_0 c_83]; rfl) | (rw [bI_0 c_104, Bool.and_false]; rfl)]; exact (lv_sub hl [0, 2, 1, 3] rfl))
                · refine lv_iconst (v := nI 1) hx hb d_MO_rule_107 (by decide) ?_
                  refine lv_goto (tgt := 112) hx hb d_MO_rule_108 (by decide) ?_
                  refine lv_istore_n (lv' := [(1, .int (nI 1)), (3, .int (nI i)), (2, .int (nI j)), (0, .ref mo)]) hx hb d_MO_rule_112 rfl hl (by decide) rfl (fun ls hl => ?_)
                  refine lv_iinc (v := (nI (i + 1))) (lv' := [(3, .int (nI (i + 1))), (1, .int (nI 1)), (2, .int (nI j)), (0, .ref mo)]) hx hb d_MO_rule_113 hl (k := 1) rfl (by exact nI_1 _) (by decide) rfl (fun ls hl => ?_)
                  refine lv_goto (tgt := 71) hx hb d_MO_rule_116 (by decide) ?_
                  exact ih2 (i + 1) (by omega) (by omega) ls (by rw [show bI (sfI R j (i + 1)) = nI 1 from by rw [sfI_s hx9]; (rw [bI_n0 c_83, bI_n0 c_104]; rfl)]; exact (lv_sub hl [0, 2, 1, 3] rfl))
        have k71 := k71i (R.2.length + 1) 0 (by omega) (by omega)
        refine lv_iload_n hx hb d_MO_rule_43 rfl (lv_at hl 1 rfl) ?_
        refine lv_if_eq (tgt := 67) hx hb d_MO_rule_44 (by decide) (fun c_44 => ?_) (fun c_44 => ?_)
        · refine lv_iconst (v := nI 0) hx hb d_MO_rule_67 (by decide) ?_
          refine lv_istore_n (lv' := [(1, .int (nI 0)), (2, .int (nI j)), (0, .ref mo)]) hx hb d_MO_rule_68 rfl hl (by decide) rfl (fun ls hl => ?_)
          refine lv_iconst (v := nI 0) hx hb d_MO_rule_69 (by decide) ?_
          refine lv_istore_n (lv' := [(3, .int (nI 0)), (1, .int (nI 0)), (2, .int (nI j)), (0, .ref mo)]) hx hb d_MO_rule_70 rfl hl (by decide) rfl (fun ls hl => ?_)
          exact k71 ls (by rw [show bI (sfI R j 0) = nI 0 from by unfold sfI; rw [List.take_zero, List.all_nil, Bool.and_true]; first | (rw [bI_0 c_44]; rfl) | (rw [bI_0 c_60, Bool.and_false]; rfl)]; exact (lv_sub hl [0, 2, 1, 3] rfl))
        · refine lv_aload_n hx hb d_MO_rule_47 rfl (lv_at hl 2 rfl) ?_
          refine lv_aload_n hx hb d_MO_rule_48 rfl (lv_at hl 2 rfl) ?_
          refine gs_get (v := .ref (A 19)) hx hb ht hown hK hG k_MO y_mo 19 (by decide) w_681 rfl d_MO_rule_49 ?_
          refine lv_bipush (v := nI 72) hx hb d_MO_rule_52 (by decide) ?_
          refine lv_iload_n hx hb d_MO_rule_54 rfl (lv_at hl 0 rfl) ?_
          refine lv_iadd hx hb d_MO_rule_55 ?_
          refine gs_top (nI_add 72 j) ?_
          refine gs_iald hx hb hK hG y_19 (j := 72 + j) (by omega) (by omega) d_MO_rule_56 ?_
          refine gs_top (show (f19 (72 + j)) = (nI (t3 R.1.2 j)) from hR9.2.1 j hj3) ?_
          refine gs_callVp (As := [.int (nI (t3 R.1.2 j))]) (rest := []) ⟨hx, hb, hml, hown, hts⟩ hK hE hz hG hS (c_MO_isHeld l X σ1 mo A (va_up Z 0 0) f18 f19 f20 f21 f22 f23 nr R (t3 R.1.2 j) y_mo y_20 y_21 y_23 hR9 hRB (hRB.2.1 j)) ⟨rfl, rfl⟩ mV_MO_isHeld w_812 y_mo rfl rfl hl.1 rfl (Nat.le_of_ble_eq_true rfl) ⟨(by first | decide | omega | (dsimp only [headSpec]; omega)), (by first | decide | omega | (dsimp only [headSpec]; omega))⟩ ⟨(by first | decide | omega | (dsimp only [headSpec]; omega)), (by first | decide | omega | (dsimp only [headSpec]; omega))⟩ d_MO_rule_57 (fun r_57 hp_57 => ?_)
          refine gs_top (show r_57 = (bI (hdB R (t3 R.1.2 j))) from hp_57) ?_
          refine lv_if_eq (tgt := 67) hx hb d_MO_rule_60 (by decide) (fun c_60 => ?_) (fun c_60 => ?_)
          · refine lv_iconst (v := nI 0) hx hb d_MO_rule_67 (by decide) ?_
            refine lv_istore_n (lv' := [(1, .int (nI 0)), (2, .int (nI j)), (0, .ref mo)]) hx hb d_MO_rule_68 rfl hl (by decide) rfl (fun ls hl => ?_)
            refine lv_iconst (v := nI 0) hx hb d_MO_rule_69 (by decide) ?_
            refine lv_istore_n (lv' := [(3, .int (nI 0)), (1, .int (nI 0)), (2, .int (nI j)), (0, .ref mo)]) hx hb d_MO_rule_70 rfl hl (by decide) rfl (fun ls hl => ?_)
            exact k71 ls (by rw [show bI (sfI R j 0) = nI 0 from by unfold sfI; rw [List.take_zero, List.all_nil, Bool.and_true]; first | (rw [bI_0 c_44]; rfl) | (rw [bI_0 c_60, Bool.and_false]; rfl)]; exact (lv_sub hl [0, 2, 1, 3] rfl))
          · refine lv_iconst (v := nI 1) hx hb d_MO_rule_63 (by decide) ?_
            refine lv_goto (tgt := 68) hx hb d_MO_rule_64 (by decide) ?_
            refine lv_istore_n (lv' := [(1, .int (nI 1)), (2, .int (nI j)), (0, .ref mo)]) hx hb d_MO_rule_68 rfl hl (by decide) rfl (fun ls hl => ?_)
            refine lv_iconst (v := nI 0) hx hb d_MO_rule_69 (by decide) ?_
            refine lv_istore_n (lv' := [(3, .int (nI 0)), (1, .int (nI 1)), (2, .int (nI j)), (0, .ref mo)]) hx hb d_MO_rule_70 rfl hl (by decide) rfl (fun ls hl => ?_)
            exact k71 ls (by rw [show bI (sfI R j 0) = nI 1 from by unfold sfI; rw [List.take_zero, List.all_nil, Bool.and_true]; (rw [bI_n0 c_44, bI_n0 c_60]; rfl)]; exact (lv_sub hl [0, 2, 1, 3] rfl))
  refine lv_aload_n hx hb d_MO_rule_0 rfl (lv_at hl 0 rfl) ?_
  refine lv_aload_n hx hb d_MO_rule_1 rfl (lv_at hl 0 rfl) ?_
  refine gs_get (v := .int (nI (Z 17))) hx hb ht hown hK hG k_MO m0 17 (by decide) w_679 rfl d_MO_rule_2 ?_
  refine gs_top (show nI (Z 17) = nI 1 from congrArg nI (show Z 17 = 1 from z17)) ?_
  refine lv_if_eq (tgt := 17) hx hb d_MO_rule_5 (by decide) (fun c_5 => ?_) (fun c_5 => ?_)
  · exact absurd c_5 (by decide)
  · have c_5 : ¬ 1 = 0 := gs_zn (by omega) c_5
    refine lv_aload_n hx hb d_MO_rule_8 rfl (lv_at hl 0 rfl) ?_
    refine gs_get (v := .int (nI (Z 16))) hx hb ht hown hK hG k_MO m0 16 (by decide) w_678 rfl d_MO_rule_9 ?_
    refine gs_top (show nI (Z 16) = nI Q.length from congrArg nI (show Z 16 = Q.length from z16)) ?_
    refine lv_bipush (v := nI 24) hx hb d_MO_rule_12 (by decide) ?_
    refine lv_icmp_ne (tgt := 21) hx hb d_MO_rule_14 (by decide) (fun c_14 => ?_) (fun c_14 => ?_)
    · have c_14 : ¬ Q.length = 24 := mt (nI_eq (by omega) (by omega)).mpr c_14
      refine lv_iconst (v := nI 0) hx hb d_MO_rule_21 (by decide) ?_
      refine gs_put hx hb ht hown hK hG hS k_MO m0 0 (by decide) w_662 rfl rfl rfl (Nat.le_of_ble_eq_true rfl) d_MO_rule_22 (fun H locs hG hS => ?_)
      have hG : gs_H X (gs_up σ mo (moE A (va_up Z 0 0))) H := hG
      obtain ⟨σ_1, eσ_1⟩ : ∃ zq, zq = gs_up σ mo (moE A (va_up Z 0 0)) := ⟨_, rfl⟩
      rw [← eσ_1] at hG
      have hc_2 : σ_1 (A 18) = some (gs_ia X 25 f18) := by rw [eσ_1]; exact gs_ku (gs_ne m18 m0 (by simp)) m18
      have hc_3 : σ_1 (A 19) = some (gs_ia X 75 f19) := by rw [eσ_1]; exact gs_ku (gs_ne m19 m0 (by simp)) m19
      have hc_4 : σ_1 (A 20) = some (gs_ia X 25 f20) := by rw [eσ_1]; exact gs_ku (gs_ne m20 m0 (by simp)) m20
      have hc_5 : σ_1 (A 21) = some (gs_ia X 150 f21) := by rw [eσ_1]; exact gs_ku (gs_ne m21 m0 (by simp)) m21
      have hc_6 : σ_1 (A 22) = some (gs_ia X 150 f22) := by rw [eσ_1]; exact gs_ku (gs_ne m22 m0 (by simp)) m22
      have hc_7 : σ_1 (A 23) = some (gs_ia X 450 f23) := by rw [eσ_1]; exact gs_ku (gs_ne m23 m0 (by simp)) m23
      have hc_8 : σ_1 (A 5) = some (gs_ia X 200 f5) := by rw [eσ_1]; exact gs_ku (gs_ne m5 m0 (by simp)) m5
      have hc_9 : σ_1 (A 6) = some (gs_ia X 200 f6) := by rw [eσ_1]; exact gs_ku (gs_ne m6 m0 (by simp)) m6
      have hc_10 : σ_1 (A 8) = some (gs_ia X 320 f8) := by rw [eσ_1]; exact gs_ku (gs_ne m8 m0 (by simp)) m8
      have hc_11 : σ_1 (A 9) = some (gs_ia X 320 f9) := by rw [eσ_1]; exact gs_ku (gs_ne m9 m0 (by simp)) m9
      have hc_12 : σ_1 (A 10) = some (gs_ia X 320 f10) := by rw [eσ_1]; exact gs_ku (gs_ne m10 m0 (by simp)) m10
      have hc_13 : σ_1 (A 11) = some (gs_ia X 320 f11) := by rw [eσ_1]; exact gs_ku (gs_ne m11 m0 (by simp)) m11
      have hc_14 : σ_1 (A 12) = some (gs_la X 49152 g) := by rw [eσ_1]; exact gs_ku (gs_ne m12 m0 (by simp)) m12
      have hc_15 : σ_1 mo = some (moE A (va_up Z 0 0)) := by rw [eσ_1]; exact gs_us
      have fr_16 : frm [mo, A 18, A 19, A 20, A 21, A 22, A 23, A 8, A 9, A 10, A 11, A 12] σ σ_1 := by rw [eσ_1]; exact fr0.up (by simp)
      refine lv_aload_n hx hb d_MO_rule_25 rfl (lv_at hl 0 rfl) ?_
      refine gs_get (v := .int (nI 0)) hx hb ht hown hK hG k_MO hc_15 0 (by decide) w_662 rfl d_MO_rule_26 ?_
      refine lv_if_le (tgt := 34) hx hb d_MO_rule_29 (by decide) (fun c_29 => ?_) (fun c_29 => ?_)
      · have c_29 : 0 = 0 := by have := gs_le0 (a := 0) (by omega); exact this.mp c_29
        refine lv_iconst (v := nI 1) hx hb d_MO_rule_34 (by decide) ?_
        refine lv_istore_n (lv' := [(1, .int (nI 1)), (0, .ref mo)]) hx hb d_MO_rule_35 rfl hl (by decide) rfl (fun ls hl => ?_)
        refine lv_iconst (v := nI 0) hx hb d_MO_rule_36 (by decide) ?_
        refine lv_istore_n (lv' := [(2, .int (nI 0)), (1, .int (nI 1)), (0, .ref mo)]) hx hb d_MO_rule_37 rfl hl (by decide) rfl (fun ls hl => ?_)
        exact loopj 4 0 σ_1 (by omega) fr_16 (by omega) hc_15 hc_2 hc_3 hc_4 hc_5 hc_6 hc_7 hc_8 hc_9 hc_10 hc_11 hc_12 hc_13 hc_14 H locs hG hS ls (lv_sub hl [0, 1, 2] rfl)
      · exact absurd c_29 (by decide)
    · have c_14 : Q.length = 24 :=  (nI_eq (by omega) (by omega)).mp c_14
      omega
