set_option maxHeartbeats 4000000 in
set_option maxRecDepth 100000 in
/-- the reference: find -/
theorem c_MO_find (l : Launch) (X : gs_X) (σ : gs_St) (mo : Nat) (A Z : Nat → Nat) (f8 f9 f10 f11 f18 f19 f20 f21 f22 f23 f24 : Nat → Int32) (g g3 : Nat → Int64) (T N : List MT) (ovr : Bool) (ct rc nr q : Nat) (R : MR) (ov : OV)
    (m0 : σ mo = some (moE A Z)) (hN : (aL A).Nodup) (m8 : σ (A 8) = some (gs_ia X 320 f8)) (m9 : σ (A 9) = some (gs_ia X 320 f9)) (m10 : σ (A 10) = some (gs_ia X 320 f10)) (m11 : σ (A 11) = some (gs_ia X 320 f11)) (m12 : σ (A 12) = some (gs_la X 49152 g)) (m18 : σ (A 18) = some (gs_ia X 25 f18)) (m19 : σ (A 19) = some (gs_ia X 75 f19)) (m24 : σ (A 24) = some (gs_ia X 8 f24)) (m13 : σ (A 13) = some (gs_la X 49152 g3)) (z7 : Z 7 = T.length) (z14 : Z 14 = N.length) (z15 : Z 15 = ovr.toNat) (z26 : Z 26 = rc) (hT : tpOK (T ++ N) f8 f9 f10 f11) (hbi : bO g (tcs T)) (hb3 : bO g3 (tcs N)) (hTN : T.length + N.length ≤ 300) (hR : rAt f18 f19 f20 f21 f22 f23 q R) (hRB : mrB nr R) (hnr : nr ≤ 12) (hq : q < 25) (hv : vO f24 ov) (hal : alB ov R.1.2) : gs_Mv l X y_MO_find b_MO_find 4 ({ frames := 1, cells := 0, slots := 0, locals := 26 }) σ [.ref mo, .int (nI q)] (fun σ' => ∃ Z' a8 a9 a10 a11 g', σ' mo = some (moE A Z') ∧ Z' 14 = (fnd1 T rc q R ov (N, ovr, ct)).1.length ∧ Z' 15 = (fnd1 T rc q R ov (N, ovr, ct)).2.1.toNat ∧ zfr [14, 15] Z Z' ∧ σ' (A 8) = some (gs_ia X 320 a8) ∧ σ' (A 9) = some (gs_ia X 320 a9) ∧ σ' (A 10) = some (gs_ia X 320 a10) ∧ σ' (A 11) = some (gs_ia X 320 a11) ∧ σ' (A 13) = some (gs_la X 49152 g') ∧ tpOK (T ++ (fnd1 T rc q R ov (N, ovr, ct)).1) a8 a9 a10 a11 ∧ bO g' (tcs (fnd1 T rc q R ov (N, ovr, ct)).1) ∧ T.length + (fnd1 T rc q R ov (N, ovr, ct)).1.length ≤ 300 ∧ frm [mo, A 8, A 9, A 10, A 11, A 13] σ σ') := by
  refine Met.ofW (cc := b_MO_find) (maxL := 4) (ret := none) (by decide) rfl ?_
  intro p e s m args below meth c s₁ B₀ hml hv
  obtain ⟨rfl, hK, hG, hz, hE⟩ := hv
  have hx := B₀.exec
  have hb := B₀.bytes
  have hr := B₀.returns
  have hts := atoms_spec (ws := gs_ws y_MO_find b_MO_find 4 none) B₀.pre
  have ht : ∀ w ∈ gs_w, w.before _ s = true := fun w h => hts w (List.mem_cons_of_mem _ h)
  have hown : s.vm.findClass R_MO = some m.cls := findClass_of_methodNamed B₀.named
  have hlocks := B₀.notSynchronized
  have hA : ∀ q : Nat, s.heap.size ≤ q → gs_A X q := fun q h => Nat.le_trans hz h
  have hS : va_S (gs_A X) s.heap s.heap [] := va_S.rf
  have hl := lv_entry ([.ref mo, .int (nI q)]) (n := 4) (Nat.le_of_ble_eq_true rfl)
  rw [lg_entry_eq]
  generalize (lg_sl ([.ref mo, .int (nI q)]) ++ List.replicate (4 - (lg_sl ([.ref mo, .int (nI q)])).length) Slot.unset).toArray = ls at hl ⊢
  have hl : lv_has ls 4 [(0, .ref mo), (1, .int (nI q))] := hl
  have fr0 : frm [mo, A 8, A 9, A 10, A 11, A 13] σ σ := frm.rf
  have hr9 := hRB.1
  have hov := toN1 ovr
  have hg0 := gv_of hv hal (j := 0) (by decide) (hRB.2.1 0)
  have hg1 := gv_of hv hal (j := 1) (by decide) (hRB.2.1 1)
  have hg2 := gv_of hv hal (j := 2) (by decide) (hRB.2.1 2)
  have hgl0 := hg0.2
  have hgl1 := hg1.2
  have hgl2 := hg2.2
  have hnb : nbO ov R.1.2 < 262144 := nb_lt hgl0 hgl1 hgl2
  have k82 : ∀ ls, lv_has ls 4 [(3, .int (bI (decide (262144 * R.1.1 + nbO ov R.1.2 ∈ tcs N)))), (2, .int (nI (nbO ov R.1.2))), (0, .ref mo), (1, .int (nI q))] → W p l e ({ frames := 1, cells := 0, slots := 0, locals := 26 } : Room) s m ([.ref mo, .int (nI q)] : List Value).toArray below meth c s.heap [] 0 0 (MQ below (va_Qv (fun σ' => ∃ Z' a8 a9 a10 a11 g', σ' mo = some (moE A Z') ∧ Z' 14 = (fnd1 T rc q R ov (N, ovr, ct)).1.length ∧ Z' 15 = (fnd1 T rc q R ov (N, ovr, ct)).2.1.toNat ∧ zfr [14, 15] Z Z' ∧ σ' (A 8) = some (gs_ia X 320 a8) ∧ σ' (A 9) = some (gs_ia X 320 a9) ∧ σ' (A 10) = some (gs_ia X 320 a10) ∧ σ' (A 11) = some (gs_ia X 320 a11) ∧ σ' (A 13) = some (gs_la X 49152 g') ∧ tpOK (T ++ (fnd1 T rc q R ov (N, ovr, ct)).1) a8 a9 a10 a11 ∧ bO g' (tcs (fnd1 T rc q R ov (N, ovr, ct)).1) ∧ T.length + (fnd1 T rc q R ov (N, ovr, ct)).1.length ≤ 300 ∧ frm [mo, A 8, A 9, A 10, A 11, A 13] σ σ') (gs_U X) (gs_A X)) ([.ref mo, .int (nI q)] : List Value).toArray s 0 0 (gs_A X)) (F0 m 82 ls []) := by
    intro ls hl
    refine lv_aload_n hx hb d_MO_find_82 rfl (lv_at hl 2 rfl) ?_
    refine gs_get (v := .int (nI (Z 15))) hx hb ht hown hK hG k_MO m0 15 (by decide) w_677 rfl d_MO_find_83 ?_
    refine gs_top (show nI (Z 15) = nI ovr.toNat from congrArg nI (show Z 15 = ovr.toNat from z15)) ?_
    refine lv_if_ne (tgt := 107) hx hb d_MO_find_86 (by decide) (fun c_86 => ?_) (fun c_86 => ?_)
    · have c_86 : ¬ ovr.toNat = 0 := gs_zn (by omega) c_86
      have ef : (fnd1 T rc q R ov (N, ovr, ct)) = (N, ovr, ct) := by
        unfold fnd1
        exact if_pos (by first | exact Or.inl (toN0' c_86) | exact Or.inr (Or.inl (of_decide_eq_true (bI_n0 c_90))) | exact Or.inr (Or.inr (of_decide_eq_true (by rw [← hbi]; exact bI_n0 c_104)))) 
      exact gs_vret hx hb hr hK hE hz hG hS hlocks (by first | decide | omega | (dsimp only [headSpec]; omega)) (by first | decide | omega | (dsimp only [headSpec]; omega)) (⟨Z, f8, f9, f10, f11, g3, m0, (by rw [ef]; exact z14), (by rw [ef]; exact z15), zfr.rf, m8, m9, m10, m11, m13, (by rw [ef]; exact hT), (by rw [ef]; exact hb3), (by rw [ef]; exact hTN), fr0⟩) d_MO_find_107
    · have c_86 : ovr.toNat = 0 := gs_z (by omega) c_86
      refine lv_iload_n hx hb d_MO_find_89 rfl (lv_at hl 0 rfl) ?_
      refine lv_if_ne (tgt := 107) hx hb d_MO_find_90 (by decide) (fun c_90 => ?_) (fun c_90 => ?_)
      · have ef : (fnd1 T rc q R ov (N, ovr, ct)) = (N, ovr, ct) := by
          unfold fnd1
          exact if_pos (by first | exact Or.inl (toN0' c_86) | exact Or.inr (Or.inl (of_decide_eq_true (bI_n0 c_90))) | exact Or.inr (Or.inr (of_decide_eq_true (by rw [← hbi]; exact bI_n0 c_104)))) 
        exact gs_vret hx hb hr hK hE hz hG hS hlocks (by first | decide | omega | (dsimp only [headSpec]; omega)) (by first | decide | omega | (dsimp only [headSpec]; omega)) (⟨Z, f8, f9, f10, f11, g3, m0, (by rw [ef]; exact z14), (by rw [ef]; exact z15), zfr.rf, m8, m9, m10, m11, m13, (by rw [ef]; exact hT), (by rw [ef]; exact hb3), (by rw [ef]; exact hTN), fr0⟩) d_MO_find_107
      · refine lv_aload_n hx hb d_MO_find_93 rfl (lv_at hl 2 rfl) ?_
        refine lv_aload_n hx hb d_MO_find_94 rfl (lv_at hl 2 rfl) ?_
        refine gs_get (v := .ref (A 18)) hx hb ht hown hK hG k_MO m0 18 (by decide) w_680 rfl d_MO_find_95 ?_
        refine lv_iload_n hx hb d_MO_find_98 rfl (lv_at hl 3 rfl) ?_
        refine gs_iald hx hb hK hG m18 (j := q) (by omega) (by omega) d_MO_find_99 ?_
        refine gs_top (show (f18 q) = (nI R.1.1) from hR.1) ?_
        refine lv_iload_n hx hb d_MO_find_100 rfl (lv_at hl 1 rfl) ?_
        refine gs_callVp (As := [.int (nI R.1.1), .int (nI (nbO ov R.1.2))]) (rest := []) ⟨hx, hb, hml, hown, hts⟩ hK hE hz hG hS (c_MO_there l X σ mo A Z g R.1.1 (nbO ov R.1.2) m0 m12 (by omega) hnb) ⟨rfl, rfl⟩ mV_MO_there w_864 m0 rfl rfl hl.1 rfl (Nat.le_of_ble_eq_true rfl) ⟨(by first | decide | omega | (dsimp only [headSpec]; omega)), (by first | decide | omega | (dsimp only [headSpec]; omega))⟩ ⟨(by first | decide | omega | (dsimp only [headSpec]; omega)), (by first | decide | omega | (dsimp only [headSpec]; omega))⟩ d_MO_find_101 (fun r_101 hp_101 => ?_)
        refine gs_top (show r_101 = (bI (gB g (262144 * R.1.1 + nbO ov R.1.2))) from hp_101) ?_
        refine lv_if_eq (tgt := 108) hx hb d_MO_find_104 (by decide) (fun c_104 => ?_) (fun c_104 => ?_)
        · refine lv_aload_n hx hb d_MO_find_108 rfl (lv_at hl 2 rfl) ?_
          refine lv_aload_n hx hb d_MO_find_109 rfl (lv_at hl 2 rfl) ?_
          refine gs_get (v := .int (nI (Z 7))) hx hb ht hown hK hG k_MO m0 7 (by decide) w_669 rfl d_MO_find_110 ?_
          refine gs_top (show nI (Z 7) = nI T.length from congrArg nI (show Z 7 = T.length from z7)) ?_
          refine lv_aload_n hx hb d_MO_find_113 rfl (lv_at hl 2 rfl) ?_
          refine gs_get (v := .int (nI (Z 14))) hx hb ht hown hK hG k_MO m0 14 (by decide) w_676 rfl d_MO_find_114 ?_
          refine gs_top (show nI (Z 14) = nI N.length from congrArg nI (show Z 14 = N.length from z14)) ?_
          refine lv_iadd hx hb d_MO_find_117 ?_
          refine gs_top (nI_add T.length N.length) ?_
          refine lv_sipush (v := nI 300) hx hb d_MO_find_118 (by decide) ?_
          refine lv_icmp_ne (tgt := 128) hx hb d_MO_find_121 (by decide) (fun c_121 => ?_) (fun c_121 => ?_)
          · have c_121 : ¬ (T.length + N.length) = 300 := mt (nI_eq (by omega) (by omega)).mpr c_121
            refine lv_iconst (v := nI 0) hx hb d_MO_find_128 (by decide) ?_
            refine gs_put hx hb ht hown hK hG hS k_MO m0 15 (by decide) w_677 rfl rfl rfl (Nat.le_of_ble_eq_true rfl) d_MO_find_129 (fun H locs hG hS => ?_)
            have hG : gs_H X (gs_up σ mo (moE A (va_up Z 15 0))) H := hG
            obtain ⟨σ_1, eσ_1⟩ : ∃ zq, zq = gs_up σ mo (moE A (va_up Z 15 0)) := ⟨_, rfl⟩
            rw [← eσ_1] at hG
            have hc_2 : σ_1 (A 8) = some (gs_ia X 320 f8) := by rw [eσ_1]; exact gs_ku (gs_ne m8 m0 (by simp)) m8
            have hc_3 : σ_1 (A 9) = some (gs_ia X 320 f9) := by rw [eσ_1]; exact gs_ku (gs_ne m9 m0 (by simp)) m9
            have hc_4 : σ_1 (A 10) = some (gs_ia X 320 f10) := by rw [eσ_1]; exact gs_ku (gs_ne m10 m0 (by simp)) m10
            have hc_5 : σ_1 (A 11) = some (gs_ia X 320 f11) := by rw [eσ_1]; exact gs_ku (gs_ne m11 m0 (by simp)) m11
            have hc_6 : σ_1 (A 12) = some (gs_la X 49152 g) := by rw [eσ_1]; exact gs_ku (gs_ne m12 m0 (by simp)) m12
            have hc_7 : σ_1 (A 18) = some (gs_ia X 25 f18) := by rw [eσ_1]; exact gs_ku (gs_ne m18 m0 (by simp)) m18
            have hc_8 : σ_1 (A 19) = some (gs_ia X 75 f19) := by rw [eσ_1]; exact gs_ku (gs_ne m19 m0 (by simp)) m19
            have hc_9 : σ_1 (A 24) = some (gs_ia X 8 f24) := by rw [eσ_1]; exact gs_ku (gs_ne m24 m0 (by simp)) m24
            have hc_10 : σ_1 (A 13) = some (gs_la X 49152 g3) := by rw [eσ_1]; exact gs_ku (gs_ne m13 m0 (by simp)) m13
            have hc_11 : σ_1 mo = some (moE A (va_up Z 15 0)) := by rw [eσ_1]; exact gs_us
            have fr_12 : frm [mo, A 8, A 9, A 10, A 11, A 13] σ σ_1 := by rw [eσ_1]; exact fr0.up (by simp)
            refine lv_aload_n hx hb d_MO_find_132 rfl (lv_at hl 2 rfl) ?_
            refine gs_get (v := .int (nI 0)) hx hb ht hown hK hG k_MO hc_11 15 (by decide) w_677 rfl d_MO_find_133 ?_
            refine lv_if_ne (tgt := 234) hx hb d_MO_find_136 (by decide) (fun c_136 => ?_) (fun c_136 => ?_)
            · exact absurd c_136 (by decide)
            · have c_136 : 0 = 0 := gs_z (by omega) c_136
              refine lv_aload_n hx hb d_MO_find_139 rfl (lv_at hl 2 rfl) ?_
              refine gs_get (v := .ref (A 8)) hx hb ht hown hK hG k_MO hc_11 8 (by decide) w_670 rfl d_MO_find_140 ?_
              refine lv_aload_n hx hb d_MO_find_143 rfl (lv_at hl 2 rfl) ?_
              refine gs_get (v := .int (nI (Z 7))) hx hb ht hown hK hG k_MO hc_11 7 (by decide) w_669 rfl d_MO_find_144 ?_
              refine gs_top (show nI (Z 7) = nI T.length from congrArg nI (show Z 7 = T.length from z7)) ?_
              refine lv_aload_n hx hb d_MO_find_147 rfl (lv_at hl 2 rfl) ?_
              refine gs_get (v := .int (nI (Z 14))) hx hb ht hown hK hG k_MO hc_11 14 (by decide) w_676 rfl d_MO_find_148 ?_
              refine gs_top (show nI (Z 14) = nI N.length from congrArg nI (show Z 14 = N.length from z14)) ?_
              refine lv_iadd hx hb d_MO_find_151 ?_
              refine gs_top (nI_add T.length N.length) ?_
              refine lv_aload_n hx hb d_MO_find_152 rfl (lv_at hl 2 rfl) ?_
              refine gs_get (v := .ref (A 18)) hx hb ht hown hK hG k_MO hc_11 18 (by decide) w_680 rfl d_MO_find_153 ?_
              refine lv_iload_n hx hb d_MO_find_156 rfl (lv_at hl 3 rfl) ?_
              refine gs_iald hx hb hK hG hc_7 (j := q) (by omega) (by omega) d_MO_find_157 ?_
              refine gs_top (show (f18 q) = (nI R.1.1) from hR.1) ?_
              refine gs_iast hx hb hK hG hS hc_2 (j := T.length + N.length) (by omega) (by omega) d_MO_find_158 (fun H locs hG hS => ?_)
              have hG : gs_H X (gs_up σ_1 (A 8) (gs_ia X 320 (upd f8 (T.length + N.length) (nI R.1.1)))) H := hG
              obtain ⟨σ_13, eσ_13⟩ : ∃ zq, zq = gs_up σ_1 (A 8) (gs_ia X 320 (upd f8 (T.length + N.length) (nI R.1.1))) := ⟨_, rfl⟩
              rw [← eσ_13] at hG
              have hc_14 : σ_13 (A 9) = some (gs_ia X 320 f9) := by rw [eσ_13]; exact gs_ku (Ne.symm (ndp hN 4 5 (by decide) rfl rfl)) hc_3
              have hc_15 : σ_13 (A 10) = some (gs_ia X 320 f10) := by rw [eσ_13]; exact gs_ku (Ne.symm (ndp hN 4 6 (by decide) rfl rfl)) hc_4
              have hc_16 : σ_13 (A 11) = some (gs_ia X 320 f11) := by rw [eσ_13]; exact gs_ku (Ne.symm (ndp hN 4 7 (by decide) rfl rfl)) hc_5
              have hc_17 : σ_13 (A 12) = some (gs_la X 49152 g) := by rw [eσ_13]; exact gs_ku (Ne.symm (ndp hN 4 8 (by decide) rfl rfl)) hc_6
              have hc_18 : σ_13 (A 18) = some (gs_ia X 25 f18) := by rw [eσ_13]; exact gs_ku (Ne.symm (ndp hN 4 10 (by decide) rfl rfl)) hc_7
              have hc_19 : σ_13 (A 19) = some (gs_ia X 75 f19) := by rw [eσ_13]; exact gs_ku (Ne.symm (ndp hN 4 11 (by decide) rfl rfl)) hc_8
              have hc_20 : σ_13 (A 24) = some (gs_ia X 8 f24) := by rw [eσ_13]; exact gs_ku (Ne.symm (ndp hN 4 16 (by decide) rfl rfl)) hc_9
              have hc_21 : σ_13 (A 13) = some (gs_la X 49152 g3) := by rw [eσ_13]; exact gs_ku (Ne.symm (ndp hN 4 9 (by decide) rfl rfl)) hc_10
              have hc_22 : σ_13 mo = some (moE A (va_up Z 15 0)) := by rw [eσ_13]; exact gs_ku (gs_ne hc_11 hc_2 (by simp)) hc_11
              have hc_23 : σ_13 (A 8) = some (gs_ia X 320 (upd f8 (T.length + N.length) (nI R.1.1))) := by rw [eσ_13]; exact gs_us
              have fr_24 : frm [mo, A 8, A 9, A 10, A 11, A 13] σ σ_13 := by rw [eσ_13]; exact fr_12.up (by simp)
              refine lv_aload_n hx hb d_MO_find_159 rfl (lv_at hl 2 rfl) ?_
              refine gs_get (v := .ref (A 9)) hx hb ht hown hK hG k_MO hc_22 9 (by decide) w_671 rfl d_MO_find_160 ?_
              refine lv_aload_n hx hb d_MO_find_163 rfl (lv_at hl 2 rfl) ?_
              refine gs_get (v := .int (nI (Z 7))) hx hb ht hown hK hG k_MO hc_22 7 (by decide) w_669 rfl d_MO_find_164 ?_
              refine gs_top (show nI (Z 7) = nI T.length from congrArg nI (show Z 7 = T.length from z7)) ?_
              refine lv_aload_n hx hb d_MO_find_167 rfl (lv_at hl 2 rfl) ?_
              refine gs_get (v := .int (nI (Z 14))) hx hb ht hown hK hG k_MO hc_22 14 (by decide) w_676 rfl d_MO_find_168 ?_
              refine gs_top (show nI (Z 14) = nI N.length from congrArg nI (show Z 14 = N.length from z14)) ?_
              refine lv_iadd hx hb d_MO_find_171 ?_
              refine gs_top (nI_add T.length N.length) ?_
              refine lv_iload_n hx hb d_MO_find_172 rfl (lv_at hl 1 rfl) ?_
              refine gs_iast hx hb hK hG hS hc_14 (j := T.length + N.length) (by omega) (by omega) d_MO_find_173 (fun H locs hG hS => ?_)
              have hG : gs_H X (gs_up σ_13 (A 9) (gs_ia X 320 (upd f9 (T.length + N.length) (nI (nbO ov R.1.2))))) H := hG
              obtain ⟨σ_25, eσ_25⟩ : ∃ zq, zq = gs_up σ_13 (A 9) (gs_ia X 320 (upd f9 (T.length + N.length) (nI (nbO ov R.1.2)))) := ⟨_, rfl⟩
              rw [← eσ_25] at hG
              have hc_26 : σ_25 (A 10) = some (gs_ia X 320 f10) := by rw [eσ_25]; exact gs_ku (Ne.symm (ndp hN 5 6 (by decide) rfl rfl)) hc_15
              have hc_27 : σ_25 (A 11) = some (gs_ia X 320 f11) := by rw [eσ_25]; exact gs_ku (Ne.symm (ndp hN 5 7 (by decide) rfl rfl)) hc_16
              have hc_28 : σ_25 (A 12) = some (gs_la X 49152 g) := by rw [eσ_25]; exact gs_ku (Ne.symm (ndp hN 5 8 (by decide) rfl rfl)) hc_17
              have hc_29 : σ_25 (A 18) = some (gs_ia X 25 f18) := by rw [eσ_25]; exact gs_ku (Ne.symm (ndp hN 5 10 (by decide) rfl rfl)) hc_18
              have hc_30 : σ_25 (A 19) = some (gs_ia X 75 f19) := by rw [eσ_25]; exact gs_ku (Ne.symm (ndp hN 5 11 (by decide) rfl rfl)) hc_19
              have hc_31 : σ_25 (A 24) = some (gs_ia X 8 f24) := by rw [eσ_25]; exact gs_ku (Ne.symm (ndp hN 5 16 (by decide) rfl rfl)) hc_20
              have hc_32 : σ_25 (A 13) = some (gs_la X 49152 g3) := by rw [eσ_25]; exact gs_ku (Ne.symm (ndp hN 5 9 (by decide) rfl rfl)) hc_21
              have hc_33 : σ_25 mo = some (moE A (va_up Z 15 0)) := by rw [eσ_25]; exact gs_ku (gs_ne hc_22 hc_14 (by simp)) hc_22
              have hc_34 : σ_25 (A 8) = some (gs_ia X 320 (upd f8 (T.length + N.length) (nI R.1.1))) := by rw [eσ_25]; exact gs_ku (ndp hN 4 5 (by decide) rfl rfl) hc_23
              have hc_35 : σ_25 (A 9) = some (gs_ia X 320 (upd f9 (T.length + N.length) (nI (nbO ov R.1.2)))) := by rw [eσ_25]; exact gs_us
              have fr_36 : frm [mo, A 8, A 9, A 10, A 11, A 13] σ σ_25 := by rw [eσ_25]; exact fr_24.up (by simp)
              refine lv_aload_n hx hb d_MO_find_174 rfl (lv_at hl 2 rfl) ?_
              refine gs_get (v := .ref (A 10)) hx hb ht hown hK hG k_MO hc_33 10 (by decide) w_672 rfl d_MO_find_175 ?_
              refine lv_aload_n hx hb d_MO_find_178 rfl (lv_at hl 2 rfl) ?_
              refine gs_get (v := .int (nI (Z 7))) hx hb ht hown hK hG k_MO hc_33 7 (by decide) w_669 rfl d_MO_find_179 ?_
              refine gs_top (show nI (Z 7) = nI T.length from congrArg nI (show Z 7 = T.length from z7)) ?_
              refine lv_aload_n hx hb d_MO_find_182 rfl (lv_at hl 2 rfl) ?_
              refine gs_get (v := .int (nI (Z 14))) hx hb ht hown hK hG k_MO hc_33 14 (by decide) w_676 rfl d_MO_find_183 ?_
              refine gs_top (show nI (Z 14) = nI N.length from congrArg nI (show Z 14 = N.length from z14)) ?_
              refine lv_iadd hx hb d_MO_find_186 ?_
              refine gs_top (nI_add T.length N.length) ?_
              refine lv_aload_n hx hb d_MO_find_187 rfl (lv_at hl 2 rfl) ?_
              refine gs_get (v := .int (nI (Z 26))) hx hb ht hown hK hG k_MO hc_33 26 (by decide) w_688 rfl d_MO_find_188 ?_
              refine gs_top (show nI (Z 26) = nI rc from congrArg nI (show Z 26 = rc from z26)) ?_
              refine lv_iconst (v := nI 1) hx hb d_MO_find_191 (by decide) ?_
              refine lv_iadd hx hb d_MO_find_192 ?_
              refine gs_top (nI_add rc 1) ?_
              refine gs_iast hx hb hK hG hS hc_26 (j := T.length + N.length) (by omega) (by omega) d_MO_find_193 (fun H locs hG hS => ?_)
              have hG : gs_H X (gs_up σ_25 (A 10) (gs_ia X 320 (upd f10 (T.length + N.length) (nI (rc + 1))))) H := hG
              obtain ⟨σ_37, eσ_37⟩ : ∃ zq, zq = gs_up σ_25 (A 10) (gs_ia X 320 (upd f10 (T.length + N.length) (nI (rc + 1)))) := ⟨_, rfl⟩
              rw [← eσ_37] at hG
              have hc_38 : σ_37 (A 11) = some (gs_ia X 320 f11) := by rw [eσ_37]; exact gs_ku (Ne.symm (ndp hN 6 7 (by decide) rfl rfl)) hc_27
              have hc_39 : σ_37 (A 12) = some (gs_la X 49152 g) := by rw [eσ_37]; exact gs_ku (Ne.symm (ndp hN 6 8 (by decide) rfl rfl)) hc_28
              have hc_40 : σ_37 (A 18) = some (gs_ia X 25 f18) := by rw [eσ_37]; exact gs_ku (Ne.symm (ndp hN 6 10 (by decide) rfl rfl)) hc_29
              have hc_41 : σ_37 (A 19) = some (gs_ia X 75 f19) := by rw [eσ_37]; exact gs_ku (Ne.symm (ndp hN 6 11 (by decide) rfl rfl)) hc_30
              have hc_42 : σ_37 (A 24) = some (gs_ia X 8 f24) := by rw [eσ_37]; exact gs_ku (Ne.symm (ndp hN 6 16 (by decide) rfl rfl)) hc_31
              have hc_43 : σ_37 (A 13) = some (gs_la X 49152 g3) := by rw [eσ_37]; exact gs_ku (Ne.symm (ndp hN 6 9 (by decide) rfl rfl)) hc_32
              have hc_44 : σ_37 mo = some (moE A (va_up Z 15 0)) := by rw [eσ_37]; exact gs_ku (gs_ne hc_33 hc_26 (by simp)) hc_33
              have hc_45 : σ_37 (A 8) = some (gs_ia X 320 (upd f8 (T.length + N.length) (nI R.1.1))) := by rw [eσ_37]; exact gs_ku (ndp hN 4 6 (by decide) rfl rfl) hc_34
              have hc_46 : σ_37 (A 9) = some (gs_ia X 320 (upd f9 (T.length + N.length) (nI (nbO ov R.1.2)))) := by rw [eσ_37]; exact gs_ku (ndp hN 5 6 (by decide) rfl rfl) hc_35
              have hc_47 : σ_37 (A 10) = some (gs_ia X 320 (upd f10 (T.length + N.length) (nI (rc + 1)))) := by rw [eσ_37]; exact gs_us
              have fr_48 : frm [mo, A 8, A 9, A 10, A 11, A 13] σ σ_37 := by rw [eσ_37]; exact fr_36.up (by simp)
              refine lv_aload_n hx hb d_MO_find_194 rfl (lv_at hl 2 rfl) ?_
              refine gs_get (v := .ref (A 11)) hx hb ht hown hK hG k_MO hc_44 11 (by decide) w_673 rfl d_MO_find_195 ?_
              refine lv_aload_n hx hb d_MO_find_198 rfl (lv_at hl 2 rfl) ?_
              refine gs_get (v := .int (nI (Z 7))) hx hb ht hown hK hG k_MO hc_44 7 (by decide) w_669 rfl d_MO_find_199 ?_
              refine gs_top (show nI (Z 7) = nI T.length from congrArg nI (show Z 7 = T.length from z7)) ?_
              refine lv_aload_n hx hb d_MO_find_202 rfl (lv_at hl 2 rfl) ?_
              refine gs_get (v := .int (nI (Z 14))) hx hb ht hown hK hG k_MO hc_44 14 (by decide) w_676 rfl d_MO_find_203 ?_
              refine gs_top (show nI (Z 14) = nI N.length from congrArg nI (show Z 14 = N.length from z14)) ?_
              refine lv_iadd hx hb d_MO_find_206 ?_
              refine gs_top (nI_add T.length N.length) ?_
              refine lv_iload_n hx hb d_MO_find_207 rfl (lv_at hl 3 rfl) ?_
              refine gs_iast hx hb hK hG hS hc_38 (j := T.length + N.length) (by omega) (by omega) d_MO_find_208 (fun H locs hG hS => ?_)
              have hG : gs_H X (gs_up σ_37 (A 11) (gs_ia X 320 (upd f11 (T.length + N.length) (nI q)))) H := hG
              obtain ⟨σ_49, eσ_49⟩ : ∃ zq, zq = gs_up σ_37 (A 11) (gs_ia X 320 (upd f11 (T.length + N.length) (nI q))) := ⟨_, rfl⟩
              rw [← eσ_49] at hG
              have hc_50 : σ_49 (A 12) = some (gs_la X 49152 g) := by rw [eσ_49]; exact gs_ku (Ne.symm (ndp hN 7 8 (by decide) rfl rfl)) hc_39
              have hc_51 : σ_49 (A 18) = some (gs_ia X 25 f18) := by rw [eσ_49]; exact gs_ku (Ne.symm (ndp hN 7 10 (by decide) rfl rfl)) hc_40
              have hc_52 : σ_49 (A 19) = some (gs_ia X 75 f19) := by rw [eσ_49]; exact gs_ku (Ne.symm (ndp hN 7 11 (by decide) rfl rfl)) hc_41
              have hc_53 : σ_49 (A 24) = some (gs_ia X 8 f24) := by rw [eσ_49]; exact gs_ku (Ne.symm (ndp hN 7 16 (by decide) rfl rfl)) hc_42
              have hc_54 : σ_49 (A 13) = some (gs_la X 49152 g3) := by rw [eσ_49]; exact gs_ku (Ne.symm (ndp hN 7 9 (by decide) rfl rfl)) hc_43
              have hc_55 : σ_49 mo = some (moE A (va_up Z 15 0)) := by rw [eσ_49]; exact gs_ku (gs_ne hc_44 hc_38 (by simp)) hc_44
              have hc_56 : σ_49 (A 8) = some (gs_ia X 320 (upd f8 (T.length + N.length) (nI R.1.1))) := by rw [eσ_49]; exact gs_ku (ndp hN 4 7 (by decide) rfl rfl) hc_45
              have hc_57 : σ_49 (A 9) = some (gs_ia X 320 (upd f9 (T.length + N.length) (nI (nbO ov R.1.2)))) := by rw [eσ_49]; exact gs_ku (ndp hN 5 7 (by decide) rfl rfl) hc_46
              have hc_58 : σ_49 (A 10) = some (gs_ia X 320 (upd f10 (T.length + N.length) (nI (rc + 1)))) := by rw [eσ_49]; exact gs_ku (ndp hN 6 7 (by decide) rfl rfl) hc_47
              have hc_59 : σ_49 (A 11) = some (gs_ia X 320 (upd f11 (T.length + N.length) (nI q))) := by rw [eσ_49]; exact gs_us
              have fr_60 : frm [mo, A 8, A 9, A 10, A 11, A 13] σ σ_49 := by rw [eσ_49]; exact fr_48.up (by simp)
              refine lv_aload_n hx hb d_MO_find_209 rfl (lv_at hl 2 rfl) ?_
              refine gs_get (v := .ref (A 13)) hx hb ht hown hK hG k_MO hc_55 13 (by decide) w_675 rfl d_MO_find_210 ?_
              refine lv_aload_n hx hb d_MO_find_213 rfl (lv_at hl 2 rfl) ?_
              refine gs_get (v := .ref (A 18)) hx hb ht hown hK hG k_MO hc_55 18 (by decide) w_680 rfl d_MO_find_214 ?_
              refine lv_iload_n hx hb d_MO_find_217 rfl (lv_at hl 3 rfl) ?_
              refine gs_iald hx hb hK hG hc_51 (j := q) (by omega) (by omega) d_MO_find_218 ?_
              refine gs_top (show (f18 q) = (nI R.1.1) from hR.1) ?_
              refine lv_iload_n hx hb d_MO_find_219 rfl (lv_at hl 1 rfl) ?_
              refine lv_iconst (v := nI 1) hx hb d_MO_find_220 (by decide) ?_
              refine gs_callSv (As := [.ref (A 13), .int (nI R.1.1), .int (nI (nbO ov R.1.2)), .int (nI 1)]) (rest := []) ⟨hx, hb, hml, hown, hts⟩ hK hE hz hG hS (c_MO_setb l X σ_49 (A 13) R.1.1 (nbO ov R.1.2) g3 true hc_54 (by omega) hnb) mS_MO_setb w_769 rfl hl.1 rfl (Nat.le_of_ble_eq_true rfl) ⟨(by first | decide | omega | (dsimp only [headSpec]; omega)), (by first | decide | omega | (dsimp only [headSpec]; omega))⟩ ⟨(by first | decide | omega | (dsimp only [headSpec]; omega)), (by first | decide | omega | (dsimp only [headSpec]; omega))⟩ d_MO_find_221 (fun σ_221 H locs hp_221 hG hS => ?_)
              rw [hp_221] at hG
              have hG : gs_H X (gs_up σ_49 (A 13) (gs_la X 49152 (stB g3 (262144 * R.1.1 + nbO ov R.1.2) true))) H := hG
              obtain ⟨σ_61, eσ_61⟩ : ∃ zq, zq = gs_up σ_49 (A 13) (gs_la X 49152 (stB g3 (262144 * R.1.1 + nbO ov R.1.2) true)) := ⟨_, rfl⟩
              rw [← eσ_61] at hG
              have hc_62 : σ_61 (A 12) = some (gs_la X 49152 g) := by rw [eσ_61]; exact gs_ku (ndp hN 8 9 (by decide) rfl rfl) hc_50
              have hc_63 : σ_61 (A 18) = some (gs_ia X 25 f18) := by rw [eσ_61]; exact gs_ku (Ne.symm (ndp hN 9 10 (by decide) rfl rfl)) hc_51
              have hc_64 : σ_61 (A 19) = some (gs_ia X 75 f19) := by rw [eσ_61]; exact gs_ku (Ne.symm (ndp hN 9 11 (by decide) rfl rfl)) hc_52
              have hc_65 : σ_61 (A 24) = some (gs_ia X 8 f24) := by rw [eσ_61]; exact gs_ku (Ne.symm (ndp hN 9 16 (by decide) rfl rfl)) hc_53
              have hc_66 : σ_61 mo = some (moE A (va_up Z 15 0)) := by rw [eσ_61]; exact gs_ku (gs_ne hc_55 hc_54 (by simp)) hc_55
              have hc_67 : σ_61 (A 8) = some (gs_ia X 320 (upd f8 (T.length + N.length) (nI R.1.1))) := by rw [eσ_61]; exact gs_ku (ndp hN 4 9 (by decide) rfl rfl) hc_56
              have hc_68 : σ_61 (A 9) = some (gs_ia X 320 (upd f9 (T.length + N.length) (nI (nbO ov R.1.2)))) := by rw [eσ_61]; exact gs_ku (ndp hN 5 9 (by decide) rfl rfl) hc_57
              have hc_69 : σ_61 (A 10) = some (gs_ia X 320 (upd f10 (T.length + N.length) (nI (rc + 1)))) := by rw [eσ_61]; exact gs_ku (ndp hN 6 9 (by decide) rfl rfl) hc_58
              have hc_70 : σ_61 (A 11) = some (gs_ia X 320 (upd f11 (T.length + N.length) (nI q))) := by rw [eσ_61]; exact gs_ku (ndp hN 7 9 (by decide) rfl rfl) hc_59
              have hc_71 : σ_61 (A 13) = some (gs_la X 49152 (stB g3 (262144 * R.1.1 + nbO ov R.1.2) true)) := by rw [eσ_61]; exact gs_us
              have fr_72 : frm [mo, A 8, A 9, A 10, A 11, A 13] σ σ_61 := by rw [eσ_61]; exact fr_60.up (by simp)
              refine lv_aload_n hx hb d_MO_find_224 rfl (lv_at hl 2 rfl) ?_
              refine lv_dup hx hb d_MO_find_225 rfl ?_
              refine gs_get (v := .int (nI (Z 14))) hx hb ht hown hK hG k_MO hc_66 14 (by decide) w_676 rfl d_MO_find_226 ?_
              refine gs_top (show nI (Z 14) = nI N.length from congrArg nI (show Z 14 = N.length from z14)) ?_
              refine lv_iconst (v := nI 1) hx hb d_MO_find_229 (by decide) ?_
              refine lv_iadd hx hb d_MO_find_230 ?_
              refine gs_top (nI_add N.length 1) ?_
              refine gs_put hx hb ht hown hK hG hS k_MO hc_66 14 (by decide) w_676 rfl rfl rfl (Nat.le_of_ble_eq_true rfl) d_MO_find_231 (fun H locs hG hS => ?_)
              have hG : gs_H X (gs_up σ_61 mo (moE A (va_up (va_up Z 15 0) 14 (N.length + 1)))) H := hG
              obtain ⟨σ_73, eσ_73⟩ : ∃ zq, zq = gs_up σ_61 mo (moE A (va_up (va_up Z 15 0) 14 (N.length + 1))) := ⟨_, rfl⟩
              rw [← eσ_73] at hG
              have hc_74 : σ_73 (A 12) = some (gs_la X 49152 g) := by rw [eσ_73]; exact gs_ku (gs_ne hc_62 hc_66 (by simp)) hc_62
              have hc_75 : σ_73 (A 18) = some (gs_ia X 25 f18) := by rw [eσ_73]; exact gs_ku (gs_ne hc_63 hc_66 (by simp)) hc_63
              have hc_76 : σ_73 (A 19) = some (gs_ia X 75 f19) := by rw [eσ_73]; exact gs_ku (gs_ne hc_64 hc_66 (by simp)) hc_64
              have hc_77 : σ_73 (A 24) = some (gs_ia X 8 f24) := by rw [eσ_73]; exact gs_ku (gs_ne hc_65 hc_66 (by simp)) hc_65
              have hc_78 : σ_73 (A 8) = some (gs_ia X 320 (upd f8 (T.length + N.length) (nI R.1.1))) := by rw [eσ_73]; exact gs_ku (gs_ne hc_67 hc_66 (by simp)) hc_67
              have hc_79 : σ_73 (A 9) = some (gs_ia X 320 (upd f9 (T.length + N.length) (nI (nbO ov R.1.2)))) := by rw [eσ_73]; exact gs_ku (gs_ne hc_68 hc_66 (by simp)) hc_68
              have hc_80 : σ_73 (A 10) = some (gs_ia X 320 (upd f10 (T.length + N.length) (nI (rc + 1)))) := by rw [eσ_73]; exact gs_ku (gs_ne hc_69 hc_66 (by simp)) hc_69
              have hc_81 : σ_73 (A 11) = some (gs_ia X 320 (upd f11 (T.length + N.length) (nI q))) := by rw [eσ_73]; exact gs_ku (gs_ne hc_70 hc_66 (by simp)) hc_70
              have hc_82 : σ_73 (A 13) = some (gs_la X 49152 (stB g3 (262144 * R.1.1 + nbO ov R.1.2) true)) := by rw [eσ_73]; exact gs_ku (gs_ne hc_71 hc_66 (by simp)) hc_71
              have hc_83 : σ_73 mo = some (moE A (va_up (va_up Z 15 0) 14 (N.length + 1))) := by rw [eσ_73]; exact gs_us
              have fr_84 : frm [mo, A 8, A 9, A 10, A 11, A 13] σ σ_73 := by rw [eσ_73]; exact fr_72.up (by simp)
              have hno : ¬ (ovr = true ∨ 262144 * R.1.1 + nbO ov R.1.2 ∈ tcs N ∨ 262144 * R.1.1 + nbO ov R.1.2 ∈ tcs T) := by
                intro z
                rcases z with z | z | z
                · rw [toN0 c_86] at z; cases z
                · exact absurd (bI_0 c_90) (by rw [decide_eq_true z]; decide)
                · exact absurd ((hbi _).symm.trans (bI_0 c_104)) (by rw [decide_eq_true z]; decide)
              have ef : (fnd1 T rc q R ov (N, ovr, ct)) = (N ++ [(R.1.1, nbO ov R.1.2, rc + 1, nI q)], ovr, ct) := by
                unfold fnd1
                rw [if_neg hno]
                exact if_neg c_121
              have htp := tpOK_snoc (x := (R.1.1, nbO ov R.1.2, rc + 1, nI q)) hT
              rw [List.length_append] at htp
              exact gs_vret hx hb hr hK hE hz hG hS hlocks (by first | decide | omega | (dsimp only [headSpec]; omega)) (by first | decide | omega | (dsimp only [headSpec]; omega)) (⟨(va_up (va_up Z 15 0) 14 (N.length + 1)), _, _, _, _, _, hc_83, (by rw [ef]; show N.length + 1 = _; simp), (by rw [ef, toN0 c_86]; rfl), (zfr.rf.up (by simp)).up (by simp), hc_78, hc_79, hc_80, hc_81, hc_82, (by rw [ef, ← List.append_assoc]; exact htp), (by rw [ef, tcs_snoc]; exact bO_snoc hb3), (by rw [ef]; simp; omega), fr_84⟩) d_MO_find_234
          · have c_121 : (T.length + N.length) = 300 :=  (nI_eq (by omega) (by omega)).mp c_121
            refine lv_iconst (v := nI 1) hx hb d_MO_find_124 (by decide) ?_
            refine lv_goto (tgt := 129) hx hb d_MO_find_125 (by decide) ?_
            refine gs_put hx hb ht hown hK hG hS k_MO m0 15 (by decide) w_677 rfl rfl rfl (Nat.le_of_ble_eq_true rfl) d_MO_find_129 (fun H locs hG hS => ?_)
            have hG : gs_H X (gs_up σ mo (moE A (va_up Z 15 1))) H := hG
            obtain ⟨σ_85, eσ_85⟩ : ∃ zq, zq = gs_up σ mo (moE A (va_up Z 15 1)) := ⟨_, rfl⟩
            rw [← eσ_85] at hG
            have hc_86 : σ_85 (A 8) = some (gs_ia X 320 f8) := by rw [eσ_85]; exact gs_ku (gs_ne m8 m0 (by simp)) m8
            have hc_87 : σ_85 (A 9) = some (gs_ia X 320 f9) := by rw [eσ_85]; exact gs_ku (gs_ne m9 m0 (by simp)) m9
            have hc_88 : σ_85 (A 10) = some (gs_ia X 320 f10) := by rw [eσ_85]; exact gs_ku (gs_ne m10 m0 (by simp)) m10
            have hc_89 : σ_85 (A 11) = some (gs_ia X 320 f11) := by rw [eσ_85]; exact gs_ku (gs_ne m11 m0 (by simp)) m11
            have hc_90 : σ_85 (A 12) = some (gs_la X 49152 g) := by rw [eσ_85]; exact gs_ku (gs_ne m12 m0 (by simp)) m12
            have hc_91 : σ_85 (A 18) = some (gs_ia X 25 f18) := by rw [eσ_85]; exact gs_ku (gs_ne m18 m0 (by simp)) m18
            have hc_92 : σ_85 (A 19) = some (gs_ia X 75 f19) := by rw [eσ_85]; exact gs_ku (gs_ne m19 m0 (by simp)) m19
            have hc_93 : σ_85 (A 24) = some (gs_ia X 8 f24) := by rw [eσ_85]; exact gs_ku (gs_ne m24 m0 (by simp)) m24
            have hc_94 : σ_85 (A 13) = some (gs_la X 49152 g3) := by rw [eσ_85]; exact gs_ku (gs_ne m13 m0 (by simp)) m13
            have hc_95 : σ_85 mo = some (moE A (va_up Z 15 1)) := by rw [eσ_85]; exact gs_us
            have fr_96 : frm [mo, A 8, A 9, A 10, A 11, A 13] σ σ_85 := by rw [eσ_85]; exact fr0.up (by simp)
            refine lv_aload_n hx hb d_MO_find_132 rfl (lv_at hl 2 rfl) ?_
            refine gs_get (v := .int (nI 1)) hx hb ht hown hK hG k_MO hc_95 15 (by decide) w_677 rfl d_MO_find_133 ?_
            refine lv_if_ne (tgt := 234) hx hb d_MO_find_136 (by decide) (fun c_136 => ?_) (fun c_136 => ?_)
            · have c_136 : ¬ 1 = 0 := gs_zn (by omega) c_136
              have hno : ¬ (ovr = true ∨ 262144 * R.1.1 + nbO ov R.1.2 ∈ tcs N ∨ 262144 * R.1.1 + nbO ov R.1.2 ∈ tcs T) := by
                intro z
                rcases z with z | z | z
                · rw [toN0 c_86] at z; cases z
                · exact absurd (bI_0 c_90) (by rw [decide_eq_true z]; decide)
                · exact absurd ((hbi _).symm.trans (bI_0 c_104)) (by rw [decide_eq_true z]; decide)
              have ef : (fnd1 T rc q R ov (N, ovr, ct)) = (N, true, ct) := by
                unfold fnd1
                rw [if_neg hno]
                exact if_pos c_121
              exact gs_vret hx hb hr hK hE hz hG hS hlocks (by first | decide | omega | (dsimp only [headSpec]; omega)) (by first | decide | omega | (dsimp only [headSpec]; omega)) (⟨(va_up Z 15 1), f8, f9, f10, f11, g3, hc_95, (by rw [ef]; exact z14), (by rw [ef]; rfl), zfr.rf.up (by simp), hc_86, hc_87, hc_88, hc_89, hc_94, (by rw [ef]; exact hT), (by rw [ef]; exact hb3), (by rw [ef]; exact hTN), fr_96⟩) d_MO_find_234
            · exact absurd c_136 (by decide)
        · have ef : (fnd1 T rc q R ov (N, ovr, ct)) = (N, ovr, ct) := by
            unfold fnd1
            exact if_pos (by first | exact Or.inl (toN0' c_86) | exact Or.inr (Or.inl (of_decide_eq_true (bI_n0 c_90))) | exact Or.inr (Or.inr (of_decide_eq_true (by rw [← hbi]; exact bI_n0 c_104)))) 
          exact gs_vret hx hb hr hK hE hz hG hS hlocks (by first | decide | omega | (dsimp only [headSpec]; omega)) (by first | decide | omega | (dsimp only [headSpec]; omega)) (⟨Z, f8, f9, f10, f11, g3, m0, (by rw [ef]; exact z14), (by rw [ef]; exact z15), zfr.rf, m8, m9, m10, m11, m13, (by rw [ef]; exact hT), (by rw [ef]; exact hb3), (by rw [ef]; exact hTN), fr0⟩) d_MO_find_107
  refine lv_aload_n hx hb d_MO_find_0 rfl (lv_at hl 0 rfl) ?_
  refine lv_aload_n hx hb d_MO_find_1 rfl (lv_at hl 0 rfl) ?_
  refine gs_get (v := .ref (A 19)) hx hb ht hown hK hG k_MO m0 19 (by decide) w_681 rfl d_MO_find_2 ?_
  refine lv_iconst (v := nI 3) hx hb d_MO_find_5 (by decide) ?_
  refine lv_iload_n hx hb d_MO_find_6 rfl (lv_at hl 1 rfl) ?_
  refine lv_imul hx hb d_MO_find_7 ?_
  refine gs_top (pk_mul 3 q) ?_
  refine gs_iald hx hb hK hG m19 (j := 3 * q) (by omega) (by omega) d_MO_find_8 ?_
  refine gs_top (show (f19 (3 * q)) = (nI (t3 R.1.2 0)) from hR.2.1 0 (by decide)) ?_
  refine gs_callVp (As := [.int (nI (t3 R.1.2 0))]) (rest := []) ⟨hx, hb, hml, hown, hts⟩ hK hE hz hG hS (c_MO_of l X σ mo A Z f24 ov (t3 R.1.2 0) m0 m24 hv (hRB.2.1 0)) ⟨rfl, rfl⟩ mV_MO_of w_852 m0 rfl rfl hl.1 rfl (Nat.le_of_ble_eq_true rfl) ⟨(by first | decide | omega | (dsimp only [headSpec]; omega)), (by first | decide | omega | (dsimp only [headSpec]; omega))⟩ ⟨(by first | decide | omega | (dsimp only [headSpec]; omega)), (by first | decide | omega | (dsimp only [headSpec]; omega))⟩ d_MO_find_9 (fun r_9 hp_9 => ?_)
  refine gs_top (hp_9.trans hg0.1) ?_
  refine lv_aload_n hx hb d_MO_find_12 rfl (lv_at hl 0 rfl) ?_
  refine lv_aload_n hx hb d_MO_find_13 rfl (lv_at hl 0 rfl) ?_
  refine gs_get (v := .ref (A 19)) hx hb ht hown hK hG k_MO m0 19 (by decide) w_681 rfl d_MO_find_14 ?_
  refine lv_iconst (v := nI 3) hx hb d_MO_find_17 (by decide) ?_
  refine lv_iload_n hx hb d_MO_find_18 rfl (lv_at hl 1 rfl) ?_
  refine lv_imul hx hb d_MO_find_19 ?_
  refine gs_top (pk_mul 3 q) ?_
  refine lv_iconst (v := nI 1) hx hb d_MO_find_20 (by decide) ?_
  refine lv_iadd hx hb d_MO_find_21 ?_
  refine gs_top (nI_add (3 * q) 1) ?_
  refine gs_iald hx hb hK hG m19 (j := (3 * q) + 1) (by omega) (by omega) d_MO_find_22 ?_
  refine gs_top (show (f19 ((3 * q) + 1)) = (nI (t3 R.1.2 1)) from hR.2.1 1 (by decide)) ?_
  refine gs_callVp (As := [.int (nI (t3 R.1.2 1))]) (rest := [.int (nI (gv ov (t3 R.1.2 0)))]) ⟨hx, hb, hml, hown, hts⟩ hK hE hz hG hS (c_MO_of l X σ mo A Z f24 ov (t3 R.1.2 1) m0 m24 hv (hRB.2.1 1)) ⟨rfl, rfl⟩ mV_MO_of w_852 m0 rfl rfl hl.1 rfl (Nat.le_of_ble_eq_true rfl) ⟨(by first | decide | omega | (dsimp only [headSpec]; omega)), (by first | decide | omega | (dsimp only [headSpec]; omega))⟩ ⟨(by first | decide | omega | (dsimp only [headSpec]; omega)), (by first | decide | omega | (dsimp only [headSpec]; omega))⟩ d_MO_find_23 (fun r_23 hp_23 => ?_)
  refine gs_top (hp_23.trans hg1.1) ?_
  refine lv_aload_n hx hb d_MO_find_26 rfl (lv_at hl 0 rfl) ?_
  refine lv_aload_n hx hb d_MO_find_27 rfl (lv_at hl 0 rfl) ?_
  refine gs_get (v := .ref (A 19)) hx hb ht hown hK hG k_MO m0 19 (by decide) w_681 rfl d_MO_find_28 ?_
  refine lv_iconst (v := nI 3) hx hb d_MO_find_31 (by decide) ?_
  refine lv_iload_n hx hb d_MO_find_32 rfl (lv_at hl 1 rfl) ?_
  refine lv_imul hx hb d_MO_find_33 ?_
  refine gs_top (pk_mul 3 q) ?_
  refine lv_iconst (v := nI 2) hx hb d_MO_find_34 (by decide) ?_
  refine lv_iadd hx hb d_MO_find_35 ?_
  refine gs_top (nI_add (3 * q) 2) ?_
  refine gs_iald hx hb hK hG m19 (j := (3 * q) + 2) (by omega) (by omega) d_MO_find_36 ?_
  refine gs_top (show (f19 ((3 * q) + 2)) = (nI (t3 R.1.2 2)) from hR.2.1 2 (by decide)) ?_
  refine gs_callVp (As := [.int (nI (t3 R.1.2 2))]) (rest := [.int (nI (gv ov (t3 R.1.2 1))), .int (nI (gv ov (t3 R.1.2 0)))]) ⟨hx, hb, hml, hown, hts⟩ hK hE hz hG hS (c_MO_of l X σ mo A Z f24 ov (t3 R.1.2 2) m0 m24 hv (hRB.2.1 2)) ⟨rfl, rfl⟩ mV_MO_of w_852 m0 rfl rfl hl.1 rfl (Nat.le_of_ble_eq_true rfl) ⟨(by first | decide | omega | (dsimp only [headSpec]; omega)), (by first | decide | omega | (dsimp only [headSpec]; omega))⟩ ⟨(by first | decide | omega | (dsimp only [headSpec]; omega)), (by first | decide | omega | (dsimp only [headSpec]; omega))⟩ d_MO_find_37 (fun r_37 hp_37 => ?_)
  refine gs_top (hp_37.trans hg2.1) ?_
  refine gs_callSp (As := [.int (nI (gv ov (t3 R.1.2 0))), .int (nI (gv ov (t3 R.1.2 1))), .int (nI (gv ov (t3 R.1.2 2)))]) (rest := []) ⟨hx, hb, hml, hown, hts⟩ hK hE hz hG hS (c_MO_number l X σ (gv ov (t3 R.1.2 0)) (gv ov (t3 R.1.2 1)) (gv ov (t3 R.1.2 2))) ⟨rfl, rfl⟩ mS_MO_number w_781 rfl hl.1 rfl (Nat.le_of_ble_eq_true rfl) ⟨(by first | decide | omega | (dsimp only [headSpec]; omega)), (by first | decide | omega | (dsimp only [headSpec]; omega))⟩ ⟨(by first | decide | omega | (dsimp only [headSpec]; omega)), (by first | decide | omega | (dsimp only [headSpec]; omega))⟩ d_MO_find_40 (fun r_40 hp_40 => ?_)
  refine gs_top (show r_40 = (nI (nbO ov R.1.2)) from hp_40) ?_
  refine lv_istore_n (lv' := [(2, .int (nI (nbO ov R.1.2))), (0, .ref mo), (1, .int (nI q))]) hx hb d_MO_find_43 rfl hl (by decide) rfl (fun ls hl => ?_)
  refine lv_aload_n hx hb d_MO_find_44 rfl (lv_at hl 1 rfl) ?_
  refine gs_get (v := .ref (A 13)) hx hb ht hown hK hG k_MO m0 13 (by decide) w_675 rfl d_MO_find_45 ?_
  refine lv_sipush (v := nI 4096) hx hb d_MO_find_48 (by decide) ?_
  refine lv_aload_n hx hb d_MO_find_51 rfl (lv_at hl 1 rfl) ?_
  refine gs_get (v := .ref (A 18)) hx hb ht hown hK hG k_MO m0 18 (by decide) w_680 rfl d_MO_find_52 ?_
  refine lv_iload_n hx hb d_MO_find_55 rfl (lv_at hl 2 rfl) ?_
  refine gs_iald hx hb hK hG m18 (j := q) (by omega) (by omega) d_MO_find_56 ?_
  refine gs_top (show (f18 q) = (nI R.1.1) from hR.1) ?_
  refine lv_imul hx hb d_MO_find_57 ?_
  refine gs_top (pk_mul 4096 R.1.1) ?_
  refine lv_iload_n hx hb d_MO_find_58 rfl (lv_at hl 0 rfl) ?_
  refine lv_bipush (v := nI 64) hx hb d_MO_find_59 (by decide) ?_
  refine lv_idiv hx hb d_MO_find_61 (by decide) ?_
  refine gs_top (pk_div (a := (nbO ov R.1.2)) (d := 64) (by omega) (by omega) (by omega)) ?_
  refine lv_iadd hx hb d_MO_find_62 ?_
  refine gs_top (nI_add (4096 * R.1.1) ((nbO ov R.1.2) / 64)) ?_
  refine gs_lald hx hb hK hG m13 (j := (4096 * R.1.1) + ((nbO ov R.1.2) / 64)) (by omega) (by omega) d_MO_find_63 ?_
  refine lv_iload_n hx hb d_MO_find_64 rfl (lv_at hl 0 rfl) ?_
  refine lv_bipush (v := nI 64) hx hb d_MO_find_65 (by decide) ?_
  refine lv_irem hx hb d_MO_find_67 (by decide) ?_
  refine gs_top (pk_rem (a := (nbO ov R.1.2)) (d := 64) (by omega) (by omega) (by omega)) ?_
  refine lv_lshr hx hb d_MO_find_68 rfl ?_
  refine lv_lconst (v := 1) hx hb d_MO_find_69 rfl ?_
  refine lv_land hx hb d_MO_find_70 ?_
  refine lv_lconst (v := 1) hx hb d_MO_find_71 rfl ?_
  refine W.lcmp hx hb d_MO_find_72 ?_
  refine lv_if_ne (tgt := 80) hx hb d_MO_find_73 (by decide) (fun c_73 => ?_) (fun c_73 => ?_)
  · refine lv_iconst (v := nI 0) hx hb d_MO_find_80 (by decide) ?_
    refine lv_istore_n (lv' := [(3, .int (nI 0)), (2, .int (nI (nbO ov R.1.2))), (0, .ref mo), (1, .int (nI q))]) hx hb d_MO_find_81 rfl hl (by decide) rfl (fun ls hl => ?_)
    exact k82 ls (by rw [show bI (decide (262144 * R.1.1 + nbO ov R.1.2 ∈ tcs N)) = nI 0 from by (rw [decide_eq_false (fun z => c_73 ((bit_cmp hb3 hnb).mpr z))]; rfl)]; exact (lv_sub hl [0, 1, 2, 3] rfl))
  · refine lv_iconst (v := nI 1) hx hb d_MO_find_76 (by decide) ?_
    refine lv_goto (tgt := 81) hx hb d_MO_find_77 (by decide) ?_
    refine lv_istore_n (lv' := [(3, .int (nI 1)), (2, .int (nI (nbO ov R.1.2))), (0, .ref mo), (1, .int (nI q))]) hx hb d_MO_find_81 rfl hl (by decide) rfl (fun ls hl => ?_)
    exact k82 ls (by rw [show bI (decide (262144 * R.1.1 + nbO ov R.1.2 ∈ tcs N)) = nI 1 from by (rw [decide_eq_true ((bit_cmp hb3 hnb).mp c_73)]; rfl)]; exact (lv_sub hl [0, 1, 2, 3] rfl))
set_option maxHeartbeats 4000000 in
set_option maxRecDepth 100000 in
/-- the reference: advances -/
theorem c_MO_advances (l : Launch) (X : gs_X) (σ : gs_St) (mo : Nat) (A Z : Nat → Nat) (f2 f8 f9 f10 f11 f18 f19 f20 f21 f22 f23 f24 f28 f29 f30 : Nat → Int32) (T : List MT) (nr : Nat) (cw : Nat → Nat) (q p9 d i0 : Nat) (R : MR) (x : MI) (ov : OV)
    (m0 : σ mo = some (moE A Z)) (hN : (aL A).Nodup) (m2 : σ (A 2) = some (gs_ia X 12 f2)) (m8 : σ (A 8) = some (gs_ia X 320 f8)) (m9 : σ (A 9) = some (gs_ia X 320 f9)) (m22 : σ (A 22) = some (gs_ia X 150 f22)) (m23 : σ (A 23) = some (gs_ia X 450 f23)) (m24 : σ (A 24) = some (gs_ia X 8 f24)) (m28 : σ (A 28) = some (gs_ia X 3 f28)) (m29 : σ (A 29) = some (gs_ia X 3 f29)) (m30 : σ (A 30) = some (gs_ia X 3 f30)) (z7 : Z 7 = T.length) (hT : tpOK T f8 f9 f10 f11) (hTB : tpB T) (hcw : ∀ r, r < nr → f2 r = nI (cw r) ∧ 1 ≤ cw r ∧ cw r ≤ 3) (hnr : nr ≤ 12) (hR : rAt f18 f19 f20 f21 f22 f23 q R) (hRB : mrB nr R) (hq : q < 25) (hp9 : R.2[p9]? = some x) (hx0 : x.1 = 0) (hd : d < 3) (h28 : f28 d = nI (6 * q + p9)) (h29 : f29 d = nI i0) (hi0 : i0 ≤ T.length) (hv : vO f24 ov) : gs_Mi l X y_MO_advances b_MO_advances 5 (some .boolean) ({ frames := 2, cells := 0, slots := 0, locals := 50 }) σ [.ref mo, .int (nI d)] (fun r σ' => ∃ i' a24 a29 a30, i0 ≤ i' ∧ i' ≤ T.length ∧ (∀ k t, i0 ≤ k → k < i' → T[k]? = some t → mtc cw x t ov = none) ∧ σ' (A 24) = some (gs_ia X 8 a24) ∧ σ' (A 29) = some (gs_ia X 3 a29) ∧ σ' (A 30) = some (gs_ia X 3 a30) ∧ (∀ k, k ≠ d → a29 k = f29 k) ∧ (∀ k, k ≠ d → a30 k = f30 k) ∧ frm [A 24, A 29, A 30] σ σ' ∧ ((i' = T.length ∧ vO a24 ov ∧ r = nI 0) ∨ ∃ t p, T[i']? = some t ∧ mtc cw x t ov = some p ∧ vO a24 p.1 ∧ a30 d = nI p.2 ∧ a29 d = nI (i' + 1) ∧ r = nI 1)) := by
  refine Met.ofW (cc := b_MO_advances) (maxL := 5) (ret := (some .boolean)) (by decide) rfl ?_
  intro p e s m args below meth c s₁ B₀ hml hv
  obtain ⟨rfl, hK, hG, hz, hE⟩ := hv
  have hx := B₀.exec
  have hb := B₀.bytes
  have hr := B₀.returns
  have hts := atoms_spec (ws := gs_ws y_MO_advances b_MO_advances 5 (some .boolean)) B₀.pre
  have ht : ∀ w ∈ gs_w, w.before _ s = true := fun w h => hts w (List.mem_cons_of_mem _ h)
  have hown : s.vm.findClass R_MO = some m.cls := findClass_of_methodNamed B₀.named
  have hlocks := B₀.notSynchronized
  have hA : ∀ q : Nat, s.heap.size ≤ q → gs_A X q := fun q h => Nat.le_trans hz h
  have hS : va_S (gs_A X) s.heap s.heap [] := va_S.rf
  have hl := lv_entry ([.ref mo, .int (nI d)]) (n := 5) (Nat.le_of_ble_eq_true rfl)
  rw [lg_entry_eq]
  generalize (lg_sl ([.ref mo, .int (nI d)]) ++ List.replicate (5 - (lg_sl ([.ref mo, .int (nI d)])).length) Slot.unset).toArray = ls at hl ⊢
  have hl : lv_has ls 5 [(0, .ref mo), (1, .int (nI d))] := hl
  have fr0 : frm [A 24, A 29, A 30] σ σ := frm.rf
  obtain ⟨hy1, hy2, hy3⟩ := hR.2.2.2 _ _ hp9
  have hxm := List.mem_of_getElem? hp9
  have hy4 := hRB.2.2.2.2 _ hxm
  have hyr : x.2.1 < nr := hy4.2.1 (by omega)
  have hyc := hcw _ hyr
  have hpl := (List.getElem?_eq_some_iff.mp hp9).1
  have hRl := hRB.2.2.1
  have hTl := hTB.1
  have loop : ∀ (fl : Nat) (i : Nat) (b24 b29 : Nat → Int32) (σ1 : gs_St), (i0 ≤ i) → (i ≤ T.length) → (∀ k t, i0 ≤ k → k < i → T[k]? = some t → mtc cw x t ov = none) → (vO b24 ov) → (b29 d = nI i) → (∀ k, k ≠ d → b29 k = f29 k) → (frm [A 24, A 29, A 30] σ σ1) → T.length - i < fl → (σ1 mo = some (moE A Z)) → (σ1 (A 2) = some (gs_ia X 12 f2)) → (σ1 (A 8) = some (gs_ia X 320 f8)) → (σ1 (A 9) = some (gs_ia X 320 f9)) → (σ1 (A 22) = some (gs_ia X 150 f22)) → (σ1 (A 23) = some (gs_ia X 450 f23)) → (σ1 (A 24) = some (gs_ia X 8 b24)) → (σ1 (A 28) = some (gs_ia X 3 f28)) → (σ1 (A 29) = some (gs_ia X 3 b29)) → (σ1 (A 30) = some (gs_ia X 3 f30)) → ∀ (H : Heap) (locs : List Loc), gs_H X σ1 H → va_S (gs_A X) s.heap H locs → ∀ ls, lv_has ls 5 [(3, .int (-1)), (2, .int (nI (6 * q + p9))), (0, .ref mo), (1, .int (nI d))] → W p l e ({ frames := 2, cells := 0, slots := 0, locals := 50 } : Room) s m ([.ref mo, .int (nI d)] : List Value).toArray below meth c H locs 0 0 (MQ below (va_Qi (fun r σ' => ∃ i' a24 a29 a30, i0 ≤ i' ∧ i' ≤ T.length ∧ (∀ k t, i0 ≤ k → k < i' → T[k]? = some t → mtc cw x t ov = none) ∧ σ' (A 24) = some (gs_ia X 8 a24) ∧ σ' (A 29) = some (gs_ia X 3 a29) ∧ σ' (A 30) = some (gs_ia X 3 a30) ∧ (∀ k, k ≠ d → a29 k = f29 k) ∧ (∀ k, k ≠ d → a30 k = f30 k) ∧ frm [A 24, A 29, A 30] σ σ' ∧ ((i' = T.length ∧ vO a24 ov ∧ r = nI 0) ∨ ∃ t p, T[i']? = some t ∧ mtc cw x t ov = some p ∧ vO a24 p.1 ∧ a30 d = nI p.2 ∧ a29 d = nI (i' + 1) ∧ r = nI 1)) (gs_U X) (gs_A X)) ([.ref mo, .int (nI d)] : List Value).toArray s 0 0 (gs_A X)) (F0 m 9 ls []) := by
    intro fl
    induction fl with
    | zero => intro i b24 b29 σ1 _ _ _ _ _ _ _ h9; omega
    | succ fl ih =>
      intro i b24 b29 σ1 hi hi2 hno hv1 hb29 hb29o hf1 hmu y_mo y_2 y_8 y_9 y_22 y_23 y_24 y_28 y_29 y_30 H locs hG hS ls hl
      refine lv_aload_n hx hb d_MO_advances_9 rfl (lv_at hl 2 rfl) ?_
      refine gs_get (v := .ref (A 29)) hx hb ht hown hK hG k_MO y_mo 29 (by decide) w_691 rfl d_MO_advances_10 ?_
      refine lv_iload_n hx hb d_MO_advances_13 rfl (lv_at hl 3 rfl) ?_
      refine gs_iald hx hb hK hG y_29 (j := d) (by omega) (by omega) d_MO_advances_14 ?_
      refine gs_top (show (b29 d) = (nI i) from hb29) ?_
      refine lv_aload_n hx hb d_MO_advances_15 rfl (lv_at hl 2 rfl) ?_
      refine gs_get (v := .int (nI (Z 7))) hx hb ht hown hK hG k_MO y_mo 7 (by decide) w_669 rfl d_MO_advances_16 ?_
      refine gs_top (show nI (Z 7) = nI T.length from congrArg nI (show Z 7 = T.length from z7)) ?_
      refine lv_icmp_ge (tgt := 93) hx hb d_MO_advances_19 (by decide) (fun c_19 => ?_) (fun c_19 => ?_)
      · have c_19 : T.length ≤ i := (nI_leI (by omega) (by omega)).mp c_19
        refine lv_aload_n hx hb d_MO_advances_93 rfl (lv_at hl 2 rfl) ?_
        refine gs_get (v := .ref (A 30)) hx hb ht hown hK hG k_MO y_mo 30 (by decide) w_692 rfl d_MO_advances_94 ?_
        refine lv_iload_n hx hb d_MO_advances_97 rfl (lv_at hl 3 rfl) ?_
        refine lv_iload_n hx hb d_MO_advances_98 rfl (lv_at hl 0 rfl) ?_
        refine gs_iast hx hb hK hG hS y_30 (j := d) (by omega) (by omega) d_MO_advances_99 (fun H locs hG hS => ?_)
        have hG : gs_H X (gs_up σ1 (A 30) (gs_ia X 3 (upd f30 d (-1)))) H := hG
        obtain ⟨σ_1, eσ_1⟩ : ∃ zq, zq = gs_up σ1 (A 30) (gs_ia X 3 (upd f30 d (-1))) := ⟨_, rfl⟩
        rw [← eσ_1] at hG
        have hc_2 : σ_1 mo = some (moE A Z) := by rw [eσ_1]; exact gs_ku (gs_ne y_mo y_30 (by simp)) y_mo
        have hc_3 : σ_1 (A 2) = some (gs_ia X 12 f2) := by rw [eσ_1]; exact gs_ku (ndp hN 0 19 (by decide) rfl rfl) y_2
        have hc_4 : σ_1 (A 8) = some (gs_ia X 320 f8) := by rw [eσ_1]; exact gs_ku (ndp hN 4 19 (by decide) rfl rfl) y_8
        have hc_5 : σ_1 (A 9) = some (gs_ia X 320 f9) := by rw [eσ_1]; exact gs_ku (ndp hN 5 19 (by decide) rfl rfl) y_9
        have hc_6 : σ_1 (A 22) = some (gs_ia X 150 f22) := by rw [eσ_1]; exact gs_ku (ndp hN 14 19 (by decide) rfl rfl) y_22
        have hc_7 : σ_1 (A 23) = some (gs_ia X 450 f23) := by rw [eσ_1]; exact gs_ku (ndp hN 15 19 (by decide) rfl rfl) y_23
        have hc_8 : σ_1 (A 24) = some (gs_ia X 8 b24) := by rw [eσ_1]; exact gs_ku (ndp hN 16 19 (by decide) rfl rfl) y_24
        have hc_9 : σ_1 (A 28) = some (gs_ia X 3 f28) := by rw [eσ_1]; exact gs_ku (ndp hN 17 19 (by decide) rfl rfl) y_28
        have hc_10 : σ_1 (A 29) = some (gs_ia X 3 b29) := by rw [eσ_1]; exact gs_ku (ndp hN 18 19 (by decide) rfl rfl) y_29
        have hc_11 : σ_1 (A 30) = some (gs_ia X 3 (upd f30 d (-1))) := by rw [eσ_1]; exact gs_us
        have fr_12 : frm [A 24, A 29, A 30] σ σ_1 := by rw [eσ_1]; exact hf1.up (by simp)
        refine lv_iload_n hx hb d_MO_advances_100 rfl (lv_at hl 0 rfl) ?_
        refine lv_if_lt (tgt := 108) hx hb d_MO_advances_101 (by decide) (fun c_101 => ?_) (fun c_101 => ?_)
        · refine lv_iconst (v := nI 0) hx hb d_MO_advances_108 (by decide) ?_
          exact gs_iret (v := (nI 0)) hx hb hr rfl hK hE hz hG hS hlocks (by first | decide | omega | (dsimp only [headSpec]; omega)) (by first | decide | omega | (dsimp only [headSpec]; omega)) (⟨i, _, _, _, hi, hi2, hno, hc_8, hc_10, hc_11, hb29o, fun k hk => by unfold upd; rw [if_neg hk], fr_12, Or.inl ⟨by omega, hv1, rfl⟩⟩) d_MO_advances_109
        · exact absurd (by decide) c_101
      · have c_19 : ¬ T.length ≤ i := mt (nI_leI (by omega) (by omega)).mpr c_19
        refine lv_iload_n hx hb d_MO_advances_22 rfl (lv_at hl 0 rfl) ?_
        refine lv_if_ge (tgt := 93) hx hb d_MO_advances_23 (by decide) (fun c_23 => ?_) (fun c_23 => ?_)
        · exact absurd c_23 (by decide)
        · have hiT : i < T.length := by omega
          obtain ⟨t, ht9⟩ := get_ex (L := T) (j := i) hiT
          obtain ⟨ht1, ht2, _, _⟩ := hT _ _ ht9
          obtain ⟨ht3, ht4, _⟩ := hTB.2 _ (List.mem_of_getElem? ht9)
          have hst : ∀ {r : Option (OV × Nat)}, mtc cw x t ov = r → r = none → ∀ k t9, i0 ≤ k → k < i + 1 → T[k]? = some t9 → mtc cw x t9 ov = none := fun h1 h2 k t9 g1 g2 g3 => by
            by_cases e : k = i
            · subst e; rw [ht9] at g3; cases g3; rw [h1, h2]
            · exact hno k t9 g1 (by omega) g3
          refine lv_aload_n hx hb d_MO_advances_26 rfl (lv_at hl 2 rfl) ?_
          refine gs_get (v := .ref (A 29)) hx hb ht hown hK hG k_MO y_mo 29 (by decide) w_691 rfl d_MO_advances_27 ?_
          refine lv_iload_n hx hb d_MO_advances_30 rfl (lv_at hl 3 rfl) ?_
          refine gs_iald hx hb hK hG y_29 (j := d) (by omega) (by omega) d_MO_advances_31 ?_
          refine gs_top (show (b29 d) = (nI i) from hb29) ?_
          refine lv_istore (lv' := [(4, .int (nI i)), (3, .int (-1)), (2, .int (nI (6 * q + p9))), (0, .ref mo), (1, .int (nI d))]) hx hb d_MO_advances_32 hl (by decide) rfl (fun ls hl => ?_)
          refine lv_aload_n hx hb d_MO_advances_34 rfl (lv_at hl 3 rfl) ?_
          refine gs_get (v := .ref (A 8)) hx hb ht hown hK hG k_MO y_mo 8 (by decide) w_670 rfl d_MO_advances_35 ?_
          refine lv_iload hx hb d_MO_advances_38 (lv_at hl 0 rfl) ?_
          refine gs_iald hx hb hK hG y_8 (j := i) (by omega) (by omega) d_MO_advances_40 ?_
          refine gs_top (show (f8 i) = (nI t.1) from ht1) ?_
          refine lv_aload_n hx hb d_MO_advances_41 rfl (lv_at hl 3 rfl) ?_
          refine gs_get (v := .ref (A 22)) hx hb ht hown hK hG k_MO y_mo 22 (by decide) w_684 rfl d_MO_advances_42 ?_
          refine lv_iload_n hx hb d_MO_advances_45 rfl (lv_at hl 2 rfl) ?_
          refine gs_iald hx hb hK hG y_22 (j := 6 * q + p9) (by omega) (by omega) d_MO_advances_46 ?_
          refine gs_top (show (f22 (6 * q + p9)) = (nI x.2.1) from hy2) ?_
          refine lv_icmp_ne (tgt := 78) hx hb d_MO_advances_47 (by decide) (fun c_47 => ?_) (fun c_47 => ?_)
          · have c_47 : ¬ t.1 = x.2.1 := mt (nI_eq (by omega) (by omega)).mpr c_47
            refine lv_iconst (v := -1) hx hb d_MO_advances_78 (by decide) ?_
            refine lv_istore_n (lv' := [(3, .int (-1)), (4, .int (nI i)), (2, .int (nI (6 * q + p9))), (0, .ref mo), (1, .int (nI d))]) hx hb d_MO_advances_79 rfl hl (by decide) rfl (fun ls hl => ?_)
            refine lv_aload_n hx hb d_MO_advances_80 rfl (lv_at hl 3 rfl) ?_
            refine gs_get (v := .ref (A 29)) hx hb ht hown hK hG k_MO y_mo 29 (by decide) w_691 rfl d_MO_advances_81 ?_
            refine lv_iload_n hx hb d_MO_advances_84 rfl (lv_at hl 4 rfl) ?_
            refine lv_dup2_11 hx hb d_MO_advances_85 rfl rfl ?_
            refine gs_iald hx hb hK hG y_29 (j := d) (by omega) (by omega) d_MO_advances_86 ?_
            refine gs_top (show (b29 d) = (nI i) from hb29) ?_
            refine lv_iconst (v := nI 1) hx hb d_MO_advances_87 (by decide) ?_
            refine lv_iadd hx hb d_MO_advances_88 ?_
            refine gs_top (nI_add i 1) ?_
            refine gs_iast hx hb hK hG hS y_29 (j := d) (by omega) (by omega) d_MO_advances_89 (fun H locs hG hS => ?_)
            have hG : gs_H X (gs_up σ1 (A 29) (gs_ia X 3 (upd b29 d (nI (i + 1))))) H := hG
            obtain ⟨σ_13, eσ_13⟩ : ∃ zq, zq = gs_up σ1 (A 29) (gs_ia X 3 (upd b29 d (nI (i + 1)))) := ⟨_, rfl⟩
            rw [← eσ_13] at hG
            have hc_14 : σ_13 mo = some (moE A Z) := by rw [eσ_13]; exact gs_ku (gs_ne y_mo y_29 (by simp)) y_mo
            have hc_15 : σ_13 (A 2) = some (gs_ia X 12 f2) := by rw [eσ_13]; exact gs_ku (ndp hN 0 18 (by decide) rfl rfl) y_2
            have hc_16 : σ_13 (A 8) = some (gs_ia X 320 f8) := by rw [eσ_13]; exact gs_ku (ndp hN 4 18 (by decide) rfl rfl) y_8
            have hc_17 : σ_13 (A 9) = some (gs_ia X 320 f9) := by rw [eσ_13]; exact gs_ku (ndp hN 5 18 (by decide) rfl rfl) y_9
            have hc_18 : σ_13 (A 22) = some (gs_ia X 150 f22) := by rw [eσ_13]; exact gs_ku (ndp hN 14 18 (by decide) rfl rfl) y_22
            have hc_19 : σ_13 (A 23) = some (gs_ia X 450 f23) := by rw [eσ_13]; exact gs_ku (ndp hN 15 18 (by decide) rfl rfl) y_23
            have hc_20 : σ_13 (A 24) = some (gs_ia X 8 b24) := by rw [eσ_13]; exact gs_ku (ndp hN 16 18 (by decide) rfl rfl) y_24
            have hc_21 : σ_13 (A 28) = some (gs_ia X 3 f28) := by rw [eσ_13]; exact gs_ku (ndp hN 17 18 (by decide) rfl rfl) y_28
            have hc_22 : σ_13 (A 30) = some (gs_ia X 3 f30) := by rw [eσ_13]; exact gs_ku (Ne.symm (ndp hN 18 19 (by decide) rfl rfl)) y_30
            have hc_23 : σ_13 (A 29) = some (gs_ia X 3 (upd b29 d (nI (i + 1)))) := by rw [eσ_13]; exact gs_us
            have fr_24 : frm [A 24, A 29, A 30] σ σ_13 := by rw [eσ_13]; exact hf1.up (by simp)
            refine lv_goto (tgt := 9) hx hb d_MO_advances_90 (by decide) ?_
            have hms : mtc cw x t ov = none := by unfold mtc; rw [if_neg c_47]
            exact ih (i + 1) b24 (upd b29 d (nI (i + 1))) σ_13 (by omega) (by omega) (hst hms rfl) hv1 (by simp [upd]) (fun k hk => by unfold upd; rw [if_neg hk]; exact hb29o k hk) fr_24 (by omega) hc_14 hc_15 hc_16 hc_17 hc_18 hc_19 hc_20 hc_21 hc_23 hc_22 H locs hG hS ls (lv_sub hl [0, 2, 3, 4] rfl)
          · have c_47 : t.1 = x.2.1 :=  (nI_eq (by omega) (by omega)).mp c_47
            refine lv_aload_n hx hb d_MO_advances_50 rfl (lv_at hl 3 rfl) ?_
            refine lv_iconst (v := nI 3) hx hb d_MO_advances_51 (by decide) ?_
            refine lv_iload_n hx hb d_MO_advances_52 rfl (lv_at hl 2 rfl) ?_
            refine lv_imul hx hb d_MO_advances_53 ?_
            refine gs_top (pk_mul 3 (6 * q + p9)) ?_
            refine lv_aload_n hx hb d_MO_advances_54 rfl (lv_at hl 3 rfl) ?_
            refine gs_get (v := .ref (A 2)) hx hb ht hown hK hG k_MO y_mo 2 (by decide) w_664 rfl d_MO_advances_55 ?_
            refine lv_aload_n hx hb d_MO_advances_58 rfl (lv_at hl 3 rfl) ?_
            refine gs_get (v := .ref (A 22)) hx hb ht hown hK hG k_MO y_mo 22 (by decide) w_684 rfl d_MO_advances_59 ?_
            refine lv_iload_n hx hb d_MO_advances_62 rfl (lv_at hl 2 rfl) ?_
            refine gs_iald hx hb hK hG y_22 (j := 6 * q + p9) (by omega) (by omega) d_MO_advances_63 ?_
            refine gs_top (show (f22 (6 * q + p9)) = (nI x.2.1) from hy2) ?_
            refine gs_iald hx hb hK hG y_2 (j := x.2.1) (by omega) (by omega) d_MO_advances_64 ?_
            refine gs_top (show (f2 x.2.1) = (nI (cw x.2.1)) from hyc.1) ?_
            refine lv_aload_n hx hb d_MO_advances_65 rfl (lv_at hl 3 rfl) ?_
            refine gs_get (v := .ref (A 9)) hx hb ht hown hK hG k_MO y_mo 9 (by decide) w_671 rfl d_MO_advances_66 ?_
            refine lv_iload hx hb d_MO_advances_69 (lv_at hl 0 rfl) ?_
            refine gs_iald hx hb hK hG y_9 (j := i) (by omega) (by omega) d_MO_advances_71 ?_
            refine gs_top (show (f9 i) = (nI t.2.1) from ht2) ?_
            refine gs_callVi (As := [.int (nI (3 * (6 * q + p9))), .int (nI (cw x.2.1)), .int (nI t.2.1)]) (rest := []) ⟨hx, hb, hml, hown, hts⟩ hK hE hz hG hS (c_MO_binds l X σ1 mo A Z b24 ov f23 (3 * (6 * q + p9)) (cw x.2.1) t.2.1 (t3 x.2.2) y_mo hN y_24 y_23 hv1 hyc.2.2 (by omega) ht4 hy3 hy4.2.2.2) mV_MO_binds w_848 y_mo rfl rfl hl.1 rfl (Nat.le_of_ble_eq_true rfl) ⟨(by first | decide | omega | (dsimp only [headSpec]; omega)), (by first | decide | omega | (dsimp only [headSpec]; omega))⟩ ⟨(by first | decide | omega | (dsimp only [headSpec]; omega)), (by first | decide | omega | (dsimp only [headSpec]; omega))⟩ d_MO_advances_72 (fun r_72 σ_72 H locs hp_72 hG hS => ?_)
            obtain ⟨b24n, ev9, hor⟩ := hp_72
            rw [ev9] at hG
            have hG : gs_H X (gs_up σ1 (A 24) (gs_ia X 8 b24n)) H := hG
            obtain ⟨σ_25, eσ_25⟩ : ∃ zq, zq = gs_up σ1 (A 24) (gs_ia X 8 b24n) := ⟨_, rfl⟩
            rw [← eσ_25] at hG
            have hc_26 : σ_25 mo = some (moE A Z) := by rw [eσ_25]; exact gs_ku (gs_ne y_mo y_24 (by simp)) y_mo
            have hc_27 : σ_25 (A 2) = some (gs_ia X 12 f2) := by rw [eσ_25]; exact gs_ku (ndp hN 0 16 (by decide) rfl rfl) y_2
            have hc_28 : σ_25 (A 8) = some (gs_ia X 320 f8) := by rw [eσ_25]; exact gs_ku (ndp hN 4 16 (by decide) rfl rfl) y_8
            have hc_29 : σ_25 (A 9) = some (gs_ia X 320 f9) := by rw [eσ_25]; exact gs_ku (ndp hN 5 16 (by decide) rfl rfl) y_9
            have hc_30 : σ_25 (A 22) = some (gs_ia X 150 f22) := by rw [eσ_25]; exact gs_ku (ndp hN 14 16 (by decide) rfl rfl) y_22
            have hc_31 : σ_25 (A 23) = some (gs_ia X 450 f23) := by rw [eσ_25]; exact gs_ku (ndp hN 15 16 (by decide) rfl rfl) y_23
            have hc_32 : σ_25 (A 28) = some (gs_ia X 3 f28) := by rw [eσ_25]; exact gs_ku (Ne.symm (ndp hN 16 17 (by decide) rfl rfl)) y_28
            have hc_33 : σ_25 (A 29) = some (gs_ia X 3 b29) := by rw [eσ_25]; exact gs_ku (Ne.symm (ndp hN 16 18 (by decide) rfl rfl)) y_29
            have hc_34 : σ_25 (A 30) = some (gs_ia X 3 f30) := by rw [eσ_25]; exact gs_ku (Ne.symm (ndp hN 16 19 (by decide) rfl rfl)) y_30
            have hc_35 : σ_25 (A 24) = some (gs_ia X 8 b24n) := by rw [eσ_25]; exact gs_us
            have fr_36 : frm [A 24, A 29, A 30] σ σ_25 := by rw [eσ_25]; exact hf1.up (by simp)
            rcases hor with ⟨hb1, hb2, hb3⟩ | ⟨hb1, hb2, hb3⟩
            · have hbl : (bdF (t3 x.2.2) t.2.1 ov (cw x.2.1)).2.1 < 256 := (bdF_inv (t := t.2.1) (ov := ov) hy4.2.2.2 _).1
              have hms : mtc cw x t ov = some ((bdF (t3 x.2.2) t.2.1 ov (cw x.2.1)).1, (bdF (t3 x.2.2) t.2.1 ov (cw x.2.1)).2.1) := by unfold mtc; rw [if_pos c_47, if_pos hb1]
              refine gs_top hb3 ?_
              refine lv_goto (tgt := 79) hx hb d_MO_advances_75 (by decide) ?_
              refine lv_istore_n (lv' := [(3, .int (nI ((bdF (t3 x.2.2) t.2.1 ov (cw x.2.1)).2.1))), (4, .int (nI i)), (2, .int (nI (6 * q + p9))), (0, .ref mo), (1, .int (nI d))]) hx hb d_MO_advances_79 rfl hl (by decide) rfl (fun ls hl => ?_)
              refine lv_aload_n hx hb d_MO_advances_80 rfl (lv_at hl 3 rfl) ?_
              refine gs_get (v := .ref (A 29)) hx hb ht hown hK hG k_MO hc_26 29 (by decide) w_691 rfl d_MO_advances_81 ?_
              refine lv_iload_n hx hb d_MO_advances_84 rfl (lv_at hl 4 rfl) ?_
              refine lv_dup2_11 hx hb d_MO_advances_85 rfl rfl ?_
              refine gs_iald hx hb hK hG hc_33 (j := d) (by omega) (by omega) d_MO_advances_86 ?_
              refine gs_top (show (b29 d) = (nI i) from hb29) ?_
              refine lv_iconst (v := nI 1) hx hb d_MO_advances_87 (by decide) ?_
              refine lv_iadd hx hb d_MO_advances_88 ?_
              refine gs_top (nI_add i 1) ?_
              refine gs_iast hx hb hK hG hS hc_33 (j := d) (by omega) (by omega) d_MO_advances_89 (fun H locs hG hS => ?_)
              have hG : gs_H X (gs_up σ_25 (A 29) (gs_ia X 3 (upd b29 d (nI (i + 1))))) H := hG
              obtain ⟨σ_37, eσ_37⟩ : ∃ zq, zq = gs_up σ_25 (A 29) (gs_ia X 3 (upd b29 d (nI (i + 1)))) := ⟨_, rfl⟩
              rw [← eσ_37] at hG
              have hc_38 : σ_37 mo = some (moE A Z) := by rw [eσ_37]; exact gs_ku (gs_ne hc_26 hc_33 (by simp)) hc_26
              have hc_39 : σ_37 (A 2) = some (gs_ia X 12 f2) := by rw [eσ_37]; exact gs_ku (ndp hN 0 18 (by decide) rfl rfl) hc_27
              have hc_40 : σ_37 (A 8) = some (gs_ia X 320 f8) := by rw [eσ_37]; exact gs_ku (ndp hN 4 18 (by decide) rfl rfl) hc_28
              have hc_41 : σ_37 (A 9) = some (gs_ia X 320 f9) := by rw [eσ_37]; exact gs_ku (ndp hN 5 18 (by decide) rfl rfl) hc_29
              have hc_42 : σ_37 (A 22) = some (gs_ia X 150 f22) := by rw [eσ_37]; exact gs_ku (ndp hN 14 18 (by decide) rfl rfl) hc_30
              have hc_43 : σ_37 (A 23) = some (gs_ia X 450 f23) := by rw [eσ_37]; exact gs_ku (ndp hN 15 18 (by decide) rfl rfl) hc_31
              have hc_44 : σ_37 (A 28) = some (gs_ia X 3 f28) := by rw [eσ_37]; exact gs_ku (ndp hN 17 18 (by decide) rfl rfl) hc_32
              have hc_45 : σ_37 (A 30) = some (gs_ia X 3 f30) := by rw [eσ_37]; exact gs_ku (Ne.symm (ndp hN 18 19 (by decide) rfl rfl)) hc_34
              have hc_46 : σ_37 (A 24) = some (gs_ia X 8 b24n) := by rw [eσ_37]; exact gs_ku (ndp hN 16 18 (by decide) rfl rfl) hc_35
              have hc_47 : σ_37 (A 29) = some (gs_ia X 3 (upd b29 d (nI (i + 1)))) := by rw [eσ_37]; exact gs_us
              have fr_48 : frm [A 24, A 29, A 30] σ σ_37 := by rw [eσ_37]; exact fr_36.up (by simp)
              refine lv_goto (tgt := 9) hx hb d_MO_advances_90 (by decide) ?_
              refine lv_aload_n hx hb d_MO_advances_9 rfl (lv_at hl 3 rfl) ?_
              refine gs_get (v := .ref (A 29)) hx hb ht hown hK hG k_MO hc_38 29 (by decide) w_691 rfl d_MO_advances_10 ?_
              refine lv_iload_n hx hb d_MO_advances_13 rfl (lv_at hl 4 rfl) ?_
              refine gs_iald hx hb hK hG hc_47 (j := d) (by omega) (by omega) d_MO_advances_14 ?_
              refine gs_top (show ((upd b29 d (nI (i + 1))) d) = (nI (i + 1)) from (by simp [upd])) ?_
              refine lv_aload_n hx hb d_MO_advances_15 rfl (lv_at hl 3 rfl) ?_
              refine gs_get (v := .int (nI (Z 7))) hx hb ht hown hK hG k_MO hc_38 7 (by decide) w_669 rfl d_MO_advances_16 ?_
              refine gs_top (show nI (Z 7) = nI T.length from congrArg nI (show Z 7 = T.length from z7)) ?_
              refine lv_icmp_ge (tgt := 93) hx hb d_MO_advances_19 (by decide) (fun c_19 => ?_) (fun c_19 => ?_)
              · have c_19 : T.length ≤ (i + 1) := (nI_leI (by omega) (by omega)).mp c_19
                refine lv_aload_n hx hb d_MO_advances_93 rfl (lv_at hl 3 rfl) ?_
                refine gs_get (v := .ref (A 30)) hx hb ht hown hK hG k_MO hc_38 30 (by decide) w_692 rfl d_MO_advances_94 ?_
                refine lv_iload_n hx hb d_MO_advances_97 rfl (lv_at hl 4 rfl) ?_
                refine lv_iload_n hx hb d_MO_advances_98 rfl (lv_at hl 0 rfl) ?_
                refine gs_iast hx hb hK hG hS hc_45 (j := d) (by omega) (by omega) d_MO_advances_99 (fun H locs hG hS => ?_)
                have hG : gs_H X (gs_up σ_37 (A 30) (gs_ia X 3 (upd f30 d (nI ((bdF (t3 x.2.2) t.2.1 ov (cw x.2.1)).2.1))))) H := hG
                obtain ⟨σ_49, eσ_49⟩ : ∃ zq, zq = gs_up σ_37 (A 30) (gs_ia X 3 (upd f30 d (nI ((bdF (t3 x.2.2) t.2.1 ov (cw x.2.1)).2.1)))) := ⟨_, rfl⟩
                rw [← eσ_49] at hG
                have hc_50 : σ_49 mo = some (moE A Z) := by rw [eσ_49]; exact gs_ku (gs_ne hc_38 hc_45 (by simp)) hc_38
                have hc_51 : σ_49 (A 2) = some (gs_ia X 12 f2) := by rw [eσ_49]; exact gs_ku (ndp hN 0 19 (by decide) rfl rfl) hc_39
                have hc_52 : σ_49 (A 8) = some (gs_ia X 320 f8) := by rw [eσ_49]; exact gs_ku (ndp hN 4 19 (by decide) rfl rfl) hc_40
                have hc_53 : σ_49 (A 9) = some (gs_ia X 320 f9) := by rw [eσ_49]; exact gs_ku (ndp hN 5 19 (by decide) rfl rfl) hc_41
                have hc_54 : σ_49 (A 22) = some (gs_ia X 150 f22) := by rw [eσ_49]; exact gs_ku (ndp hN 14 19 (by decide) rfl rfl) hc_42
                have hc_55 : σ_49 (A 23) = some (gs_ia X 450 f23) := by rw [eσ_49]; exact gs_ku (ndp hN 15 19 (by decide) rfl rfl) hc_43
                have hc_56 : σ_49 (A 28) = some (gs_ia X 3 f28) := by rw [eσ_49]; exact gs_ku (ndp hN 17 19 (by decide) rfl rfl) hc_44
                have hc_57 : σ_49 (A 24) = some (gs_ia X 8 b24n) := by rw [eσ_49]; exact gs_ku (ndp hN 16 19 (by decide) rfl rfl) hc_46
                have hc_58 : σ_49 (A 29) = some (gs_ia X 3 (upd b29 d (nI (i + 1)))) := by rw [eσ_49]; exact gs_ku (ndp hN 18 19 (by decide) rfl rfl) hc_47
                have hc_59 : σ_49 (A 30) = some (gs_ia X 3 (upd f30 d (nI ((bdF (t3 x.2.2) t.2.1 ov (cw x.2.1)).2.1)))) := by rw [eσ_49]; exact gs_us
                have fr_60 : frm [A 24, A 29, A 30] σ σ_49 := by rw [eσ_49]; exact fr_48.up (by simp)
                refine lv_iload_n hx hb d_MO_advances_100 rfl (lv_at hl 0 rfl) ?_
                refine lv_if_lt (tgt := 108) hx hb d_MO_advances_101 (by decide) (fun c_101 => ?_) (fun c_101 => ?_)
                · exact absurd c_101 (nI_pos (by omega))
                  
                · refine lv_iconst (v := nI 1) hx hb d_MO_advances_104 (by decide) ?_
                  refine lv_goto (tgt := 109) hx hb d_MO_advances_105 (by decide) ?_
                  exact gs_iret (v := (nI 1)) hx hb hr rfl hK hE hz hG hS hlocks (by first | decide | omega | (dsimp only [headSpec]; omega)) (by first | decide | omega | (dsimp only [headSpec]; omega)) (⟨i, _, _, _, hi, by omega, hno, hc_57, hc_58, hc_59, fun k hk => by unfold upd; rw [if_neg hk]; exact hb29o k hk, fun k hk => by unfold upd; rw [if_neg hk], fr_60, Or.inr ⟨t, _, ht9, hms, hb2, by simp [upd], by simp [upd], rfl⟩⟩) d_MO_advances_109
              · have c_19 : ¬ T.length ≤ (i + 1) := mt (nI_leI (by omega) (by omega)).mpr c_19
                refine lv_iload_n hx hb d_MO_advances_22 rfl (lv_at hl 0 rfl) ?_
                refine lv_if_ge (tgt := 93) hx hb d_MO_advances_23 (by decide) (fun c_23 => ?_) (fun c_23 => ?_)
                · refine lv_aload_n hx hb d_MO_advances_93 rfl (lv_at hl 3 rfl) ?_
                  refine gs_get (v := .ref (A 30)) hx hb ht hown hK hG k_MO hc_38 30 (by decide) w_692 rfl d_MO_advances_94 ?_
                  refine lv_iload_n hx hb d_MO_advances_97 rfl (lv_at hl 4 rfl) ?_
                  refine lv_iload_n hx hb d_MO_advances_98 rfl (lv_at hl 0 rfl) ?_
                  refine gs_iast hx hb hK hG hS hc_45 (j := d) (by omega) (by omega) d_MO_advances_99 (fun H locs hG hS => ?_)
                  have hG : gs_H X (gs_up σ_37 (A 30) (gs_ia X 3 (upd f30 d (nI ((bdF (t3 x.2.2) t.2.1 ov (cw x.2.1)).2.1))))) H := hG
                  obtain ⟨σ_61, eσ_61⟩ : ∃ zq, zq = gs_up σ_37 (A 30) (gs_ia X 3 (upd f30 d (nI ((bdF (t3 x.2.2) t.2.1 ov (cw x.2.1)).2.1)))) := ⟨_, rfl⟩
                  rw [← eσ_61] at hG
                  have hc_62 : σ_61 mo = some (moE A Z) := by rw [eσ_61]; exact gs_ku (gs_ne hc_38 hc_45 (by simp)) hc_38
                  have hc_63 : σ_61 (A 2) = some (gs_ia X 12 f2) := by rw [eσ_61]; exact gs_ku (ndp hN 0 19 (by decide) rfl rfl) hc_39
                  have hc_64 : σ_61 (A 8) = some (gs_ia X 320 f8) := by rw [eσ_61]; exact gs_ku (ndp hN 4 19 (by decide) rfl rfl) hc_40
                  have hc_65 : σ_61 (A 9) = some (gs_ia X 320 f9) := by rw [eσ_61]; exact gs_ku (ndp hN 5 19 (by decide) rfl rfl) hc_41
                  have hc_66 : σ_61 (A 22) = some (gs_ia X 150 f22) := by rw [eσ_61]; exact gs_ku (ndp hN 14 19 (by decide) rfl rfl) hc_42
                  have hc_67 : σ_61 (A 23) = some (gs_ia X 450 f23) := by rw [eσ_61]; exact gs_ku (ndp hN 15 19 (by decide) rfl rfl) hc_43
                  have hc_68 : σ_61 (A 28) = some (gs_ia X 3 f28) := by rw [eσ_61]; exact gs_ku (ndp hN 17 19 (by decide) rfl rfl) hc_44
                  have hc_69 : σ_61 (A 24) = some (gs_ia X 8 b24n) := by rw [eσ_61]; exact gs_ku (ndp hN 16 19 (by decide) rfl rfl) hc_46
                  have hc_70 : σ_61 (A 29) = some (gs_ia X 3 (upd b29 d (nI (i + 1)))) := by rw [eσ_61]; exact gs_ku (ndp hN 18 19 (by decide) rfl rfl) hc_47
                  have hc_71 : σ_61 (A 30) = some (gs_ia X 3 (upd f30 d (nI ((bdF (t3 x.2.2) t.2.1 ov (cw x.2.1)).2.1)))) := by rw [eσ_61]; exact gs_us
                  have fr_72 : frm [A 24, A 29, A 30] σ σ_61 := by rw [eσ_61]; exact fr_48.up (by simp)
                  refine lv_iload_n hx hb d_MO_advances_100 rfl (lv_at hl 0 rfl) ?_
                  refine lv_if_lt (tgt := 108) hx hb d_MO_advances_101 (by decide) (fun c_101 => ?_) (fun c_101 => ?_)
                  · exact absurd c_101 (nI_pos (by omega))
                    
                  · refine lv_iconst (v := nI 1) hx hb d_MO_advances_104 (by decide) ?_
                    refine lv_goto (tgt := 109) hx hb d_MO_advances_105 (by decide) ?_
                    exact gs_iret (v := (nI 1)) hx hb hr rfl hK hE hz hG hS hlocks (by first | decide | omega | (dsimp only [headSpec]; omega)) (by first | decide | omega | (dsimp only [headSpec]; omega)) (⟨i, _, _, _, hi, by omega, hno, hc_69, hc_70, hc_71, fun k hk => by unfold upd; rw [if_neg hk]; exact hb29o k hk, fun k hk => by unfold upd; rw [if_neg hk], fr_72, Or.inr ⟨t, _, ht9, hms, hb2, by simp [upd], by simp [upd], rfl⟩⟩) d_MO_advances_109
                · exact absurd (nI_pos' (by omega)) c_23
            have hms : mtc cw x t ov = none := by unfold mtc; rw [if_pos c_47, if_neg (by rw [hb1]; decide)]
            refine gs_top hb3 ?_
            refine lv_goto (tgt := 79) hx hb d_MO_advances_75 (by decide) ?_
            refine lv_istore_n (lv' := [(3, .int (-1)), (4, .int (nI i)), (2, .int (nI (6 * q + p9))), (0, .ref mo), (1, .int (nI d))]) hx hb d_MO_advances_79 rfl hl (by decide) rfl (fun ls hl => ?_)
            refine lv_aload_n hx hb d_MO_advances_80 rfl (lv_at hl 3 rfl) ?_
            refine gs_get (v := .ref (A 29)) hx hb ht hown hK hG k_MO hc_26 29 (by decide) w_691 rfl d_MO_advances_81 ?_
            refine lv_iload_n hx hb d_MO_advances_84 rfl (lv_at hl 4 rfl) ?_
            refine lv_dup2_11 hx hb d_MO_advances_85 rfl rfl ?_
            refine gs_iald hx hb hK hG hc_33 (j := d) (by omega) (by omega) d_MO_advances_86 ?_
            refine gs_top (show (b29 d) = (nI i) from hb29) ?_
            refine lv_iconst (v := nI 1) hx hb d_MO_advances_87 (by decide) ?_
            refine lv_iadd hx hb d_MO_advances_88 ?_
            refine gs_top (nI_add i 1) ?_
            refine gs_iast hx hb hK hG hS hc_33 (j := d) (by omega) (by omega) d_MO_advances_89 (fun H locs hG hS => ?_)
            have hG : gs_H X (gs_up σ_25 (A 29) (gs_ia X 3 (upd b29 d (nI (i + 1))))) H := hG
            obtain ⟨σ_73, eσ_73⟩ : ∃ zq, zq = gs_up σ_25 (A 29) (gs_ia X 3 (upd b29 d (nI (i + 1)))) := ⟨_, rfl⟩
            rw [← eσ_73] at hG
            have hc_74 : σ_73 mo = some (moE A Z) := by rw [eσ_73]; exact gs_ku (gs_ne hc_26 hc_33 (by simp)) hc_26
            have hc_75 : σ_73 (A 2) = some (gs_ia X 12 f2) := by rw [eσ_73]; exact gs_ku (ndp hN 0 18 (by decide) rfl rfl) hc_27
            have hc_76 : σ_73 (A 8) = some (gs_ia X 320 f8) := by rw [eσ_73]; exact gs_ku (ndp hN 4 18 (by decide) rfl rfl) hc_28
            have hc_77 : σ_73 (A 9) = some (gs_ia X 320 f9) := by rw [eσ_73]; exact gs_ku (ndp hN 5 18 (by decide) rfl rfl) hc_29
            have hc_78 : σ_73 (A 22) = some (gs_ia X 150 f22) := by rw [eσ_73]; exact gs_ku (ndp hN 14 18 (by decide) rfl rfl) hc_30
            have hc_79 : σ_73 (A 23) = some (gs_ia X 450 f23) := by rw [eσ_73]; exact gs_ku (ndp hN 15 18 (by decide) rfl rfl) hc_31
            have hc_80 : σ_73 (A 28) = some (gs_ia X 3 f28) := by rw [eσ_73]; exact gs_ku (ndp hN 17 18 (by decide) rfl rfl) hc_32
            have hc_81 : σ_73 (A 30) = some (gs_ia X 3 f30) := by rw [eσ_73]; exact gs_ku (Ne.symm (ndp hN 18 19 (by decide) rfl rfl)) hc_34
            have hc_82 : σ_73 (A 24) = some (gs_ia X 8 b24n) := by rw [eσ_73]; exact gs_ku (ndp hN 16 18 (by decide) rfl rfl) hc_35
            have hc_83 : σ_73 (A 29) = some (gs_ia X 3 (upd b29 d (nI (i + 1)))) := by rw [eσ_73]; exact gs_us
            have fr_84 : frm [A 24, A 29, A 30] σ σ_73 := by rw [eσ_73]; exact fr_36.up (by simp)
            refine lv_goto (tgt := 9) hx hb d_MO_advances_90 (by decide) ?_
            exact ih (i + 1) b24n (upd b29 d (nI (i + 1))) σ_73 (by omega) (by omega) (hst hms rfl) hb2 (by simp [upd]) (fun k hk => by unfold upd; rw [if_neg hk]; exact hb29o k hk) fr_84 (by omega) hc_74 hc_75 hc_76 hc_77 hc_78 hc_79 hc_82 hc_80 hc_83 hc_81 H locs hG hS ls (lv_sub hl [0, 2, 3, 4] rfl)
  refine lv_aload_n hx hb d_MO_advances_0 rfl (lv_at hl 0 rfl) ?_
  refine gs_get (v := .ref (A 28)) hx hb ht hown hK hG k_MO m0 28 (by decide) w_690 rfl d_MO_advances_1 ?_
  refine lv_iload_n hx hb d_MO_advances_4 rfl (lv_at hl 1 rfl) ?_
  refine gs_iald hx hb hK hG m28 (j := d) (by omega) (by omega) d_MO_advances_5 ?_
  refine gs_top (show (f28 d) = (nI (6 * q + p9)) from h28) ?_
  refine lv_istore_n (lv' := [(2, .int (nI (6 * q + p9))), (0, .ref mo), (1, .int (nI d))]) hx hb d_MO_advances_6 rfl hl (by decide) rfl (fun ls hl => ?_)
  refine lv_iconst (v := -1) hx hb d_MO_advances_7 (by decide) ?_
  refine lv_istore_n (lv' := [(3, .int (-1)), (2, .int (nI (6 * q + p9))), (0, .ref mo), (1, .int (nI d))]) hx hb d_MO_advances_8 rfl hl (by decide) rfl (fun ls hl => ?_)
  exact loop (T.length + 1) i0 f24 f29 σ (by omega) (by omega) (fun k t g1 g2 => by omega) hv h29 (fun k _ => rfl) fr0 (by omega) m0 m2 m8 m9 m22 m23 m24 m28 m29 m30 _ _ hG hS ls (lv_sub hl [0, 1, 2, 3] rfl)
