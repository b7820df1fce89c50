set_option maxHeartbeats 4000000 in
set_option maxRecDepth 100000 in
/-- the reference: again -/
theorem c_MO_again (l : Launch) (X : gs_X) (σ : gs_St) (mo : Nat) (A Z : Nat → Nat) (T : List MT) (F : List (Nat × Nat)) (f5 f6 f8 f9 f10 f11 : Nat → Int32) (g : Nat → Int64)
    (m0 : σ mo = some (moE A Z)) (hN : (aL A).Nodup) (z7 : Z 7 = T.length) (z4 : Z 4 = F.length) (m5 : σ (A 5) = some (gs_ia X 200 f5)) (m6 : σ (A 6) = some (gs_ia X 200 f6)) (m8 : σ (A 8) = some (gs_ia X 320 f8)) (m9 : σ (A 9) = some (gs_ia X 320 f9)) (m10 : σ (A 10) = some (gs_ia X 320 f10)) (m11 : σ (A 11) = some (gs_ia X 320 f11)) (m12 : σ (A 12) = some (gs_la X 49152 g)) (hT : tpOK T f8 f9 f10 f11) (hTB : tpB T) (hF : faOK F f5 f6) (hFB : faB F) (hbi : bO g (tcs T)) : gs_Mv l X y_MO_again b_MO_again 2 ({ frames := 1, cells := 0, slots := 0, locals := 26 }) σ [.ref mo] (fun σ' => (∃ Z', σ' mo = some (moE A Z') ∧ Z' 7 = F.length ∧ Z' 25 = 0 ∧ Z' 26 = 0 ∧ zfr [7, 25, 26] Z Z') ∧ tupA X σ' A (F.map agT) ∧ bitA X σ' (A 12) (fcs F) ∧ frm [mo, A 8, A 9, A 10, A 11, A 12] σ σ') := by
  refine Met.ofW (cc := b_MO_again) (maxL := 2) (ret := none) (by decide) rfl ?_
  intro p e s m args below meth c s₁ B₀ hml hv
  obtain ⟨rfl, hK, hG, hz, hE⟩ := hv
  have hx := B₀.exec
  have hb := B₀.bytes
  have hr := B₀.returns
  have hts := atoms_spec (ws := gs_ws y_MO_again b_MO_again 2 none) B₀.pre
  have ht : ∀ w ∈ gs_w, w.before _ s = true := fun w h => hts w (List.mem_cons_of_mem _ h)
  have hown : s.vm.findClass R_MO = some m.cls := findClass_of_methodNamed B₀.named
  have hlocks := B₀.notSynchronized
  have hA : ∀ q : Nat, s.heap.size ≤ q → gs_A X q := fun q h => Nat.le_trans hz h
  have hS : va_S (gs_A X) s.heap s.heap [] := va_S.rf
  have hl := lv_entry ([.ref mo]) (n := 2) (Nat.le_of_ble_eq_true rfl)
  rw [lg_entry_eq]
  generalize (lg_sl ([.ref mo]) ++ List.replicate (2 - (lg_sl ([.ref mo])).length) Slot.unset).toArray = ls at hl ⊢
  have hl : lv_has ls 2 [(0, .ref mo)] := hl
  have fr0 : frm [mo, A 8, A 9, A 10, A 11, A 12] σ σ := frm.rf
  have hTl := hTB.1
  have hFl := hFB.1
  have loop2 : ∀ (fl : Nat) (i : Nat) (Z1 : Nat → Nat) (a8 a9 a10 a11 : Nat → Int32) (g1 : Nat → Int64) (σ1 : gs_St), (i ≤ F.length) → (Z1 7 = i) → (zfr [7] Z Z1) → (tpOK ((F.take i).map agT) a8 a9 a10 a11) → (bO g1 (fcs (F.take i))) → (frm [mo, A 8, A 9, A 10, A 11, A 12] σ σ1) → F.length - i < fl → (σ1 mo = some (moE A Z1)) → (σ1 (A 5) = some (gs_ia X 200 f5)) → (σ1 (A 6) = some (gs_ia X 200 f6)) → (σ1 (A 8) = some (gs_ia X 320 a8)) → (σ1 (A 9) = some (gs_ia X 320 a9)) → (σ1 (A 10) = some (gs_ia X 320 a10)) → (σ1 (A 11) = some (gs_ia X 320 a11)) → (σ1 (A 12) = some (gs_la X 49152 g1)) → ∀ (H : Heap) (locs : List Loc), gs_H X σ1 H → va_S (gs_A X) s.heap H locs → ∀ ls, lv_has ls 2 [(1, .int (nI i)), (0, .ref mo)] → W p l e ({ frames := 1, cells := 0, slots := 0, locals := 26 } : Room) s m ([.ref mo] : List Value).toArray below meth c H locs 0 0 (MQ below (va_Qv (fun σ' => (∃ Z', σ' mo = some (moE A Z') ∧ Z' 7 = F.length ∧ Z' 25 = 0 ∧ Z' 26 = 0 ∧ zfr [7, 25, 26] Z Z') ∧ tupA X σ' A (F.map agT) ∧ bitA X σ' (A 12) (fcs F) ∧ frm [mo, A 8, A 9, A 10, A 11, A 12] σ σ') (gs_U X) (gs_A X)) ([.ref mo] : List Value).toArray s 0 0 (gs_A X)) (F0 m 43 ls []) := by
    intro fl
    induction fl with
    | zero => intro i Z1 a8 a9 a10 a11 g1 σ1 _ _ _ _ _ _ h9; omega
    | succ fl ih =>
      intro i Z1 a8 a9 a10 a11 g1 σ1 hi hz7 hzf htp hg hf1 hmu y_mo y_5 y_6 y_8 y_9 y_10 y_11 y_12 H locs hG hS ls hl
      refine lv_iload_n hx hb d_MO_again_43 rfl (lv_at hl 0 rfl) ?_
      refine lv_aload_n hx hb d_MO_again_44 rfl (lv_at hl 1 rfl) ?_
      refine gs_get hx hb ht hown hK hG k_MO y_mo 4 (by decide) w_666 rfl d_MO_again_45 ?_
      refine gs_top (show (nI (Z1 4)) = (nI F.length) from congrArg nI ((hzf 4 (by simp)).trans z4)) ?_
      refine lv_icmp_ge (tgt := 125) hx hb d_MO_again_48 (by decide) (fun c_48 => ?_) (fun c_48 => ?_)
      · have c_48 : F.length ≤ i := (nI_leI (by omega) (by omega)).mp c_48
        refine lv_aload_n hx hb d_MO_again_125 rfl (lv_at hl 1 rfl) ?_
        refine lv_iconst (v := nI 0) hx hb d_MO_again_126 (by decide) ?_
        refine gs_put hx hb ht hown hK hG hS k_MO y_mo 25 (by decide) w_687 rfl rfl rfl (Nat.le_of_ble_eq_true rfl) d_MO_again_127 (fun H locs hG hS => ?_)
        have hG : gs_H X (gs_up σ1 mo (moE A (va_up Z1 25 0))) H := hG
        obtain ⟨σ_1, eσ_1⟩ : ∃ zq, zq = gs_up σ1 mo (moE A (va_up Z1 25 0)) := ⟨_, rfl⟩
        rw [← eσ_1] at hG
        have hc_2 : σ_1 (A 5) = some (gs_ia X 200 f5) := by rw [eσ_1]; exact gs_ku (gs_ne y_5 y_mo (by simp)) y_5
        have hc_3 : σ_1 (A 6) = some (gs_ia X 200 f6) := by rw [eσ_1]; exact gs_ku (gs_ne y_6 y_mo (by simp)) y_6
        have hc_4 : σ_1 (A 8) = some (gs_ia X 320 a8) := by rw [eσ_1]; exact gs_ku (gs_ne y_8 y_mo (by simp)) y_8
        have hc_5 : σ_1 (A 9) = some (gs_ia X 320 a9) := by rw [eσ_1]; exact gs_ku (gs_ne y_9 y_mo (by simp)) y_9
        have hc_6 : σ_1 (A 10) = some (gs_ia X 320 a10) := by rw [eσ_1]; exact gs_ku (gs_ne y_10 y_mo (by simp)) y_10
        have hc_7 : σ_1 (A 11) = some (gs_ia X 320 a11) := by rw [eσ_1]; exact gs_ku (gs_ne y_11 y_mo (by simp)) y_11
        have hc_8 : σ_1 (A 12) = some (gs_la X 49152 g1) := by rw [eσ_1]; exact gs_ku (gs_ne y_12 y_mo (by simp)) y_12
        have hc_9 : σ_1 mo = some (moE A (va_up Z1 25 0)) := by rw [eσ_1]; exact gs_us
        have fr_10 : frm [mo, A 8, A 9, A 10, A 11, A 12] σ σ_1 := by rw [eσ_1]; exact hf1.up (by simp)
        refine lv_aload_n hx hb d_MO_again_130 rfl (lv_at hl 1 rfl) ?_
        refine lv_iconst (v := nI 0) hx hb d_MO_again_131 (by decide) ?_
        refine gs_put hx hb ht hown hK hG hS k_MO hc_9 26 (by decide) w_688 rfl rfl rfl (Nat.le_of_ble_eq_true rfl) d_MO_again_132 (fun H locs hG hS => ?_)
        have hG : gs_H X (gs_up σ_1 mo (moE A (va_up (va_up Z1 25 0) 26 0))) H := hG
        obtain ⟨σ_11, eσ_11⟩ : ∃ zq, zq = gs_up σ_1 mo (moE A (va_up (va_up Z1 25 0) 26 0)) := ⟨_, rfl⟩
        rw [← eσ_11] at hG
        have hc_12 : σ_11 (A 5) = some (gs_ia X 200 f5) := by rw [eσ_11]; exact gs_ku (gs_ne hc_2 hc_9 (by simp)) hc_2
        have hc_13 : σ_11 (A 6) = some (gs_ia X 200 f6) := by rw [eσ_11]; exact gs_ku (gs_ne hc_3 hc_9 (by simp)) hc_3
        have hc_14 : σ_11 (A 8) = some (gs_ia X 320 a8) := by rw [eσ_11]; exact gs_ku (gs_ne hc_4 hc_9 (by simp)) hc_4
        have hc_15 : σ_11 (A 9) = some (gs_ia X 320 a9) := by rw [eσ_11]; exact gs_ku (gs_ne hc_5 hc_9 (by simp)) hc_5
        have hc_16 : σ_11 (A 10) = some (gs_ia X 320 a10) := by rw [eσ_11]; exact gs_ku (gs_ne hc_6 hc_9 (by simp)) hc_6
        have hc_17 : σ_11 (A 11) = some (gs_ia X 320 a11) := by rw [eσ_11]; exact gs_ku (gs_ne hc_7 hc_9 (by simp)) hc_7
        have hc_18 : σ_11 (A 12) = some (gs_la X 49152 g1) := by rw [eσ_11]; exact gs_ku (gs_ne hc_8 hc_9 (by simp)) hc_8
        have hc_19 : σ_11 mo = some (moE A (va_up (va_up Z1 25 0) 26 0)) := by rw [eσ_11]; exact gs_us
        have fr_20 : frm [mo, A 8, A 9, A 10, A 11, A 12] σ σ_11 := by rw [eσ_11]; exact fr_10.up (by simp)
        have hie : i = F.length := by omega
        rw [hie, List.take_length] at htp hg
        exact gs_vret hx hb hr hK hE hz hG hS hlocks (by first | decide | omega | (dsimp only [headSpec]; omega)) (by first | decide | omega | (dsimp only [headSpec]; omega)) (⟨⟨(va_up (va_up Z1 25 0) 26 0), hc_19, by simp only [va_up]; exact hz7.trans hie, rfl, rfl, ((hzf.mono (by simp)).up (by simp)).up (by simp)⟩, ⟨_, _, _, _, hc_14, hc_15, hc_16, hc_17, htp⟩, ⟨_, hc_18, hg⟩, fr_20⟩) d_MO_again_135
      · have c_48 : ¬ F.length ≤ i := mt (nI_leI (by omega) (by omega)).mpr c_48
        have hiF : i < F.length := by omega
        obtain ⟨x, hx9⟩ := get_ex (L := F) (j := i) hiF
        obtain ⟨hx1, hx2⟩ := hF _ _ hx9
        obtain ⟨hx3, hx4⟩ := hFB.2 _ (List.mem_of_getElem? hx9)
        refine lv_aload_n hx hb d_MO_again_51 rfl (lv_at hl 1 rfl) ?_
        refine gs_get hx hb ht hown hK hG k_MO y_mo 8 (by decide) w_670 rfl d_MO_again_52 ?_
        refine lv_iload_n hx hb d_MO_again_55 rfl (lv_at hl 0 rfl) ?_
        refine lv_aload_n hx hb d_MO_again_56 rfl (lv_at hl 1 rfl) ?_
        refine gs_get hx hb ht hown hK hG k_MO y_mo 5 (by decide) w_667 rfl d_MO_again_57 ?_
        refine lv_iload_n hx hb d_MO_again_60 rfl (lv_at hl 0 rfl) ?_
        refine gs_iald hx hb hK hG y_5 (j := i) (by omega) (by omega) d_MO_again_61 ?_
        refine gs_top (show (f5 i) = (nI x.1) from hx1) ?_
        refine gs_iast hx hb hK hG hS y_8 (j := i) (by omega) (by omega) d_MO_again_62 (fun H locs hG hS => ?_)
        have hG : gs_H X (gs_up σ1 (A 8) (gs_ia X 320 (upd a8 i (nI x.1)))) H := hG
        obtain ⟨σ_21, eσ_21⟩ : ∃ zq, zq = gs_up σ1 (A 8) (gs_ia X 320 (upd a8 i (nI x.1))) := ⟨_, rfl⟩
        rw [← eσ_21] at hG
        have hc_22 : σ_21 mo = some (moE A Z1) := by rw [eσ_21]; exact gs_ku (gs_ne y_mo y_8 (by simp)) y_mo
        have hc_23 : σ_21 (A 5) = some (gs_ia X 200 f5) := by rw [eσ_21]; exact gs_ku (ndp hN 2 4 (by decide) rfl rfl) y_5
        have hc_24 : σ_21 (A 6) = some (gs_ia X 200 f6) := by rw [eσ_21]; exact gs_ku (ndp hN 3 4 (by decide) rfl rfl) y_6
        have hc_25 : σ_21 (A 9) = some (gs_ia X 320 a9) := by rw [eσ_21]; exact gs_ku (Ne.symm (ndp hN 4 5 (by decide) rfl rfl)) y_9
        have hc_26 : σ_21 (A 10) = some (gs_ia X 320 a10) := by rw [eσ_21]; exact gs_ku (Ne.symm (ndp hN 4 6 (by decide) rfl rfl)) y_10
        have hc_27 : σ_21 (A 11) = some (gs_ia X 320 a11) := by rw [eσ_21]; exact gs_ku (Ne.symm (ndp hN 4 7 (by decide) rfl rfl)) y_11
        have hc_28 : σ_21 (A 12) = some (gs_la X 49152 g1) := by rw [eσ_21]; exact gs_ku (Ne.symm (ndp hN 4 8 (by decide) rfl rfl)) y_12
        have hc_29 : σ_21 (A 8) = some (gs_ia X 320 (upd a8 i (nI x.1))) := by rw [eσ_21]; exact gs_us
        have fr_30 : frm [mo, A 8, A 9, A 10, A 11, A 12] σ σ_21 := by rw [eσ_21]; exact hf1.up (by simp)
        refine lv_aload_n hx hb d_MO_again_63 rfl (lv_at hl 1 rfl) ?_
        refine gs_get hx hb ht hown hK hG k_MO hc_22 9 (by decide) w_671 rfl d_MO_again_64 ?_
        refine lv_iload_n hx hb d_MO_again_67 rfl (lv_at hl 0 rfl) ?_
        refine lv_aload_n hx hb d_MO_again_68 rfl (lv_at hl 1 rfl) ?_
        refine gs_get hx hb ht hown hK hG k_MO hc_22 6 (by decide) w_668 rfl d_MO_again_69 ?_
        refine lv_iload_n hx hb d_MO_again_72 rfl (lv_at hl 0 rfl) ?_
        refine gs_iald hx hb hK hG hc_24 (j := i) (by omega) (by omega) d_MO_again_73 ?_
        refine gs_top (show (f6 i) = (nI x.2) from hx2) ?_
        refine gs_iast hx hb hK hG hS hc_25 (j := i) (by omega) (by omega) d_MO_again_74 (fun H locs hG hS => ?_)
        have hG : gs_H X (gs_up σ_21 (A 9) (gs_ia X 320 (upd a9 i (nI x.2)))) H := hG
        obtain ⟨σ_31, eσ_31⟩ : ∃ zq, zq = gs_up σ_21 (A 9) (gs_ia X 320 (upd a9 i (nI x.2))) := ⟨_, rfl⟩
        rw [← eσ_31] at hG
        have hc_32 : σ_31 mo = some (moE A Z1) := by rw [eσ_31]; exact gs_ku (gs_ne hc_22 hc_25 (by simp)) hc_22
        have hc_33 : σ_31 (A 5) = some (gs_ia X 200 f5) := by rw [eσ_31]; exact gs_ku (ndp hN 2 5 (by decide) rfl rfl) hc_23
        have hc_34 : σ_31 (A 6) = some (gs_ia X 200 f6) := by rw [eσ_31]; exact gs_ku (ndp hN 3 5 (by decide) rfl rfl) hc_24
        have hc_35 : σ_31 (A 10) = some (gs_ia X 320 a10) := by rw [eσ_31]; exact gs_ku (Ne.symm (ndp hN 5 6 (by decide) rfl rfl)) hc_26
        have hc_36 : σ_31 (A 11) = some (gs_ia X 320 a11) := by rw [eσ_31]; exact gs_ku (Ne.symm (ndp hN 5 7 (by decide) rfl rfl)) hc_27
        have hc_37 : σ_31 (A 12) = some (gs_la X 49152 g1) := by rw [eσ_31]; exact gs_ku (Ne.symm (ndp hN 5 8 (by decide) rfl rfl)) hc_28
        have hc_38 : σ_31 (A 8) = some (gs_ia X 320 (upd a8 i (nI x.1))) := by rw [eσ_31]; exact gs_ku (ndp hN 4 5 (by decide) rfl rfl) hc_29
        have hc_39 : σ_31 (A 9) = some (gs_ia X 320 (upd a9 i (nI x.2))) := by rw [eσ_31]; exact gs_us
        have fr_40 : frm [mo, A 8, A 9, A 10, A 11, A 12] σ σ_31 := by rw [eσ_31]; exact fr_30.up (by simp)
        refine lv_aload_n hx hb d_MO_again_75 rfl (lv_at hl 1 rfl) ?_
        refine gs_get hx hb ht hown hK hG k_MO hc_32 10 (by decide) w_672 rfl d_MO_again_76 ?_
        refine lv_iload_n hx hb d_MO_again_79 rfl (lv_at hl 0 rfl) ?_
        refine lv_iconst (v := nI 0) hx hb d_MO_again_80 (by decide) ?_
        refine gs_iast hx hb hK hG hS hc_35 (j := i) (by omega) (by omega) d_MO_again_81 (fun H locs hG hS => ?_)
        have hG : gs_H X (gs_up σ_31 (A 10) (gs_ia X 320 (upd a10 i (nI 0)))) H := hG
        obtain ⟨σ_41, eσ_41⟩ : ∃ zq, zq = gs_up σ_31 (A 10) (gs_ia X 320 (upd a10 i (nI 0))) := ⟨_, rfl⟩
        rw [← eσ_41] at hG
        have hc_42 : σ_41 mo = some (moE A Z1) := by rw [eσ_41]; exact gs_ku (gs_ne hc_32 hc_35 (by simp)) hc_32
        have hc_43 : σ_41 (A 5) = some (gs_ia X 200 f5) := by rw [eσ_41]; exact gs_ku (ndp hN 2 6 (by decide) rfl rfl) hc_33
        have hc_44 : σ_41 (A 6) = some (gs_ia X 200 f6) := by rw [eσ_41]; exact gs_ku (ndp hN 3 6 (by decide) rfl rfl) hc_34
        have hc_45 : σ_41 (A 11) = some (gs_ia X 320 a11) := by rw [eσ_41]; exact gs_ku (Ne.symm (ndp hN 6 7 (by decide) rfl rfl)) hc_36
        have hc_46 : σ_41 (A 12) = some (gs_la X 49152 g1) := by rw [eσ_41]; exact gs_ku (Ne.symm (ndp hN 6 8 (by decide) rfl rfl)) hc_37
        have hc_47 : σ_41 (A 8) = some (gs_ia X 320 (upd a8 i (nI x.1))) := by rw [eσ_41]; exact gs_ku (ndp hN 4 6 (by decide) rfl rfl) hc_38
        have hc_48 : σ_41 (A 9) = some (gs_ia X 320 (upd a9 i (nI x.2))) := by rw [eσ_41]; exact gs_ku (ndp hN 5 6 (by decide) rfl rfl) hc_39
        have hc_49 : σ_41 (A 10) = some (gs_ia X 320 (upd a10 i (nI 0))) := by rw [eσ_41]; exact gs_us
        have fr_50 : frm [mo, A 8, A 9, A 10, A 11, A 12] σ σ_41 := by rw [eσ_41]; exact fr_40.up (by simp)
        refine lv_aload_n hx hb d_MO_again_82 rfl (lv_at hl 1 rfl) ?_
        refine gs_get hx hb ht hown hK hG k_MO hc_42 11 (by decide) w_673 rfl d_MO_again_83 ?_
        refine lv_iload_n hx hb d_MO_again_86 rfl (lv_at hl 0 rfl) ?_
        refine lv_iconst (v := -1) hx hb d_MO_again_87 (by decide) ?_
        refine gs_iast hx hb hK hG hS hc_45 (j := i) (by omega) (by omega) d_MO_again_88 (fun H locs hG hS => ?_)
        have hG : gs_H X (gs_up σ_41 (A 11) (gs_ia X 320 (upd a11 i (-1)))) H := hG
        obtain ⟨σ_51, eσ_51⟩ : ∃ zq, zq = gs_up σ_41 (A 11) (gs_ia X 320 (upd a11 i (-1))) := ⟨_, rfl⟩
        rw [← eσ_51] at hG
        have hc_52 : σ_51 mo = some (moE A Z1) := by rw [eσ_51]; exact gs_ku (gs_ne hc_42 hc_45 (by simp)) hc_42
        have hc_53 : σ_51 (A 5) = some (gs_ia X 200 f5) := by rw [eσ_51]; exact gs_ku (ndp hN 2 7 (by decide) rfl rfl) hc_43
        have hc_54 : σ_51 (A 6) = some (gs_ia X 200 f6) := by rw [eσ_51]; exact gs_ku (ndp hN 3 7 (by decide) rfl rfl) hc_44
        have hc_55 : σ_51 (A 12) = some (gs_la X 49152 g1) := by rw [eσ_51]; exact gs_ku (Ne.symm (ndp hN 7 8 (by decide) rfl rfl)) hc_46
        have hc_56 : σ_51 (A 8) = some (gs_ia X 320 (upd a8 i (nI x.1))) := by rw [eσ_51]; exact gs_ku (ndp hN 4 7 (by decide) rfl rfl) hc_47
        have hc_57 : σ_51 (A 9) = some (gs_ia X 320 (upd a9 i (nI x.2))) := by rw [eσ_51]; exact gs_ku (ndp hN 5 7 (by decide) rfl rfl) hc_48
        have hc_58 : σ_51 (A 10) = some (gs_ia X 320 (upd a10 i (nI 0))) := by rw [eσ_51]; exact gs_ku (ndp hN 6 7 (by decide) rfl rfl) hc_49
        have hc_59 : σ_51 (A 11) = some (gs_ia X 320 (upd a11 i (-1))) := by rw [eσ_51]; exact gs_us
        have fr_60 : frm [mo, A 8, A 9, A 10, A 11, A 12] σ σ_51 := by rw [eσ_51]; exact fr_50.up (by simp)
        refine lv_aload_n hx hb d_MO_again_89 rfl (lv_at hl 1 rfl) ?_
        refine gs_get hx hb ht hown hK hG k_MO hc_52 12 (by decide) w_674 rfl d_MO_again_90 ?_
        refine lv_aload_n hx hb d_MO_again_93 rfl (lv_at hl 1 rfl) ?_
        refine gs_get hx hb ht hown hK hG k_MO hc_52 8 (by decide) w_670 rfl d_MO_again_94 ?_
        refine lv_iload_n hx hb d_MO_again_97 rfl (lv_at hl 0 rfl) ?_
        refine gs_iald hx hb hK hG hc_56 (j := i) (by omega) (by omega) d_MO_again_98 ?_
        refine gs_top (show ((upd a8 i (nI x.1)) i) = (nI x.1) from (by simp [upd])) ?_
        refine lv_aload_n hx hb d_MO_again_99 rfl (lv_at hl 1 rfl) ?_
        refine gs_get hx hb ht hown hK hG k_MO hc_52 9 (by decide) w_671 rfl d_MO_again_100 ?_
        refine lv_iload_n hx hb d_MO_again_103 rfl (lv_at hl 0 rfl) ?_
        refine gs_iald hx hb hK hG hc_57 (j := i) (by omega) (by omega) d_MO_again_104 ?_
        refine gs_top (show ((upd a9 i (nI x.2)) i) = (nI x.2) from (by simp [upd])) ?_
        refine lv_iconst (v := nI 1) hx hb d_MO_again_105 (by decide) ?_
        refine gs_callSv (As := [.ref (A 12), .int (nI x.1), .int (nI x.2), .int (nI 1)]) (rest := []) ⟨hx, hb, hml, hown, hts⟩ hK hE hz hG hS (c_MO_setb l X σ_51 (A 12) x.1 x.2 g1 true hc_55 hx3 hx4) mS_MO_setb w_769 rfl hl.1 rfl (Nat.le_of_ble_eq_true rfl) ⟨(by first | decide | omega | (dsimp only [headSpec]; omega)), (by first | decide | omega | (dsimp only [headSpec]; omega))⟩ ⟨(by first | decide | omega | (dsimp only [headSpec]; omega)), (by first | decide | omega | (dsimp only [headSpec]; omega))⟩ d_MO_again_106 (fun σ_106 H locs hp_106 hG hS => ?_)
        rw [hp_106] at hG
        have hG : gs_H X (gs_up σ_51 (A 12) (gs_la X 49152 (stB g1 (262144 * x.1 + x.2) true))) H := hG
        obtain ⟨σ_61, eσ_61⟩ : ∃ zq, zq = gs_up σ_51 (A 12) (gs_la X 49152 (stB g1 (262144 * x.1 + x.2) true)) := ⟨_, rfl⟩
        rw [← eσ_61] at hG
        have hc_62 : σ_61 mo = some (moE A Z1) := by rw [eσ_61]; exact gs_ku (gs_ne hc_52 hc_55 (by simp)) hc_52
        have hc_63 : σ_61 (A 5) = some (gs_ia X 200 f5) := by rw [eσ_61]; exact gs_ku (ndp hN 2 8 (by decide) rfl rfl) hc_53
        have hc_64 : σ_61 (A 6) = some (gs_ia X 200 f6) := by rw [eσ_61]; exact gs_ku (ndp hN 3 8 (by decide) rfl rfl) hc_54
        have hc_65 : σ_61 (A 8) = some (gs_ia X 320 (upd a8 i (nI x.1))) := by rw [eσ_61]; exact gs_ku (ndp hN 4 8 (by decide) rfl rfl) hc_56
        have hc_66 : σ_61 (A 9) = some (gs_ia X 320 (upd a9 i (nI x.2))) := by rw [eσ_61]; exact gs_ku (ndp hN 5 8 (by decide) rfl rfl) hc_57
        have hc_67 : σ_61 (A 10) = some (gs_ia X 320 (upd a10 i (nI 0))) := by rw [eσ_61]; exact gs_ku (ndp hN 6 8 (by decide) rfl rfl) hc_58
        have hc_68 : σ_61 (A 11) = some (gs_ia X 320 (upd a11 i (-1))) := by rw [eσ_61]; exact gs_ku (ndp hN 7 8 (by decide) rfl rfl) hc_59
        have hc_69 : σ_61 (A 12) = some (gs_la X 49152 (stB g1 (262144 * x.1 + x.2) true)) := by rw [eσ_61]; exact gs_us
        have fr_70 : frm [mo, A 8, A 9, A 10, A 11, A 12] σ σ_61 := by rw [eσ_61]; exact fr_60.up (by simp)
        refine lv_aload_n hx hb d_MO_again_109 rfl (lv_at hl 1 rfl) ?_
        refine lv_dup hx hb d_MO_again_110 rfl ?_
        refine gs_get hx hb ht hown hK hG k_MO hc_62 7 (by decide) w_669 rfl d_MO_again_111 ?_
        refine gs_top (show (nI (Z1 7)) = (nI i) from congrArg nI hz7) ?_
        refine lv_iconst (v := nI 1) hx hb d_MO_again_114 (by decide) ?_
        refine lv_iadd hx hb d_MO_again_115 ?_
        refine gs_top (nI_add i 1) ?_
        refine gs_put hx hb ht hown hK hG hS k_MO hc_62 7 (by decide) w_669 rfl rfl rfl (Nat.le_of_ble_eq_true rfl) d_MO_again_116 (fun H locs hG hS => ?_)
        have hG : gs_H X (gs_up σ_61 mo (moE A (va_up Z1 7 (i + 1)))) H := hG
        obtain ⟨σ_71, eσ_71⟩ : ∃ zq, zq = gs_up σ_61 mo (moE A (va_up Z1 7 (i + 1))) := ⟨_, rfl⟩
        rw [← eσ_71] at hG
        have hc_72 : σ_71 (A 5) = some (gs_ia X 200 f5) := by rw [eσ_71]; exact gs_ku (gs_ne hc_63 hc_62 (by simp)) hc_63
        have hc_73 : σ_71 (A 6) = some (gs_ia X 200 f6) := by rw [eσ_71]; exact gs_ku (gs_ne hc_64 hc_62 (by simp)) hc_64
        have hc_74 : σ_71 (A 8) = some (gs_ia X 320 (upd a8 i (nI x.1))) := by rw [eσ_71]; exact gs_ku (gs_ne hc_65 hc_62 (by simp)) hc_65
        have hc_75 : σ_71 (A 9) = some (gs_ia X 320 (upd a9 i (nI x.2))) := by rw [eσ_71]; exact gs_ku (gs_ne hc_66 hc_62 (by simp)) hc_66
        have hc_76 : σ_71 (A 10) = some (gs_ia X 320 (upd a10 i (nI 0))) := by rw [eσ_71]; exact gs_ku (gs_ne hc_67 hc_62 (by simp)) hc_67
        have hc_77 : σ_71 (A 11) = some (gs_ia X 320 (upd a11 i (-1))) := by rw [eσ_71]; exact gs_ku (gs_ne hc_68 hc_62 (by simp)) hc_68
        have hc_78 : σ_71 (A 12) = some (gs_la X 49152 (stB g1 (262144 * x.1 + x.2) true)) := by rw [eσ_71]; exact gs_ku (gs_ne hc_69 hc_62 (by simp)) hc_69
        have hc_79 : σ_71 mo = some (moE A (va_up Z1 7 (i + 1))) := by rw [eσ_71]; exact gs_us
        have fr_80 : frm [mo, A 8, A 9, A 10, A 11, A 12] σ σ_71 := by rw [eσ_71]; exact fr_70.up (by simp)
        refine lv_iinc (v := (nI (i + 1))) (lv' := [(1, .int (nI (i + 1))), (0, .ref mo)]) hx hb d_MO_again_119 hl (k := 0) rfl (by exact nI_1 _) (by decide) rfl (fun ls hl => ?_)
        refine lv_goto (tgt := 43) hx hb d_MO_again_122 (by decide) ?_
        exact ih (i + 1) (va_up Z1 7 (i + 1)) (upd a8 i (nI x.1)) (upd a9 i (nI x.2)) (upd a10 i (nI 0)) (upd a11 i (-1)) (stB g1 (262144 * x.1 + x.2) true) σ_71 (by omega) (by simp [va_up]) (hzf.up (by simp)) (ag_step hx9 htp) (set_step hx9 hg) fr_80 (by omega) hc_79 hc_72 hc_73 hc_74 hc_75 hc_76 hc_77 hc_78 H locs hG hS ls (lv_sub hl [0, 1] rfl)
  have loop1 : ∀ (fl : Nat) (i : Nat) (g1 : Nat → Int64) (σ1 : gs_St), (i ≤ T.length) → (∀ k, gB g1 k = (decide (k ∈ tcs T) && !decide (k ∈ tcs (T.take i)))) → (frm [mo, A 8, A 9, A 10, A 11, A 12] σ σ1) → T.length - i < fl → (σ1 mo = some (moE A Z)) → (σ1 (A 5) = some (gs_ia X 200 f5)) → (σ1 (A 6) = some (gs_ia X 200 f6)) → (σ1 (A 8) = some (gs_ia X 320 f8)) → (σ1 (A 9) = some (gs_ia X 320 f9)) → (σ1 (A 10) = some (gs_ia X 320 f10)) → (σ1 (A 11) = some (gs_ia X 320 f11)) → (σ1 (A 12) = some (gs_la X 49152 g1)) → ∀ (H : Heap) (locs : List Loc), gs_H X σ1 H → va_S (gs_A X) s.heap H locs → ∀ ls, lv_has ls 2 [(1, .int (nI i)), (0, .ref mo)] → W p l e ({ frames := 1, cells := 0, slots := 0, locals := 26 } : Room) s m ([.ref mo] : List Value).toArray below meth c H locs 0 0 (MQ below (va_Qv (fun σ' => (∃ Z', σ' mo = some (moE A Z') ∧ Z' 7 = F.length ∧ Z' 25 = 0 ∧ Z' 26 = 0 ∧ zfr [7, 25, 26] Z Z') ∧ tupA X σ' A (F.map agT) ∧ bitA X σ' (A 12) (fcs F) ∧ frm [mo, A 8, A 9, A 10, A 11, A 12] σ σ') (gs_U X) (gs_A X)) ([.ref mo] : List Value).toArray s 0 0 (gs_A X)) (F0 m 2 ls []) := by
    intro fl
    induction fl with
    | zero => intro i g1 σ1 _ _ _ h9; omega
    | succ fl ih =>
      intro i g1 σ1 hi hg hf1 hmu y_mo y_5 y_6 y_8 y_9 y_10 y_11 y_12 H locs hG hS ls hl
      refine lv_iload_n hx hb d_MO_again_2 rfl (lv_at hl 0 rfl) ?_
      refine lv_aload_n hx hb d_MO_again_3 rfl (lv_at hl 1 rfl) ?_
      refine gs_get hx hb ht hown hK hG k_MO y_mo 7 (by decide) w_669 rfl d_MO_again_4 ?_
      refine gs_top (show (nI (Z 7)) = (nI T.length) from congrArg nI z7) ?_
      refine lv_icmp_ge (tgt := 36) hx hb d_MO_again_7 (by decide) (fun c_7 => ?_) (fun c_7 => ?_)
      · have c_7 : T.length ≤ i := (nI_leI (by omega) (by omega)).mp c_7
        refine lv_aload_n hx hb d_MO_again_36 rfl (lv_at hl 1 rfl) ?_
        refine lv_iconst (v := nI 0) hx hb d_MO_again_37 (by decide) ?_
        refine gs_put hx hb ht hown hK hG hS k_MO y_mo 7 (by decide) w_669 rfl rfl rfl (Nat.le_of_ble_eq_true rfl) d_MO_again_38 (fun H locs hG hS => ?_)
        have hG : gs_H X (gs_up σ1 mo (moE A (va_up Z 7 0))) H := hG
        obtain ⟨σ_1, eσ_1⟩ : ∃ zq, zq = gs_up σ1 mo (moE A (va_up Z 7 0)) := ⟨_, rfl⟩
        rw [← eσ_1] at hG
        have hc_2 : σ_1 (A 5) = some (gs_ia X 200 f5) := by rw [eσ_1]; exact gs_ku (gs_ne y_5 y_mo (by simp)) y_5
        have hc_3 : σ_1 (A 6) = some (gs_ia X 200 f6) := by rw [eσ_1]; exact gs_ku (gs_ne y_6 y_mo (by simp)) y_6
        have hc_4 : σ_1 (A 8) = some (gs_ia X 320 f8) := by rw [eσ_1]; exact gs_ku (gs_ne y_8 y_mo (by simp)) y_8
        have hc_5 : σ_1 (A 9) = some (gs_ia X 320 f9) := by rw [eσ_1]; exact gs_ku (gs_ne y_9 y_mo (by simp)) y_9
        have hc_6 : σ_1 (A 10) = some (gs_ia X 320 f10) := by rw [eσ_1]; exact gs_ku (gs_ne y_10 y_mo (by simp)) y_10
        have hc_7 : σ_1 (A 11) = some (gs_ia X 320 f11) := by rw [eσ_1]; exact gs_ku (gs_ne y_11 y_mo (by simp)) y_11
        have hc_8 : σ_1 (A 12) = some (gs_la X 49152 g1) := by rw [eσ_1]; exact gs_ku (gs_ne y_12 y_mo (by simp)) y_12
        have hc_9 : σ_1 mo = some (moE A (va_up Z 7 0)) := by rw [eσ_1]; exact gs_us
        have fr_10 : frm [mo, A 8, A 9, A 10, A 11, A 12] σ σ_1 := by rw [eσ_1]; exact hf1.up (by simp)
        refine lv_iconst (v := nI 0) hx hb d_MO_again_41 (by decide) ?_
        refine lv_istore_n (lv' := [(1, .int (nI 0)), (0, .ref mo)]) hx hb d_MO_again_42 rfl hl (by decide) rfl (fun ls hl => ?_)
        have hie : i = T.length := by omega
        rw [hie] at hg
        exact loop2 (F.length + 1) 0 (va_up Z 7 0) f8 f9 f10 f11 g1 σ_1 (by omega) (by simp [va_up]) (zfr.rf.up (by simp)) (by simpa using tpOK_nil) (by simpa using bO_nil (clr_end hg)) fr_10 (by omega) hc_9 hc_2 hc_3 hc_4 hc_5 hc_6 hc_7 hc_8 H locs hG hS ls (lv_sub hl [0, 1] rfl)
      · have c_7 : ¬ T.length ≤ i := mt (nI_leI (by omega) (by omega)).mpr c_7
        have hiT : i < T.length := by omega
        obtain ⟨x, hx9⟩ := get_ex (L := T) (j := i) hiT
        obtain ⟨hx1, hx2, _, _⟩ := hT _ _ hx9
        obtain ⟨hx3, hx4, _⟩ := hTB.2 _ (List.mem_of_getElem? hx9)
        refine lv_aload_n hx hb d_MO_again_10 rfl (lv_at hl 1 rfl) ?_
        refine gs_get hx hb ht hown hK hG k_MO y_mo 12 (by decide) w_674 rfl d_MO_again_11 ?_
        refine lv_aload_n hx hb d_MO_again_14 rfl (lv_at hl 1 rfl) ?_
        refine gs_get hx hb ht hown hK hG k_MO y_mo 8 (by decide) w_670 rfl d_MO_again_15 ?_
        refine lv_iload_n hx hb d_MO_again_18 rfl (lv_at hl 0 rfl) ?_
        refine gs_iald hx hb hK hG y_8 (j := i) (by omega) (by omega) d_MO_again_19 ?_
        refine gs_top (show (f8 i) = (nI x.1) from hx1) ?_
        refine lv_aload_n hx hb d_MO_again_20 rfl (lv_at hl 1 rfl) ?_
        refine gs_get hx hb ht hown hK hG k_MO y_mo 9 (by decide) w_671 rfl d_MO_again_21 ?_
        refine lv_iload_n hx hb d_MO_again_24 rfl (lv_at hl 0 rfl) ?_
        refine gs_iald hx hb hK hG y_9 (j := i) (by omega) (by omega) d_MO_again_25 ?_
        refine gs_top (show (f9 i) = (nI x.2.1) from hx2) ?_
        refine lv_iconst (v := nI 0) hx hb d_MO_again_26 (by decide) ?_
        refine gs_callSv (As := [.ref (A 12), .int (nI x.1), .int (nI x.2.1), .int (nI 0)]) (rest := []) ⟨hx, hb, hml, hown, hts⟩ hK hE hz hG hS (c_MO_setb l X σ1 (A 12) x.1 x.2.1 g1 false y_12 hx3 hx4) mS_MO_setb w_769 rfl hl.1 rfl (Nat.le_of_ble_eq_true rfl) ⟨(by first | decide | omega | (dsimp only [headSpec]; omega)), (by first | decide | omega | (dsimp only [headSpec]; omega))⟩ ⟨(by first | decide | omega | (dsimp only [headSpec]; omega)), (by first | decide | omega | (dsimp only [headSpec]; omega))⟩ d_MO_again_27 (fun σ_27 H locs hp_27 hG hS => ?_)
        rw [hp_27] at hG
        have hG : gs_H X (gs_up σ1 (A 12) (gs_la X 49152 (stB g1 (262144 * x.1 + x.2.1) false))) H := hG
        obtain ⟨σ_11, eσ_11⟩ : ∃ zq, zq = gs_up σ1 (A 12) (gs_la X 49152 (stB g1 (262144 * x.1 + x.2.1) false)) := ⟨_, rfl⟩
        rw [← eσ_11] at hG
        have hc_12 : σ_11 mo = some (moE A Z) := by rw [eσ_11]; exact gs_ku (gs_ne y_mo y_12 (by simp)) y_mo
        have hc_13 : σ_11 (A 5) = some (gs_ia X 200 f5) := by rw [eσ_11]; exact gs_ku (ndp hN 2 8 (by decide) rfl rfl) y_5
        have hc_14 : σ_11 (A 6) = some (gs_ia X 200 f6) := by rw [eσ_11]; exact gs_ku (ndp hN 3 8 (by decide) rfl rfl) y_6
        have hc_15 : σ_11 (A 8) = some (gs_ia X 320 f8) := by rw [eσ_11]; exact gs_ku (ndp hN 4 8 (by decide) rfl rfl) y_8
        have hc_16 : σ_11 (A 9) = some (gs_ia X 320 f9) := by rw [eσ_11]; exact gs_ku (ndp hN 5 8 (by decide) rfl rfl) y_9
        have hc_17 : σ_11 (A 10) = some (gs_ia X 320 f10) := by rw [eσ_11]; exact gs_ku (ndp hN 6 8 (by decide) rfl rfl) y_10
        have hc_18 : σ_11 (A 11) = some (gs_ia X 320 f11) := by rw [eσ_11]; exact gs_ku (ndp hN 7 8 (by decide) rfl rfl) y_11
        have hc_19 : σ_11 (A 12) = some (gs_la X 49152 (stB g1 (262144 * x.1 + x.2.1) false)) := by rw [eσ_11]; exact gs_us
        have fr_20 : frm [mo, A 8, A 9, A 10, A 11, A 12] σ σ_11 := by rw [eσ_11]; exact hf1.up (by simp)
        refine lv_iinc (v := (nI (i + 1))) (lv' := [(1, .int (nI (i + 1))), (0, .ref mo)]) hx hb d_MO_again_30 hl (k := 0) rfl (by exact nI_1 _) (by decide) rfl (fun ls hl => ?_)
        refine lv_goto (tgt := 2) hx hb d_MO_again_33 (by decide) ?_
        exact ih (i + 1) (stB g1 (262144 * x.1 + x.2.1) false) σ_11 (by omega) (clr_step hx9 hg) fr_20 (by omega) hc_12 hc_13 hc_14 hc_15 hc_16 hc_17 hc_18 hc_19 H locs hG hS ls (lv_sub hl [0, 1] rfl)
  refine lv_iconst (v := nI 0) hx hb d_MO_again_0 (by decide) ?_
  refine lv_istore_n (lv' := [(1, .int (nI 0)), (0, .ref mo)]) hx hb d_MO_again_1 rfl hl (by decide) rfl (fun ls hl => ?_)
  exact loop1 (T.length + 1) 0 g σ (by omega) (fun k => by rw [hbi k]; simp) fr0 (by omega) m0 m5 m6 m8 m9 m10 m11 m12 _ _ hG hS ls (lv_sub hl [0, 1] rfl)
