set_option maxHeartbeats 4000000 in
set_option maxRecDepth 100000 in
/-- the reference, new -/
theorem c_MO_init (l : Launch) (X : gs_X) (σ : gs_St) (mo : Nat)
    (h0 : σ mo = some (gs_ob 7 [.int 0, .int 0, .null, .null, .int 0, .null, .null, .int 0, .null, .null, .null, .null, .null, .null, .int 0, .int 0, .int 0, .int 0, .null, .null, .null, .null, .null, .null, .null, .int 0, .int 0, .int 0, .null, .null, .null])) : gs_Mv l X y_MO_init b_MO_init 1 ({ frames := 1, cells := 20, slots := 100900, locals := 20 }) σ [.ref mo] (fun σ' => ∃ A, moA X σ' mo A 0 0 (fun _ => 0) [] [] 0 0 [] none ∧ frm [mo] σ σ' ∧ ∀ a ∈ aL A, σ a = none) := by
  refine Met.ofW (cc := b_MO_init) (maxL := 1) (ret := none) (by decide) rfl ?_
  intro p e s m args below meth c s₁ B₀ hml hv
  obtain ⟨rfl, hK, hG, hz, hE⟩ := hv
  have hx := B₀.exec
  have hb := B₀.bytes
  have hr := B₀.returns
  have hts := atoms_spec (ws := gs_ws y_MO_init b_MO_init 1 none) B₀.pre
  have ht : ∀ w ∈ gs_w, w.before _ s = true := fun w h => hts w (List.mem_cons_of_mem _ h)
  have hown : s.vm.findClass R_MO = some m.cls := findClass_of_methodNamed B₀.named
  have hlocks := B₀.notSynchronized
  have hin : meth.name = "<init>" := (name_of_methodNamed B₀.named B₀.method).1
  have hA : ∀ q : Nat, s.heap.size ≤ q → gs_A X q := fun q h => Nat.le_trans hz h
  have hS : va_S (gs_A X) s.heap s.heap [] := va_S.rf
  have hl := lv_entry ([.ref mo]) (n := 1) (Nat.le_of_ble_eq_true rfl)
  rw [lg_entry_eq]
  generalize (lg_sl ([.ref mo]) ++ List.replicate (1 - (lg_sl ([.ref mo])).length) Slot.unset).toArray = ls at hl ⊢
  have hl : lv_has ls 1 [(0, .ref mo)] := hl
  have fr0 : frm [mo] σ σ := frm.rf
  refine lv_aload_n hx hb d_MO_init_0 rfl (lv_at hl 0 rfl) ?_
  refine W.objInit hx hb hown (ht _ w_660) (ht _ w_22) (ht _ w_23) rfl (by rw [hml]; exact hl.1) rfl d_MO_init_1 (Nat.le_of_ble_eq_true rfl) (Nat.le_of_ble_eq_true rfl) ?_
  refine W.eq (g2 := F0 m 4 ls []) rfl ?_
  refine lv_aload_n hx hb d_MO_init_4 rfl (lv_at hl 0 rfl) ?_
  refine lv_bipush (v := nI 12) hx hb d_MO_init_5 (by decide) ?_
  refine gs_newi hx hb ht hK hG hS hA w_61 (by decide) (by first | decide | omega) (by first | decide | omega) d_MO_init_7 (fun q_1 H hq_1 hG hS => ?_)
  obtain ⟨σ_2, eσ_2⟩ : ∃ zq, zq = gs_up σ q_1 (gs_ia X 12 (fun _ => 0)) := ⟨_, rfl⟩
  have hG : gs_H X (gs_up σ q_1 (gs_ia X 12 (fun _ => 0))) H := hG
  rw [← eσ_2] at hG
  have hz_3 : σ q_1 = none := fr0.none_ (al_cons h0 al_nil) hq_1
  have hne_5 : mo ≠ q_1 := fun z => by rw [z, hq_1] at h0; cases h0
  have hc_4 : σ_2 mo = some (gs_ob 7 [.int 0, .int 0, .null, .null, .int 0, .null, .null, .int 0, .null, .null, .null, .null, .null, .null, .int 0, .int 0, .int 0, .int 0, .null, .null, .null, .null, .null, .null, .null, .int 0, .int 0, .int 0, .null, .null, .null]) := by rw [eσ_2]; exact gs_ku hne_5 h0
  have hc_6 : σ_2 q_1 = some (gs_ia X 12 (fun _ => 0)) := by rw [eσ_2]; exact gs_us
  have fr_7 : frm [mo] σ σ_2 := by rw [eσ_2]; exact fr0.born hq_1
  refine gs_putF hx hb ht hown hK hG hS k_MO hc_4 2 (by decide) w_664 rfl hin rfl rfl rfl (Nat.le_of_ble_eq_true rfl) d_MO_init_9 (fun H locs hG hS => ?_)
  have hG : gs_H X (gs_up σ_2 mo (gs_ob 7 [.int 0, .int 0, .ref q_1, .null, .int 0, .null, .null, .int 0, .null, .null, .null, .null, .null, .null, .int 0, .int 0, .int 0, .int 0, .null, .null, .null, .null, .null, .null, .null, .int 0, .int 0, .int 0, .null, .null, .null])) H := hG
  obtain ⟨σ_8, eσ_8⟩ : ∃ zq, zq = gs_up σ_2 mo (gs_ob 7 [.int 0, .int 0, .ref q_1, .null, .int 0, .null, .null, .int 0, .null, .null, .null, .null, .null, .null, .int 0, .int 0, .int 0, .int 0, .null, .null, .null, .null, .null, .null, .null, .int 0, .int 0, .int 0, .null, .null, .null]) := ⟨_, rfl⟩
  rw [← eσ_8] at hG
  have hc_9 : σ_8 q_1 = some (gs_ia X 12 (fun _ => 0)) := by rw [eσ_8]; exact gs_ku (Ne.symm hne_5) hc_6
  have hc_10 : σ_8 mo = some (gs_ob 7 [.int 0, .int 0, .ref q_1, .null, .int 0, .null, .null, .int 0, .null, .null, .null, .null, .null, .null, .int 0, .int 0, .int 0, .int 0, .null, .null, .null, .null, .null, .null, .null, .int 0, .int 0, .int 0, .null, .null, .null]) := by rw [eσ_8]; exact gs_us
  have fr_11 : frm [mo] σ σ_8 := by rw [eσ_8]; exact fr_7.up (by simp)
  refine lv_aload_n hx hb d_MO_init_12 rfl (lv_at hl 0 rfl) ?_
  refine lv_bipush (v := nI 12) hx hb d_MO_init_13 (by decide) ?_
  refine gs_newi hx hb ht hK hG hS hA w_61 (by decide) (by first | decide | omega) (by first | decide | omega) d_MO_init_15 (fun q_12 H hq_12 hG hS => ?_)
  obtain ⟨σ_13, eσ_13⟩ : ∃ zq, zq = gs_up σ_8 q_12 (gs_ia X 12 (fun _ => 0)) := ⟨_, rfl⟩
  have hG : gs_H X (gs_up σ_8 q_12 (gs_ia X 12 (fun _ => 0))) H := hG
  rw [← eσ_13] at hG
  have hz_14 : σ q_12 = none := fr_11.none_ (al_cons hc_10 al_nil) hq_12
  have hne_16 : q_1 ≠ q_12 := fun z => by rw [z, hq_12] at hc_9; cases hc_9
  have hc_15 : σ_13 q_1 = some (gs_ia X 12 (fun _ => 0)) := by rw [eσ_13]; exact gs_ku hne_16 hc_9
  have hne_18 : mo ≠ q_12 := fun z => by rw [z, hq_12] at hc_10; cases hc_10
  have hc_17 : σ_13 mo = some (gs_ob 7 [.int 0, .int 0, .ref q_1, .null, .int 0, .null, .null, .int 0, .null, .null, .null, .null, .null, .null, .int 0, .int 0, .int 0, .int 0, .null, .null, .null, .null, .null, .null, .null, .int 0, .int 0, .int 0, .null, .null, .null]) := by rw [eσ_13]; exact gs_ku hne_18 hc_10
  have hc_19 : σ_13 q_12 = some (gs_ia X 12 (fun _ => 0)) := by rw [eσ_13]; exact gs_us
  have fr_20 : frm [mo] σ σ_13 := by rw [eσ_13]; exact fr_11.born hq_12
  refine gs_putF hx hb ht hown hK hG hS k_MO hc_17 3 (by decide) w_665 rfl hin rfl rfl rfl (Nat.le_of_ble_eq_true rfl) d_MO_init_17 (fun H locs hG hS => ?_)
  have hG : gs_H X (gs_up σ_13 mo (gs_ob 7 [.int 0, .int 0, .ref q_1, .ref q_12, .int 0, .null, .null, .int 0, .null, .null, .null, .null, .null, .null, .int 0, .int 0, .int 0, .int 0, .null, .null, .null, .null, .null, .null, .null, .int 0, .int 0, .int 0, .null, .null, .null])) H := hG
  obtain ⟨σ_21, eσ_21⟩ : ∃ zq, zq = gs_up σ_13 mo (gs_ob 7 [.int 0, .int 0, .ref q_1, .ref q_12, .int 0, .null, .null, .int 0, .null, .null, .null, .null, .null, .null, .int 0, .int 0, .int 0, .int 0, .null, .null, .null, .null, .null, .null, .null, .int 0, .int 0, .int 0, .null, .null, .null]) := ⟨_, rfl⟩
  rw [← eσ_21] at hG
  have hc_22 : σ_21 q_1 = some (gs_ia X 12 (fun _ => 0)) := by rw [eσ_21]; exact gs_ku (Ne.symm hne_5) hc_15
  have hc_23 : σ_21 q_12 = some (gs_ia X 12 (fun _ => 0)) := by rw [eσ_21]; exact gs_ku (Ne.symm hne_18) hc_19
  have hc_24 : σ_21 mo = some (gs_ob 7 [.int 0, .int 0, .ref q_1, .ref q_12, .int 0, .null, .null, .int 0, .null, .null, .null, .null, .null, .null, .int 0, .int 0, .int 0, .int 0, .null, .null, .null, .null, .null, .null, .null, .int 0, .int 0, .int 0, .null, .null, .null]) := by rw [eσ_21]; exact gs_us
  have fr_25 : frm [mo] σ σ_21 := by rw [eσ_21]; exact fr_20.up (by simp)
  refine lv_aload_n hx hb d_MO_init_20 rfl (lv_at hl 0 rfl) ?_
  refine lv_sipush (v := nI 200) hx hb d_MO_init_21 (by decide) ?_
  refine gs_newi hx hb ht hK hG hS hA w_61 (by decide) (by first | decide | omega) (by first | decide | omega) d_MO_init_24 (fun q_26 H hq_26 hG hS => ?_)
  obtain ⟨σ_27, eσ_27⟩ : ∃ zq, zq = gs_up σ_21 q_26 (gs_ia X 200 (fun _ => 0)) := ⟨_, rfl⟩
  have hG : gs_H X (gs_up σ_21 q_26 (gs_ia X 200 (fun _ => 0))) H := hG
  rw [← eσ_27] at hG
  have hz_28 : σ q_26 = none := fr_25.none_ (al_cons hc_24 al_nil) hq_26
  have hne_30 : q_1 ≠ q_26 := fun z => by rw [z, hq_26] at hc_22; cases hc_22
  have hc_29 : σ_27 q_1 = some (gs_ia X 12 (fun _ => 0)) := by rw [eσ_27]; exact gs_ku hne_30 hc_22
  have hne_32 : q_12 ≠ q_26 := fun z => by rw [z, hq_26] at hc_23; cases hc_23
  have hc_31 : σ_27 q_12 = some (gs_ia X 12 (fun _ => 0)) := by rw [eσ_27]; exact gs_ku hne_32 hc_23
  have hne_34 : mo ≠ q_26 := fun z => by rw [z, hq_26] at hc_24; cases hc_24
  have hc_33 : σ_27 mo = some (gs_ob 7 [.int 0, .int 0, .ref q_1, .ref q_12, .int 0, .null, .null, .int 0, .null, .null, .null, .null, .null, .null, .int 0, .int 0, .int 0, .int 0, .null, .null, .null, .null, .null, .null, .null, .int 0, .int 0, .int 0, .null, .null, .null]) := by rw [eσ_27]; exact gs_ku hne_34 hc_24
  have hc_35 : σ_27 q_26 = some (gs_ia X 200 (fun _ => 0)) := by rw [eσ_27]; exact gs_us
  have fr_36 : frm [mo] σ σ_27 := by rw [eσ_27]; exact fr_25.born hq_26
  refine gs_putF hx hb ht hown hK hG hS k_MO hc_33 5 (by decide) w_667 rfl hin rfl rfl rfl (Nat.le_of_ble_eq_true rfl) d_MO_init_26 (fun H locs hG hS => ?_)
  have hG : gs_H X (gs_up σ_27 mo (gs_ob 7 [.int 0, .int 0, .ref q_1, .ref q_12, .int 0, .ref q_26, .null, .int 0, .null, .null, .null, .null, .null, .null, .int 0, .int 0, .int 0, .int 0, .null, .null, .null, .null, .null, .null, .null, .int 0, .int 0, .int 0, .null, .null, .null])) H := hG
  obtain ⟨σ_37, eσ_37⟩ : ∃ zq, zq = gs_up σ_27 mo (gs_ob 7 [.int 0, .int 0, .ref q_1, .ref q_12, .int 0, .ref q_26, .null, .int 0, .null, .null, .null, .null, .null, .null, .int 0, .int 0, .int 0, .int 0, .null, .null, .null, .null, .null, .null, .null, .int 0, .int 0, .int 0, .null, .null, .null]) := ⟨_, rfl⟩
  rw [← eσ_37] at hG
  have hc_38 : σ_37 q_1 = some (gs_ia X 12 (fun _ => 0)) := by rw [eσ_37]; exact gs_ku (Ne.symm hne_5) hc_29
  have hc_39 : σ_37 q_12 = some (gs_ia X 12 (fun _ => 0)) := by rw [eσ_37]; exact gs_ku (Ne.symm hne_18) hc_31
  have hc_40 : σ_37 q_26 = some (gs_ia X 200 (fun _ => 0)) := by rw [eσ_37]; exact gs_ku (Ne.symm hne_34) hc_35
  have hc_41 : σ_37 mo = some (gs_ob 7 [.int 0, .int 0, .ref q_1, .ref q_12, .int 0, .ref q_26, .null, .int 0, .null, .null, .null, .null, .null, .null, .int 0, .int 0, .int 0, .int 0, .null, .null, .null, .null, .null, .null, .null, .int 0, .int 0, .int 0, .null, .null, .null]) := by rw [eσ_37]; exact gs_us
  have fr_42 : frm [mo] σ σ_37 := by rw [eσ_37]; exact fr_36.up (by simp)
  refine lv_aload_n hx hb d_MO_init_29 rfl (lv_at hl 0 rfl) ?_
  refine lv_sipush (v := nI 200) hx hb d_MO_init_30 (by decide) ?_
  refine gs_newi hx hb ht hK hG hS hA w_61 (by decide) (by first | decide | omega) (by first | decide | omega) d_MO_init_33 (fun q_43 H hq_43 hG hS => ?_)
  obtain ⟨σ_44, eσ_44⟩ : ∃ zq, zq = gs_up σ_37 q_43 (gs_ia X 200 (fun _ => 0)) := ⟨_, rfl⟩
  have hG : gs_H X (gs_up σ_37 q_43 (gs_ia X 200 (fun _ => 0))) H := hG
  rw [← eσ_44] at hG
  have hz_45 : σ q_43 = none := fr_42.none_ (al_cons hc_41 al_nil) hq_43
  have hne_47 : q_1 ≠ q_43 := fun z => by rw [z, hq_43] at hc_38; cases hc_38
  have hc_46 : σ_44 q_1 = some (gs_ia X 12 (fun _ => 0)) := by rw [eσ_44]; exact gs_ku hne_47 hc_38
  have hne_49 : q_12 ≠ q_43 := fun z => by rw [z, hq_43] at hc_39; cases hc_39
  have hc_48 : σ_44 q_12 = some (gs_ia X 12 (fun _ => 0)) := by rw [eσ_44]; exact gs_ku hne_49 hc_39
  have hne_51 : q_26 ≠ q_43 := fun z => by rw [z, hq_43] at hc_40; cases hc_40
  have hc_50 : σ_44 q_26 = some (gs_ia X 200 (fun _ => 0)) := by rw [eσ_44]; exact gs_ku hne_51 hc_40
  have hne_53 : mo ≠ q_43 := fun z => by rw [z, hq_43] at hc_41; cases hc_41
  have hc_52 : σ_44 mo = some (gs_ob 7 [.int 0, .int 0, .ref q_1, .ref q_12, .int 0, .ref q_26, .null, .int 0, .null, .null, .null, .null, .null, .null, .int 0, .int 0, .int 0, .int 0, .null, .null, .null, .null, .null, .null, .null, .int 0, .int 0, .int 0, .null, .null, .null]) := by rw [eσ_44]; exact gs_ku hne_53 hc_41
  have hc_54 : σ_44 q_43 = some (gs_ia X 200 (fun _ => 0)) := by rw [eσ_44]; exact gs_us
  have fr_55 : frm [mo] σ σ_44 := by rw [eσ_44]; exact fr_42.born hq_43
  refine gs_putF hx hb ht hown hK hG hS k_MO hc_52 6 (by decide) w_668 rfl hin rfl rfl rfl (Nat.le_of_ble_eq_true rfl) d_MO_init_35 (fun H locs hG hS => ?_)
  have hG : gs_H X (gs_up σ_44 mo (gs_ob 7 [.int 0, .int 0, .ref q_1, .ref q_12, .int 0, .ref q_26, .ref q_43, .int 0, .null, .null, .null, .null, .null, .null, .int 0, .int 0, .int 0, .int 0, .null, .null, .null, .null, .null, .null, .null, .int 0, .int 0, .int 0, .null, .null, .null])) H := hG
  obtain ⟨σ_56, eσ_56⟩ : ∃ zq, zq = gs_up σ_44 mo (gs_ob 7 [.int 0, .int 0, .ref q_1, .ref q_12, .int 0, .ref q_26, .ref q_43, .int 0, .null, .null, .null, .null, .null, .null, .int 0, .int 0, .int 0, .int 0, .null, .null, .null, .null, .null, .null, .null, .int 0, .int 0, .int 0, .null, .null, .null]) := ⟨_, rfl⟩
  rw [← eσ_56] at hG
  have hc_57 : σ_56 q_1 = some (gs_ia X 12 (fun _ => 0)) := by rw [eσ_56]; exact gs_ku (Ne.symm hne_5) hc_46
  have hc_58 : σ_56 q_12 = some (gs_ia X 12 (fun _ => 0)) := by rw [eσ_56]; exact gs_ku (Ne.symm hne_18) hc_48
  have hc_59 : σ_56 q_26 = some (gs_ia X 200 (fun _ => 0)) := by rw [eσ_56]; exact gs_ku (Ne.symm hne_34) hc_50
  have hc_60 : σ_56 q_43 = some (gs_ia X 200 (fun _ => 0)) := by rw [eσ_56]; exact gs_ku (Ne.symm hne_53) hc_54
  have hc_61 : σ_56 mo = some (gs_ob 7 [.int 0, .int 0, .ref q_1, .ref q_12, .int 0, .ref q_26, .ref q_43, .int 0, .null, .null, .null, .null, .null, .null, .int 0, .int 0, .int 0, .int 0, .null, .null, .null, .null, .null, .null, .null, .int 0, .int 0, .int 0, .null, .null, .null]) := by rw [eσ_56]; exact gs_us
  have fr_62 : frm [mo] σ σ_56 := by rw [eσ_56]; exact fr_55.up (by simp)
  refine lv_aload_n hx hb d_MO_init_38 rfl (lv_at hl 0 rfl) ?_
  refine lv_sipush (v := nI 320) hx hb d_MO_init_39 (by decide) ?_
  refine gs_newi hx hb ht hK hG hS hA w_61 (by decide) (by first | decide | omega) (by first | decide | omega) d_MO_init_42 (fun q_63 H hq_63 hG hS => ?_)
  obtain ⟨σ_64, eσ_64⟩ : ∃ zq, zq = gs_up σ_56 q_63 (gs_ia X 320 (fun _ => 0)) := ⟨_, rfl⟩
  have hG : gs_H X (gs_up σ_56 q_63 (gs_ia X 320 (fun _ => 0))) H := hG
  rw [← eσ_64] at hG
  have hz_65 : σ q_63 = none := fr_62.none_ (al_cons hc_61 al_nil) hq_63
  have hne_67 : q_1 ≠ q_63 := fun z => by rw [z, hq_63] at hc_57; cases hc_57
  have hc_66 : σ_64 q_1 = some (gs_ia X 12 (fun _ => 0)) := by rw [eσ_64]; exact gs_ku hne_67 hc_57
  have hne_69 : q_12 ≠ q_63 := fun z => by rw [z, hq_63] at hc_58; cases hc_58
  have hc_68 : σ_64 q_12 = some (gs_ia X 12 (fun _ => 0)) := by rw [eσ_64]; exact gs_ku hne_69 hc_58
  have hne_71 : q_26 ≠ q_63 := fun z => by rw [z, hq_63] at hc_59; cases hc_59
  have hc_70 : σ_64 q_26 = some (gs_ia X 200 (fun _ => 0)) := by rw [eσ_64]; exact gs_ku hne_71 hc_59
  have hne_73 : q_43 ≠ q_63 := fun z => by rw [z, hq_63] at hc_60; cases hc_60
  have hc_72 : σ_64 q_43 = some (gs_ia X 200 (fun _ => 0)) := by rw [eσ_64]; exact gs_ku hne_73 hc_60
  have hne_75 : mo ≠ q_63 := fun z => by rw [z, hq_63] at hc_61; cases hc_61
  have hc_74 : σ_64 mo = some (gs_ob 7 [.int 0, .int 0, .ref q_1, .ref q_12, .int 0, .ref q_26, .ref q_43, .int 0, .null, .null, .null, .null, .null, .null, .int 0, .int 0, .int 0, .int 0, .null, .null, .null, .null, .null, .null, .null, .int 0, .int 0, .int 0, .null, .null, .null]) := by rw [eσ_64]; exact gs_ku hne_75 hc_61
  have hc_76 : σ_64 q_63 = some (gs_ia X 320 (fun _ => 0)) := by rw [eσ_64]; exact gs_us
  have fr_77 : frm [mo] σ σ_64 := by rw [eσ_64]; exact fr_62.born hq_63
  refine gs_putF hx hb ht hown hK hG hS k_MO hc_74 8 (by decide) w_670 rfl hin rfl rfl rfl (Nat.le_of_ble_eq_true rfl) d_MO_init_44 (fun H locs hG hS => ?_)
  have hG : gs_H X (gs_up σ_64 mo (gs_ob 7 [.int 0, .int 0, .ref q_1, .ref q_12, .int 0, .ref q_26, .ref q_43, .int 0, .ref q_63, .null, .null, .null, .null, .null, .int 0, .int 0, .int 0, .int 0, .null, .null, .null, .null, .null, .null, .null, .int 0, .int 0, .int 0, .null, .null, .null])) H := hG
  obtain ⟨σ_78, eσ_78⟩ : ∃ zq, zq = gs_up σ_64 mo (gs_ob 7 [.int 0, .int 0, .ref q_1, .ref q_12, .int 0, .ref q_26, .ref q_43, .int 0, .ref q_63, .null, .null, .null, .null, .null, .int 0, .int 0, .int 0, .int 0, .null, .null, .null, .null, .null, .null, .null, .int 0, .int 0, .int 0, .null, .null, .null]) := ⟨_, rfl⟩
  rw [← eσ_78] at hG
  have hc_79 : σ_78 q_1 = some (gs_ia X 12 (fun _ => 0)) := by rw [eσ_78]; exact gs_ku (Ne.symm hne_5) hc_66
  have hc_80 : σ_78 q_12 = some (gs_ia X 12 (fun _ => 0)) := by rw [eσ_78]; exact gs_ku (Ne.symm hne_18) hc_68
  have hc_81 : σ_78 q_26 = some (gs_ia X 200 (fun _ => 0)) := by rw [eσ_78]; exact gs_ku (Ne.symm hne_34) hc_70
  have hc_82 : σ_78 q_43 = some (gs_ia X 200 (fun _ => 0)) := by rw [eσ_78]; exact gs_ku (Ne.symm hne_53) hc_72
  have hc_83 : σ_78 q_63 = some (gs_ia X 320 (fun _ => 0)) := by rw [eσ_78]; exact gs_ku (Ne.symm hne_75) hc_76
  have hc_84 : σ_78 mo = some (gs_ob 7 [.int 0, .int 0, .ref q_1, .ref q_12, .int 0, .ref q_26, .ref q_43, .int 0, .ref q_63, .null, .null, .null, .null, .null, .int 0, .int 0, .int 0, .int 0, .null, .null, .null, .null, .null, .null, .null, .int 0, .int 0, .int 0, .null, .null, .null]) := by rw [eσ_78]; exact gs_us
  have fr_85 : frm [mo] σ σ_78 := by rw [eσ_78]; exact fr_77.up (by simp)
  refine lv_aload_n hx hb d_MO_init_47 rfl (lv_at hl 0 rfl) ?_
  refine lv_sipush (v := nI 320) hx hb d_MO_init_48 (by decide) ?_
  refine gs_newi hx hb ht hK hG hS hA w_61 (by decide) (by first | decide | omega) (by first | decide | omega) d_MO_init_51 (fun q_86 H hq_86 hG hS => ?_)
  obtain ⟨σ_87, eσ_87⟩ : ∃ zq, zq = gs_up σ_78 q_86 (gs_ia X 320 (fun _ => 0)) := ⟨_, rfl⟩
  have hG : gs_H X (gs_up σ_78 q_86 (gs_ia X 320 (fun _ => 0))) H := hG
  rw [← eσ_87] at hG
  have hz_88 : σ q_86 = none := fr_85.none_ (al_cons hc_84 al_nil) hq_86
  have hne_90 : q_1 ≠ q_86 := fun z => by rw [z, hq_86] at hc_79; cases hc_79
  have hc_89 : σ_87 q_1 = some (gs_ia X 12 (fun _ => 0)) := by rw [eσ_87]; exact gs_ku hne_90 hc_79
  have hne_92 : q_12 ≠ q_86 := fun z => by rw [z, hq_86] at hc_80; cases hc_80
  have hc_91 : σ_87 q_12 = some (gs_ia X 12 (fun _ => 0)) := by rw [eσ_87]; exact gs_ku hne_92 hc_80
  have hne_94 : q_26 ≠ q_86 := fun z => by rw [z, hq_86] at hc_81; cases hc_81
  have hc_93 : σ_87 q_26 = some (gs_ia X 200 (fun _ => 0)) := by rw [eσ_87]; exact gs_ku hne_94 hc_81
  have hne_96 : q_43 ≠ q_86 := fun z => by rw [z, hq_86] at hc_82; cases hc_82
  have hc_95 : σ_87 q_43 = some (gs_ia X 200 (fun _ => 0)) := by rw [eσ_87]; exact gs_ku hne_96 hc_82
  have hne_98 : q_63 ≠ q_86 := fun z => by rw [z, hq_86] at hc_83; cases hc_83
  have hc_97 : σ_87 q_63 = some (gs_ia X 320 (fun _ => 0)) := by rw [eσ_87]; exact gs_ku hne_98 hc_83
  have hne_100 : mo ≠ q_86 := fun z => by rw [z, hq_86] at hc_84; cases hc_84
  have hc_99 : σ_87 mo = some (gs_ob 7 [.int 0, .int 0, .ref q_1, .ref q_12, .int 0, .ref q_26, .ref q_43, .int 0, .ref q_63, .null, .null, .null, .null, .null, .int 0, .int 0, .int 0, .int 0, .null, .null, .null, .null, .null, .null, .null, .int 0, .int 0, .int 0, .null, .null, .null]) := by rw [eσ_87]; exact gs_ku hne_100 hc_84
  have hc_101 : σ_87 q_86 = some (gs_ia X 320 (fun _ => 0)) := by rw [eσ_87]; exact gs_us
  have fr_102 : frm [mo] σ σ_87 := by rw [eσ_87]; exact fr_85.born hq_86
  refine gs_putF hx hb ht hown hK hG hS k_MO hc_99 9 (by decide) w_671 rfl hin rfl rfl rfl (Nat.le_of_ble_eq_true rfl) d_MO_init_53 (fun H locs hG hS => ?_)
  have hG : gs_H X (gs_up σ_87 mo (gs_ob 7 [.int 0, .int 0, .ref q_1, .ref q_12, .int 0, .ref q_26, .ref q_43, .int 0, .ref q_63, .ref q_86, .null, .null, .null, .null, .int 0, .int 0, .int 0, .int 0, .null, .null, .null, .null, .null, .null, .null, .int 0, .int 0, .int 0, .null, .null, .null])) H := hG
  obtain ⟨σ_103, eσ_103⟩ : ∃ zq, zq = gs_up σ_87 mo (gs_ob 7 [.int 0, .int 0, .ref q_1, .ref q_12, .int 0, .ref q_26, .ref q_43, .int 0, .ref q_63, .ref q_86, .null, .null, .null, .null, .int 0, .int 0, .int 0, .int 0, .null, .null, .null, .null, .null, .null, .null, .int 0, .int 0, .int 0, .null, .null, .null]) := ⟨_, rfl⟩
  rw [← eσ_103] at hG
  have hc_104 : σ_103 q_1 = some (gs_ia X 12 (fun _ => 0)) := by rw [eσ_103]; exact gs_ku (Ne.symm hne_5) hc_89
  have hc_105 : σ_103 q_12 = some (gs_ia X 12 (fun _ => 0)) := by rw [eσ_103]; exact gs_ku (Ne.symm hne_18) hc_91
  have hc_106 : σ_103 q_26 = some (gs_ia X 200 (fun _ => 0)) := by rw [eσ_103]; exact gs_ku (Ne.symm hne_34) hc_93
  have hc_107 : σ_103 q_43 = some (gs_ia X 200 (fun _ => 0)) := by rw [eσ_103]; exact gs_ku (Ne.symm hne_53) hc_95
  have hc_108 : σ_103 q_63 = some (gs_ia X 320 (fun _ => 0)) := by rw [eσ_103]; exact gs_ku (Ne.symm hne_75) hc_97
  have hc_109 : σ_103 q_86 = some (gs_ia X 320 (fun _ => 0)) := by rw [eσ_103]; exact gs_ku (Ne.symm hne_100) hc_101
  have hc_110 : σ_103 mo = some (gs_ob 7 [.int 0, .int 0, .ref q_1, .ref q_12, .int 0, .ref q_26, .ref q_43, .int 0, .ref q_63, .ref q_86, .null, .null, .null, .null, .int 0, .int 0, .int 0, .int 0, .null, .null, .null, .null, .null, .null, .null, .int 0, .int 0, .int 0, .null, .null, .null]) := by rw [eσ_103]; exact gs_us
  have fr_111 : frm [mo] σ σ_103 := by rw [eσ_103]; exact fr_102.up (by simp)
  refine lv_aload_n hx hb d_MO_init_56 rfl (lv_at hl 0 rfl) ?_
  refine lv_sipush (v := nI 320) hx hb d_MO_init_57 (by decide) ?_
  refine gs_newi hx hb ht hK hG hS hA w_61 (by decide) (by first | decide | omega) (by first | decide | omega) d_MO_init_60 (fun q_112 H hq_112 hG hS => ?_)
  obtain ⟨σ_113, eσ_113⟩ : ∃ zq, zq = gs_up σ_103 q_112 (gs_ia X 320 (fun _ => 0)) := ⟨_, rfl⟩
  have hG : gs_H X (gs_up σ_103 q_112 (gs_ia X 320 (fun _ => 0))) H := hG
  rw [← eσ_113] at hG
  have hz_114 : σ q_112 = none := fr_111.none_ (al_cons hc_110 al_nil) hq_112
  have hne_116 : q_1 ≠ q_112 := fun z => by rw [z, hq_112] at hc_104; cases hc_104
  have hc_115 : σ_113 q_1 = some (gs_ia X 12 (fun _ => 0)) := by rw [eσ_113]; exact gs_ku hne_116 hc_104
  have hne_118 : q_12 ≠ q_112 := fun z => by rw [z, hq_112] at hc_105; cases hc_105
  have hc_117 : σ_113 q_12 = some (gs_ia X 12 (fun _ => 0)) := by rw [eσ_113]; exact gs_ku hne_118 hc_105
  have hne_120 : q_26 ≠ q_112 := fun z => by rw [z, hq_112] at hc_106; cases hc_106
  have hc_119 : σ_113 q_26 = some (gs_ia X 200 (fun _ => 0)) := by rw [eσ_113]; exact gs_ku hne_120 hc_106
  have hne_122 : q_43 ≠ q_112 := fun z => by rw [z, hq_112] at hc_107; cases hc_107
  have hc_121 : σ_113 q_43 = some (gs_ia X 200 (fun _ => 0)) := by rw [eσ_113]; exact gs_ku hne_122 hc_107
  have hne_124 : q_63 ≠ q_112 := fun z => by rw [z, hq_112] at hc_108; cases hc_108
  have hc_123 : σ_113 q_63 = some (gs_ia X 320 (fun _ => 0)) := by rw [eσ_113]; exact gs_ku hne_124 hc_108
  have hne_126 : q_86 ≠ q_112 := fun z => by rw [z, hq_112] at hc_109; cases hc_109
  have hc_125 : σ_113 q_86 = some (gs_ia X 320 (fun _ => 0)) := by rw [eσ_113]; exact gs_ku hne_126 hc_109
  have hne_128 : mo ≠ q_112 := fun z => by rw [z, hq_112] at hc_110; cases hc_110
  have hc_127 : σ_113 mo = some (gs_ob 7 [.int 0, .int 0, .ref q_1, .ref q_12, .int 0, .ref q_26, .ref q_43, .int 0, .ref q_63, .ref q_86, .null, .null, .null, .null, .int 0, .int 0, .int 0, .int 0, .null, .null, .null, .null, .null, .null, .null, .int 0, .int 0, .int 0, .null, .null, .null]) := by rw [eσ_113]; exact gs_ku hne_128 hc_110
  have hc_129 : σ_113 q_112 = some (gs_ia X 320 (fun _ => 0)) := by rw [eσ_113]; exact gs_us
  have fr_130 : frm [mo] σ σ_113 := by rw [eσ_113]; exact fr_111.born hq_112
  refine gs_putF hx hb ht hown hK hG hS k_MO hc_127 10 (by decide) w_672 rfl hin rfl rfl rfl (Nat.le_of_ble_eq_true rfl) d_MO_init_62 (fun H locs hG hS => ?_)
  have hG : gs_H X (gs_up σ_113 mo (gs_ob 7 [.int 0, .int 0, .ref q_1, .ref q_12, .int 0, .ref q_26, .ref q_43, .int 0, .ref q_63, .ref q_86, .ref q_112, .null, .null, .null, .int 0, .int 0, .int 0, .int 0, .null, .null, .null, .null, .null, .null, .null, .int 0, .int 0, .int 0, .null, .null, .null])) H := hG
  obtain ⟨σ_131, eσ_131⟩ : ∃ zq, zq = gs_up σ_113 mo (gs_ob 7 [.int 0, .int 0, .ref q_1, .ref q_12, .int 0, .ref q_26, .ref q_43, .int 0, .ref q_63, .ref q_86, .ref q_112, .null, .null, .null, .int 0, .int 0, .int 0, .int 0, .null, .null, .null, .null, .null, .null, .null, .int 0, .int 0, .int 0, .null, .null, .null]) := ⟨_, rfl⟩
  rw [← eσ_131] at hG
  have hc_132 : σ_131 q_1 = some (gs_ia X 12 (fun _ => 0)) := by rw [eσ_131]; exact gs_ku (Ne.symm hne_5) hc_115
  have hc_133 : σ_131 q_12 = some (gs_ia X 12 (fun _ => 0)) := by rw [eσ_131]; exact gs_ku (Ne.symm hne_18) hc_117
  have hc_134 : σ_131 q_26 = some (gs_ia X 200 (fun _ => 0)) := by rw [eσ_131]; exact gs_ku (Ne.symm hne_34) hc_119
  have hc_135 : σ_131 q_43 = some (gs_ia X 200 (fun _ => 0)) := by rw [eσ_131]; exact gs_ku (Ne.symm hne_53) hc_121
  have hc_136 : σ_131 q_63 = some (gs_ia X 320 (fun _ => 0)) := by rw [eσ_131]; exact gs_ku (Ne.symm hne_75) hc_123
  have hc_137 : σ_131 q_86 = some (gs_ia X 320 (fun _ => 0)) := by rw [eσ_131]; exact gs_ku (Ne.symm hne_100) hc_125
  have hc_138 : σ_131 q_112 = some (gs_ia X 320 (fun _ => 0)) := by rw [eσ_131]; exact gs_ku (Ne.symm hne_128) hc_129
  have hc_139 : σ_131 mo = some (gs_ob 7 [.int 0, .int 0, .ref q_1, .ref q_12, .int 0, .ref q_26, .ref q_43, .int 0, .ref q_63, .ref q_86, .ref q_112, .null, .null, .null, .int 0, .int 0, .int 0, .int 0, .null, .null, .null, .null, .null, .null, .null, .int 0, .int 0, .int 0, .null, .null, .null]) := by rw [eσ_131]; exact gs_us
  have fr_140 : frm [mo] σ σ_131 := by rw [eσ_131]; exact fr_130.up (by simp)
  refine lv_aload_n hx hb d_MO_init_65 rfl (lv_at hl 0 rfl) ?_
  refine lv_sipush (v := nI 320) hx hb d_MO_init_66 (by decide) ?_
  refine gs_newi hx hb ht hK hG hS hA w_61 (by decide) (by first | decide | omega) (by first | decide | omega) d_MO_init_69 (fun q_141 H hq_141 hG hS => ?_)
  obtain ⟨σ_142, eσ_142⟩ : ∃ zq, zq = gs_up σ_131 q_141 (gs_ia X 320 (fun _ => 0)) := ⟨_, rfl⟩
  have hG : gs_H X (gs_up σ_131 q_141 (gs_ia X 320 (fun _ => 0))) H := hG
  rw [← eσ_142] at hG
  have hz_143 : σ q_141 = none := fr_140.none_ (al_cons hc_139 al_nil) hq_141
  have hne_145 : q_1 ≠ q_141 := fun z => by rw [z, hq_141] at hc_132; cases hc_132
  have hc_144 : σ_142 q_1 = some (gs_ia X 12 (fun _ => 0)) := by rw [eσ_142]; exact gs_ku hne_145 hc_132
  have hne_147 : q_12 ≠ q_141 := fun z => by rw [z, hq_141] at hc_133; cases hc_133
  have hc_146 : σ_142 q_12 = some (gs_ia X 12 (fun _ => 0)) := by rw [eσ_142]; exact gs_ku hne_147 hc_133
  have hne_149 : q_26 ≠ q_141 := fun z => by rw [z, hq_141] at hc_134; cases hc_134
  have hc_148 : σ_142 q_26 = some (gs_ia X 200 (fun _ => 0)) := by rw [eσ_142]; exact gs_ku hne_149 hc_134
  have hne_151 : q_43 ≠ q_141 := fun z => by rw [z, hq_141] at hc_135; cases hc_135
  have hc_150 : σ_142 q_43 = some (gs_ia X 200 (fun _ => 0)) := by rw [eσ_142]; exact gs_ku hne_151 hc_135
  have hne_153 : q_63 ≠ q_141 := fun z => by rw [z, hq_141] at hc_136; cases hc_136
  have hc_152 : σ_142 q_63 = some (gs_ia X 320 (fun _ => 0)) := by rw [eσ_142]; exact gs_ku hne_153 hc_136
  have hne_155 : q_86 ≠ q_141 := fun z => by rw [z, hq_141] at hc_137; cases hc_137
  have hc_154 : σ_142 q_86 = some (gs_ia X 320 (fun _ => 0)) := by rw [eσ_142]; exact gs_ku hne_155 hc_137
  have hne_157 : q_112 ≠ q_141 := fun z => by rw [z, hq_141] at hc_138; cases hc_138
  have hc_156 : σ_142 q_112 = some (gs_ia X 320 (fun _ => 0)) := by rw [eσ_142]; exact gs_ku hne_157 hc_138
  have hne_159 : mo ≠ q_141 := fun z => by rw [z, hq_141] at hc_139; cases hc_139
  have hc_158 : σ_142 mo = some (gs_ob 7 [.int 0, .int 0, .ref q_1, .ref q_12, .int 0, .ref q_26, .ref q_43, .int 0, .ref q_63, .ref q_86, .ref q_112, .null, .null, .null, .int 0, .int 0, .int 0, .int 0, .null, .null, .null, .null, .null, .null, .null, .int 0, .int 0, .int 0, .null, .null, .null]) := by rw [eσ_142]; exact gs_ku hne_159 hc_139
  have hc_160 : σ_142 q_141 = some (gs_ia X 320 (fun _ => 0)) := by rw [eσ_142]; exact gs_us
  have fr_161 : frm [mo] σ σ_142 := by rw [eσ_142]; exact fr_140.born hq_141
  refine gs_putF hx hb ht hown hK hG hS k_MO hc_158 11 (by decide) w_673 rfl hin rfl rfl rfl (Nat.le_of_ble_eq_true rfl) d_MO_init_71 (fun H locs hG hS => ?_)
  have hG : gs_H X (gs_up σ_142 mo (gs_ob 7 [.int 0, .int 0, .ref q_1, .ref q_12, .int 0, .ref q_26, .ref q_43, .int 0, .ref q_63, .ref q_86, .ref q_112, .ref q_141, .null, .null, .int 0, .int 0, .int 0, .int 0, .null, .null, .null, .null, .null, .null, .null, .int 0, .int 0, .int 0, .null, .null, .null])) H := hG
  obtain ⟨σ_162, eσ_162⟩ : ∃ zq, zq = gs_up σ_142 mo (gs_ob 7 [.int 0, .int 0, .ref q_1, .ref q_12, .int 0, .ref q_26, .ref q_43, .int 0, .ref q_63, .ref q_86, .ref q_112, .ref q_141, .null, .null, .int 0, .int 0, .int 0, .int 0, .null, .null, .null, .null, .null, .null, .null, .int 0, .int 0, .int 0, .null, .null, .null]) := ⟨_, rfl⟩
  rw [← eσ_162] at hG
  have hc_163 : σ_162 q_1 = some (gs_ia X 12 (fun _ => 0)) := by rw [eσ_162]; exact gs_ku (Ne.symm hne_5) hc_144
  have hc_164 : σ_162 q_12 = some (gs_ia X 12 (fun _ => 0)) := by rw [eσ_162]; exact gs_ku (Ne.symm hne_18) hc_146
  have hc_165 : σ_162 q_26 = some (gs_ia X 200 (fun _ => 0)) := by rw [eσ_162]; exact gs_ku (Ne.symm hne_34) hc_148
  have hc_166 : σ_162 q_43 = some (gs_ia X 200 (fun _ => 0)) := by rw [eσ_162]; exact gs_ku (Ne.symm hne_53) hc_150
  have hc_167 : σ_162 q_63 = some (gs_ia X 320 (fun _ => 0)) := by rw [eσ_162]; exact gs_ku (Ne.symm hne_75) hc_152
  have hc_168 : σ_162 q_86 = some (gs_ia X 320 (fun _ => 0)) := by rw [eσ_162]; exact gs_ku (Ne.symm hne_100) hc_154
  have hc_169 : σ_162 q_112 = some (gs_ia X 320 (fun _ => 0)) := by rw [eσ_162]; exact gs_ku (Ne.symm hne_128) hc_156
  have hc_170 : σ_162 q_141 = some (gs_ia X 320 (fun _ => 0)) := by rw [eσ_162]; exact gs_ku (Ne.symm hne_159) hc_160
  have hc_171 : σ_162 mo = some (gs_ob 7 [.int 0, .int 0, .ref q_1, .ref q_12, .int 0, .ref q_26, .ref q_43, .int 0, .ref q_63, .ref q_86, .ref q_112, .ref q_141, .null, .null, .int 0, .int 0, .int 0, .int 0, .null, .null, .null, .null, .null, .null, .null, .int 0, .int 0, .int 0, .null, .null, .null]) := by rw [eσ_162]; exact gs_us
  have fr_172 : frm [mo] σ σ_162 := by rw [eσ_162]; exact fr_161.up (by simp)
  refine lv_aload_n hx hb d_MO_init_74 rfl (lv_at hl 0 rfl) ?_
  refine lv_ldc hx hb hown (ht _ w_661) d_MO_init_75 ?_
  refine gs_top (show (49152 : Int32) = nI 49152 by decide) ?_
  refine gs_newl hx hb ht hK hG hS hA w_756 (by decide) (by first | decide | omega) (by first | decide | omega) d_MO_init_77 (fun q_173 H hq_173 hG hS => ?_)
  obtain ⟨σ_174, eσ_174⟩ : ∃ zq, zq = gs_up σ_162 q_173 (gs_la X 49152 (fun _ => 0)) := ⟨_, rfl⟩
  have hG : gs_H X (gs_up σ_162 q_173 (gs_la X 49152 (fun _ => 0))) H := hG
  rw [← eσ_174] at hG
  have hz_175 : σ q_173 = none := fr_172.none_ (al_cons hc_171 al_nil) hq_173
  have hne_177 : q_1 ≠ q_173 := fun z => by rw [z, hq_173] at hc_163; cases hc_163
  have hc_176 : σ_174 q_1 = some (gs_ia X 12 (fun _ => 0)) := by rw [eσ_174]; exact gs_ku hne_177 hc_163
  have hne_179 : q_12 ≠ q_173 := fun z => by rw [z, hq_173] at hc_164; cases hc_164
  have hc_178 : σ_174 q_12 = some (gs_ia X 12 (fun _ => 0)) := by rw [eσ_174]; exact gs_ku hne_179 hc_164
  have hne_181 : q_26 ≠ q_173 := fun z => by rw [z, hq_173] at hc_165; cases hc_165
  have hc_180 : σ_174 q_26 = some (gs_ia X 200 (fun _ => 0)) := by rw [eσ_174]; exact gs_ku hne_181 hc_165
  have hne_183 : q_43 ≠ q_173 := fun z => by rw [z, hq_173] at hc_166; cases hc_166
  have hc_182 : σ_174 q_43 = some (gs_ia X 200 (fun _ => 0)) := by rw [eσ_174]; exact gs_ku hne_183 hc_166
  have hne_185 : q_63 ≠ q_173 := fun z => by rw [z, hq_173] at hc_167; cases hc_167
  have hc_184 : σ_174 q_63 = some (gs_ia X 320 (fun _ => 0)) := by rw [eσ_174]; exact gs_ku hne_185 hc_167
  have hne_187 : q_86 ≠ q_173 := fun z => by rw [z, hq_173] at hc_168; cases hc_168
  have hc_186 : σ_174 q_86 = some (gs_ia X 320 (fun _ => 0)) := by rw [eσ_174]; exact gs_ku hne_187 hc_168
  have hne_189 : q_112 ≠ q_173 := fun z => by rw [z, hq_173] at hc_169; cases hc_169
  have hc_188 : σ_174 q_112 = some (gs_ia X 320 (fun _ => 0)) := by rw [eσ_174]; exact gs_ku hne_189 hc_169
  have hne_191 : q_141 ≠ q_173 := fun z => by rw [z, hq_173] at hc_170; cases hc_170
  have hc_190 : σ_174 q_141 = some (gs_ia X 320 (fun _ => 0)) := by rw [eσ_174]; exact gs_ku hne_191 hc_170
  have hne_193 : mo ≠ q_173 := fun z => by rw [z, hq_173] at hc_171; cases hc_171
  have hc_192 : σ_174 mo = some (gs_ob 7 [.int 0, .int 0, .ref q_1, .ref q_12, .int 0, .ref q_26, .ref q_43, .int 0, .ref q_63, .ref q_86, .ref q_112, .ref q_141, .null, .null, .int 0, .int 0, .int 0, .int 0, .null, .null, .null, .null, .null, .null, .null, .int 0, .int 0, .int 0, .null, .null, .null]) := by rw [eσ_174]; exact gs_ku hne_193 hc_171
  have hc_194 : σ_174 q_173 = some (gs_la X 49152 (fun _ => 0)) := by rw [eσ_174]; exact gs_us
  have fr_195 : frm [mo] σ σ_174 := by rw [eσ_174]; exact fr_172.born hq_173
  refine gs_putF hx hb ht hown hK hG hS k_MO hc_192 12 (by decide) w_674 rfl hin rfl rfl rfl (Nat.le_of_ble_eq_true rfl) d_MO_init_79 (fun H locs hG hS => ?_)
  have hG : gs_H X (gs_up σ_174 mo (gs_ob 7 [.int 0, .int 0, .ref q_1, .ref q_12, .int 0, .ref q_26, .ref q_43, .int 0, .ref q_63, .ref q_86, .ref q_112, .ref q_141, .ref q_173, .null, .int 0, .int 0, .int 0, .int 0, .null, .null, .null, .null, .null, .null, .null, .int 0, .int 0, .int 0, .null, .null, .null])) H := hG
  obtain ⟨σ_196, eσ_196⟩ : ∃ zq, zq = gs_up σ_174 mo (gs_ob 7 [.int 0, .int 0, .ref q_1, .ref q_12, .int 0, .ref q_26, .ref q_43, .int 0, .ref q_63, .ref q_86, .ref q_112, .ref q_141, .ref q_173, .null, .int 0, .int 0, .int 0, .int 0, .null, .null, .null, .null, .null, .null, .null, .int 0, .int 0, .int 0, .null, .null, .null]) := ⟨_, rfl⟩
  rw [← eσ_196] at hG
  have hc_197 : σ_196 q_1 = some (gs_ia X 12 (fun _ => 0)) := by rw [eσ_196]; exact gs_ku (Ne.symm hne_5) hc_176
  have hc_198 : σ_196 q_12 = some (gs_ia X 12 (fun _ => 0)) := by rw [eσ_196]; exact gs_ku (Ne.symm hne_18) hc_178
  have hc_199 : σ_196 q_26 = some (gs_ia X 200 (fun _ => 0)) := by rw [eσ_196]; exact gs_ku (Ne.symm hne_34) hc_180
  have hc_200 : σ_196 q_43 = some (gs_ia X 200 (fun _ => 0)) := by rw [eσ_196]; exact gs_ku (Ne.symm hne_53) hc_182
  have hc_201 : σ_196 q_63 = some (gs_ia X 320 (fun _ => 0)) := by rw [eσ_196]; exact gs_ku (Ne.symm hne_75) hc_184
  have hc_202 : σ_196 q_86 = some (gs_ia X 320 (fun _ => 0)) := by rw [eσ_196]; exact gs_ku (Ne.symm hne_100) hc_186
  have hc_203 : σ_196 q_112 = some (gs_ia X 320 (fun _ => 0)) := by rw [eσ_196]; exact gs_ku (Ne.symm hne_128) hc_188
  have hc_204 : σ_196 q_141 = some (gs_ia X 320 (fun _ => 0)) := by rw [eσ_196]; exact gs_ku (Ne.symm hne_159) hc_190
  have hc_205 : σ_196 q_173 = some (gs_la X 49152 (fun _ => 0)) := by rw [eσ_196]; exact gs_ku (Ne.symm hne_193) hc_194
  have hc_206 : σ_196 mo = some (gs_ob 7 [.int 0, .int 0, .ref q_1, .ref q_12, .int 0, .ref q_26, .ref q_43, .int 0, .ref q_63, .ref q_86, .ref q_112, .ref q_141, .ref q_173, .null, .int 0, .int 0, .int 0, .int 0, .null, .null, .null, .null, .null, .null, .null, .int 0, .int 0, .int 0, .null, .null, .null]) := by rw [eσ_196]; exact gs_us
  have fr_207 : frm [mo] σ σ_196 := by rw [eσ_196]; exact fr_195.up (by simp)
  refine lv_aload_n hx hb d_MO_init_82 rfl (lv_at hl 0 rfl) ?_
  refine lv_ldc hx hb hown (ht _ w_661) d_MO_init_83 ?_
  refine gs_top (show (49152 : Int32) = nI 49152 by decide) ?_
  refine gs_newl hx hb ht hK hG hS hA w_756 (by decide) (by first | decide | omega) (by first | decide | omega) d_MO_init_85 (fun q_208 H hq_208 hG hS => ?_)
  obtain ⟨σ_209, eσ_209⟩ : ∃ zq, zq = gs_up σ_196 q_208 (gs_la X 49152 (fun _ => 0)) := ⟨_, rfl⟩
  have hG : gs_H X (gs_up σ_196 q_208 (gs_la X 49152 (fun _ => 0))) H := hG
  rw [← eσ_209] at hG
  have hz_210 : σ q_208 = none := fr_207.none_ (al_cons hc_206 al_nil) hq_208
  have hne_212 : q_1 ≠ q_208 := fun z => by rw [z, hq_208] at hc_197; cases hc_197
  have hc_211 : σ_209 q_1 = some (gs_ia X 12 (fun _ => 0)) := by rw [eσ_209]; exact gs_ku hne_212 hc_197
  have hne_214 : q_12 ≠ q_208 := fun z => by rw [z, hq_208] at hc_198; cases hc_198
  have hc_213 : σ_209 q_12 = some (gs_ia X 12 (fun _ => 0)) := by rw [eσ_209]; exact gs_ku hne_214 hc_198
  have hne_216 : q_26 ≠ q_208 := fun z => by rw [z, hq_208] at hc_199; cases hc_199
  have hc_215 : σ_209 q_26 = some (gs_ia X 200 (fun _ => 0)) := by rw [eσ_209]; exact gs_ku hne_216 hc_199
  have hne_218 : q_43 ≠ q_208 := fun z => by rw [z, hq_208] at hc_200; cases hc_200
  have hc_217 : σ_209 q_43 = some (gs_ia X 200 (fun _ => 0)) := by rw [eσ_209]; exact gs_ku hne_218 hc_200
  have hne_220 : q_63 ≠ q_208 := fun z => by rw [z, hq_208] at hc_201; cases hc_201
  have hc_219 : σ_209 q_63 = some (gs_ia X 320 (fun _ => 0)) := by rw [eσ_209]; exact gs_ku hne_220 hc_201
  have hne_222 : q_86 ≠ q_208 := fun z => by rw [z, hq_208] at hc_202; cases hc_202
  have hc_221 : σ_209 q_86 = some (gs_ia X 320 (fun _ => 0)) := by rw [eσ_209]; exact gs_ku hne_222 hc_202
  have hne_224 : q_112 ≠ q_208 := fun z => by rw [z, hq_208] at hc_203; cases hc_203
  have hc_223 : σ_209 q_112 = some (gs_ia X 320 (fun _ => 0)) := by rw [eσ_209]; exact gs_ku hne_224 hc_203
  have hne_226 : q_141 ≠ q_208 := fun z => by rw [z, hq_208] at hc_204; cases hc_204
  have hc_225 : σ_209 q_141 = some (gs_ia X 320 (fun _ => 0)) := by rw [eσ_209]; exact gs_ku hne_226 hc_204
  have hne_228 : q_173 ≠ q_208 := fun z => by rw [z, hq_208] at hc_205; cases hc_205
  have hc_227 : σ_209 q_173 = some (gs_la X 49152 (fun _ => 0)) := by rw [eσ_209]; exact gs_ku hne_228 hc_205
  have hne_230 : mo ≠ q_208 := fun z => by rw [z, hq_208] at hc_206; cases hc_206
  have hc_229 : σ_209 mo = some (gs_ob 7 [.int 0, .int 0, .ref q_1, .ref q_12, .int 0, .ref q_26, .ref q_43, .int 0, .ref q_63, .ref q_86, .ref q_112, .ref q_141, .ref q_173, .null, .int 0, .int 0, .int 0, .int 0, .null, .null, .null, .null, .null, .null, .null, .int 0, .int 0, .int 0, .null, .null, .null]) := by rw [eσ_209]; exact gs_ku hne_230 hc_206
  have hc_231 : σ_209 q_208 = some (gs_la X 49152 (fun _ => 0)) := by rw [eσ_209]; exact gs_us
  have fr_232 : frm [mo] σ σ_209 := by rw [eσ_209]; exact fr_207.born hq_208
  refine gs_putF hx hb ht hown hK hG hS k_MO hc_229 13 (by decide) w_675 rfl hin rfl rfl rfl (Nat.le_of_ble_eq_true rfl) d_MO_init_87 (fun H locs hG hS => ?_)
  have hG : gs_H X (gs_up σ_209 mo (gs_ob 7 [.int 0, .int 0, .ref q_1, .ref q_12, .int 0, .ref q_26, .ref q_43, .int 0, .ref q_63, .ref q_86, .ref q_112, .ref q_141, .ref q_173, .ref q_208, .int 0, .int 0, .int 0, .int 0, .null, .null, .null, .null, .null, .null, .null, .int 0, .int 0, .int 0, .null, .null, .null])) H := hG
  obtain ⟨σ_233, eσ_233⟩ : ∃ zq, zq = gs_up σ_209 mo (gs_ob 7 [.int 0, .int 0, .ref q_1, .ref q_12, .int 0, .ref q_26, .ref q_43, .int 0, .ref q_63, .ref q_86, .ref q_112, .ref q_141, .ref q_173, .ref q_208, .int 0, .int 0, .int 0, .int 0, .null, .null, .null, .null, .null, .null, .null, .int 0, .int 0, .int 0, .null, .null, .null]) := ⟨_, rfl⟩
  rw [← eσ_233] at hG
  have hc_234 : σ_233 q_1 = some (gs_ia X 12 (fun _ => 0)) := by rw [eσ_233]; exact gs_ku (Ne.symm hne_5) hc_211
  have hc_235 : σ_233 q_12 = some (gs_ia X 12 (fun _ => 0)) := by rw [eσ_233]; exact gs_ku (Ne.symm hne_18) hc_213
  have hc_236 : σ_233 q_26 = some (gs_ia X 200 (fun _ => 0)) := by rw [eσ_233]; exact gs_ku (Ne.symm hne_34) hc_215
  have hc_237 : σ_233 q_43 = some (gs_ia X 200 (fun _ => 0)) := by rw [eσ_233]; exact gs_ku (Ne.symm hne_53) hc_217
  have hc_238 : σ_233 q_63 = some (gs_ia X 320 (fun _ => 0)) := by rw [eσ_233]; exact gs_ku (Ne.symm hne_75) hc_219
  have hc_239 : σ_233 q_86 = some (gs_ia X 320 (fun _ => 0)) := by rw [eσ_233]; exact gs_ku (Ne.symm hne_100) hc_221
  have hc_240 : σ_233 q_112 = some (gs_ia X 320 (fun _ => 0)) := by rw [eσ_233]; exact gs_ku (Ne.symm hne_128) hc_223
  have hc_241 : σ_233 q_141 = some (gs_ia X 320 (fun _ => 0)) := by rw [eσ_233]; exact gs_ku (Ne.symm hne_159) hc_225
  have hc_242 : σ_233 q_173 = some (gs_la X 49152 (fun _ => 0)) := by rw [eσ_233]; exact gs_ku (Ne.symm hne_193) hc_227
  have hc_243 : σ_233 q_208 = some (gs_la X 49152 (fun _ => 0)) := by rw [eσ_233]; exact gs_ku (Ne.symm hne_230) hc_231
  have hc_244 : σ_233 mo = some (gs_ob 7 [.int 0, .int 0, .ref q_1, .ref q_12, .int 0, .ref q_26, .ref q_43, .int 0, .ref q_63, .ref q_86, .ref q_112, .ref q_141, .ref q_173, .ref q_208, .int 0, .int 0, .int 0, .int 0, .null, .null, .null, .null, .null, .null, .null, .int 0, .int 0, .int 0, .null, .null, .null]) := by rw [eσ_233]; exact gs_us
  have fr_245 : frm [mo] σ σ_233 := by rw [eσ_233]; exact fr_232.up (by simp)
  refine lv_aload_n hx hb d_MO_init_90 rfl (lv_at hl 0 rfl) ?_
  refine lv_bipush (v := nI 25) hx hb d_MO_init_91 (by decide) ?_
  refine gs_newi hx hb ht hK hG hS hA w_61 (by decide) (by first | decide | omega) (by first | decide | omega) d_MO_init_93 (fun q_246 H hq_246 hG hS => ?_)
  obtain ⟨σ_247, eσ_247⟩ : ∃ zq, zq = gs_up σ_233 q_246 (gs_ia X 25 (fun _ => 0)) := ⟨_, rfl⟩
  have hG : gs_H X (gs_up σ_233 q_246 (gs_ia X 25 (fun _ => 0))) H := hG
  rw [← eσ_247] at hG
  have hz_248 : σ q_246 = none := fr_245.none_ (al_cons hc_244 al_nil) hq_246
  have hne_250 : q_1 ≠ q_246 := fun z => by rw [z, hq_246] at hc_234; cases hc_234
  have hc_249 : σ_247 q_1 = some (gs_ia X 12 (fun _ => 0)) := by rw [eσ_247]; exact gs_ku hne_250 hc_234
  have hne_252 : q_12 ≠ q_246 := fun z => by rw [z, hq_246] at hc_235; cases hc_235
  have hc_251 : σ_247 q_12 = some (gs_ia X 12 (fun _ => 0)) := by rw [eσ_247]; exact gs_ku hne_252 hc_235
  have hne_254 : q_26 ≠ q_246 := fun z => by rw [z, hq_246] at hc_236; cases hc_236
  have hc_253 : σ_247 q_26 = some (gs_ia X 200 (fun _ => 0)) := by rw [eσ_247]; exact gs_ku hne_254 hc_236
  have hne_256 : q_43 ≠ q_246 := fun z => by rw [z, hq_246] at hc_237; cases hc_237
  have hc_255 : σ_247 q_43 = some (gs_ia X 200 (fun _ => 0)) := by rw [eσ_247]; exact gs_ku hne_256 hc_237
  have hne_258 : q_63 ≠ q_246 := fun z => by rw [z, hq_246] at hc_238; cases hc_238
  have hc_257 : σ_247 q_63 = some (gs_ia X 320 (fun _ => 0)) := by rw [eσ_247]; exact gs_ku hne_258 hc_238
  have hne_260 : q_86 ≠ q_246 := fun z => by rw [z, hq_246] at hc_239; cases hc_239
  have hc_259 : σ_247 q_86 = some (gs_ia X 320 (fun _ => 0)) := by rw [eσ_247]; exact gs_ku hne_260 hc_239
  have hne_262 : q_112 ≠ q_246 := fun z => by rw [z, hq_246] at hc_240; cases hc_240
  have hc_261 : σ_247 q_112 = some (gs_ia X 320 (fun _ => 0)) := by rw [eσ_247]; exact gs_ku hne_262 hc_240
  have hne_264 : q_141 ≠ q_246 := fun z => by rw [z, hq_246] at hc_241; cases hc_241
  have hc_263 : σ_247 q_141 = some (gs_ia X 320 (fun _ => 0)) := by rw [eσ_247]; exact gs_ku hne_264 hc_241
  have hne_266 : q_173 ≠ q_246 := fun z => by rw [z, hq_246] at hc_242; cases hc_242
  have hc_265 : σ_247 q_173 = some (gs_la X 49152 (fun _ => 0)) := by rw [eσ_247]; exact gs_ku hne_266 hc_242
  have hne_268 : q_208 ≠ q_246 := fun z => by rw [z, hq_246] at hc_243; cases hc_243
  have hc_267 : σ_247 q_208 = some (gs_la X 49152 (fun _ => 0)) := by rw [eσ_247]; exact gs_ku hne_268 hc_243
  have hne_270 : mo ≠ q_246 := fun z => by rw [z, hq_246] at hc_244; cases hc_244
  have hc_269 : σ_247 mo = some (gs_ob 7 [.int 0, .int 0, .ref q_1, .ref q_12, .int 0, .ref q_26, .ref q_43, .int 0, .ref q_63, .ref q_86, .ref q_112, .ref q_141, .ref q_173, .ref q_208, .int 0, .int 0, .int 0, .int 0, .null, .null, .null, .null, .null, .null, .null, .int 0, .int 0, .int 0, .null, .null, .null]) := by rw [eσ_247]; exact gs_ku hne_270 hc_244
  have hc_271 : σ_247 q_246 = some (gs_ia X 25 (fun _ => 0)) := by rw [eσ_247]; exact gs_us
  have fr_272 : frm [mo] σ σ_247 := by rw [eσ_247]; exact fr_245.born hq_246
  refine gs_putF hx hb ht hown hK hG hS k_MO hc_269 18 (by decide) w_680 rfl hin rfl rfl rfl (Nat.le_of_ble_eq_true rfl) d_MO_init_95 (fun H locs hG hS => ?_)
  have hG : gs_H X (gs_up σ_247 mo (gs_ob 7 [.int 0, .int 0, .ref q_1, .ref q_12, .int 0, .ref q_26, .ref q_43, .int 0, .ref q_63, .ref q_86, .ref q_112, .ref q_141, .ref q_173, .ref q_208, .int 0, .int 0, .int 0, .int 0, .ref q_246, .null, .null, .null, .null, .null, .null, .int 0, .int 0, .int 0, .null, .null, .null])) H := hG
  obtain ⟨σ_273, eσ_273⟩ : ∃ zq, zq = gs_up σ_247 mo (gs_ob 7 [.int 0, .int 0, .ref q_1, .ref q_12, .int 0, .ref q_26, .ref q_43, .int 0, .ref q_63, .ref q_86, .ref q_112, .ref q_141, .ref q_173, .ref q_208, .int 0, .int 0, .int 0, .int 0, .ref q_246, .null, .null, .null, .null, .null, .null, .int 0, .int 0, .int 0, .null, .null, .null]) := ⟨_, rfl⟩
  rw [← eσ_273] at hG
  have hc_274 : σ_273 q_1 = some (gs_ia X 12 (fun _ => 0)) := by rw [eσ_273]; exact gs_ku (Ne.symm hne_5) hc_249
  have hc_275 : σ_273 q_12 = some (gs_ia X 12 (fun _ => 0)) := by rw [eσ_273]; exact gs_ku (Ne.symm hne_18) hc_251
  have hc_276 : σ_273 q_26 = some (gs_ia X 200 (fun _ => 0)) := by rw [eσ_273]; exact gs_ku (Ne.symm hne_34) hc_253
  have hc_277 : σ_273 q_43 = some (gs_ia X 200 (fun _ => 0)) := by rw [eσ_273]; exact gs_ku (Ne.symm hne_53) hc_255
  have hc_278 : σ_273 q_63 = some (gs_ia X 320 (fun _ => 0)) := by rw [eσ_273]; exact gs_ku (Ne.symm hne_75) hc_257
  have hc_279 : σ_273 q_86 = some (gs_ia X 320 (fun _ => 0)) := by rw [eσ_273]; exact gs_ku (Ne.symm hne_100) hc_259
  have hc_280 : σ_273 q_112 = some (gs_ia X 320 (fun _ => 0)) := by rw [eσ_273]; exact gs_ku (Ne.symm hne_128) hc_261
  have hc_281 : σ_273 q_141 = some (gs_ia X 320 (fun _ => 0)) := by rw [eσ_273]; exact gs_ku (Ne.symm hne_159) hc_263
  have hc_282 : σ_273 q_173 = some (gs_la X 49152 (fun _ => 0)) := by rw [eσ_273]; exact gs_ku (Ne.symm hne_193) hc_265
  have hc_283 : σ_273 q_208 = some (gs_la X 49152 (fun _ => 0)) := by rw [eσ_273]; exact gs_ku (Ne.symm hne_230) hc_267
  have hc_284 : σ_273 q_246 = some (gs_ia X 25 (fun _ => 0)) := by rw [eσ_273]; exact gs_ku (Ne.symm hne_270) hc_271
  have hc_285 : σ_273 mo = some (gs_ob 7 [.int 0, .int 0, .ref q_1, .ref q_12, .int 0, .ref q_26, .ref q_43, .int 0, .ref q_63, .ref q_86, .ref q_112, .ref q_141, .ref q_173, .ref q_208, .int 0, .int 0, .int 0, .int 0, .ref q_246, .null, .null, .null, .null, .null, .null, .int 0, .int 0, .int 0, .null, .null, .null]) := by rw [eσ_273]; exact gs_us
  have fr_286 : frm [mo] σ σ_273 := by rw [eσ_273]; exact fr_272.up (by simp)
  refine lv_aload_n hx hb d_MO_init_98 rfl (lv_at hl 0 rfl) ?_
  refine lv_bipush (v := nI 75) hx hb d_MO_init_99 (by decide) ?_
  refine gs_newi hx hb ht hK hG hS hA w_61 (by decide) (by first | decide | omega) (by first | decide | omega) d_MO_init_101 (fun q_287 H hq_287 hG hS => ?_)
  obtain ⟨σ_288, eσ_288⟩ : ∃ zq, zq = gs_up σ_273 q_287 (gs_ia X 75 (fun _ => 0)) := ⟨_, rfl⟩
  have hG : gs_H X (gs_up σ_273 q_287 (gs_ia X 75 (fun _ => 0))) H := hG
  rw [← eσ_288] at hG
  have hz_289 : σ q_287 = none := fr_286.none_ (al_cons hc_285 al_nil) hq_287
  have hne_291 : q_1 ≠ q_287 := fun z => by rw [z, hq_287] at hc_274; cases hc_274
  have hc_290 : σ_288 q_1 = some (gs_ia X 12 (fun _ => 0)) := by rw [eσ_288]; exact gs_ku hne_291 hc_274
  have hne_293 : q_12 ≠ q_287 := fun z => by rw [z, hq_287] at hc_275; cases hc_275
  have hc_292 : σ_288 q_12 = some (gs_ia X 12 (fun _ => 0)) := by rw [eσ_288]; exact gs_ku hne_293 hc_275
  have hne_295 : q_26 ≠ q_287 := fun z => by rw [z, hq_287] at hc_276; cases hc_276
  have hc_294 : σ_288 q_26 = some (gs_ia X 200 (fun _ => 0)) := by rw [eσ_288]; exact gs_ku hne_295 hc_276
  have hne_297 : q_43 ≠ q_287 := fun z => by rw [z, hq_287] at hc_277; cases hc_277
  have hc_296 : σ_288 q_43 = some (gs_ia X 200 (fun _ => 0)) := by rw [eσ_288]; exact gs_ku hne_297 hc_277
  have hne_299 : q_63 ≠ q_287 := fun z => by rw [z, hq_287] at hc_278; cases hc_278
  have hc_298 : σ_288 q_63 = some (gs_ia X 320 (fun _ => 0)) := by rw [eσ_288]; exact gs_ku hne_299 hc_278
  have hne_301 : q_86 ≠ q_287 := fun z => by rw [z, hq_287] at hc_279; cases hc_279
  have hc_300 : σ_288 q_86 = some (gs_ia X 320 (fun _ => 0)) := by rw [eσ_288]; exact gs_ku hne_301 hc_279
  have hne_303 : q_112 ≠ q_287 := fun z => by rw [z, hq_287] at hc_280; cases hc_280
  have hc_302 : σ_288 q_112 = some (gs_ia X 320 (fun _ => 0)) := by rw [eσ_288]; exact gs_ku hne_303 hc_280
  have hne_305 : q_141 ≠ q_287 := fun z => by rw [z, hq_287] at hc_281; cases hc_281
  have hc_304 : σ_288 q_141 = some (gs_ia X 320 (fun _ => 0)) := by rw [eσ_288]; exact gs_ku hne_305 hc_281
  have hne_307 : q_173 ≠ q_287 := fun z => by rw [z, hq_287] at hc_282; cases hc_282
  have hc_306 : σ_288 q_173 = some (gs_la X 49152 (fun _ => 0)) := by rw [eσ_288]; exact gs_ku hne_307 hc_282
  have hne_309 : q_208 ≠ q_287 := fun z => by rw [z, hq_287] at hc_283; cases hc_283
  have hc_308 : σ_288 q_208 = some (gs_la X 49152 (fun _ => 0)) := by rw [eσ_288]; exact gs_ku hne_309 hc_283
  have hne_311 : q_246 ≠ q_287 := fun z => by rw [z, hq_287] at hc_284; cases hc_284
  have hc_310 : σ_288 q_246 = some (gs_ia X 25 (fun _ => 0)) := by rw [eσ_288]; exact gs_ku hne_311 hc_284
  have hne_313 : mo ≠ q_287 := fun z => by rw [z, hq_287] at hc_285; cases hc_285
  have hc_312 : σ_288 mo = some (gs_ob 7 [.int 0, .int 0, .ref q_1, .ref q_12, .int 0, .ref q_26, .ref q_43, .int 0, .ref q_63, .ref q_86, .ref q_112, .ref q_141, .ref q_173, .ref q_208, .int 0, .int 0, .int 0, .int 0, .ref q_246, .null, .null, .null, .null, .null, .null, .int 0, .int 0, .int 0, .null, .null, .null]) := by rw [eσ_288]; exact gs_ku hne_313 hc_285
  have hc_314 : σ_288 q_287 = some (gs_ia X 75 (fun _ => 0)) := by rw [eσ_288]; exact gs_us
  have fr_315 : frm [mo] σ σ_288 := by rw [eσ_288]; exact fr_286.born hq_287
  refine gs_putF hx hb ht hown hK hG hS k_MO hc_312 19 (by decide) w_681 rfl hin rfl rfl rfl (Nat.le_of_ble_eq_true rfl) d_MO_init_103 (fun H locs hG hS => ?_)
  have hG : gs_H X (gs_up σ_288 mo (gs_ob 7 [.int 0, .int 0, .ref q_1, .ref q_12, .int 0, .ref q_26, .ref q_43, .int 0, .ref q_63, .ref q_86, .ref q_112, .ref q_141, .ref q_173, .ref q_208, .int 0, .int 0, .int 0, .int 0, .ref q_246, .ref q_287, .null, .null, .null, .null, .null, .int 0, .int 0, .int 0, .null, .null, .null])) H := hG
  obtain ⟨σ_316, eσ_316⟩ : ∃ zq, zq = gs_up σ_288 mo (gs_ob 7 [.int 0, .int 0, .ref q_1, .ref q_12, .int 0, .ref q_26, .ref q_43, .int 0, .ref q_63, .ref q_86, .ref q_112, .ref q_141, .ref q_173, .ref q_208, .int 0, .int 0, .int 0, .int 0, .ref q_246, .ref q_287, .null, .null, .null, .null, .null, .int 0, .int 0, .int 0, .null, .null, .null]) := ⟨_, rfl⟩
  rw [← eσ_316] at hG
  have hc_317 : σ_316 q_1 = some (gs_ia X 12 (fun _ => 0)) := by rw [eσ_316]; exact gs_ku (Ne.symm hne_5) hc_290
  have hc_318 : σ_316 q_12 = some (gs_ia X 12 (fun _ => 0)) := by rw [eσ_316]; exact gs_ku (Ne.symm hne_18) hc_292
  have hc_319 : σ_316 q_26 = some (gs_ia X 200 (fun _ => 0)) := by rw [eσ_316]; exact gs_ku (Ne.symm hne_34) hc_294
  have hc_320 : σ_316 q_43 = some (gs_ia X 200 (fun _ => 0)) := by rw [eσ_316]; exact gs_ku (Ne.symm hne_53) hc_296
  have hc_321 : σ_316 q_63 = some (gs_ia X 320 (fun _ => 0)) := by rw [eσ_316]; exact gs_ku (Ne.symm hne_75) hc_298
  have hc_322 : σ_316 q_86 = some (gs_ia X 320 (fun _ => 0)) := by rw [eσ_316]; exact gs_ku (Ne.symm hne_100) hc_300
  have hc_323 : σ_316 q_112 = some (gs_ia X 320 (fun _ => 0)) := by rw [eσ_316]; exact gs_ku (Ne.symm hne_128) hc_302
  have hc_324 : σ_316 q_141 = some (gs_ia X 320 (fun _ => 0)) := by rw [eσ_316]; exact gs_ku (Ne.symm hne_159) hc_304
  have hc_325 : σ_316 q_173 = some (gs_la X 49152 (fun _ => 0)) := by rw [eσ_316]; exact gs_ku (Ne.symm hne_193) hc_306
  have hc_326 : σ_316 q_208 = some (gs_la X 49152 (fun _ => 0)) := by rw [eσ_316]; exact gs_ku (Ne.symm hne_230) hc_308
  have hc_327 : σ_316 q_246 = some (gs_ia X 25 (fun _ => 0)) := by rw [eσ_316]; exact gs_ku (Ne.symm hne_270) hc_310
  have hc_328 : σ_316 q_287 = some (gs_ia X 75 (fun _ => 0)) := by rw [eσ_316]; exact gs_ku (Ne.symm hne_313) hc_314
  have hc_329 : σ_316 mo = some (gs_ob 7 [.int 0, .int 0, .ref q_1, .ref q_12, .int 0, .ref q_26, .ref q_43, .int 0, .ref q_63, .ref q_86, .ref q_112, .ref q_141, .ref q_173, .ref q_208, .int 0, .int 0, .int 0, .int 0, .ref q_246, .ref q_287, .null, .null, .null, .null, .null, .int 0, .int 0, .int 0, .null, .null, .null]) := by rw [eσ_316]; exact gs_us
  have fr_330 : frm [mo] σ σ_316 := by rw [eσ_316]; exact fr_315.up (by simp)
  refine lv_aload_n hx hb d_MO_init_106 rfl (lv_at hl 0 rfl) ?_
  refine lv_bipush (v := nI 25) hx hb d_MO_init_107 (by decide) ?_
  refine gs_newi hx hb ht hK hG hS hA w_61 (by decide) (by first | decide | omega) (by first | decide | omega) d_MO_init_109 (fun q_331 H hq_331 hG hS => ?_)
  obtain ⟨σ_332, eσ_332⟩ : ∃ zq, zq = gs_up σ_316 q_331 (gs_ia X 25 (fun _ => 0)) := ⟨_, rfl⟩
  have hG : gs_H X (gs_up σ_316 q_331 (gs_ia X 25 (fun _ => 0))) H := hG
  rw [← eσ_332] at hG
  have hz_333 : σ q_331 = none := fr_330.none_ (al_cons hc_329 al_nil) hq_331
  have hne_335 : q_1 ≠ q_331 := fun z => by rw [z, hq_331] at hc_317; cases hc_317
  have hc_334 : σ_332 q_1 = some (gs_ia X 12 (fun _ => 0)) := by rw [eσ_332]; exact gs_ku hne_335 hc_317
  have hne_337 : q_12 ≠ q_331 := fun z => by rw [z, hq_331] at hc_318; cases hc_318
  have hc_336 : σ_332 q_12 = some (gs_ia X 12 (fun _ => 0)) := by rw [eσ_332]; exact gs_ku hne_337 hc_318
  have hne_339 : q_26 ≠ q_331 := fun z => by rw [z, hq_331] at hc_319; cases hc_319
  have hc_338 : σ_332 q_26 = some (gs_ia X 200 (fun _ => 0)) := by rw [eσ_332]; exact gs_ku hne_339 hc_319
  have hne_341 : q_43 ≠ q_331 := fun z => by rw [z, hq_331] at hc_320; cases hc_320
  have hc_340 : σ_332 q_43 = some (gs_ia X 200 (fun _ => 0)) := by rw [eσ_332]; exact gs_ku hne_341 hc_320
  have hne_343 : q_63 ≠ q_331 := fun z => by rw [z, hq_331] at hc_321; cases hc_321
  have hc_342 : σ_332 q_63 = some (gs_ia X 320 (fun _ => 0)) := by rw [eσ_332]; exact gs_ku hne_343 hc_321
  have hne_345 : q_86 ≠ q_331 := fun z => by rw [z, hq_331] at hc_322; cases hc_322
  have hc_344 : σ_332 q_86 = some (gs_ia X 320 (fun _ => 0)) := by rw [eσ_332]; exact gs_ku hne_345 hc_322
  have hne_347 : q_112 ≠ q_331 := fun z => by rw [z, hq_331] at hc_323; cases hc_323
  have hc_346 : σ_332 q_112 = some (gs_ia X 320 (fun _ => 0)) := by rw [eσ_332]; exact gs_ku hne_347 hc_323
  have hne_349 : q_141 ≠ q_331 := fun z => by rw [z, hq_331] at hc_324; cases hc_324
  have hc_348 : σ_332 q_141 = some (gs_ia X 320 (fun _ => 0)) := by rw [eσ_332]; exact gs_ku hne_349 hc_324
  have hne_351 : q_173 ≠ q_331 := fun z => by rw [z, hq_331] at hc_325; cases hc_325
  have hc_350 : σ_332 q_173 = some (gs_la X 49152 (fun _ => 0)) := by rw [eσ_332]; exact gs_ku hne_351 hc_325
  have hne_353 : q_208 ≠ q_331 := fun z => by rw [z, hq_331] at hc_326; cases hc_326
  have hc_352 : σ_332 q_208 = some (gs_la X 49152 (fun _ => 0)) := by rw [eσ_332]; exact gs_ku hne_353 hc_326
  have hne_355 : q_246 ≠ q_331 := fun z => by rw [z, hq_331] at hc_327; cases hc_327
  have hc_354 : σ_332 q_246 = some (gs_ia X 25 (fun _ => 0)) := by rw [eσ_332]; exact gs_ku hne_355 hc_327
  have hne_357 : q_287 ≠ q_331 := fun z => by rw [z, hq_331] at hc_328; cases hc_328
  have hc_356 : σ_332 q_287 = some (gs_ia X 75 (fun _ => 0)) := by rw [eσ_332]; exact gs_ku hne_357 hc_328
  have hne_359 : mo ≠ q_331 := fun z => by rw [z, hq_331] at hc_329; cases hc_329
  have hc_358 : σ_332 mo = some (gs_ob 7 [.int 0, .int 0, .ref q_1, .ref q_12, .int 0, .ref q_26, .ref q_43, .int 0, .ref q_63, .ref q_86, .ref q_112, .ref q_141, .ref q_173, .ref q_208, .int 0, .int 0, .int 0, .int 0, .ref q_246, .ref q_287, .null, .null, .null, .null, .null, .int 0, .int 0, .int 0, .null, .null, .null]) := by rw [eσ_332]; exact gs_ku hne_359 hc_329
  have hc_360 : σ_332 q_331 = some (gs_ia X 25 (fun _ => 0)) := by rw [eσ_332]; exact gs_us
  have fr_361 : frm [mo] σ σ_332 := by rw [eσ_332]; exact fr_330.born hq_331
  refine gs_putF hx hb ht hown hK hG hS k_MO hc_358 20 (by decide) w_682 rfl hin rfl rfl rfl (Nat.le_of_ble_eq_true rfl) d_MO_init_111 (fun H locs hG hS => ?_)
  have hG : gs_H X (gs_up σ_332 mo (gs_ob 7 [.int 0, .int 0, .ref q_1, .ref q_12, .int 0, .ref q_26, .ref q_43, .int 0, .ref q_63, .ref q_86, .ref q_112, .ref q_141, .ref q_173, .ref q_208, .int 0, .int 0, .int 0, .int 0, .ref q_246, .ref q_287, .ref q_331, .null, .null, .null, .null, .int 0, .int 0, .int 0, .null, .null, .null])) H := hG
  obtain ⟨σ_362, eσ_362⟩ : ∃ zq, zq = gs_up σ_332 mo (gs_ob 7 [.int 0, .int 0, .ref q_1, .ref q_12, .int 0, .ref q_26, .ref q_43, .int 0, .ref q_63, .ref q_86, .ref q_112, .ref q_141, .ref q_173, .ref q_208, .int 0, .int 0, .int 0, .int 0, .ref q_246, .ref q_287, .ref q_331, .null, .null, .null, .null, .int 0, .int 0, .int 0, .null, .null, .null]) := ⟨_, rfl⟩
  rw [← eσ_362] at hG
  have hc_363 : σ_362 q_1 = some (gs_ia X 12 (fun _ => 0)) := by rw [eσ_362]; exact gs_ku (Ne.symm hne_5) hc_334
  have hc_364 : σ_362 q_12 = some (gs_ia X 12 (fun _ => 0)) := by rw [eσ_362]; exact gs_ku (Ne.symm hne_18) hc_336
  have hc_365 : σ_362 q_26 = some (gs_ia X 200 (fun _ => 0)) := by rw [eσ_362]; exact gs_ku (Ne.symm hne_34) hc_338
  have hc_366 : σ_362 q_43 = some (gs_ia X 200 (fun _ => 0)) := by rw [eσ_362]; exact gs_ku (Ne.symm hne_53) hc_340
  have hc_367 : σ_362 q_63 = some (gs_ia X 320 (fun _ => 0)) := by rw [eσ_362]; exact gs_ku (Ne.symm hne_75) hc_342
  have hc_368 : σ_362 q_86 = some (gs_ia X 320 (fun _ => 0)) := by rw [eσ_362]; exact gs_ku (Ne.symm hne_100) hc_344
  have hc_369 : σ_362 q_112 = some (gs_ia X 320 (fun _ => 0)) := by rw [eσ_362]; exact gs_ku (Ne.symm hne_128) hc_346
  have hc_370 : σ_362 q_141 = some (gs_ia X 320 (fun _ => 0)) := by rw [eσ_362]; exact gs_ku (Ne.symm hne_159) hc_348
  have hc_371 : σ_362 q_173 = some (gs_la X 49152 (fun _ => 0)) := by rw [eσ_362]; exact gs_ku (Ne.symm hne_193) hc_350
  have hc_372 : σ_362 q_208 = some (gs_la X 49152 (fun _ => 0)) := by rw [eσ_362]; exact gs_ku (Ne.symm hne_230) hc_352
  have hc_373 : σ_362 q_246 = some (gs_ia X 25 (fun _ => 0)) := by rw [eσ_362]; exact gs_ku (Ne.symm hne_270) hc_354
  have hc_374 : σ_362 q_287 = some (gs_ia X 75 (fun _ => 0)) := by rw [eσ_362]; exact gs_ku (Ne.symm hne_313) hc_356
  have hc_375 : σ_362 q_331 = some (gs_ia X 25 (fun _ => 0)) := by rw [eσ_362]; exact gs_ku (Ne.symm hne_359) hc_360
  have hc_376 : σ_362 mo = some (gs_ob 7 [.int 0, .int 0, .ref q_1, .ref q_12, .int 0, .ref q_26, .ref q_43, .int 0, .ref q_63, .ref q_86, .ref q_112, .ref q_141, .ref q_173, .ref q_208, .int 0, .int 0, .int 0, .int 0, .ref q_246, .ref q_287, .ref q_331, .null, .null, .null, .null, .int 0, .int 0, .int 0, .null, .null, .null]) := by rw [eσ_362]; exact gs_us
  have fr_377 : frm [mo] σ σ_362 := by rw [eσ_362]; exact fr_361.up (by simp)
  refine lv_aload_n hx hb d_MO_init_114 rfl (lv_at hl 0 rfl) ?_
  refine lv_sipush (v := nI 150) hx hb d_MO_init_115 (by decide) ?_
  refine gs_newi hx hb ht hK hG hS hA w_61 (by decide) (by first | decide | omega) (by first | decide | omega) d_MO_init_118 (fun q_378 H hq_378 hG hS => ?_)
  obtain ⟨σ_379, eσ_379⟩ : ∃ zq, zq = gs_up σ_362 q_378 (gs_ia X 150 (fun _ => 0)) := ⟨_, rfl⟩
  have hG : gs_H X (gs_up σ_362 q_378 (gs_ia X 150 (fun _ => 0))) H := hG
  rw [← eσ_379] at hG
  have hz_380 : σ q_378 = none := fr_377.none_ (al_cons hc_376 al_nil) hq_378
  have hne_382 : q_1 ≠ q_378 := fun z => by rw [z, hq_378] at hc_363; cases hc_363
  have hc_381 : σ_379 q_1 = some (gs_ia X 12 (fun _ => 0)) := by rw [eσ_379]; exact gs_ku hne_382 hc_363
  have hne_384 : q_12 ≠ q_378 := fun z => by rw [z, hq_378] at hc_364; cases hc_364
  have hc_383 : σ_379 q_12 = some (gs_ia X 12 (fun _ => 0)) := by rw [eσ_379]; exact gs_ku hne_384 hc_364
  have hne_386 : q_26 ≠ q_378 := fun z => by rw [z, hq_378] at hc_365; cases hc_365
  have hc_385 : σ_379 q_26 = some (gs_ia X 200 (fun _ => 0)) := by rw [eσ_379]; exact gs_ku hne_386 hc_365
  have hne_388 : q_43 ≠ q_378 := fun z => by rw [z, hq_378] at hc_366; cases hc_366
  have hc_387 : σ_379 q_43 = some (gs_ia X 200 (fun _ => 0)) := by rw [eσ_379]; exact gs_ku hne_388 hc_366
  have hne_390 : q_63 ≠ q_378 := fun z => by rw [z, hq_378] at hc_367; cases hc_367
  have hc_389 : σ_379 q_63 = some (gs_ia X 320 (fun _ => 0)) := by rw [eσ_379]; exact gs_ku hne_390 hc_367
  have hne_392 : q_86 ≠ q_378 := fun z => by rw [z, hq_378] at hc_368; cases hc_368
  have hc_391 : σ_379 q_86 = some (gs_ia X 320 (fun _ => 0)) := by rw [eσ_379]; exact gs_ku hne_392 hc_368
  have hne_394 : q_112 ≠ q_378 := fun z => by rw [z, hq_378] at hc_369; cases hc_369
  have hc_393 : σ_379 q_112 = some (gs_ia X 320 (fun _ => 0)) := by rw [eσ_379]; exact gs_ku hne_394 hc_369
  have hne_396 : q_141 ≠ q_378 := fun z => by rw [z, hq_378] at hc_370; cases hc_370
  have hc_395 : σ_379 q_141 = some (gs_ia X 320 (fun _ => 0)) := by rw [eσ_379]; exact gs_ku hne_396 hc_370
  have hne_398 : q_173 ≠ q_378 := fun z => by rw [z, hq_378] at hc_371; cases hc_371
  have hc_397 : σ_379 q_173 = some (gs_la X 49152 (fun _ => 0)) := by rw [eσ_379]; exact gs_ku hne_398 hc_371
  have hne_400 : q_208 ≠ q_378 := fun z => by rw [z, hq_378] at hc_372; cases hc_372
  have hc_399 : σ_379 q_208 = some (gs_la X 49152 (fun _ => 0)) := by rw [eσ_379]; exact gs_ku hne_400 hc_372
  have hne_402 : q_246 ≠ q_378 := fun z => by rw [z, hq_378] at hc_373; cases hc_373
  have hc_401 : σ_379 q_246 = some (gs_ia X 25 (fun _ => 0)) := by rw [eσ_379]; exact gs_ku hne_402 hc_373
  have hne_404 : q_287 ≠ q_378 := fun z => by rw [z, hq_378] at hc_374; cases hc_374
  have hc_403 : σ_379 q_287 = some (gs_ia X 75 (fun _ => 0)) := by rw [eσ_379]; exact gs_ku hne_404 hc_374
  have hne_406 : q_331 ≠ q_378 := fun z => by rw [z, hq_378] at hc_375; cases hc_375
  have hc_405 : σ_379 q_331 = some (gs_ia X 25 (fun _ => 0)) := by rw [eσ_379]; exact gs_ku hne_406 hc_375
  have hne_408 : mo ≠ q_378 := fun z => by rw [z, hq_378] at hc_376; cases hc_376
  have hc_407 : σ_379 mo = some (gs_ob 7 [.int 0, .int 0, .ref q_1, .ref q_12, .int 0, .ref q_26, .ref q_43, .int 0, .ref q_63, .ref q_86, .ref q_112, .ref q_141, .ref q_173, .ref q_208, .int 0, .int 0, .int 0, .int 0, .ref q_246, .ref q_287, .ref q_331, .null, .null, .null, .null, .int 0, .int 0, .int 0, .null, .null, .null]) := by rw [eσ_379]; exact gs_ku hne_408 hc_376
  have hc_409 : σ_379 q_378 = some (gs_ia X 150 (fun _ => 0)) := by rw [eσ_379]; exact gs_us
  have fr_410 : frm [mo] σ σ_379 := by rw [eσ_379]; exact fr_377.born hq_378
  refine gs_putF hx hb ht hown hK hG hS k_MO hc_407 21 (by decide) w_683 rfl hin rfl rfl rfl (Nat.le_of_ble_eq_true rfl) d_MO_init_120 (fun H locs hG hS => ?_)
  have hG : gs_H X (gs_up σ_379 mo (gs_ob 7 [.int 0, .int 0, .ref q_1, .ref q_12, .int 0, .ref q_26, .ref q_43, .int 0, .ref q_63, .ref q_86, .ref q_112, .ref q_141, .ref q_173, .ref q_208, .int 0, .int 0, .int 0, .int 0, .ref q_246, .ref q_287, .ref q_331, .ref q_378, .null, .null, .null, .int 0, .int 0, .int 0, .null, .null, .null])) H := hG
  obtain ⟨σ_411, eσ_411⟩ : ∃ zq, zq = gs_up σ_379 mo (gs_ob 7 [.int 0, .int 0, .ref q_1, .ref q_12, .int 0, .ref q_26, .ref q_43, .int 0, .ref q_63, .ref q_86, .ref q_112, .ref q_141, .ref q_173, .ref q_208, .int 0, .int 0, .int 0, .int 0, .ref q_246, .ref q_287, .ref q_331, .ref q_378, .null, .null, .null, .int 0, .int 0, .int 0, .null, .null, .null]) := ⟨_, rfl⟩
  rw [← eσ_411] at hG
  have hc_412 : σ_411 q_1 = some (gs_ia X 12 (fun _ => 0)) := by rw [eσ_411]; exact gs_ku (Ne.symm hne_5) hc_381
  have hc_413 : σ_411 q_12 = some (gs_ia X 12 (fun _ => 0)) := by rw [eσ_411]; exact gs_ku (Ne.symm hne_18) hc_383
  have hc_414 : σ_411 q_26 = some (gs_ia X 200 (fun _ => 0)) := by rw [eσ_411]; exact gs_ku (Ne.symm hne_34) hc_385
  have hc_415 : σ_411 q_43 = some (gs_ia X 200 (fun _ => 0)) := by rw [eσ_411]; exact gs_ku (Ne.symm hne_53) hc_387
  have hc_416 : σ_411 q_63 = some (gs_ia X 320 (fun _ => 0)) := by rw [eσ_411]; exact gs_ku (Ne.symm hne_75) hc_389
  have hc_417 : σ_411 q_86 = some (gs_ia X 320 (fun _ => 0)) := by rw [eσ_411]; exact gs_ku (Ne.symm hne_100) hc_391
  have hc_418 : σ_411 q_112 = some (gs_ia X 320 (fun _ => 0)) := by rw [eσ_411]; exact gs_ku (Ne.symm hne_128) hc_393
  have hc_419 : σ_411 q_141 = some (gs_ia X 320 (fun _ => 0)) := by rw [eσ_411]; exact gs_ku (Ne.symm hne_159) hc_395
  have hc_420 : σ_411 q_173 = some (gs_la X 49152 (fun _ => 0)) := by rw [eσ_411]; exact gs_ku (Ne.symm hne_193) hc_397
  have hc_421 : σ_411 q_208 = some (gs_la X 49152 (fun _ => 0)) := by rw [eσ_411]; exact gs_ku (Ne.symm hne_230) hc_399
  have hc_422 : σ_411 q_246 = some (gs_ia X 25 (fun _ => 0)) := by rw [eσ_411]; exact gs_ku (Ne.symm hne_270) hc_401
  have hc_423 : σ_411 q_287 = some (gs_ia X 75 (fun _ => 0)) := by rw [eσ_411]; exact gs_ku (Ne.symm hne_313) hc_403
  have hc_424 : σ_411 q_331 = some (gs_ia X 25 (fun _ => 0)) := by rw [eσ_411]; exact gs_ku (Ne.symm hne_359) hc_405
  have hc_425 : σ_411 q_378 = some (gs_ia X 150 (fun _ => 0)) := by rw [eσ_411]; exact gs_ku (Ne.symm hne_408) hc_409
  have hc_426 : σ_411 mo = some (gs_ob 7 [.int 0, .int 0, .ref q_1, .ref q_12, .int 0, .ref q_26, .ref q_43, .int 0, .ref q_63, .ref q_86, .ref q_112, .ref q_141, .ref q_173, .ref q_208, .int 0, .int 0, .int 0, .int 0, .ref q_246, .ref q_287, .ref q_331, .ref q_378, .null, .null, .null, .int 0, .int 0, .int 0, .null, .null, .null]) := by rw [eσ_411]; exact gs_us
  have fr_427 : frm [mo] σ σ_411 := by rw [eσ_411]; exact fr_410.up (by simp)
  refine lv_aload_n hx hb d_MO_init_123 rfl (lv_at hl 0 rfl) ?_
  refine lv_sipush (v := nI 150) hx hb d_MO_init_124 (by decide) ?_
  refine gs_newi hx hb ht hK hG hS hA w_61 (by decide) (by first | decide | omega) (by first | decide | omega) d_MO_init_127 (fun q_428 H hq_428 hG hS => ?_)
  obtain ⟨σ_429, eσ_429⟩ : ∃ zq, zq = gs_up σ_411 q_428 (gs_ia X 150 (fun _ => 0)) := ⟨_, rfl⟩
  have hG : gs_H X (gs_up σ_411 q_428 (gs_ia X 150 (fun _ => 0))) H := hG
  rw [← eσ_429] at hG
  have hz_430 : σ q_428 = none := fr_427.none_ (al_cons hc_426 al_nil) hq_428
  have hne_432 : q_1 ≠ q_428 := fun z => by rw [z, hq_428] at hc_412; cases hc_412
  have hc_431 : σ_429 q_1 = some (gs_ia X 12 (fun _ => 0)) := by rw [eσ_429]; exact gs_ku hne_432 hc_412
  have hne_434 : q_12 ≠ q_428 := fun z => by rw [z, hq_428] at hc_413; cases hc_413
  have hc_433 : σ_429 q_12 = some (gs_ia X 12 (fun _ => 0)) := by rw [eσ_429]; exact gs_ku hne_434 hc_413
  have hne_436 : q_26 ≠ q_428 := fun z => by rw [z, hq_428] at hc_414; cases hc_414
  have hc_435 : σ_429 q_26 = some (gs_ia X 200 (fun _ => 0)) := by rw [eσ_429]; exact gs_ku hne_436 hc_414
  have hne_438 : q_43 ≠ q_428 := fun z => by rw [z, hq_428] at hc_415; cases hc_415
  have hc_437 : σ_429 q_43 = some (gs_ia X 200 (fun _ => 0)) := by rw [eσ_429]; exact gs_ku hne_438 hc_415
  have hne_440 : q_63 ≠ q_428 := fun z => by rw [z, hq_428] at hc_416; cases hc_416
  have hc_439 : σ_429 q_63 = some (gs_ia X 320 (fun _ => 0)) := by rw [eσ_429]; exact gs_ku hne_440 hc_416
  have hne_442 : q_86 ≠ q_428 := fun z => by rw [z, hq_428] at hc_417; cases hc_417
  have hc_441 : σ_429 q_86 = some (gs_ia X 320 (fun _ => 0)) := by rw [eσ_429]; exact gs_ku hne_442 hc_417
  have hne_444 : q_112 ≠ q_428 := fun z => by rw [z, hq_428] at hc_418; cases hc_418
  have hc_443 : σ_429 q_112 = some (gs_ia X 320 (fun _ => 0)) := by rw [eσ_429]; exact gs_ku hne_444 hc_418
  have hne_446 : q_141 ≠ q_428 := fun z => by rw [z, hq_428] at hc_419; cases hc_419
  have hc_445 : σ_429 q_141 = some (gs_ia X 320 (fun _ => 0)) := by rw [eσ_429]; exact gs_ku hne_446 hc_419
  have hne_448 : q_173 ≠ q_428 := fun z => by rw [z, hq_428] at hc_420; cases hc_420
  have hc_447 : σ_429 q_173 = some (gs_la X 49152 (fun _ => 0)) := by rw [eσ_429]; exact gs_ku hne_448 hc_420
  have hne_450 : q_208 ≠ q_428 := fun z => by rw [z, hq_428] at hc_421; cases hc_421
  have hc_449 : σ_429 q_208 = some (gs_la X 49152 (fun _ => 0)) := by rw [eσ_429]; exact gs_ku hne_450 hc_421
  have hne_452 : q_246 ≠ q_428 := fun z => by rw [z, hq_428] at hc_422; cases hc_422
  have hc_451 : σ_429 q_246 = some (gs_ia X 25 (fun _ => 0)) := by rw [eσ_429]; exact gs_ku hne_452 hc_422
  have hne_454 : q_287 ≠ q_428 := fun z => by rw [z, hq_428] at hc_423; cases hc_423
  have hc_453 : σ_429 q_287 = some (gs_ia X 75 (fun _ => 0)) := by rw [eσ_429]; exact gs_ku hne_454 hc_423
  have hne_456 : q_331 ≠ q_428 := fun z => by rw [z, hq_428] at hc_424; cases hc_424
  have hc_455 : σ_429 q_331 = some (gs_ia X 25 (fun _ => 0)) := by rw [eσ_429]; exact gs_ku hne_456 hc_424
  have hne_458 : q_378 ≠ q_428 := fun z => by rw [z, hq_428] at hc_425; cases hc_425
  have hc_457 : σ_429 q_378 = some (gs_ia X 150 (fun _ => 0)) := by rw [eσ_429]; exact gs_ku hne_458 hc_425
  have hne_460 : mo ≠ q_428 := fun z => by rw [z, hq_428] at hc_426; cases hc_426
  have hc_459 : σ_429 mo = some (gs_ob 7 [.int 0, .int 0, .ref q_1, .ref q_12, .int 0, .ref q_26, .ref q_43, .int 0, .ref q_63, .ref q_86, .ref q_112, .ref q_141, .ref q_173, .ref q_208, .int 0, .int 0, .int 0, .int 0, .ref q_246, .ref q_287, .ref q_331, .ref q_378, .null, .null, .null, .int 0, .int 0, .int 0, .null, .null, .null]) := by rw [eσ_429]; exact gs_ku hne_460 hc_426
  have hc_461 : σ_429 q_428 = some (gs_ia X 150 (fun _ => 0)) := by rw [eσ_429]; exact gs_us
  have fr_462 : frm [mo] σ σ_429 := by rw [eσ_429]; exact fr_427.born hq_428
  refine gs_putF hx hb ht hown hK hG hS k_MO hc_459 22 (by decide) w_684 rfl hin rfl rfl rfl (Nat.le_of_ble_eq_true rfl) d_MO_init_129 (fun H locs hG hS => ?_)
  have hG : gs_H X (gs_up σ_429 mo (gs_ob 7 [.int 0, .int 0, .ref q_1, .ref q_12, .int 0, .ref q_26, .ref q_43, .int 0, .ref q_63, .ref q_86, .ref q_112, .ref q_141, .ref q_173, .ref q_208, .int 0, .int 0, .int 0, .int 0, .ref q_246, .ref q_287, .ref q_331, .ref q_378, .ref q_428, .null, .null, .int 0, .int 0, .int 0, .null, .null, .null])) H := hG
  obtain ⟨σ_463, eσ_463⟩ : ∃ zq, zq = gs_up σ_429 mo (gs_ob 7 [.int 0, .int 0, .ref q_1, .ref q_12, .int 0, .ref q_26, .ref q_43, .int 0, .ref q_63, .ref q_86, .ref q_112, .ref q_141, .ref q_173, .ref q_208, .int 0, .int 0, .int 0, .int 0, .ref q_246, .ref q_287, .ref q_331, .ref q_378, .ref q_428, .null, .null, .int 0, .int 0, .int 0, .null, .null, .null]) := ⟨_, rfl⟩
  rw [← eσ_463] at hG
  have hc_464 : σ_463 q_1 = some (gs_ia X 12 (fun _ => 0)) := by rw [eσ_463]; exact gs_ku (Ne.symm hne_5) hc_431
  have hc_465 : σ_463 q_12 = some (gs_ia X 12 (fun _ => 0)) := by rw [eσ_463]; exact gs_ku (Ne.symm hne_18) hc_433
  have hc_466 : σ_463 q_26 = some (gs_ia X 200 (fun _ => 0)) := by rw [eσ_463]; exact gs_ku (Ne.symm hne_34) hc_435
  have hc_467 : σ_463 q_43 = some (gs_ia X 200 (fun _ => 0)) := by rw [eσ_463]; exact gs_ku (Ne.symm hne_53) hc_437
  have hc_468 : σ_463 q_63 = some (gs_ia X 320 (fun _ => 0)) := by rw [eσ_463]; exact gs_ku (Ne.symm hne_75) hc_439
  have hc_469 : σ_463 q_86 = some (gs_ia X 320 (fun _ => 0)) := by rw [eσ_463]; exact gs_ku (Ne.symm hne_100) hc_441
  have hc_470 : σ_463 q_112 = some (gs_ia X 320 (fun _ => 0)) := by rw [eσ_463]; exact gs_ku (Ne.symm hne_128) hc_443
  have hc_471 : σ_463 q_141 = some (gs_ia X 320 (fun _ => 0)) := by rw [eσ_463]; exact gs_ku (Ne.symm hne_159) hc_445
  have hc_472 : σ_463 q_173 = some (gs_la X 49152 (fun _ => 0)) := by rw [eσ_463]; exact gs_ku (Ne.symm hne_193) hc_447
  have hc_473 : σ_463 q_208 = some (gs_la X 49152 (fun _ => 0)) := by rw [eσ_463]; exact gs_ku (Ne.symm hne_230) hc_449
  have hc_474 : σ_463 q_246 = some (gs_ia X 25 (fun _ => 0)) := by rw [eσ_463]; exact gs_ku (Ne.symm hne_270) hc_451
  have hc_475 : σ_463 q_287 = some (gs_ia X 75 (fun _ => 0)) := by rw [eσ_463]; exact gs_ku (Ne.symm hne_313) hc_453
  have hc_476 : σ_463 q_331 = some (gs_ia X 25 (fun _ => 0)) := by rw [eσ_463]; exact gs_ku (Ne.symm hne_359) hc_455
  have hc_477 : σ_463 q_378 = some (gs_ia X 150 (fun _ => 0)) := by rw [eσ_463]; exact gs_ku (Ne.symm hne_408) hc_457
  have hc_478 : σ_463 q_428 = some (gs_ia X 150 (fun _ => 0)) := by rw [eσ_463]; exact gs_ku (Ne.symm hne_460) hc_461
  have hc_479 : σ_463 mo = some (gs_ob 7 [.int 0, .int 0, .ref q_1, .ref q_12, .int 0, .ref q_26, .ref q_43, .int 0, .ref q_63, .ref q_86, .ref q_112, .ref q_141, .ref q_173, .ref q_208, .int 0, .int 0, .int 0, .int 0, .ref q_246, .ref q_287, .ref q_331, .ref q_378, .ref q_428, .null, .null, .int 0, .int 0, .int 0, .null, .null, .null]) := by rw [eσ_463]; exact gs_us
  have fr_480 : frm [mo] σ σ_463 := by rw [eσ_463]; exact fr_462.up (by simp)
  refine lv_aload_n hx hb d_MO_init_132 rfl (lv_at hl 0 rfl) ?_
  refine lv_sipush (v := nI 450) hx hb d_MO_init_133 (by decide) ?_
  refine gs_newi hx hb ht hK hG hS hA w_61 (by decide) (by first | decide | omega) (by first | decide | omega) d_MO_init_136 (fun q_481 H hq_481 hG hS => ?_)
  obtain ⟨σ_482, eσ_482⟩ : ∃ zq, zq = gs_up σ_463 q_481 (gs_ia X 450 (fun _ => 0)) := ⟨_, rfl⟩
  have hG : gs_H X (gs_up σ_463 q_481 (gs_ia X 450 (fun _ => 0))) H := hG
  rw [← eσ_482] at hG
  have hz_483 : σ q_481 = none := fr_480.none_ (al_cons hc_479 al_nil) hq_481
  have hne_485 : q_1 ≠ q_481 := fun z => by rw [z, hq_481] at hc_464; cases hc_464
  have hc_484 : σ_482 q_1 = some (gs_ia X 12 (fun _ => 0)) := by rw [eσ_482]; exact gs_ku hne_485 hc_464
  have hne_487 : q_12 ≠ q_481 := fun z => by rw [z, hq_481] at hc_465; cases hc_465
  have hc_486 : σ_482 q_12 = some (gs_ia X 12 (fun _ => 0)) := by rw [eσ_482]; exact gs_ku hne_487 hc_465
  have hne_489 : q_26 ≠ q_481 := fun z => by rw [z, hq_481] at hc_466; cases hc_466
  have hc_488 : σ_482 q_26 = some (gs_ia X 200 (fun _ => 0)) := by rw [eσ_482]; exact gs_ku hne_489 hc_466
  have hne_491 : q_43 ≠ q_481 := fun z => by rw [z, hq_481] at hc_467; cases hc_467
  have hc_490 : σ_482 q_43 = some (gs_ia X 200 (fun _ => 0)) := by rw [eσ_482]; exact gs_ku hne_491 hc_467
  have hne_493 : q_63 ≠ q_481 := fun z => by rw [z, hq_481] at hc_468; cases hc_468
  have hc_492 : σ_482 q_63 = some (gs_ia X 320 (fun _ => 0)) := by rw [eσ_482]; exact gs_ku hne_493 hc_468
  have hne_495 : q_86 ≠ q_481 := fun z => by rw [z, hq_481] at hc_469; cases hc_469
  have hc_494 : σ_482 q_86 = some (gs_ia X 320 (fun _ => 0)) := by rw [eσ_482]; exact gs_ku hne_495 hc_469
  have hne_497 : q_112 ≠ q_481 := fun z => by rw [z, hq_481] at hc_470; cases hc_470
  have hc_496 : σ_482 q_112 = some (gs_ia X 320 (fun _ => 0)) := by rw [eσ_482]; exact gs_ku hne_497 hc_470
  have hne_499 : q_141 ≠ q_481 := fun z => by rw [z, hq_481] at hc_471; cases hc_471
  have hc_498 : σ_482 q_141 = some (gs_ia X 320 (fun _ => 0)) := by rw [eσ_482]; exact gs_ku hne_499 hc_471
  have hne_501 : q_173 ≠ q_481 := fun z => by rw [z, hq_481] at hc_472; cases hc_472
  have hc_500 : σ_482 q_173 = some (gs_la X 49152 (fun _ => 0)) := by rw [eσ_482]; exact gs_ku hne_501 hc_472
  have hne_503 : q_208 ≠ q_481 := fun z => by rw [z, hq_481] at hc_473; cases hc_473
  have hc_502 : σ_482 q_208 = some (gs_la X 49152 (fun _ => 0)) := by rw [eσ_482]; exact gs_ku hne_503 hc_473
  have hne_505 : q_246 ≠ q_481 := fun z => by rw [z, hq_481] at hc_474; cases hc_474
  have hc_504 : σ_482 q_246 = some (gs_ia X 25 (fun _ => 0)) := by rw [eσ_482]; exact gs_ku hne_505 hc_474
  have hne_507 : q_287 ≠ q_481 := fun z => by rw [z, hq_481] at hc_475; cases hc_475
  have hc_506 : σ_482 q_287 = some (gs_ia X 75 (fun _ => 0)) := by rw [eσ_482]; exact gs_ku hne_507 hc_475
  have hne_509 : q_331 ≠ q_481 := fun z => by rw [z, hq_481] at hc_476; cases hc_476
  have hc_508 : σ_482 q_331 = some (gs_ia X 25 (fun _ => 0)) := by rw [eσ_482]; exact gs_ku hne_509 hc_476
  have hne_511 : q_378 ≠ q_481 := fun z => by rw [z, hq_481] at hc_477; cases hc_477
  have hc_510 : σ_482 q_378 = some (gs_ia X 150 (fun _ => 0)) := by rw [eσ_482]; exact gs_ku hne_511 hc_477
  have hne_513 : q_428 ≠ q_481 := fun z => by rw [z, hq_481] at hc_478; cases hc_478
  have hc_512 : σ_482 q_428 = some (gs_ia X 150 (fun _ => 0)) := by rw [eσ_482]; exact gs_ku hne_513 hc_478
  have hne_515 : mo ≠ q_481 := fun z => by rw [z, hq_481] at hc_479; cases hc_479
  have hc_514 : σ_482 mo = some (gs_ob 7 [.int 0, .int 0, .ref q_1, .ref q_12, .int 0, .ref q_26, .ref q_43, .int 0, .ref q_63, .ref q_86, .ref q_112, .ref q_141, .ref q_173, .ref q_208, .int 0, .int 0, .int 0, .int 0, .ref q_246, .ref q_287, .ref q_331, .ref q_378, .ref q_428, .null, .null, .int 0, .int 0, .int 0, .null, .null, .null]) := by rw [eσ_482]; exact gs_ku hne_515 hc_479
  have hc_516 : σ_482 q_481 = some (gs_ia X 450 (fun _ => 0)) := by rw [eσ_482]; exact gs_us
  have fr_517 : frm [mo] σ σ_482 := by rw [eσ_482]; exact fr_480.born hq_481
  refine gs_putF hx hb ht hown hK hG hS k_MO hc_514 23 (by decide) w_685 rfl hin rfl rfl rfl (Nat.le_of_ble_eq_true rfl) d_MO_init_138 (fun H locs hG hS => ?_)
  have hG : gs_H X (gs_up σ_482 mo (gs_ob 7 [.int 0, .int 0, .ref q_1, .ref q_12, .int 0, .ref q_26, .ref q_43, .int 0, .ref q_63, .ref q_86, .ref q_112, .ref q_141, .ref q_173, .ref q_208, .int 0, .int 0, .int 0, .int 0, .ref q_246, .ref q_287, .ref q_331, .ref q_378, .ref q_428, .ref q_481, .null, .int 0, .int 0, .int 0, .null, .null, .null])) H := hG
  obtain ⟨σ_518, eσ_518⟩ : ∃ zq, zq = gs_up σ_482 mo (gs_ob 7 [.int 0, .int 0, .ref q_1, .ref q_12, .int 0, .ref q_26, .ref q_43, .int 0, .ref q_63, .ref q_86, .ref q_112, .ref q_141, .ref q_173, .ref q_208, .int 0, .int 0, .int 0, .int 0, .ref q_246, .ref q_287, .ref q_331, .ref q_378, .ref q_428, .ref q_481, .null, .int 0, .int 0, .int 0, .null, .null, .null]) := ⟨_, rfl⟩
  rw [← eσ_518] at hG
  have hc_519 : σ_518 q_1 = some (gs_ia X 12 (fun _ => 0)) := by rw [eσ_518]; exact gs_ku (Ne.symm hne_5) hc_484
  have hc_520 : σ_518 q_12 = some (gs_ia X 12 (fun _ => 0)) := by rw [eσ_518]; exact gs_ku (Ne.symm hne_18) hc_486
  have hc_521 : σ_518 q_26 = some (gs_ia X 200 (fun _ => 0)) := by rw [eσ_518]; exact gs_ku (Ne.symm hne_34) hc_488
  have hc_522 : σ_518 q_43 = some (gs_ia X 200 (fun _ => 0)) := by rw [eσ_518]; exact gs_ku (Ne.symm hne_53) hc_490
  have hc_523 : σ_518 q_63 = some (gs_ia X 320 (fun _ => 0)) := by rw [eσ_518]; exact gs_ku (Ne.symm hne_75) hc_492
  have hc_524 : σ_518 q_86 = some (gs_ia X 320 (fun _ => 0)) := by rw [eσ_518]; exact gs_ku (Ne.symm hne_100) hc_494
  have hc_525 : σ_518 q_112 = some (gs_ia X 320 (fun _ => 0)) := by rw [eσ_518]; exact gs_ku (Ne.symm hne_128) hc_496
  have hc_526 : σ_518 q_141 = some (gs_ia X 320 (fun _ => 0)) := by rw [eσ_518]; exact gs_ku (Ne.symm hne_159) hc_498
  have hc_527 : σ_518 q_173 = some (gs_la X 49152 (fun _ => 0)) := by rw [eσ_518]; exact gs_ku (Ne.symm hne_193) hc_500
  have hc_528 : σ_518 q_208 = some (gs_la X 49152 (fun _ => 0)) := by rw [eσ_518]; exact gs_ku (Ne.symm hne_230) hc_502
  have hc_529 : σ_518 q_246 = some (gs_ia X 25 (fun _ => 0)) := by rw [eσ_518]; exact gs_ku (Ne.symm hne_270) hc_504
  have hc_530 : σ_518 q_287 = some (gs_ia X 75 (fun _ => 0)) := by rw [eσ_518]; exact gs_ku (Ne.symm hne_313) hc_506
  have hc_531 : σ_518 q_331 = some (gs_ia X 25 (fun _ => 0)) := by rw [eσ_518]; exact gs_ku (Ne.symm hne_359) hc_508
  have hc_532 : σ_518 q_378 = some (gs_ia X 150 (fun _ => 0)) := by rw [eσ_518]; exact gs_ku (Ne.symm hne_408) hc_510
  have hc_533 : σ_518 q_428 = some (gs_ia X 150 (fun _ => 0)) := by rw [eσ_518]; exact gs_ku (Ne.symm hne_460) hc_512
  have hc_534 : σ_518 q_481 = some (gs_ia X 450 (fun _ => 0)) := by rw [eσ_518]; exact gs_ku (Ne.symm hne_515) hc_516
  have hc_535 : σ_518 mo = some (gs_ob 7 [.int 0, .int 0, .ref q_1, .ref q_12, .int 0, .ref q_26, .ref q_43, .int 0, .ref q_63, .ref q_86, .ref q_112, .ref q_141, .ref q_173, .ref q_208, .int 0, .int 0, .int 0, .int 0, .ref q_246, .ref q_287, .ref q_331, .ref q_378, .ref q_428, .ref q_481, .null, .int 0, .int 0, .int 0, .null, .null, .null]) := by rw [eσ_518]; exact gs_us
  have fr_536 : frm [mo] σ σ_518 := by rw [eσ_518]; exact fr_517.up (by simp)
  refine lv_aload_n hx hb d_MO_init_141 rfl (lv_at hl 0 rfl) ?_
  refine lv_bipush (v := nI 8) hx hb d_MO_init_142 (by decide) ?_
  refine gs_newi hx hb ht hK hG hS hA w_61 (by decide) (by first | decide | omega) (by first | decide | omega) d_MO_init_144 (fun q_537 H hq_537 hG hS => ?_)
  obtain ⟨σ_538, eσ_538⟩ : ∃ zq, zq = gs_up σ_518 q_537 (gs_ia X 8 (fun _ => 0)) := ⟨_, rfl⟩
  have hG : gs_H X (gs_up σ_518 q_537 (gs_ia X 8 (fun _ => 0))) H := hG
  rw [← eσ_538] at hG
  have hz_539 : σ q_537 = none := fr_536.none_ (al_cons hc_535 al_nil) hq_537
  have hne_541 : q_1 ≠ q_537 := fun z => by rw [z, hq_537] at hc_519; cases hc_519
  have hc_540 : σ_538 q_1 = some (gs_ia X 12 (fun _ => 0)) := by rw [eσ_538]; exact gs_ku hne_541 hc_519
  have hne_543 : q_12 ≠ q_537 := fun z => by rw [z, hq_537] at hc_520; cases hc_520
  have hc_542 : σ_538 q_12 = some (gs_ia X 12 (fun _ => 0)) := by rw [eσ_538]; exact gs_ku hne_543 hc_520
  have hne_545 : q_26 ≠ q_537 := fun z => by rw [z, hq_537] at hc_521; cases hc_521
  have hc_544 : σ_538 q_26 = some (gs_ia X 200 (fun _ => 0)) := by rw [eσ_538]; exact gs_ku hne_545 hc_521
  have hne_547 : q_43 ≠ q_537 := fun z => by rw [z, hq_537] at hc_522; cases hc_522
  have hc_546 : σ_538 q_43 = some (gs_ia X 200 (fun _ => 0)) := by rw [eσ_538]; exact gs_ku hne_547 hc_522
  have hne_549 : q_63 ≠ q_537 := fun z => by rw [z, hq_537] at hc_523; cases hc_523
  have hc_548 : σ_538 q_63 = some (gs_ia X 320 (fun _ => 0)) := by rw [eσ_538]; exact gs_ku hne_549 hc_523
  have hne_551 : q_86 ≠ q_537 := fun z => by rw [z, hq_537] at hc_524; cases hc_524
  have hc_550 : σ_538 q_86 = some (gs_ia X 320 (fun _ => 0)) := by rw [eσ_538]; exact gs_ku hne_551 hc_524
  have hne_553 : q_112 ≠ q_537 := fun z => by rw [z, hq_537] at hc_525; cases hc_525
  have hc_552 : σ_538 q_112 = some (gs_ia X 320 (fun _ => 0)) := by rw [eσ_538]; exact gs_ku hne_553 hc_525
  have hne_555 : q_141 ≠ q_537 := fun z => by rw [z, hq_537] at hc_526; cases hc_526
  have hc_554 : σ_538 q_141 = some (gs_ia X 320 (fun _ => 0)) := by rw [eσ_538]; exact gs_ku hne_555 hc_526
  have hne_557 : q_173 ≠ q_537 := fun z => by rw [z, hq_537] at hc_527; cases hc_527
  have hc_556 : σ_538 q_173 = some (gs_la X 49152 (fun _ => 0)) := by rw [eσ_538]; exact gs_ku hne_557 hc_527
  have hne_559 : q_208 ≠ q_537 := fun z => by rw [z, hq_537] at hc_528; cases hc_528
  have hc_558 : σ_538 q_208 = some (gs_la X 49152 (fun _ => 0)) := by rw [eσ_538]; exact gs_ku hne_559 hc_528
  have hne_561 : q_246 ≠ q_537 := fun z => by rw [z, hq_537] at hc_529; cases hc_529
  have hc_560 : σ_538 q_246 = some (gs_ia X 25 (fun _ => 0)) := by rw [eσ_538]; exact gs_ku hne_561 hc_529
  have hne_563 : q_287 ≠ q_537 := fun z => by rw [z, hq_537] at hc_530; cases hc_530
  have hc_562 : σ_538 q_287 = some (gs_ia X 75 (fun _ => 0)) := by rw [eσ_538]; exact gs_ku hne_563 hc_530
  have hne_565 : q_331 ≠ q_537 := fun z => by rw [z, hq_537] at hc_531; cases hc_531
  have hc_564 : σ_538 q_331 = some (gs_ia X 25 (fun _ => 0)) := by rw [eσ_538]; exact gs_ku hne_565 hc_531
  have hne_567 : q_378 ≠ q_537 := fun z => by rw [z, hq_537] at hc_532; cases hc_532
  have hc_566 : σ_538 q_378 = some (gs_ia X 150 (fun _ => 0)) := by rw [eσ_538]; exact gs_ku hne_567 hc_532
  have hne_569 : q_428 ≠ q_537 := fun z => by rw [z, hq_537] at hc_533; cases hc_533
  have hc_568 : σ_538 q_428 = some (gs_ia X 150 (fun _ => 0)) := by rw [eσ_538]; exact gs_ku hne_569 hc_533
  have hne_571 : q_481 ≠ q_537 := fun z => by rw [z, hq_537] at hc_534; cases hc_534
  have hc_570 : σ_538 q_481 = some (gs_ia X 450 (fun _ => 0)) := by rw [eσ_538]; exact gs_ku hne_571 hc_534
  have hne_573 : mo ≠ q_537 := fun z => by rw [z, hq_537] at hc_535; cases hc_535
  have hc_572 : σ_538 mo = some (gs_ob 7 [.int 0, .int 0, .ref q_1, .ref q_12, .int 0, .ref q_26, .ref q_43, .int 0, .ref q_63, .ref q_86, .ref q_112, .ref q_141, .ref q_173, .ref q_208, .int 0, .int 0, .int 0, .int 0, .ref q_246, .ref q_287, .ref q_331, .ref q_378, .ref q_428, .ref q_481, .null, .int 0, .int 0, .int 0, .null, .null, .null]) := by rw [eσ_538]; exact gs_ku hne_573 hc_535
  have hc_574 : σ_538 q_537 = some (gs_ia X 8 (fun _ => 0)) := by rw [eσ_538]; exact gs_us
  have fr_575 : frm [mo] σ σ_538 := by rw [eσ_538]; exact fr_536.born hq_537
  refine gs_putF hx hb ht hown hK hG hS k_MO hc_572 24 (by decide) w_686 rfl hin rfl rfl rfl (Nat.le_of_ble_eq_true rfl) d_MO_init_146 (fun H locs hG hS => ?_)
  have hG : gs_H X (gs_up σ_538 mo (gs_ob 7 [.int 0, .int 0, .ref q_1, .ref q_12, .int 0, .ref q_26, .ref q_43, .int 0, .ref q_63, .ref q_86, .ref q_112, .ref q_141, .ref q_173, .ref q_208, .int 0, .int 0, .int 0, .int 0, .ref q_246, .ref q_287, .ref q_331, .ref q_378, .ref q_428, .ref q_481, .ref q_537, .int 0, .int 0, .int 0, .null, .null, .null])) H := hG
  obtain ⟨σ_576, eσ_576⟩ : ∃ zq, zq = gs_up σ_538 mo (gs_ob 7 [.int 0, .int 0, .ref q_1, .ref q_12, .int 0, .ref q_26, .ref q_43, .int 0, .ref q_63, .ref q_86, .ref q_112, .ref q_141, .ref q_173, .ref q_208, .int 0, .int 0, .int 0, .int 0, .ref q_246, .ref q_287, .ref q_331, .ref q_378, .ref q_428, .ref q_481, .ref q_537, .int 0, .int 0, .int 0, .null, .null, .null]) := ⟨_, rfl⟩
  rw [← eσ_576] at hG
  have hc_577 : σ_576 q_1 = some (gs_ia X 12 (fun _ => 0)) := by rw [eσ_576]; exact gs_ku (Ne.symm hne_5) hc_540
  have hc_578 : σ_576 q_12 = some (gs_ia X 12 (fun _ => 0)) := by rw [eσ_576]; exact gs_ku (Ne.symm hne_18) hc_542
  have hc_579 : σ_576 q_26 = some (gs_ia X 200 (fun _ => 0)) := by rw [eσ_576]; exact gs_ku (Ne.symm hne_34) hc_544
  have hc_580 : σ_576 q_43 = some (gs_ia X 200 (fun _ => 0)) := by rw [eσ_576]; exact gs_ku (Ne.symm hne_53) hc_546
  have hc_581 : σ_576 q_63 = some (gs_ia X 320 (fun _ => 0)) := by rw [eσ_576]; exact gs_ku (Ne.symm hne_75) hc_548
  have hc_582 : σ_576 q_86 = some (gs_ia X 320 (fun _ => 0)) := by rw [eσ_576]; exact gs_ku (Ne.symm hne_100) hc_550
  have hc_583 : σ_576 q_112 = some (gs_ia X 320 (fun _ => 0)) := by rw [eσ_576]; exact gs_ku (Ne.symm hne_128) hc_552
  have hc_584 : σ_576 q_141 = some (gs_ia X 320 (fun _ => 0)) := by rw [eσ_576]; exact gs_ku (Ne.symm hne_159) hc_554
  have hc_585 : σ_576 q_173 = some (gs_la X 49152 (fun _ => 0)) := by rw [eσ_576]; exact gs_ku (Ne.symm hne_193) hc_556
  have hc_586 : σ_576 q_208 = some (gs_la X 49152 (fun _ => 0)) := by rw [eσ_576]; exact gs_ku (Ne.symm hne_230) hc_558
  have hc_587 : σ_576 q_246 = some (gs_ia X 25 (fun _ => 0)) := by rw [eσ_576]; exact gs_ku (Ne.symm hne_270) hc_560
  have hc_588 : σ_576 q_287 = some (gs_ia X 75 (fun _ => 0)) := by rw [eσ_576]; exact gs_ku (Ne.symm hne_313) hc_562
  have hc_589 : σ_576 q_331 = some (gs_ia X 25 (fun _ => 0)) := by rw [eσ_576]; exact gs_ku (Ne.symm hne_359) hc_564
  have hc_590 : σ_576 q_378 = some (gs_ia X 150 (fun _ => 0)) := by rw [eσ_576]; exact gs_ku (Ne.symm hne_408) hc_566
  have hc_591 : σ_576 q_428 = some (gs_ia X 150 (fun _ => 0)) := by rw [eσ_576]; exact gs_ku (Ne.symm hne_460) hc_568
  have hc_592 : σ_576 q_481 = some (gs_ia X 450 (fun _ => 0)) := by rw [eσ_576]; exact gs_ku (Ne.symm hne_515) hc_570
  have hc_593 : σ_576 q_537 = some (gs_ia X 8 (fun _ => 0)) := by rw [eσ_576]; exact gs_ku (Ne.symm hne_573) hc_574
  have hc_594 : σ_576 mo = some (gs_ob 7 [.int 0, .int 0, .ref q_1, .ref q_12, .int 0, .ref q_26, .ref q_43, .int 0, .ref q_63, .ref q_86, .ref q_112, .ref q_141, .ref q_173, .ref q_208, .int 0, .int 0, .int 0, .int 0, .ref q_246, .ref q_287, .ref q_331, .ref q_378, .ref q_428, .ref q_481, .ref q_537, .int 0, .int 0, .int 0, .null, .null, .null]) := by rw [eσ_576]; exact gs_us
  have fr_595 : frm [mo] σ σ_576 := by rw [eσ_576]; exact fr_575.up (by simp)
  refine lv_aload_n hx hb d_MO_init_149 rfl (lv_at hl 0 rfl) ?_
  refine lv_iconst (v := nI 3) hx hb d_MO_init_150 (by decide) ?_
  refine gs_newi hx hb ht hK hG hS hA w_61 (by decide) (by first | decide | omega) (by first | decide | omega) d_MO_init_151 (fun q_596 H hq_596 hG hS => ?_)
  obtain ⟨σ_597, eσ_597⟩ : ∃ zq, zq = gs_up σ_576 q_596 (gs_ia X 3 (fun _ => 0)) := ⟨_, rfl⟩
  have hG : gs_H X (gs_up σ_576 q_596 (gs_ia X 3 (fun _ => 0))) H := hG
  rw [← eσ_597] at hG
  have hz_598 : σ q_596 = none := fr_595.none_ (al_cons hc_594 al_nil) hq_596
  have hne_600 : q_1 ≠ q_596 := fun z => by rw [z, hq_596] at hc_577; cases hc_577
  have hc_599 : σ_597 q_1 = some (gs_ia X 12 (fun _ => 0)) := by rw [eσ_597]; exact gs_ku hne_600 hc_577
  have hne_602 : q_12 ≠ q_596 := fun z => by rw [z, hq_596] at hc_578; cases hc_578
  have hc_601 : σ_597 q_12 = some (gs_ia X 12 (fun _ => 0)) := by rw [eσ_597]; exact gs_ku hne_602 hc_578
  have hne_604 : q_26 ≠ q_596 := fun z => by rw [z, hq_596] at hc_579; cases hc_579
  have hc_603 : σ_597 q_26 = some (gs_ia X 200 (fun _ => 0)) := by rw [eσ_597]; exact gs_ku hne_604 hc_579
  have hne_606 : q_43 ≠ q_596 := fun z => by rw [z, hq_596] at hc_580; cases hc_580
  have hc_605 : σ_597 q_43 = some (gs_ia X 200 (fun _ => 0)) := by rw [eσ_597]; exact gs_ku hne_606 hc_580
  have hne_608 : q_63 ≠ q_596 := fun z => by rw [z, hq_596] at hc_581; cases hc_581
  have hc_607 : σ_597 q_63 = some (gs_ia X 320 (fun _ => 0)) := by rw [eσ_597]; exact gs_ku hne_608 hc_581
  have hne_610 : q_86 ≠ q_596 := fun z => by rw [z, hq_596] at hc_582; cases hc_582
  have hc_609 : σ_597 q_86 = some (gs_ia X 320 (fun _ => 0)) := by rw [eσ_597]; exact gs_ku hne_610 hc_582
  have hne_612 : q_112 ≠ q_596 := fun z => by rw [z, hq_596] at hc_583; cases hc_583
  have hc_611 : σ_597 q_112 = some (gs_ia X 320 (fun _ => 0)) := by rw [eσ_597]; exact gs_ku hne_612 hc_583
  have hne_614 : q_141 ≠ q_596 := fun z => by rw [z, hq_596] at hc_584; cases hc_584
  have hc_613 : σ_597 q_141 = some (gs_ia X 320 (fun _ => 0)) := by rw [eσ_597]; exact gs_ku hne_614 hc_584
  have hne_616 : q_173 ≠ q_596 := fun z => by rw [z, hq_596] at hc_585; cases hc_585
  have hc_615 : σ_597 q_173 = some (gs_la X 49152 (fun _ => 0)) := by rw [eσ_597]; exact gs_ku hne_616 hc_585
  have hne_618 : q_208 ≠ q_596 := fun z => by rw [z, hq_596] at hc_586; cases hc_586
  have hc_617 : σ_597 q_208 = some (gs_la X 49152 (fun _ => 0)) := by rw [eσ_597]; exact gs_ku hne_618 hc_586
  have hne_620 : q_246 ≠ q_596 := fun z => by rw [z, hq_596] at hc_587; cases hc_587
  have hc_619 : σ_597 q_246 = some (gs_ia X 25 (fun _ => 0)) := by rw [eσ_597]; exact gs_ku hne_620 hc_587
  have hne_622 : q_287 ≠ q_596 := fun z => by rw [z, hq_596] at hc_588; cases hc_588
  have hc_621 : σ_597 q_287 = some (gs_ia X 75 (fun _ => 0)) := by rw [eσ_597]; exact gs_ku hne_622 hc_588
  have hne_624 : q_331 ≠ q_596 := fun z => by rw [z, hq_596] at hc_589; cases hc_589
  have hc_623 : σ_597 q_331 = some (gs_ia X 25 (fun _ => 0)) := by rw [eσ_597]; exact gs_ku hne_624 hc_589
  have hne_626 : q_378 ≠ q_596 := fun z => by rw [z, hq_596] at hc_590; cases hc_590
  have hc_625 : σ_597 q_378 = some (gs_ia X 150 (fun _ => 0)) := by rw [eσ_597]; exact gs_ku hne_626 hc_590
  have hne_628 : q_428 ≠ q_596 := fun z => by rw [z, hq_596] at hc_591; cases hc_591
  have hc_627 : σ_597 q_428 = some (gs_ia X 150 (fun _ => 0)) := by rw [eσ_597]; exact gs_ku hne_628 hc_591
  have hne_630 : q_481 ≠ q_596 := fun z => by rw [z, hq_596] at hc_592; cases hc_592
  have hc_629 : σ_597 q_481 = some (gs_ia X 450 (fun _ => 0)) := by rw [eσ_597]; exact gs_ku hne_630 hc_592
  have hne_632 : q_537 ≠ q_596 := fun z => by rw [z, hq_596] at hc_593; cases hc_593
  have hc_631 : σ_597 q_537 = some (gs_ia X 8 (fun _ => 0)) := by rw [eσ_597]; exact gs_ku hne_632 hc_593
  have hne_634 : mo ≠ q_596 := fun z => by rw [z, hq_596] at hc_594; cases hc_594
  have hc_633 : σ_597 mo = some (gs_ob 7 [.int 0, .int 0, .ref q_1, .ref q_12, .int 0, .ref q_26, .ref q_43, .int 0, .ref q_63, .ref q_86, .ref q_112, .ref q_141, .ref q_173, .ref q_208, .int 0, .int 0, .int 0, .int 0, .ref q_246, .ref q_287, .ref q_331, .ref q_378, .ref q_428, .ref q_481, .ref q_537, .int 0, .int 0, .int 0, .null, .null, .null]) := by rw [eσ_597]; exact gs_ku hne_634 hc_594
  have hc_635 : σ_597 q_596 = some (gs_ia X 3 (fun _ => 0)) := by rw [eσ_597]; exact gs_us
  have fr_636 : frm [mo] σ σ_597 := by rw [eσ_597]; exact fr_595.born hq_596
  refine gs_putF hx hb ht hown hK hG hS k_MO hc_633 28 (by decide) w_690 rfl hin rfl rfl rfl (Nat.le_of_ble_eq_true rfl) d_MO_init_153 (fun H locs hG hS => ?_)
  have hG : gs_H X (gs_up σ_597 mo (gs_ob 7 [.int 0, .int 0, .ref q_1, .ref q_12, .int 0, .ref q_26, .ref q_43, .int 0, .ref q_63, .ref q_86, .ref q_112, .ref q_141, .ref q_173, .ref q_208, .int 0, .int 0, .int 0, .int 0, .ref q_246, .ref q_287, .ref q_331, .ref q_378, .ref q_428, .ref q_481, .ref q_537, .int 0, .int 0, .int 0, .ref q_596, .null, .null])) H := hG
  obtain ⟨σ_637, eσ_637⟩ : ∃ zq, zq = gs_up σ_597 mo (gs_ob 7 [.int 0, .int 0, .ref q_1, .ref q_12, .int 0, .ref q_26, .ref q_43, .int 0, .ref q_63, .ref q_86, .ref q_112, .ref q_141, .ref q_173, .ref q_208, .int 0, .int 0, .int 0, .int 0, .ref q_246, .ref q_287, .ref q_331, .ref q_378, .ref q_428, .ref q_481, .ref q_537, .int 0, .int 0, .int 0, .ref q_596, .null, .null]) := ⟨_, rfl⟩
  rw [← eσ_637] at hG
  have hc_638 : σ_637 q_1 = some (gs_ia X 12 (fun _ => 0)) := by rw [eσ_637]; exact gs_ku (Ne.symm hne_5) hc_599
  have hc_639 : σ_637 q_12 = some (gs_ia X 12 (fun _ => 0)) := by rw [eσ_637]; exact gs_ku (Ne.symm hne_18) hc_601
  have hc_640 : σ_637 q_26 = some (gs_ia X 200 (fun _ => 0)) := by rw [eσ_637]; exact gs_ku (Ne.symm hne_34) hc_603
  have hc_641 : σ_637 q_43 = some (gs_ia X 200 (fun _ => 0)) := by rw [eσ_637]; exact gs_ku (Ne.symm hne_53) hc_605
  have hc_642 : σ_637 q_63 = some (gs_ia X 320 (fun _ => 0)) := by rw [eσ_637]; exact gs_ku (Ne.symm hne_75) hc_607
  have hc_643 : σ_637 q_86 = some (gs_ia X 320 (fun _ => 0)) := by rw [eσ_637]; exact gs_ku (Ne.symm hne_100) hc_609
  have hc_644 : σ_637 q_112 = some (gs_ia X 320 (fun _ => 0)) := by rw [eσ_637]; exact gs_ku (Ne.symm hne_128) hc_611
  have hc_645 : σ_637 q_141 = some (gs_ia X 320 (fun _ => 0)) := by rw [eσ_637]; exact gs_ku (Ne.symm hne_159) hc_613
  have hc_646 : σ_637 q_173 = some (gs_la X 49152 (fun _ => 0)) := by rw [eσ_637]; exact gs_ku (Ne.symm hne_193) hc_615
  have hc_647 : σ_637 q_208 = some (gs_la X 49152 (fun _ => 0)) := by rw [eσ_637]; exact gs_ku (Ne.symm hne_230) hc_617
  have hc_648 : σ_637 q_246 = some (gs_ia X 25 (fun _ => 0)) := by rw [eσ_637]; exact gs_ku (Ne.symm hne_270) hc_619
  have hc_649 : σ_637 q_287 = some (gs_ia X 75 (fun _ => 0)) := by rw [eσ_637]; exact gs_ku (Ne.symm hne_313) hc_621
  have hc_650 : σ_637 q_331 = some (gs_ia X 25 (fun _ => 0)) := by rw [eσ_637]; exact gs_ku (Ne.symm hne_359) hc_623
  have hc_651 : σ_637 q_378 = some (gs_ia X 150 (fun _ => 0)) := by rw [eσ_637]; exact gs_ku (Ne.symm hne_408) hc_625
  have hc_652 : σ_637 q_428 = some (gs_ia X 150 (fun _ => 0)) := by rw [eσ_637]; exact gs_ku (Ne.symm hne_460) hc_627
  have hc_653 : σ_637 q_481 = some (gs_ia X 450 (fun _ => 0)) := by rw [eσ_637]; exact gs_ku (Ne.symm hne_515) hc_629
  have hc_654 : σ_637 q_537 = some (gs_ia X 8 (fun _ => 0)) := by rw [eσ_637]; exact gs_ku (Ne.symm hne_573) hc_631
  have hc_655 : σ_637 q_596 = some (gs_ia X 3 (fun _ => 0)) := by rw [eσ_637]; exact gs_ku (Ne.symm hne_634) hc_635
  have hc_656 : σ_637 mo = some (gs_ob 7 [.int 0, .int 0, .ref q_1, .ref q_12, .int 0, .ref q_26, .ref q_43, .int 0, .ref q_63, .ref q_86, .ref q_112, .ref q_141, .ref q_173, .ref q_208, .int 0, .int 0, .int 0, .int 0, .ref q_246, .ref q_287, .ref q_331, .ref q_378, .ref q_428, .ref q_481, .ref q_537, .int 0, .int 0, .int 0, .ref q_596, .null, .null]) := by rw [eσ_637]; exact gs_us
  have fr_657 : frm [mo] σ σ_637 := by rw [eσ_637]; exact fr_636.up (by simp)
  refine lv_aload_n hx hb d_MO_init_156 rfl (lv_at hl 0 rfl) ?_
  refine lv_iconst (v := nI 3) hx hb d_MO_init_157 (by decide) ?_
  refine gs_newi hx hb ht hK hG hS hA w_61 (by decide) (by first | decide | omega) (by first | decide | omega) d_MO_init_158 (fun q_658 H hq_658 hG hS => ?_)
  obtain ⟨σ_659, eσ_659⟩ : ∃ zq, zq = gs_up σ_637 q_658 (gs_ia X 3 (fun _ => 0)) := ⟨_, rfl⟩
  have hG : gs_H X (gs_up σ_637 q_658 (gs_ia X 3 (fun _ => 0))) H := hG
  rw [← eσ_659] at hG
  have hz_660 : σ q_658 = none := fr_657.none_ (al_cons hc_656 al_nil) hq_658
  have hne_662 : q_1 ≠ q_658 := fun z => by rw [z, hq_658] at hc_638; cases hc_638
  have hc_661 : σ_659 q_1 = some (gs_ia X 12 (fun _ => 0)) := by rw [eσ_659]; exact gs_ku hne_662 hc_638
  have hne_664 : q_12 ≠ q_658 := fun z => by rw [z, hq_658] at hc_639; cases hc_639
  have hc_663 : σ_659 q_12 = some (gs_ia X 12 (fun _ => 0)) := by rw [eσ_659]; exact gs_ku hne_664 hc_639
  have hne_666 : q_26 ≠ q_658 := fun z => by rw [z, hq_658] at hc_640; cases hc_640
  have hc_665 : σ_659 q_26 = some (gs_ia X 200 (fun _ => 0)) := by rw [eσ_659]; exact gs_ku hne_666 hc_640
  have hne_668 : q_43 ≠ q_658 := fun z => by rw [z, hq_658] at hc_641; cases hc_641
  have hc_667 : σ_659 q_43 = some (gs_ia X 200 (fun _ => 0)) := by rw [eσ_659]; exact gs_ku hne_668 hc_641
  have hne_670 : q_63 ≠ q_658 := fun z => by rw [z, hq_658] at hc_642; cases hc_642
  have hc_669 : σ_659 q_63 = some (gs_ia X 320 (fun _ => 0)) := by rw [eσ_659]; exact gs_ku hne_670 hc_642
  have hne_672 : q_86 ≠ q_658 := fun z => by rw [z, hq_658] at hc_643; cases hc_643
  have hc_671 : σ_659 q_86 = some (gs_ia X 320 (fun _ => 0)) := by rw [eσ_659]; exact gs_ku hne_672 hc_643
  have hne_674 : q_112 ≠ q_658 := fun z => by rw [z, hq_658] at hc_644; cases hc_644
  have hc_673 : σ_659 q_112 = some (gs_ia X 320 (fun _ => 0)) := by rw [eσ_659]; exact gs_ku hne_674 hc_644
  have hne_676 : q_141 ≠ q_658 := fun z => by rw [z, hq_658] at hc_645; cases hc_645
  have hc_675 : σ_659 q_141 = some (gs_ia X 320 (fun _ => 0)) := by rw [eσ_659]; exact gs_ku hne_676 hc_645
  have hne_678 : q_173 ≠ q_658 := fun z => by rw [z, hq_658] at hc_646; cases hc_646
  have hc_677 : σ_659 q_173 = some (gs_la X 49152 (fun _ => 0)) := by rw [eσ_659]; exact gs_ku hne_678 hc_646
  have hne_680 : q_208 ≠ q_658 := fun z => by rw [z, hq_658] at hc_647; cases hc_647
  have hc_679 : σ_659 q_208 = some (gs_la X 49152 (fun _ => 0)) := by rw [eσ_659]; exact gs_ku hne_680 hc_647
  have hne_682 : q_246 ≠ q_658 := fun z => by rw [z, hq_658] at hc_648; cases hc_648
  have hc_681 : σ_659 q_246 = some (gs_ia X 25 (fun _ => 0)) := by rw [eσ_659]; exact gs_ku hne_682 hc_648
  have hne_684 : q_287 ≠ q_658 := fun z => by rw [z, hq_658] at hc_649; cases hc_649
  have hc_683 : σ_659 q_287 = some (gs_ia X 75 (fun _ => 0)) := by rw [eσ_659]; exact gs_ku hne_684 hc_649
  have hne_686 : q_331 ≠ q_658 := fun z => by rw [z, hq_658] at hc_650; cases hc_650
  have hc_685 : σ_659 q_331 = some (gs_ia X 25 (fun _ => 0)) := by rw [eσ_659]; exact gs_ku hne_686 hc_650
  have hne_688 : q_378 ≠ q_658 := fun z => by rw [z, hq_658] at hc_651; cases hc_651
  have hc_687 : σ_659 q_378 = some (gs_ia X 150 (fun _ => 0)) := by rw [eσ_659]; exact gs_ku hne_688 hc_651
  have hne_690 : q_428 ≠ q_658 := fun z => by rw [z, hq_658] at hc_652; cases hc_652
  have hc_689 : σ_659 q_428 = some (gs_ia X 150 (fun _ => 0)) := by rw [eσ_659]; exact gs_ku hne_690 hc_652
  have hne_692 : q_481 ≠ q_658 := fun z => by rw [z, hq_658] at hc_653; cases hc_653
  have hc_691 : σ_659 q_481 = some (gs_ia X 450 (fun _ => 0)) := by rw [eσ_659]; exact gs_ku hne_692 hc_653
  have hne_694 : q_537 ≠ q_658 := fun z => by rw [z, hq_658] at hc_654; cases hc_654
  have hc_693 : σ_659 q_537 = some (gs_ia X 8 (fun _ => 0)) := by rw [eσ_659]; exact gs_ku hne_694 hc_654
  have hne_696 : q_596 ≠ q_658 := fun z => by rw [z, hq_658] at hc_655; cases hc_655
  have hc_695 : σ_659 q_596 = some (gs_ia X 3 (fun _ => 0)) := by rw [eσ_659]; exact gs_ku hne_696 hc_655
  have hne_698 : mo ≠ q_658 := fun z => by rw [z, hq_658] at hc_656; cases hc_656
  have hc_697 : σ_659 mo = some (gs_ob 7 [.int 0, .int 0, .ref q_1, .ref q_12, .int 0, .ref q_26, .ref q_43, .int 0, .ref q_63, .ref q_86, .ref q_112, .ref q_141, .ref q_173, .ref q_208, .int 0, .int 0, .int 0, .int 0, .ref q_246, .ref q_287, .ref q_331, .ref q_378, .ref q_428, .ref q_481, .ref q_537, .int 0, .int 0, .int 0, .ref q_596, .null, .null]) := by rw [eσ_659]; exact gs_ku hne_698 hc_656
  have hc_699 : σ_659 q_658 = some (gs_ia X 3 (fun _ => 0)) := by rw [eσ_659]; exact gs_us
  have fr_700 : frm [mo] σ σ_659 := by rw [eσ_659]; exact fr_657.born hq_658
  refine gs_putF hx hb ht hown hK hG hS k_MO hc_697 29 (by decide) w_691 rfl hin rfl rfl rfl (Nat.le_of_ble_eq_true rfl) d_MO_init_160 (fun H locs hG hS => ?_)
  have hG : gs_H X (gs_up σ_659 mo (gs_ob 7 [.int 0, .int 0, .ref q_1, .ref q_12, .int 0, .ref q_26, .ref q_43, .int 0, .ref q_63, .ref q_86, .ref q_112, .ref q_141, .ref q_173, .ref q_208, .int 0, .int 0, .int 0, .int 0, .ref q_246, .ref q_287, .ref q_331, .ref q_378, .ref q_428, .ref q_481, .ref q_537, .int 0, .int 0, .int 0, .ref q_596, .ref q_658, .null])) H := hG
  obtain ⟨σ_701, eσ_701⟩ : ∃ zq, zq = gs_up σ_659 mo (gs_ob 7 [.int 0, .int 0, .ref q_1, .ref q_12, .int 0, .ref q_26, .ref q_43, .int 0, .ref q_63, .ref q_86, .ref q_112, .ref q_141, .ref q_173, .ref q_208, .int 0, .int 0, .int 0, .int 0, .ref q_246, .ref q_287, .ref q_331, .ref q_378, .ref q_428, .ref q_481, .ref q_537, .int 0, .int 0, .int 0, .ref q_596, .ref q_658, .null]) := ⟨_, rfl⟩
  rw [← eσ_701] at hG
  have hc_702 : σ_701 q_1 = some (gs_ia X 12 (fun _ => 0)) := by rw [eσ_701]; exact gs_ku (Ne.symm hne_5) hc_661
  have hc_703 : σ_701 q_12 = some (gs_ia X 12 (fun _ => 0)) := by rw [eσ_701]; exact gs_ku (Ne.symm hne_18) hc_663
  have hc_704 : σ_701 q_26 = some (gs_ia X 200 (fun _ => 0)) := by rw [eσ_701]; exact gs_ku (Ne.symm hne_34) hc_665
  have hc_705 : σ_701 q_43 = some (gs_ia X 200 (fun _ => 0)) := by rw [eσ_701]; exact gs_ku (Ne.symm hne_53) hc_667
  have hc_706 : σ_701 q_63 = some (gs_ia X 320 (fun _ => 0)) := by rw [eσ_701]; exact gs_ku (Ne.symm hne_75) hc_669
  have hc_707 : σ_701 q_86 = some (gs_ia X 320 (fun _ => 0)) := by rw [eσ_701]; exact gs_ku (Ne.symm hne_100) hc_671
  have hc_708 : σ_701 q_112 = some (gs_ia X 320 (fun _ => 0)) := by rw [eσ_701]; exact gs_ku (Ne.symm hne_128) hc_673
  have hc_709 : σ_701 q_141 = some (gs_ia X 320 (fun _ => 0)) := by rw [eσ_701]; exact gs_ku (Ne.symm hne_159) hc_675
  have hc_710 : σ_701 q_173 = some (gs_la X 49152 (fun _ => 0)) := by rw [eσ_701]; exact gs_ku (Ne.symm hne_193) hc_677
  have hc_711 : σ_701 q_208 = some (gs_la X 49152 (fun _ => 0)) := by rw [eσ_701]; exact gs_ku (Ne.symm hne_230) hc_679
  have hc_712 : σ_701 q_246 = some (gs_ia X 25 (fun _ => 0)) := by rw [eσ_701]; exact gs_ku (Ne.symm hne_270) hc_681
  have hc_713 : σ_701 q_287 = some (gs_ia X 75 (fun _ => 0)) := by rw [eσ_701]; exact gs_ku (Ne.symm hne_313) hc_683
  have hc_714 : σ_701 q_331 = some (gs_ia X 25 (fun _ => 0)) := by rw [eσ_701]; exact gs_ku (Ne.symm hne_359) hc_685
  have hc_715 : σ_701 q_378 = some (gs_ia X 150 (fun _ => 0)) := by rw [eσ_701]; exact gs_ku (Ne.symm hne_408) hc_687
  have hc_716 : σ_701 q_428 = some (gs_ia X 150 (fun _ => 0)) := by rw [eσ_701]; exact gs_ku (Ne.symm hne_460) hc_689
  have hc_717 : σ_701 q_481 = some (gs_ia X 450 (fun _ => 0)) := by rw [eσ_701]; exact gs_ku (Ne.symm hne_515) hc_691
  have hc_718 : σ_701 q_537 = some (gs_ia X 8 (fun _ => 0)) := by rw [eσ_701]; exact gs_ku (Ne.symm hne_573) hc_693
  have hc_719 : σ_701 q_596 = some (gs_ia X 3 (fun _ => 0)) := by rw [eσ_701]; exact gs_ku (Ne.symm hne_634) hc_695
  have hc_720 : σ_701 q_658 = some (gs_ia X 3 (fun _ => 0)) := by rw [eσ_701]; exact gs_ku (Ne.symm hne_698) hc_699
  have hc_721 : σ_701 mo = some (gs_ob 7 [.int 0, .int 0, .ref q_1, .ref q_12, .int 0, .ref q_26, .ref q_43, .int 0, .ref q_63, .ref q_86, .ref q_112, .ref q_141, .ref q_173, .ref q_208, .int 0, .int 0, .int 0, .int 0, .ref q_246, .ref q_287, .ref q_331, .ref q_378, .ref q_428, .ref q_481, .ref q_537, .int 0, .int 0, .int 0, .ref q_596, .ref q_658, .null]) := by rw [eσ_701]; exact gs_us
  have fr_722 : frm [mo] σ σ_701 := by rw [eσ_701]; exact fr_700.up (by simp)
  refine lv_aload_n hx hb d_MO_init_163 rfl (lv_at hl 0 rfl) ?_
  refine lv_iconst (v := nI 3) hx hb d_MO_init_164 (by decide) ?_
  refine gs_newi hx hb ht hK hG hS hA w_61 (by decide) (by first | decide | omega) (by first | decide | omega) d_MO_init_165 (fun q_723 H hq_723 hG hS => ?_)
  obtain ⟨σ_724, eσ_724⟩ : ∃ zq, zq = gs_up σ_701 q_723 (gs_ia X 3 (fun _ => 0)) := ⟨_, rfl⟩
  have hG : gs_H X (gs_up σ_701 q_723 (gs_ia X 3 (fun _ => 0))) H := hG
  rw [← eσ_724] at hG
  have hz_725 : σ q_723 = none := fr_722.none_ (al_cons hc_721 al_nil) hq_723
  have hne_727 : q_1 ≠ q_723 := fun z => by rw [z, hq_723] at hc_702; cases hc_702
  have hc_726 : σ_724 q_1 = some (gs_ia X 12 (fun _ => 0)) := by rw [eσ_724]; exact gs_ku hne_727 hc_702
  have hne_729 : q_12 ≠ q_723 := fun z => by rw [z, hq_723] at hc_703; cases hc_703
  have hc_728 : σ_724 q_12 = some (gs_ia X 12 (fun _ => 0)) := by rw [eσ_724]; exact gs_ku hne_729 hc_703
  have hne_731 : q_26 ≠ q_723 := fun z => by rw [z, hq_723] at hc_704; cases hc_704
  have hc_730 : σ_724 q_26 = some (gs_ia X 200 (fun _ => 0)) := by rw [eσ_724]; exact gs_ku hne_731 hc_704
  have hne_733 : q_43 ≠ q_723 := fun z => by rw [z, hq_723] at hc_705; cases hc_705
  have hc_732 : σ_724 q_43 = some (gs_ia X 200 (fun _ => 0)) := by rw [eσ_724]; exact gs_ku hne_733 hc_705
  have hne_735 : q_63 ≠ q_723 := fun z => by rw [z, hq_723] at hc_706; cases hc_706
  have hc_734 : σ_724 q_63 = some (gs_ia X 320 (fun _ => 0)) := by rw [eσ_724]; exact gs_ku hne_735 hc_706
  have hne_737 : q_86 ≠ q_723 := fun z => by rw [z, hq_723] at hc_707; cases hc_707
  have hc_736 : σ_724 q_86 = some (gs_ia X 320 (fun _ => 0)) := by rw [eσ_724]; exact gs_ku hne_737 hc_707
  have hne_739 : q_112 ≠ q_723 := fun z => by rw [z, hq_723] at hc_708; cases hc_708
  have hc_738 : σ_724 q_112 = some (gs_ia X 320 (fun _ => 0)) := by rw [eσ_724]; exact gs_ku hne_739 hc_708
  have hne_741 : q_141 ≠ q_723 := fun z => by rw [z, hq_723] at hc_709; cases hc_709
  have hc_740 : σ_724 q_141 = some (gs_ia X 320 (fun _ => 0)) := by rw [eσ_724]; exact gs_ku hne_741 hc_709
  have hne_743 : q_173 ≠ q_723 := fun z => by rw [z, hq_723] at hc_710; cases hc_710
  have hc_742 : σ_724 q_173 = some (gs_la X 49152 (fun _ => 0)) := by rw [eσ_724]; exact gs_ku hne_743 hc_710
  have hne_745 : q_208 ≠ q_723 := fun z => by rw [z, hq_723] at hc_711; cases hc_711
  have hc_744 : σ_724 q_208 = some (gs_la X 49152 (fun _ => 0)) := by rw [eσ_724]; exact gs_ku hne_745 hc_711
  have hne_747 : q_246 ≠ q_723 := fun z => by rw [z, hq_723] at hc_712; cases hc_712
  have hc_746 : σ_724 q_246 = some (gs_ia X 25 (fun _ => 0)) := by rw [eσ_724]; exact gs_ku hne_747 hc_712
  have hne_749 : q_287 ≠ q_723 := fun z => by rw [z, hq_723] at hc_713; cases hc_713
  have hc_748 : σ_724 q_287 = some (gs_ia X 75 (fun _ => 0)) := by rw [eσ_724]; exact gs_ku hne_749 hc_713
  have hne_751 : q_331 ≠ q_723 := fun z => by rw [z, hq_723] at hc_714; cases hc_714
  have hc_750 : σ_724 q_331 = some (gs_ia X 25 (fun _ => 0)) := by rw [eσ_724]; exact gs_ku hne_751 hc_714
  have hne_753 : q_378 ≠ q_723 := fun z => by rw [z, hq_723] at hc_715; cases hc_715
  have hc_752 : σ_724 q_378 = some (gs_ia X 150 (fun _ => 0)) := by rw [eσ_724]; exact gs_ku hne_753 hc_715
  have hne_755 : q_428 ≠ q_723 := fun z => by rw [z, hq_723] at hc_716; cases hc_716
  have hc_754 : σ_724 q_428 = some (gs_ia X 150 (fun _ => 0)) := by rw [eσ_724]; exact gs_ku hne_755 hc_716
  have hne_757 : q_481 ≠ q_723 := fun z => by rw [z, hq_723] at hc_717; cases hc_717
  have hc_756 : σ_724 q_481 = some (gs_ia X 450 (fun _ => 0)) := by rw [eσ_724]; exact gs_ku hne_757 hc_717
  have hne_759 : q_537 ≠ q_723 := fun z => by rw [z, hq_723] at hc_718; cases hc_718
  have hc_758 : σ_724 q_537 = some (gs_ia X 8 (fun _ => 0)) := by rw [eσ_724]; exact gs_ku hne_759 hc_718
  have hne_761 : q_596 ≠ q_723 := fun z => by rw [z, hq_723] at hc_719; cases hc_719
  have hc_760 : σ_724 q_596 = some (gs_ia X 3 (fun _ => 0)) := by rw [eσ_724]; exact gs_ku hne_761 hc_719
  have hne_763 : q_658 ≠ q_723 := fun z => by rw [z, hq_723] at hc_720; cases hc_720
  have hc_762 : σ_724 q_658 = some (gs_ia X 3 (fun _ => 0)) := by rw [eσ_724]; exact gs_ku hne_763 hc_720
  have hne_765 : mo ≠ q_723 := fun z => by rw [z, hq_723] at hc_721; cases hc_721
  have hc_764 : σ_724 mo = some (gs_ob 7 [.int 0, .int 0, .ref q_1, .ref q_12, .int 0, .ref q_26, .ref q_43, .int 0, .ref q_63, .ref q_86, .ref q_112, .ref q_141, .ref q_173, .ref q_208, .int 0, .int 0, .int 0, .int 0, .ref q_246, .ref q_287, .ref q_331, .ref q_378, .ref q_428, .ref q_481, .ref q_537, .int 0, .int 0, .int 0, .ref q_596, .ref q_658, .null]) := by rw [eσ_724]; exact gs_ku hne_765 hc_721
  have hc_766 : σ_724 q_723 = some (gs_ia X 3 (fun _ => 0)) := by rw [eσ_724]; exact gs_us
  have fr_767 : frm [mo] σ σ_724 := by rw [eσ_724]; exact fr_722.born hq_723
  refine gs_putF hx hb ht hown hK hG hS k_MO hc_764 30 (by decide) w_692 rfl hin rfl rfl rfl (Nat.le_of_ble_eq_true rfl) d_MO_init_167 (fun H locs hG hS => ?_)
  have hG : gs_H X (gs_up σ_724 mo (gs_ob 7 [.int 0, .int 0, .ref q_1, .ref q_12, .int 0, .ref q_26, .ref q_43, .int 0, .ref q_63, .ref q_86, .ref q_112, .ref q_141, .ref q_173, .ref q_208, .int 0, .int 0, .int 0, .int 0, .ref q_246, .ref q_287, .ref q_331, .ref q_378, .ref q_428, .ref q_481, .ref q_537, .int 0, .int 0, .int 0, .ref q_596, .ref q_658, .ref q_723])) H := hG
  obtain ⟨σ_768, eσ_768⟩ : ∃ zq, zq = gs_up σ_724 mo (gs_ob 7 [.int 0, .int 0, .ref q_1, .ref q_12, .int 0, .ref q_26, .ref q_43, .int 0, .ref q_63, .ref q_86, .ref q_112, .ref q_141, .ref q_173, .ref q_208, .int 0, .int 0, .int 0, .int 0, .ref q_246, .ref q_287, .ref q_331, .ref q_378, .ref q_428, .ref q_481, .ref q_537, .int 0, .int 0, .int 0, .ref q_596, .ref q_658, .ref q_723]) := ⟨_, rfl⟩
  rw [← eσ_768] at hG
  have hc_769 : σ_768 q_1 = some (gs_ia X 12 (fun _ => 0)) := by rw [eσ_768]; exact gs_ku (Ne.symm hne_5) hc_726
  have hc_770 : σ_768 q_12 = some (gs_ia X 12 (fun _ => 0)) := by rw [eσ_768]; exact gs_ku (Ne.symm hne_18) hc_728
  have hc_771 : σ_768 q_26 = some (gs_ia X 200 (fun _ => 0)) := by rw [eσ_768]; exact gs_ku (Ne.symm hne_34) hc_730
  have hc_772 : σ_768 q_43 = some (gs_ia X 200 (fun _ => 0)) := by rw [eσ_768]; exact gs_ku (Ne.symm hne_53) hc_732
  have hc_773 : σ_768 q_63 = some (gs_ia X 320 (fun _ => 0)) := by rw [eσ_768]; exact gs_ku (Ne.symm hne_75) hc_734
  have hc_774 : σ_768 q_86 = some (gs_ia X 320 (fun _ => 0)) := by rw [eσ_768]; exact gs_ku (Ne.symm hne_100) hc_736
  have hc_775 : σ_768 q_112 = some (gs_ia X 320 (fun _ => 0)) := by rw [eσ_768]; exact gs_ku (Ne.symm hne_128) hc_738
  have hc_776 : σ_768 q_141 = some (gs_ia X 320 (fun _ => 0)) := by rw [eσ_768]; exact gs_ku (Ne.symm hne_159) hc_740
  have hc_777 : σ_768 q_173 = some (gs_la X 49152 (fun _ => 0)) := by rw [eσ_768]; exact gs_ku (Ne.symm hne_193) hc_742
  have hc_778 : σ_768 q_208 = some (gs_la X 49152 (fun _ => 0)) := by rw [eσ_768]; exact gs_ku (Ne.symm hne_230) hc_744
  have hc_779 : σ_768 q_246 = some (gs_ia X 25 (fun _ => 0)) := by rw [eσ_768]; exact gs_ku (Ne.symm hne_270) hc_746
  have hc_780 : σ_768 q_287 = some (gs_ia X 75 (fun _ => 0)) := by rw [eσ_768]; exact gs_ku (Ne.symm hne_313) hc_748
  have hc_781 : σ_768 q_331 = some (gs_ia X 25 (fun _ => 0)) := by rw [eσ_768]; exact gs_ku (Ne.symm hne_359) hc_750
  have hc_782 : σ_768 q_378 = some (gs_ia X 150 (fun _ => 0)) := by rw [eσ_768]; exact gs_ku (Ne.symm hne_408) hc_752
  have hc_783 : σ_768 q_428 = some (gs_ia X 150 (fun _ => 0)) := by rw [eσ_768]; exact gs_ku (Ne.symm hne_460) hc_754
  have hc_784 : σ_768 q_481 = some (gs_ia X 450 (fun _ => 0)) := by rw [eσ_768]; exact gs_ku (Ne.symm hne_515) hc_756
  have hc_785 : σ_768 q_537 = some (gs_ia X 8 (fun _ => 0)) := by rw [eσ_768]; exact gs_ku (Ne.symm hne_573) hc_758
  have hc_786 : σ_768 q_596 = some (gs_ia X 3 (fun _ => 0)) := by rw [eσ_768]; exact gs_ku (Ne.symm hne_634) hc_760
  have hc_787 : σ_768 q_658 = some (gs_ia X 3 (fun _ => 0)) := by rw [eσ_768]; exact gs_ku (Ne.symm hne_698) hc_762
  have hc_788 : σ_768 q_723 = some (gs_ia X 3 (fun _ => 0)) := by rw [eσ_768]; exact gs_ku (Ne.symm hne_765) hc_766
  have hc_789 : σ_768 mo = some (gs_ob 7 [.int 0, .int 0, .ref q_1, .ref q_12, .int 0, .ref q_26, .ref q_43, .int 0, .ref q_63, .ref q_86, .ref q_112, .ref q_141, .ref q_173, .ref q_208, .int 0, .int 0, .int 0, .int 0, .ref q_246, .ref q_287, .ref q_331, .ref q_378, .ref q_428, .ref q_481, .ref q_537, .int 0, .int 0, .int 0, .ref q_596, .ref q_658, .ref q_723]) := by rw [eσ_768]; exact gs_us
  have fr_790 : frm [mo] σ σ_768 := by rw [eσ_768]; exact fr_767.up (by simp)
  obtain ⟨A9, eA⟩ : ∃ A9 : Nat → Nat, A9 = (fun k => if k = 2 then q_1 else if k = 3 then q_12 else if k = 5 then q_26 else if k = 6 then q_43 else if k = 8 then q_63 else if k = 9 then q_86 else if k = 10 then q_112 else if k = 11 then q_141 else if k = 12 then q_173 else if k = 13 then q_208 else if k = 18 then q_246 else if k = 19 then q_287 else if k = 20 then q_331 else if k = 21 then q_378 else if k = 22 then q_428 else if k = 23 then q_481 else if k = 24 then q_537 else if k = 28 then q_596 else if k = 29 then q_658 else if k = 30 then q_723 else 0) := ⟨_, rfl⟩
  have eA2 : A9 2 = q_1 := by rw [eA]; rfl
  have eA3 : A9 3 = q_12 := by rw [eA]; rfl
  have eA5 : A9 5 = q_26 := by rw [eA]; rfl
  have eA6 : A9 6 = q_43 := by rw [eA]; rfl
  have eA8 : A9 8 = q_63 := by rw [eA]; rfl
  have eA9 : A9 9 = q_86 := by rw [eA]; rfl
  have eA10 : A9 10 = q_112 := by rw [eA]; rfl
  have eA11 : A9 11 = q_141 := by rw [eA]; rfl
  have eA12 : A9 12 = q_173 := by rw [eA]; rfl
  have eA13 : A9 13 = q_208 := by rw [eA]; rfl
  have eA18 : A9 18 = q_246 := by rw [eA]; rfl
  have eA19 : A9 19 = q_287 := by rw [eA]; rfl
  have eA20 : A9 20 = q_331 := by rw [eA]; rfl
  have eA21 : A9 21 = q_378 := by rw [eA]; rfl
  have eA22 : A9 22 = q_428 := by rw [eA]; rfl
  have eA23 : A9 23 = q_481 := by rw [eA]; rfl
  have eA24 : A9 24 = q_537 := by rw [eA]; rfl
  have eA28 : A9 28 = q_596 := by rw [eA]; rfl
  have eA29 : A9 29 = q_658 := by rw [eA]; rfl
  have eA30 : A9 30 = q_723 := by rw [eA]; rfl
  have hND : (aM mo A9).Nodup := by rw [eA]; exact (List.nodup_cons.mpr ⟨(nin_cons hne_5 (nin_cons hne_18 (nin_cons hne_34 (nin_cons hne_53 (nin_cons hne_75 (nin_cons hne_100 (nin_cons hne_128 (nin_cons hne_159 (nin_cons hne_193 (nin_cons hne_230 (nin_cons hne_270 (nin_cons hne_313 (nin_cons hne_359 (nin_cons hne_408 (nin_cons hne_460 (nin_cons hne_515 (nin_cons hne_573 (nin_cons hne_634 (nin_cons hne_698 (nin_cons hne_765 nin_nil)))))))))))))))))))), (List.nodup_cons.mpr ⟨(nin_cons hne_16 (nin_cons hne_30 (nin_cons hne_47 (nin_cons hne_67 (nin_cons hne_90 (nin_cons hne_116 (nin_cons hne_145 (nin_cons hne_177 (nin_cons hne_212 (nin_cons hne_250 (nin_cons hne_291 (nin_cons hne_335 (nin_cons hne_382 (nin_cons hne_432 (nin_cons hne_485 (nin_cons hne_541 (nin_cons hne_600 (nin_cons hne_662 (nin_cons hne_727 nin_nil))))))))))))))))))), (List.nodup_cons.mpr ⟨(nin_cons hne_32 (nin_cons hne_49 (nin_cons hne_69 (nin_cons hne_92 (nin_cons hne_118 (nin_cons hne_147 (nin_cons hne_179 (nin_cons hne_214 (nin_cons hne_252 (nin_cons hne_293 (nin_cons hne_337 (nin_cons hne_384 (nin_cons hne_434 (nin_cons hne_487 (nin_cons hne_543 (nin_cons hne_602 (nin_cons hne_664 (nin_cons hne_729 nin_nil)))))))))))))))))), (List.nodup_cons.mpr ⟨(nin_cons hne_51 (nin_cons hne_71 (nin_cons hne_94 (nin_cons hne_120 (nin_cons hne_149 (nin_cons hne_181 (nin_cons hne_216 (nin_cons hne_254 (nin_cons hne_295 (nin_cons hne_339 (nin_cons hne_386 (nin_cons hne_436 (nin_cons hne_489 (nin_cons hne_545 (nin_cons hne_604 (nin_cons hne_666 (nin_cons hne_731 nin_nil))))))))))))))))), (List.nodup_cons.mpr ⟨(nin_cons hne_73 (nin_cons hne_96 (nin_cons hne_122 (nin_cons hne_151 (nin_cons hne_183 (nin_cons hne_218 (nin_cons hne_256 (nin_cons hne_297 (nin_cons hne_341 (nin_cons hne_388 (nin_cons hne_438 (nin_cons hne_491 (nin_cons hne_547 (nin_cons hne_606 (nin_cons hne_668 (nin_cons hne_733 nin_nil)))))))))))))))), (List.nodup_cons.mpr ⟨(nin_cons hne_98 (nin_cons hne_124 (nin_cons hne_153 (nin_cons hne_185 (nin_cons hne_220 (nin_cons hne_258 (nin_cons hne_299 (nin_cons hne_343 (nin_cons hne_390 (nin_cons hne_440 (nin_cons hne_493 (nin_cons hne_549 (nin_cons hne_608 (nin_cons hne_670 (nin_cons hne_735 nin_nil))))))))))))))), (List.nodup_cons.mpr ⟨(nin_cons hne_126 (nin_cons hne_155 (nin_cons hne_187 (nin_cons hne_222 (nin_cons hne_260 (nin_cons hne_301 (nin_cons hne_345 (nin_cons hne_392 (nin_cons hne_442 (nin_cons hne_495 (nin_cons hne_551 (nin_cons hne_610 (nin_cons hne_672 (nin_cons hne_737 nin_nil)))))))))))))), (List.nodup_cons.mpr ⟨(nin_cons hne_157 (nin_cons hne_189 (nin_cons hne_224 (nin_cons hne_262 (nin_cons hne_303 (nin_cons hne_347 (nin_cons hne_394 (nin_cons hne_444 (nin_cons hne_497 (nin_cons hne_553 (nin_cons hne_612 (nin_cons hne_674 (nin_cons hne_739 nin_nil))))))))))))), (List.nodup_cons.mpr ⟨(nin_cons hne_191 (nin_cons hne_226 (nin_cons hne_264 (nin_cons hne_305 (nin_cons hne_349 (nin_cons hne_396 (nin_cons hne_446 (nin_cons hne_499 (nin_cons hne_555 (nin_cons hne_614 (nin_cons hne_676 (nin_cons hne_741 nin_nil)))))))))))), (List.nodup_cons.mpr ⟨(nin_cons hne_228 (nin_cons hne_266 (nin_cons hne_307 (nin_cons hne_351 (nin_cons hne_398 (nin_cons hne_448 (nin_cons hne_501 (nin_cons hne_557 (nin_cons hne_616 (nin_cons hne_678 (nin_cons hne_743 nin_nil))))))))))), (List.nodup_cons.mpr ⟨(nin_cons hne_268 (nin_cons hne_309 (nin_cons hne_353 (nin_cons hne_400 (nin_cons hne_450 (nin_cons hne_503 (nin_cons hne_559 (nin_cons hne_618 (nin_cons hne_680 (nin_cons hne_745 nin_nil)))))))))), (List.nodup_cons.mpr ⟨(nin_cons hne_311 (nin_cons hne_355 (nin_cons hne_402 (nin_cons hne_452 (nin_cons hne_505 (nin_cons hne_561 (nin_cons hne_620 (nin_cons hne_682 (nin_cons hne_747 nin_nil))))))))), (List.nodup_cons.mpr ⟨(nin_cons hne_357 (nin_cons hne_404 (nin_cons hne_454 (nin_cons hne_507 (nin_cons hne_563 (nin_cons hne_622 (nin_cons hne_684 (nin_cons hne_749 nin_nil)))))))), (List.nodup_cons.mpr ⟨(nin_cons hne_406 (nin_cons hne_456 (nin_cons hne_509 (nin_cons hne_565 (nin_cons hne_624 (nin_cons hne_686 (nin_cons hne_751 nin_nil))))))), (List.nodup_cons.mpr ⟨(nin_cons hne_458 (nin_cons hne_511 (nin_cons hne_567 (nin_cons hne_626 (nin_cons hne_688 (nin_cons hne_753 nin_nil)))))), (List.nodup_cons.mpr ⟨(nin_cons hne_513 (nin_cons hne_569 (nin_cons hne_628 (nin_cons hne_690 (nin_cons hne_755 nin_nil))))), (List.nodup_cons.mpr ⟨(nin_cons hne_571 (nin_cons hne_630 (nin_cons hne_692 (nin_cons hne_757 nin_nil)))), (List.nodup_cons.mpr ⟨(nin_cons hne_632 (nin_cons hne_694 (nin_cons hne_759 nin_nil))), (List.nodup_cons.mpr ⟨(nin_cons hne_696 (nin_cons hne_761 nin_nil)), (List.nodup_cons.mpr ⟨(nin_cons hne_763 nin_nil), (List.nodup_cons.mpr ⟨nin_nil, List.nodup_nil⟩)⟩)⟩)⟩)⟩)⟩)⟩)⟩)⟩)⟩)⟩)⟩)⟩)⟩)⟩)⟩)⟩)⟩)⟩)⟩)⟩)
  exact gs_vret hx hb hr hK hE hz hG hS hlocks (by first | decide | omega | (dsimp only [headSpec]; omega)) (by first | decide | omega | (dsimp only [headSpec]; omega)) (⟨A9, ⟨hND, by decide, ⟨by simp, fun x hx => by cases hx⟩, ⟨by simp, fun x hx => by cases hx⟩, by decide, ⟨fun _ => 0, (by rw [eA]; exact hc_789), rfl, rfl, rfl, rfl, rfl, rfl, rfl, rfl⟩, ⟨_, (by rw [eA2]; exact hc_769), fun r hr => by omega⟩, ⟨_, _, (by rw [eA5]; exact hc_771), (by rw [eA6]; exact hc_772), fun j x z => by simp at z⟩, ⟨_, _, _, _, (by rw [eA8]; exact hc_773), (by rw [eA9]; exact hc_774), (by rw [eA10]; exact hc_775), (by rw [eA11]; exact hc_776), fun j x z => by simp at z⟩, ⟨_, (by rw [eA12]; exact hc_777), (bO_nil (fun k => by unfold gB; simp))⟩, ⟨_, (by rw [eA13]; exact hc_778), (bO_nil (fun k => by unfold gB; simp))⟩, ⟨_, _, _, _, _, _, (by rw [eA18]; exact hc_779), (by rw [eA19]; exact hc_780), (by rw [eA20]; exact hc_781), (by rw [eA21]; exact hc_782), (by rw [eA22]; exact hc_783), (by rw [eA23]; exact hc_784), by simp, fun q R z => by simp at z, fun R z => by cases z⟩, ⟨_, _, _, _, _, (by rw [eA3]; exact hc_770), (by rw [eA24]; exact hc_785), (by rw [eA28]; exact hc_786), (by rw [eA29]; exact hc_787), (by rw [eA30]; exact hc_788)⟩⟩, fr_790, (nn_cons (by rw [eA2]; exact hz_3) (nn_cons (by rw [eA3]; exact hz_14) (nn_cons (by rw [eA5]; exact hz_28) (nn_cons (by rw [eA6]; exact hz_45) (nn_cons (by rw [eA8]; exact hz_65) (nn_cons (by rw [eA9]; exact hz_88) (nn_cons (by rw [eA10]; exact hz_114) (nn_cons (by rw [eA11]; exact hz_143) (nn_cons (by rw [eA12]; exact hz_175) (nn_cons (by rw [eA13]; exact hz_210) (nn_cons (by rw [eA18]; exact hz_248) (nn_cons (by rw [eA19]; exact hz_289) (nn_cons (by rw [eA20]; exact hz_333) (nn_cons (by rw [eA21]; exact hz_380) (nn_cons (by rw [eA22]; exact hz_430) (nn_cons (by rw [eA23]; exact hz_483) (nn_cons (by rw [eA24]; exact hz_539) (nn_cons (by rw [eA28]; exact hz_598) (nn_cons (by rw [eA29]; exact hz_660) (nn_cons (by rw [eA30]; exact hz_725) nn_nil))))))))))))))))))))⟩) d_MO_init_170
