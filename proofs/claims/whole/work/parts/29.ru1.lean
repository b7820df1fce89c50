set_option maxHeartbeats 4000000 in
set_option maxRecDepth 100000 in
/-- Rule() -/
theorem c_RU_init (l : Launch) (X : gs_X) (σ : gs_St) (a hd : Nat)
    (h0 : σ a = some (gs_ob 4 [.null, .null, .null, .int 0, .int 0, .null])) : gs_Mv l X y_RU_init b_RU_init 2 ({ frames := 1, cells := 3, slots := 17, locals := 12 }) σ [.ref a, .ref hd] (fun σ' => ∃ ho ck kf, σ ho = none ∧ σ ck = none ∧ σ kf = none ∧ ho ≠ ck ∧ ho ≠ kf ∧ ck ≠ kf ∧ σ' = ru4 X σ a hd ho ck kf 0 0 (fun _ => none) (fun _ => none) (fun _ => 0)) := by
  refine Met.ofW (cc := b_RU_init) (maxL := 2) (ret := none) (by decide) rfl ?_
  intro p e s m args below meth c s₁ B₀ hml hv
  obtain ⟨rfl, hK, hG, hz, hE⟩ := hv
  have hx := B₀.exec
  have hb := B₀.bytes
  have hr := B₀.returns
  have hts := atoms_spec (ws := gs_ws y_RU_init b_RU_init 2 none) B₀.pre
  have ht : ∀ w ∈ gs_w, w.before _ s = true := fun w h => hts w (List.mem_cons_of_mem _ h)
  have hown : s.vm.findClass R_RU = some m.cls := findClass_of_methodNamed B₀.named
  have hlocks := B₀.notSynchronized
  have hin : meth.name = "<init>" := (name_of_methodNamed B₀.named B₀.method).1
  have hA : ∀ q : Nat, s.heap.size ≤ q → gs_A X q := fun q h => Nat.le_trans hz h
  have hS : va_S (gs_A X) s.heap s.heap [] := va_S.rf
  have hl := lv_entry ([.ref a, .ref hd]) (n := 2) (Nat.le_of_ble_eq_true rfl)
  rw [lg_entry_eq]
  generalize (lg_sl ([.ref a, .ref hd]) ++ List.replicate (2 - (lg_sl ([.ref a, .ref hd])).length) Slot.unset).toArray = ls at hl ⊢
  have hl : lv_has ls 2 [(0, .ref a), (1, .ref hd)] := hl
  refine lv_aload_n hx hb d_RU_init_0 rfl (lv_at hl 0 rfl) ?_
  refine W.objInit hx hb hown (ht _ w_490) (ht _ w_22) (ht _ w_23) rfl (by rw [hml]; exact hl.1) rfl d_RU_init_1 (Nat.le_of_ble_eq_true rfl) (Nat.le_of_ble_eq_true rfl) ?_
  refine W.eq (g2 := F0 m 4 ls []) rfl ?_
  refine lv_aload_n hx hb d_RU_init_4 rfl (lv_at hl 0 rfl) ?_
  refine lv_aload_n hx hb d_RU_init_5 rfl (lv_at hl 1 rfl) ?_
  refine gs_putF hx hb ht hown hK hG hS k_RU h0 0 (by decide) w_493 rfl hin rfl rfl rfl (Nat.le_of_ble_eq_true rfl) d_RU_init_6 (fun H locs hG hS => ?_)
  have hG : gs_H X (gs_up σ a (gs_ob 4 [.ref hd, .null, .null, .int 0, .int 0, .null])) H := hG
  obtain ⟨σ_1, eσ_1⟩ : ∃ zq, zq = gs_up σ a (gs_ob 4 [.ref hd, .null, .null, .int 0, .int 0, .null]) := ⟨_, rfl⟩
  rw [← eσ_1] at hG
  have hc_2 : σ_1 a = some (gs_ob 4 [.ref hd, .null, .null, .int 0, .int 0, .null]) := by rw [eσ_1]; exact gs_us
  refine lv_aload_n hx hb d_RU_init_9 rfl (lv_at hl 0 rfl) ?_
  refine lv_iconst (v := nI 3) hx hb d_RU_init_10 (by decide) ?_
  refine gs_newq hx hb ht 3 hown hK hG hS hA w_491 hK.2.2.2 rfl (by decide) (by first | decide | omega) (by first | decide | omega) d_RU_init_11 (fun q_3 H hq_3 hG hS => ?_)
  obtain ⟨σ_4, eσ_4⟩ : ∃ zq, zq = gs_up σ_1 q_3 (gs_qa X 3 3 (fun _ => none)) := ⟨_, rfl⟩
  have hG : gs_H X (gs_up σ_1 q_3 (gs_qa X 3 3 (fun _ => none))) H := hG
  rw [← eσ_4] at hG
  have hne_6 : a ≠ q_3 := fun z => by rw [z, hq_3] at hc_2; cases hc_2
  have hc_5 : σ_4 a = some (gs_ob 4 [.ref hd, .null, .null, .int 0, .int 0, .null]) := by rw [eσ_4]; exact gs_ku hne_6 hc_2
  have hc_7 : σ_4 q_3 = some (gs_qa X 3 3 (fun _ => none)) := by rw [eσ_4]; exact gs_us
  refine gs_putF hx hb ht hown hK hG hS k_RU hc_5 1 (by decide) w_496 rfl hin rfl rfl rfl (Nat.le_of_ble_eq_true rfl) d_RU_init_14 (fun H locs hG hS => ?_)
  have hG : gs_H X (gs_up σ_4 a (gs_ob 4 [.ref hd, .ref q_3, .null, .int 0, .int 0, .null])) H := hG
  obtain ⟨σ_8, eσ_8⟩ : ∃ zq, zq = gs_up σ_4 a (gs_ob 4 [.ref hd, .ref q_3, .null, .int 0, .int 0, .null]) := ⟨_, rfl⟩
  rw [← eσ_8] at hG
  have hc_9 : σ_8 q_3 = some (gs_qa X 3 3 (fun _ => none)) := by rw [eσ_8]; exact gs_ku (Ne.symm hne_6) hc_7
  have hc_10 : σ_8 a = some (gs_ob 4 [.ref hd, .ref q_3, .null, .int 0, .int 0, .null]) := by rw [eσ_8]; exact gs_us
  refine lv_aload_n hx hb d_RU_init_17 rfl (lv_at hl 0 rfl) ?_
  refine lv_bipush (v := nI 6) hx hb d_RU_init_18 (by decide) ?_
  refine gs_newq hx hb ht 3 hown hK hG hS hA w_491 hK.2.2.2 rfl (by decide) (by first | decide | omega) (by first | decide | omega) d_RU_init_20 (fun q_11 H hq_11 hG hS => ?_)
  obtain ⟨σ_12, eσ_12⟩ : ∃ zq, zq = gs_up σ_8 q_11 (gs_qa X 3 6 (fun _ => none)) := ⟨_, rfl⟩
  have hG : gs_H X (gs_up σ_8 q_11 (gs_qa X 3 6 (fun _ => none))) H := hG
  rw [← eσ_12] at hG
  have hne_14 : q_3 ≠ q_11 := fun z => by rw [z, hq_11] at hc_9; cases hc_9
  have hc_13 : σ_12 q_3 = some (gs_qa X 3 3 (fun _ => none)) := by rw [eσ_12]; exact gs_ku hne_14 hc_9
  have hne_16 : a ≠ q_11 := fun z => by rw [z, hq_11] at hc_10; cases hc_10
  have hc_15 : σ_12 a = some (gs_ob 4 [.ref hd, .ref q_3, .null, .int 0, .int 0, .null]) := by rw [eσ_12]; exact gs_ku hne_16 hc_10
  have hc_17 : σ_12 q_11 = some (gs_qa X 3 6 (fun _ => none)) := by rw [eσ_12]; exact gs_us
  refine gs_putF hx hb ht hown hK hG hS k_RU hc_15 2 (by decide) w_500 rfl hin rfl rfl rfl (Nat.le_of_ble_eq_true rfl) d_RU_init_23 (fun H locs hG hS => ?_)
  have hG : gs_H X (gs_up σ_12 a (gs_ob 4 [.ref hd, .ref q_3, .ref q_11, .int 0, .int 0, .null])) H := hG
  obtain ⟨σ_18, eσ_18⟩ : ∃ zq, zq = gs_up σ_12 a (gs_ob 4 [.ref hd, .ref q_3, .ref q_11, .int 0, .int 0, .null]) := ⟨_, rfl⟩
  rw [← eσ_18] at hG
  have hc_19 : σ_18 q_3 = some (gs_qa X 3 3 (fun _ => none)) := by rw [eσ_18]; exact gs_ku (Ne.symm hne_6) hc_13
  have hc_20 : σ_18 q_11 = some (gs_qa X 3 6 (fun _ => none)) := by rw [eσ_18]; exact gs_ku (Ne.symm hne_16) hc_17
  have hc_21 : σ_18 a = some (gs_ob 4 [.ref hd, .ref q_3, .ref q_11, .int 0, .int 0, .null]) := by rw [eσ_18]; exact gs_us
  refine lv_aload_n hx hb d_RU_init_26 rfl (lv_at hl 0 rfl) ?_
  refine lv_iconst (v := nI 0) hx hb d_RU_init_27 (by decide) ?_
  refine gs_put hx hb ht hown hK hG hS k_RU hc_21 3 (by decide) w_503 rfl rfl rfl (Nat.le_of_ble_eq_true rfl) d_RU_init_28 (fun H locs hG hS => ?_)
  have hG : gs_H X (gs_up σ_18 a (gs_ob 4 [.ref hd, .ref q_3, .ref q_11, .int (nI 0), .int 0, .null])) H := hG
  obtain ⟨σ_22, eσ_22⟩ : ∃ zq, zq = gs_up σ_18 a (gs_ob 4 [.ref hd, .ref q_3, .ref q_11, .int (nI 0), .int 0, .null]) := ⟨_, rfl⟩
  rw [← eσ_22] at hG
  have hc_23 : σ_22 q_3 = some (gs_qa X 3 3 (fun _ => none)) := by rw [eσ_22]; exact gs_ku (Ne.symm hne_6) hc_19
  have hc_24 : σ_22 q_11 = some (gs_qa X 3 6 (fun _ => none)) := by rw [eσ_22]; exact gs_ku (Ne.symm hne_16) hc_20
  have hc_25 : σ_22 a = some (gs_ob 4 [.ref hd, .ref q_3, .ref q_11, .int (nI 0), .int 0, .null]) := by rw [eσ_22]; exact gs_us
  refine lv_aload_n hx hb d_RU_init_31 rfl (lv_at hl 0 rfl) ?_
  refine lv_iconst (v := nI 0) hx hb d_RU_init_32 (by decide) ?_
  refine gs_put hx hb ht hown hK hG hS k_RU hc_25 4 (by decide) w_507 rfl rfl rfl (Nat.le_of_ble_eq_true rfl) d_RU_init_33 (fun H locs hG hS => ?_)
  have hG : gs_H X (gs_up σ_22 a (gs_ob 4 [.ref hd, .ref q_3, .ref q_11, .int (nI 0), .int (nI 0), .null])) H := hG
  obtain ⟨σ_26, eσ_26⟩ : ∃ zq, zq = gs_up σ_22 a (gs_ob 4 [.ref hd, .ref q_3, .ref q_11, .int (nI 0), .int (nI 0), .null]) := ⟨_, rfl⟩
  rw [← eσ_26] at hG
  have hc_27 : σ_26 q_3 = some (gs_qa X 3 3 (fun _ => none)) := by rw [eσ_26]; exact gs_ku (Ne.symm hne_6) hc_23
  have hc_28 : σ_26 q_11 = some (gs_qa X 3 6 (fun _ => none)) := by rw [eσ_26]; exact gs_ku (Ne.symm hne_16) hc_24
  have hc_29 : σ_26 a = some (gs_ob 4 [.ref hd, .ref q_3, .ref q_11, .int (nI 0), .int (nI 0), .null]) := by rw [eσ_26]; exact gs_us
  refine lv_aload_n hx hb d_RU_init_36 rfl (lv_at hl 0 rfl) ?_
  refine lv_bipush (v := nI 8) hx hb d_RU_init_37 (by decide) ?_
  refine gs_newi hx hb ht hK hG hS hA w_61 (by decide) (by first | decide | omega) (by first | decide | omega) d_RU_init_39 (fun q_30 H hq_30 hG hS => ?_)
  obtain ⟨σ_31, eσ_31⟩ : ∃ zq, zq = gs_up σ_26 q_30 (gs_ia X 8 (fun _ => 0)) := ⟨_, rfl⟩
  have hG : gs_H X (gs_up σ_26 q_30 (gs_ia X 8 (fun _ => 0))) H := hG
  rw [← eσ_31] at hG
  have hne_33 : q_3 ≠ q_30 := fun z => by rw [z, hq_30] at hc_27; cases hc_27
  have hc_32 : σ_31 q_3 = some (gs_qa X 3 3 (fun _ => none)) := by rw [eσ_31]; exact gs_ku hne_33 hc_27
  have hne_35 : q_11 ≠ q_30 := fun z => by rw [z, hq_30] at hc_28; cases hc_28
  have hc_34 : σ_31 q_11 = some (gs_qa X 3 6 (fun _ => none)) := by rw [eσ_31]; exact gs_ku hne_35 hc_28
  have hne_37 : a ≠ q_30 := fun z => by rw [z, hq_30] at hc_29; cases hc_29
  have hc_36 : σ_31 a = some (gs_ob 4 [.ref hd, .ref q_3, .ref q_11, .int (nI 0), .int (nI 0), .null]) := by rw [eσ_31]; exact gs_ku hne_37 hc_29
  have hc_38 : σ_31 q_30 = some (gs_ia X 8 (fun _ => 0)) := by rw [eσ_31]; exact gs_us
  refine gs_putF hx hb ht hown hK hG hS k_RU hc_36 5 (by decide) w_510 rfl hin rfl rfl rfl (Nat.le_of_ble_eq_true rfl) d_RU_init_41 (fun H locs hG hS => ?_)
  have hG : gs_H X (gs_up σ_31 a (gs_ob 4 [.ref hd, .ref q_3, .ref q_11, .int (nI 0), .int (nI 0), .ref q_30])) H := hG
  obtain ⟨σ_39, eσ_39⟩ : ∃ zq, zq = gs_up σ_31 a (gs_ob 4 [.ref hd, .ref q_3, .ref q_11, .int (nI 0), .int (nI 0), .ref q_30]) := ⟨_, rfl⟩
  rw [← eσ_39] at hG
  have hc_40 : σ_39 q_3 = some (gs_qa X 3 3 (fun _ => none)) := by rw [eσ_39]; exact gs_ku (Ne.symm hne_6) hc_32
  have hc_41 : σ_39 q_11 = some (gs_qa X 3 6 (fun _ => none)) := by rw [eσ_39]; exact gs_ku (Ne.symm hne_16) hc_34
  have hc_42 : σ_39 q_30 = some (gs_ia X 8 (fun _ => 0)) := by rw [eσ_39]; exact gs_ku (Ne.symm hne_37) hc_38
  have hc_43 : σ_39 a = some (gs_ob 4 [.ref hd, .ref q_3, .ref q_11, .int (nI 0), .int (nI 0), .ref q_30]) := by rw [eσ_39]; exact gs_us
  have z1 : σ q_3 = none := by have z := hq_3; simp only [*] at z; exact gs_none1 z
  have z2 : σ q_11 = none := by have z := hq_11; simp only [*] at z; exact gs_none1 (gs_none1 (gs_none1 z))
  have z3 : σ q_30 = none := by have z := hq_30; simp only [*] at z; exact gs_none1 (gs_none1 (gs_none1 (gs_none1 (gs_none1 (gs_none1 (gs_none1 z))))))
  exact gs_vret hx hb hr hK hE hz hG hS hlocks (by first | decide | omega | (dsimp only [headSpec]; omega)) (by first | decide | omega | (dsimp only [headSpec]; omega)) (⟨q_3, q_11, q_30, z1, z2, z3, hne_14, hne_33, hne_35, (by simp only [*]; exact ru4_init hne_6 hne_16 hne_37)⟩) d_RU_init_44
set_option maxHeartbeats 4000000 in
set_option maxRecDepth 100000 in
theorem c_RU_itemCount (l : Launch) (X : gs_X) (σ : gs_St) (a hd ho ck kf n k : Nat)
    (r0 : σ a = some (gs_ob 4 [.ref hd, .ref ho, .ref ck, .int (nI n), .int (nI k), .ref kf])) : gs_Mi l X y_RU_itemCount b_RU_itemCount 1 (some .int) ({ frames := 0, cells := 0, slots := 0, locals := 0 }) σ [.ref a] (fun r σ' => σ' = σ ∧ r = nI (n + k)) := by
  refine Met.ofW (cc := b_RU_itemCount) (maxL := 1) (ret := (some .int)) (by decide) rfl ?_
  intro p e s m args below meth c s₁ B₀ hml hv
  obtain ⟨rfl, hK, hG, hz, hE⟩ := hv
  have hx := B₀.exec
  have hb := B₀.bytes
  have hr := B₀.returns
  have hts := atoms_spec (ws := gs_ws y_RU_itemCount b_RU_itemCount 1 (some .int)) B₀.pre
  have ht : ∀ w ∈ gs_w, w.before _ s = true := fun w h => hts w (List.mem_cons_of_mem _ h)
  have hown : s.vm.findClass R_RU = some m.cls := findClass_of_methodNamed B₀.named
  have hlocks := B₀.notSynchronized
  have hA : ∀ q : Nat, s.heap.size ≤ q → gs_A X q := fun q h => Nat.le_trans hz h
  have hS : va_S (gs_A X) s.heap s.heap [] := va_S.rf
  have hl := lv_entry ([.ref a]) (n := 1) (Nat.le_of_ble_eq_true rfl)
  rw [lg_entry_eq]
  generalize (lg_sl ([.ref a]) ++ List.replicate (1 - (lg_sl ([.ref a])).length) Slot.unset).toArray = ls at hl ⊢
  have hl : lv_has ls 1 [(0, .ref a)] := hl
  refine lv_aload_n hx hb d_RU_itemCount_0 rfl (lv_at hl 0 rfl) ?_
  refine gs_get hx hb ht hown hK hG k_RU r0 3 (by decide) w_503 rfl d_RU_itemCount_1 ?_
  refine lv_aload_n hx hb d_RU_itemCount_4 rfl (lv_at hl 0 rfl) ?_
  refine gs_get hx hb ht hown hK hG k_RU r0 4 (by decide) w_507 rfl d_RU_itemCount_5 ?_
  refine lv_iadd hx hb d_RU_itemCount_8 ?_
  refine gs_top (nI_add n k) ?_
  exact gs_iret (v := (nI (n + k))) hx hb hr rfl hK hE hz hG hS hlocks (by first | decide | omega | (dsimp only [headSpec]; omega)) (by first | decide | omega | (dsimp only [headSpec]; omega)) (⟨rfl, rfl⟩) d_RU_itemCount_9
set_option maxHeartbeats 4000000 in
set_option maxRecDepth 100000 in
theorem c_RU_hasRoomFor (l : Launch) (X : gs_X) (σ : gs_St) (a hd ho ck kf n k : Nat) (kd : Nat)
    (r0 : σ a = some (gs_ob 4 [.ref hd, .ref ho, .ref ck, .int (nI n), .int (nI k), .ref kf])) (hn : n ≤ 6) (hk : k ≤ 6) (hkd : kd ≤ 3) : gs_Mi l X y_RU_hasRoomFor b_RU_hasRoomFor 2 (some .boolean) ({ frames := 1, cells := 0, slots := 0, locals := 20 }) σ [.ref a, .int (nI kd)] (fun r σ' => σ' = σ ∧ r = bI (decide (n + k < 6 ∧ (kd ≠ 0 ∨ n < 3)))) := by
  refine Met.ofW (cc := b_RU_hasRoomFor) (maxL := 2) (ret := (some .boolean)) (by decide) rfl ?_
  intro p e s m args below meth c s₁ B₀ hml hv
  obtain ⟨rfl, hK, hG, hz, hE⟩ := hv
  have hx := B₀.exec
  have hb := B₀.bytes
  have hr := B₀.returns
  have hts := atoms_spec (ws := gs_ws y_RU_hasRoomFor b_RU_hasRoomFor 2 (some .boolean)) B₀.pre
  have ht : ∀ w ∈ gs_w, w.before _ s = true := fun w h => hts w (List.mem_cons_of_mem _ h)
  have hown : s.vm.findClass R_RU = some m.cls := findClass_of_methodNamed B₀.named
  have hlocks := B₀.notSynchronized
  have hA : ∀ q : Nat, s.heap.size ≤ q → gs_A X q := fun q h => Nat.le_trans hz h
  have hS : va_S (gs_A X) s.heap s.heap [] := va_S.rf
  have hl := lv_entry ([.ref a, .int (nI kd)]) (n := 2) (Nat.le_of_ble_eq_true rfl)
  rw [lg_entry_eq]
  generalize (lg_sl ([.ref a, .int (nI kd)]) ++ List.replicate (2 - (lg_sl ([.ref a, .int (nI kd)])).length) Slot.unset).toArray = ls at hl ⊢
  have hl : lv_has ls 2 [(0, .ref a), (1, .int (nI kd))] := hl
  refine lv_aload_n hx hb d_RU_hasRoomFor_0 rfl (lv_at hl 0 rfl) ?_
  refine gs_callVi (As := []) (rest := []) ⟨hx, hb, hml, hown, hts⟩ hK hE hz hG hS (c_RU_itemCount l X σ a hd ho ck kf n k r0) mV_RU_itemCount w_541 r0 rfl rfl hl.1 rfl (Nat.le_of_ble_eq_true rfl) ⟨(by first | decide | omega | (dsimp only [headSpec]; omega)), (by first | decide | omega | (dsimp only [headSpec]; omega))⟩ ⟨(by first | decide | omega | (dsimp only [headSpec]; omega)), (by first | decide | omega | (dsimp only [headSpec]; omega))⟩ d_RU_hasRoomFor_1 (fun r_1 σ_1 H locs hp_1 hG hS => ?_)
  rw [hp_1.1] at hG
  refine gs_top (show r_1 = (nI (n + k)) from hp_1.2) ?_
  refine lv_bipush (v := nI 6) hx hb d_RU_hasRoomFor_4 (by decide) ?_
  refine lv_icmp_ge (tgt := 25) hx hb d_RU_hasRoomFor_6 (by decide) (fun c_6 => ?_) (fun c_6 => ?_)
  · have c_6 : 6 ≤ (n + k) := (nI_leI (by omega) (by omega)).mp c_6
    refine lv_iconst (v := nI 0) hx hb d_RU_hasRoomFor_25 (by decide) ?_
    exact gs_iret (v := (nI 0)) hx hb hr rfl hK hE hz hG hS hlocks (by first | decide | omega | (dsimp only [headSpec]; omega)) (by first | decide | omega | (dsimp only [headSpec]; omega)) (⟨rfl, by rw [decide_eq_false (by omega)]; rfl⟩) d_RU_hasRoomFor_26
  · have c_6 : ¬ 6 ≤ (n + k) := mt (nI_leI (by omega) (by omega)).mpr c_6
    refine lv_iload_n hx hb d_RU_hasRoomFor_9 rfl (lv_at hl 1 rfl) ?_
    refine lv_if_ne (tgt := 21) hx hb d_RU_hasRoomFor_10 (by decide) (fun c_10 => ?_) (fun c_10 => ?_)
    · have c_10 : ¬ kd = 0 := gs_zn (by omega) c_10
      refine lv_iconst (v := nI 1) hx hb d_RU_hasRoomFor_21 (by decide) ?_
      refine lv_goto (tgt := 26) hx hb d_RU_hasRoomFor_22 (by decide) ?_
      exact gs_iret (v := (nI 1)) hx hb hr rfl hK hE hz hG hS hlocks (by first | decide | omega | (dsimp only [headSpec]; omega)) (by first | decide | omega | (dsimp only [headSpec]; omega)) (⟨rfl, by rw [decide_eq_true (by omega)]; rfl⟩) d_RU_hasRoomFor_26
    · have c_10 : kd = 0 := gs_z (by omega) c_10
      refine lv_aload_n hx hb d_RU_hasRoomFor_13 rfl (lv_at hl 0 rfl) ?_
      refine gs_get hx hb ht hown hK hG k_RU r0 3 (by decide) w_503 rfl d_RU_hasRoomFor_14 ?_
      refine lv_iconst (v := nI 3) hx hb d_RU_hasRoomFor_17 (by decide) ?_
      refine lv_icmp_ge (tgt := 25) hx hb d_RU_hasRoomFor_18 (by decide) (fun c_18 => ?_) (fun c_18 => ?_)
      · have c_18 : 3 ≤ n := (nI_leI (by omega) (by omega)).mp c_18
        refine lv_iconst (v := nI 0) hx hb d_RU_hasRoomFor_25 (by decide) ?_
        exact gs_iret (v := (nI 0)) hx hb hr rfl hK hE hz hG hS hlocks (by first | decide | omega | (dsimp only [headSpec]; omega)) (by first | decide | omega | (dsimp only [headSpec]; omega)) (⟨rfl, by rw [decide_eq_false (by omega)]; rfl⟩) d_RU_hasRoomFor_26
      · have c_18 : ¬ 3 ≤ n := mt (nI_leI (by omega) (by omega)).mpr c_18
        refine lv_iconst (v := nI 1) hx hb d_RU_hasRoomFor_21 (by decide) ?_
        refine lv_goto (tgt := 26) hx hb d_RU_hasRoomFor_22 (by decide) ?_
        exact gs_iret (v := (nI 1)) hx hb hr rfl hK hE hz hG hS hlocks (by first | decide | omega | (dsimp only [headSpec]; omega)) (by first | decide | omega | (dsimp only [headSpec]; omega)) (⟨rfl, by rw [decide_eq_true (by omega)]; rfl⟩) d_RU_hasRoomFor_26
set_option maxHeartbeats 4000000 in
set_option maxRecDepth 100000 in
theorem c_RU_isFirstUse (l : Launch) (X : gs_X) (σ : gs_St) (b j : Nat) (t : It)
    (h0 : σ b = some (itE t)) (hj : j < 3) (hB : ∀ j, tm t j < 72) : gs_Mi l X y_RU_isFirstUse b_RU_isFirstUse 3 (some .boolean) ({ frames := 1, cells := 0, slots := 0, locals := 21 }) σ [.ref b, .int (nI j)] (fun r σ' => σ' = σ ∧ r = bI (fu t j)) := by
  refine Met.ofW (cc := b_RU_isFirstUse) (maxL := 3) (ret := (some .boolean)) (by decide) rfl ?_
  intro p e s m args below meth c s₁ B₀ hml hv
  obtain ⟨rfl, hK, hG, hz, hE⟩ := hv
  have hx := B₀.exec
  have hb := B₀.bytes
  have hr := B₀.returns
  have hts := atoms_spec (ws := gs_ws y_RU_isFirstUse b_RU_isFirstUse 3 (some .boolean)) B₀.pre
  have ht : ∀ w ∈ gs_w, w.before _ s = true := fun w h => hts w (List.mem_cons_of_mem _ h)
  have hown : s.vm.findClass R_RU = some m.cls := findClass_of_methodNamed B₀.named
  have hlocks := B₀.notSynchronized
  have hA : ∀ q : Nat, s.heap.size ≤ q → gs_A X q := fun q h => Nat.le_trans hz h
  have hS : va_S (gs_A X) s.heap s.heap [] := va_S.rf
  have hl := lv_entry ([.ref b, .int (nI j)]) (n := 3) (Nat.le_of_ble_eq_true rfl)
  rw [lg_entry_eq]
  generalize (lg_sl ([.ref b, .int (nI j)]) ++ List.replicate (3 - (lg_sl ([.ref b, .int (nI j)])).length) Slot.unset).toArray = ls at hl ⊢
  have hl : lv_has ls 3 [(0, .ref b), (1, .int (nI j))] := hl
  have loop : ∀ (fl : Nat) (i : Nat), (i ≤ j) → (∀ q, q < i → tm t q ≠ tm t j) → j - i < fl → ∀ (H : Heap) (locs : List Loc), gs_H X σ H → va_S (gs_A X) s.heap H locs → ∀ ls, lv_has ls 3 [(2, .int (nI i)), (0, .ref b), (1, .int (nI j))] → W p l e ({ frames := 1, cells := 0, slots := 0, locals := 21 } : Room) s m ([.ref b, .int (nI j)] : List Value).toArray below meth c H locs 0 0 (MQ below (va_Qi (fun r σ' => σ' = σ ∧ r = bI (fu t j)) (gs_U X) (gs_A X)) ([.ref b, .int (nI j)] : List Value).toArray s 0 0 (gs_A X)) (F0 m 2 ls []) := by
    intro fl
    induction fl with
    | zero => intro i _ _ h9; omega
    | succ fl ih =>
      intro i hi hall hmu  H locs hG hS ls hl
      have hq1 := hB i
      have hq2 := hB j
      refine lv_iload_n hx hb d_RU_isFirstUse_2 rfl (lv_at hl 0 rfl) ?_
      refine lv_iload_n hx hb d_RU_isFirstUse_3 rfl (lv_at hl 2 rfl) ?_
      refine lv_icmp_ge (tgt := 28) hx hb d_RU_isFirstUse_4 (by decide) (fun c_4 => ?_) (fun c_4 => ?_)
      · have c_4 : j ≤ i := (nI_leI (by omega) (by omega)).mp c_4
        refine lv_iconst (v := nI 1) hx hb d_RU_isFirstUse_28 (by decide) ?_
        have hf : fu t j = true := by
          simp only [fu, List.all_eq_true]
          exact fun q hq => decide_eq_true (hall q (by have := List.mem_range.mp hq; omega))
        exact gs_iret (v := (nI 1)) hx hb hr rfl hK hE hz hG hS hlocks (by first | decide | omega | (dsimp only [headSpec]; omega)) (by first | decide | omega | (dsimp only [headSpec]; omega)) (⟨rfl, by rw [hf]; rfl⟩) d_RU_isFirstUse_29
      · have c_4 : ¬ j ≤ i := mt (nI_leI (by omega) (by omega)).mpr c_4
        refine lv_aload_n hx hb d_RU_isFirstUse_7 rfl (lv_at hl 1 rfl) ?_
        refine lv_iload_n hx hb d_RU_isFirstUse_8 rfl (lv_at hl 0 rfl) ?_
        refine gs_callVi (As := [.int (nI i)]) (rest := []) ⟨hx, hb, hml, hown, hts⟩ hK hE hz hG hS (c_IT_term l X σ b t i h0 (by omega)) mV_IT_term w_555 h0 rfl rfl hl.1 rfl (Nat.le_of_ble_eq_true rfl) ⟨(by first | decide | omega | (dsimp only [headSpec]; omega)), (by first | decide | omega | (dsimp only [headSpec]; omega))⟩ ⟨(by first | decide | omega | (dsimp only [headSpec]; omega)), (by first | decide | omega | (dsimp only [headSpec]; omega))⟩ d_RU_isFirstUse_9 (fun r_9 σ_9 H locs hp_9 hG hS => ?_)
        rw [hp_9.1] at hG
        refine gs_top (show r_9 = (nI (tm t i)) from hp_9.2) ?_
        refine lv_aload_n hx hb d_RU_isFirstUse_12 rfl (lv_at hl 1 rfl) ?_
        refine lv_iload_n hx hb d_RU_isFirstUse_13 rfl (lv_at hl 2 rfl) ?_
        refine gs_callVi (As := [.int (nI j)]) (rest := [.int (nI (tm t i))]) ⟨hx, hb, hml, hown, hts⟩ hK hE hz hG hS (c_IT_term l X σ b t j h0 (by omega)) mV_IT_term w_555 h0 rfl rfl hl.1 rfl (Nat.le_of_ble_eq_true rfl) ⟨(by first | decide | omega | (dsimp only [headSpec]; omega)), (by first | decide | omega | (dsimp only [headSpec]; omega))⟩ ⟨(by first | decide | omega | (dsimp only [headSpec]; omega)), (by first | decide | omega | (dsimp only [headSpec]; omega))⟩ d_RU_isFirstUse_14 (fun r_14 σ_14 H locs hp_14 hG hS => ?_)
        rw [hp_14.1] at hG
        refine gs_top (show r_14 = (nI (tm t j)) from hp_14.2) ?_
        refine lv_icmp_ne (tgt := 22) hx hb d_RU_isFirstUse_17 (by decide) (fun c_17 => ?_) (fun c_17 => ?_)
        · have c_17 : ¬ (tm t i) = (tm t j) := mt (nI_eq (by omega) (by omega)).mpr c_17
          refine lv_iinc (v := (nI (i + 1))) (lv' := [(2, .int (nI (i + 1))), (0, .ref b), (1, .int (nI j))]) hx hb d_RU_isFirstUse_22 hl (k := 0) rfl (by exact nI_1 _) (by decide) rfl (fun ls hl => ?_)
          refine lv_goto (tgt := 2) hx hb d_RU_isFirstUse_25 (by decide) ?_
          exact ih (i + 1) (by omega) (fun q hq => by rcases Nat.lt_or_ge q i with z | z; exact hall q z; (have e : q = i := by omega); subst e; exact c_17) (by omega) H locs hG hS ls (lv_sub hl [0, 1, 2] rfl)
        · have c_17 : (tm t i) = (tm t j) :=  (nI_eq (by omega) (by omega)).mp c_17
          refine lv_iconst (v := nI 0) hx hb d_RU_isFirstUse_20 (by decide) ?_
          have hf : fu t j = false := by
            simp only [fu, List.all_eq_false]
            exact ⟨i, List.mem_range.mpr (by omega), by simp [c_17]⟩
          exact gs_iret (v := (nI 0)) hx hb hr rfl hK hE hz hG hS hlocks (by first | decide | omega | (dsimp only [headSpec]; omega)) (by first | decide | omega | (dsimp only [headSpec]; omega)) (⟨rfl, by rw [hf]; rfl⟩) d_RU_isFirstUse_21
  refine lv_iconst (v := nI 0) hx hb d_RU_isFirstUse_0 (by decide) ?_
  refine lv_istore_n (lv' := [(2, .int (nI 0)), (0, .ref b), (1, .int (nI j))]) hx hb d_RU_isFirstUse_1 rfl hl (by decide) rfl (fun ls hl => ?_)
  exact loop (j + 1) 0 (by omega) (fun q hq => absurd hq (Nat.not_lt_zero _)) (by omega) _ _ hG hS ls (lv_sub hl [0, 1, 2] rfl)
set_option maxHeartbeats 4000000 in
set_option maxRecDepth 100000 in
theorem c_RU_readyOf (l : Launch) (X : gs_X) (σ : gs_St) (a hd ho ck kf n k : Nat) (b : Nat) (kv : Nat → Int32) (kn : Nat → Nat) (t : It)
    (r0 : σ a = some (gs_ob 4 [.ref hd, .ref ho, .ref ck, .int (nI n), .int (nI k), .ref kf])) (r3 : σ kf = some (gs_ia X 8 kv)) (hkn : kOK kv kn) (h0 : σ b = some (itE t)) (hw : t.1.2.2 ≤ 3) (hB : ∀ j, tm t j < 72) : gs_Mi l X y_RU_readyOf b_RU_readyOf 5 (some .int) ({ frames := 1, cells := 0, slots := 0, locals := 40 }) σ [.ref a, .ref b] (fun r σ' => σ' = σ ∧ r = rdI (rdO kn t)) := by
  refine Met.ofW (cc := b_RU_readyOf) (maxL := 5) (ret := (some .int)) (by decide) rfl ?_
  intro p e s m args below meth c s₁ B₀ hml hv
  obtain ⟨rfl, hK, hG, hz, hE⟩ := hv
  have hx := B₀.exec
  have hb := B₀.bytes
  have hr := B₀.returns
  have hts := atoms_spec (ws := gs_ws y_RU_readyOf b_RU_readyOf 5 (some .int)) B₀.pre
  have ht : ∀ w ∈ gs_w, w.before _ s = true := fun w h => hts w (List.mem_cons_of_mem _ h)
  have hown : s.vm.findClass R_RU = some m.cls := findClass_of_methodNamed B₀.named
  have hlocks := B₀.notSynchronized
  have hA : ∀ q : Nat, s.heap.size ≤ q → gs_A X q := fun q h => Nat.le_trans hz h
  have hS : va_S (gs_A X) s.heap s.heap [] := va_S.rf
  have hl := lv_entry ([.ref a, .ref b]) (n := 5) (Nat.le_of_ble_eq_true rfl)
  rw [lg_entry_eq]
  generalize (lg_sl ([.ref a, .ref b]) ++ List.replicate (5 - (lg_sl ([.ref a, .ref b])).length) Slot.unset).toArray = ls at hl ⊢
  have hl : lv_has ls 5 [(0, .ref a), (1, .ref b)] := hl
  have loop : ∀ (fl : Nat) (j mx : Nat), (j ≤ t.1.2.2) → (rdP kn t j = some mx) → (mx ≤ 3) → t.1.2.2 - j < fl → ∀ (H : Heap) (locs : List Loc), gs_H X σ H → va_S (gs_A X) s.heap H locs → ∀ ls, lv_has ls 5 [(3, .int (nI j)), (2, .int (nI mx)), (0, .ref a), (1, .ref b)] → W p l e ({ frames := 1, cells := 0, slots := 0, locals := 40 } : Room) s m ([.ref a, .ref b] : List Value).toArray below meth c H locs 0 0 (MQ below (va_Qi (fun r σ' => σ' = σ ∧ r = rdI (rdO kn t)) (gs_U X) (gs_A X)) ([.ref a, .ref b] : List Value).toArray s 0 0 (gs_A X)) (F0 m 4 ls []) := by
    intro fl
    induction fl with
    | zero => intro j mx _ _ _ h9; omega
    | succ fl ih =>
      intro j mx hj hmx hm3 hmu  H locs hG hS ls hl
      have hq1 := hB j
      refine lv_iload_n hx hb d_RU_readyOf_4 rfl (lv_at hl 0 rfl) ?_
      refine lv_aload_n hx hb d_RU_readyOf_5 rfl (lv_at hl 3 rfl) ?_
      refine gs_get hx hb ht hown hK hG k_IT h0 2 (by decide) w_453 rfl d_RU_readyOf_6 ?_
      refine lv_icmp_ge (tgt := 57) hx hb d_RU_readyOf_9 (by decide) (fun c_9 => ?_) (fun c_9 => ?_)
      · have c_9 : t.1.2.2 ≤ j := (nI_leI (by omega) (by omega)).mp c_9
        refine lv_iload_n hx hb d_RU_readyOf_57 rfl (lv_at hl 1 rfl) ?_
        have hf : rdO kn t = some mx := by unfold rdO; rw [show t.1.2.2 = j by omega]; exact hmx
        exact gs_iret (v := (nI mx)) hx hb hr rfl hK hE hz hG hS hlocks (by first | decide | omega | (dsimp only [headSpec]; omega)) (by first | decide | omega | (dsimp only [headSpec]; omega)) (⟨rfl, by rw [hf]; rfl⟩) d_RU_readyOf_58
      · have c_9 : ¬ t.1.2.2 ≤ j := mt (nI_leI (by omega) (by omega)).mpr c_9
        refine lv_aload_n hx hb d_RU_readyOf_12 rfl (lv_at hl 3 rfl) ?_
        refine lv_iload_n hx hb d_RU_readyOf_13 rfl (lv_at hl 0 rfl) ?_
        refine gs_callVi (As := [.int (nI j)]) (rest := []) ⟨hx, hb, hml, hown, hts⟩ hK hE hz hG hS (c_IT_term l X σ b t j h0 (by omega)) mV_IT_term w_555 h0 rfl rfl hl.1 rfl (Nat.le_of_ble_eq_true rfl) ⟨(by first | decide | omega | (dsimp only [headSpec]; omega)), (by first | decide | omega | (dsimp only [headSpec]; omega))⟩ ⟨(by first | decide | omega | (dsimp only [headSpec]; omega)), (by first | decide | omega | (dsimp only [headSpec]; omega))⟩ d_RU_readyOf_14 (fun r_14 σ_14 H locs hp_14 hG hS => ?_)
        rw [hp_14.1] at hG
        refine gs_top (show r_14 = (nI (tm t j)) from hp_14.2) ?_
        refine lv_bipush (v := nI 64) hx hb d_RU_readyOf_17 (by decide) ?_
        refine lv_isub hx hb d_RU_readyOf_19 ?_
        refine lv_topi (fun v_1 ev_1 => ?_)
        refine lv_istore (lv' := [(4, .int v_1), (3, .int (nI j)), (2, .int (nI mx)), (0, .ref a), (1, .ref b)]) hx hb d_RU_readyOf_20 hl (by decide) rfl (fun ls hl => ?_)
        refine lv_iload hx hb d_RU_readyOf_22 (lv_at hl 0 rfl) ?_
        refine lv_if_lt (tgt := 51) hx hb d_RU_readyOf_24 (by decide) (fun c_24 => ?_) (fun c_24 => ?_)
        · refine lv_iinc (v := (nI (j + 1))) (lv' := [(3, .int (nI (j + 1))), (4, .int v_1), (2, .int (nI mx)), (0, .ref a), (1, .ref b)]) hx hb d_RU_readyOf_51 hl (k := 1) rfl (by exact nI_1 _) (by decide) rfl (fun ls hl => ?_)
          refine lv_goto (tgt := 4) hx hb d_RU_readyOf_54 (by decide) ?_
          have hlt : tm t j < 64 := by rw [ev_1] at c_24; exact (sub64_neg hq1).mp c_24
          exact ih (j + 1) mx (by omega) (by simp only [rdP, hmx]; rw [if_pos hlt]) hm3 (by omega) H locs hG hS ls (lv_sub hl [0, 2, 3, 4] rfl)
        · have hge : ¬ tm t j < 64 := fun q => c_24 (by rw [ev_1]; exact (sub64_neg hq1).mpr q)
          obtain rfl : v_1 = nI (tm t j - 64) := by rw [ev_1]; exact pk_sub (by omega)
          obtain ⟨hk1, hk2⟩ := hkn (tm t j - 64) (by omega)
          refine lv_aload_n hx hb d_RU_readyOf_27 rfl (lv_at hl 3 rfl) ?_
          refine gs_get hx hb ht hown hK hG k_RU r0 5 (by decide) w_510 rfl d_RU_readyOf_28 ?_
          refine lv_iload hx hb d_RU_readyOf_31 (lv_at hl 0 rfl) ?_
          refine gs_iald hx hb hK hG r3 (j := tm t j - 64) (by omega) (by omega) d_RU_readyOf_33 ?_
          refine gs_top (show (kv (tm t j - 64)) = (nI (kn (tm t j - 64))) from hk1) ?_
          refine lv_if_ne (tgt := 39) hx hb d_RU_readyOf_34 (by decide) (fun c_34 => ?_) (fun c_34 => ?_)
          · have c_34 : ¬ (kn (tm t j - 64)) = 0 := gs_zn (by omega) c_34
            refine lv_iload_n hx hb d_RU_readyOf_39 rfl (lv_at hl 2 rfl) ?_
            refine lv_aload_n hx hb d_RU_readyOf_40 rfl (lv_at hl 3 rfl) ?_
            refine gs_get hx hb ht hown hK hG k_RU r0 5 (by decide) w_510 rfl d_RU_readyOf_41 ?_
            refine lv_iload hx hb d_RU_readyOf_44 (lv_at hl 0 rfl) ?_
            refine gs_iald hx hb hK hG r3 (j := tm t j - 64) (by omega) (by omega) d_RU_readyOf_46 ?_
            refine gs_top (show (kv (tm t j - 64)) = (nI (kn (tm t j - 64))) from hk1) ?_
            refine va_mmax hx hb (hml.trans hl.1.symm) hown (ht _ w_577) (ht _ w_366) (ht _ w_12) (ht _ w_367) (by decide) (by decide) (by first | decide | omega) (by first | decide | omega) d_RU_readyOf_47 ?_
            refine gs_top (gs_max (a := mx) (b := kn (tm t j - 64)) (by omega) (by omega)) ?_
            refine lv_istore_n (lv' := [(2, .int (nI (max mx (kn (tm t j - 64))))), (4, .int (nI (tm t j - 64))), (3, .int (nI j)), (0, .ref a), (1, .ref b)]) hx hb d_RU_readyOf_50 rfl hl (by decide) rfl (fun ls hl => ?_)
            refine lv_iinc (v := (nI (j + 1))) (lv' := [(3, .int (nI (j + 1))), (2, .int (nI (max mx (kn (tm t j - 64))))), (4, .int (nI (tm t j - 64))), (0, .ref a), (1, .ref b)]) hx hb d_RU_readyOf_51 hl (k := 2) rfl (by exact nI_1 _) (by decide) rfl (fun ls hl => ?_)
            refine lv_goto (tgt := 4) hx hb d_RU_readyOf_54 (by decide) ?_
            exact ih (j + 1) _ (by omega) (by simp only [rdP, hmx]; rw [if_neg hge, if_neg c_34]) (by omega) (by omega) H locs hG hS ls (lv_sub hl [0, 1, 3, 4] rfl)
          · have c_34 : (kn (tm t j - 64)) = 0 := gs_z (by omega) c_34
            refine lv_iconst (v := -1) hx hb d_RU_readyOf_37 (by decide) ?_
            have hn : rdP kn t (j + 1) = none := by simp only [rdP, hmx]; rw [if_neg hge, if_pos c_34]
            have hf : rdO kn t = none := by have := rdP_none hn (t.1.2.2 - (j + 1)); rwa [show j + 1 + (t.1.2.2 - (j + 1)) = t.1.2.2 by omega] at this
            exact gs_iret (v := (-1)) hx hb hr rfl hK hE hz hG hS hlocks (by first | decide | omega | (dsimp only [headSpec]; omega)) (by first | decide | omega | (dsimp only [headSpec]; omega)) (⟨rfl, by rw [hf]; rfl⟩) d_RU_readyOf_38
  refine lv_iconst (v := nI 0) hx hb d_RU_readyOf_0 (by decide) ?_
  refine lv_istore_n (lv' := [(2, .int (nI 0)), (0, .ref a), (1, .ref b)]) hx hb d_RU_readyOf_1 rfl hl (by decide) rfl (fun ls hl => ?_)
  refine lv_iconst (v := nI 0) hx hb d_RU_readyOf_2 (by decide) ?_
  refine lv_istore_n (lv' := [(3, .int (nI 0)), (2, .int (nI 0)), (0, .ref a), (1, .ref b)]) hx hb d_RU_readyOf_3 rfl hl (by decide) rfl (fun ls hl => ?_)
  exact loop (t.1.2.2 + 1) 0 0 (by omega) rfl (by omega) (by omega) _ _ hG hS ls (lv_sub hl [0, 1, 2, 3] rfl)
