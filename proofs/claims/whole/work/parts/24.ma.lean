set_option maxHeartbeats 4000000 in
set_option maxRecDepth 100000 in
/-- Matcher.valueOf -/
theorem c_MA_valueOf (l : Launch) (X : gs_X) (σ : gs_St) (h tu va : Nat) (vs : Nat → Int32) (v : Nat → Nat) (x : Nat)
    (h0 : σ h = some (gs_ob 3 [.ref tu, .ref va])) (h1 : σ va = some (gs_ia X 8 vs)) (hv : vOK vs v) (hx9 : x < 72) : gs_Mi l X y_MA_valueOf b_MA_valueOf 2 (some .int) ({ frames := 0, cells := 0, slots := 0, locals := 0 }) σ [.ref h, .int (nI x)] (fun r σ' => σ' = σ ∧ r = nI (vl v x)) := by
  refine Met.ofW (cc := b_MA_valueOf) (maxL := 2) (ret := (some .int)) (by decide) rfl ?_
  intro p e s m args below meth c s₁ B₀ hml hv
  obtain ⟨rfl, hK, hG, hz, hE⟩ := hv
  have hx := B₀.exec
  have hb := B₀.bytes
  have hr := B₀.returns
  have hts := atoms_spec (ws := gs_ws y_MA_valueOf b_MA_valueOf 2 (some .int)) B₀.pre
  have ht : ∀ w ∈ gs_w, w.before _ s = true := fun w h => hts w (List.mem_cons_of_mem _ h)
  have hown : s.vm.findClass R_MA = some m.cls := findClass_of_methodNamed B₀.named
  have hlocks := B₀.notSynchronized
  have hA : ∀ q : Nat, s.heap.size ≤ q → gs_A X q := fun q h => Nat.le_trans hz h
  have hS : va_S (gs_A X) s.heap s.heap [] := va_S.rf
  have hl := lv_entry ([.ref h, .int (nI x)]) (n := 2) (Nat.le_of_ble_eq_true rfl)
  rw [lg_entry_eq]
  generalize (lg_sl ([.ref h, .int (nI x)]) ++ List.replicate (2 - (lg_sl ([.ref h, .int (nI x)])).length) Slot.unset).toArray = ls at hl ⊢
  have hl : lv_has ls 2 [(0, .ref h), (1, .int (nI x))] := hl
  refine lv_iload_n hx hb d_MA_valueOf_0 rfl (lv_at hl 1 rfl) ?_
  refine lv_bipush (v := nI 64) hx hb d_MA_valueOf_1 (by decide) ?_
  refine lv_icmp_ge (tgt := 10) hx hb d_MA_valueOf_3 (by decide) (fun c_3 => ?_) (fun c_3 => ?_)
  · have c_3 : 64 ≤ x := (nI_leI (by omega) (by omega)).mp c_3
    refine lv_aload_n hx hb d_MA_valueOf_10 rfl (lv_at hl 0 rfl) ?_
    refine gs_get hx hb ht hown hK hG k_MA h0 1 (by decide) w_97 rfl d_MA_valueOf_11 ?_
    refine lv_iload_n hx hb d_MA_valueOf_14 rfl (lv_at hl 1 rfl) ?_
    refine lv_bipush (v := nI 64) hx hb d_MA_valueOf_15 (by decide) ?_
    refine lv_isub hx hb d_MA_valueOf_17 ?_
    refine gs_top (pk_sub (a := x) (b := 64) (by omega)) ?_
    refine gs_iald hx hb hK hG h1 (j := x - 64) (by omega) (by omega) d_MA_valueOf_18 ?_
    refine gs_top (show (vs (x - 64)) = (nI (v (x - 64))) from (hv _ (by omega)).1) ?_
    exact gs_iret (v := (nI (v (x - 64)))) hx hb hr rfl hK hE hz hG hS hlocks (by first | decide | omega | (dsimp only [headSpec]; omega)) (by first | decide | omega | (dsimp only [headSpec]; omega)) (⟨rfl, by simp only [vl]; first | rw [if_pos (by omega)] | rw [if_neg (by omega)]⟩) d_MA_valueOf_19
  · have c_3 : ¬ 64 ≤ x := mt (nI_leI (by omega) (by omega)).mpr c_3
    refine lv_iload_n hx hb d_MA_valueOf_6 rfl (lv_at hl 1 rfl) ?_
    refine lv_goto (tgt := 19) hx hb d_MA_valueOf_7 (by decide) ?_
    exact gs_iret (v := (nI x)) hx hb hr rfl hK hE hz hG hS hlocks (by first | decide | omega | (dsimp only [headSpec]; omega)) (by first | decide | omega | (dsimp only [headSpec]; omega)) (⟨rfl, by simp only [vl]; first | rw [if_pos (by omega)] | rw [if_neg (by omega)]⟩) d_MA_valueOf_19
set_option maxHeartbeats 4000000 in
set_option maxRecDepth 100000 in
/-- Matcher.codeOf -/
theorem c_MA_codeOf (l : Launch) (X : gs_X) (σ : gs_St) (h tu va a : Nat) (vs : Nat → Int32) (v : Nat → Nat) (t : It)
    (h0 : σ h = some (gs_ob 3 [.ref tu, .ref va])) (h1 : σ va = some (gs_ia X 8 vs)) (hv : vOK vs v) (h2 : σ a = some (itE t)) (hB : itB t) : gs_Mi l X y_MA_codeOf b_MA_codeOf 4 (some .int) ({ frames := 1, cells := 0, slots := 0, locals := 21 }) σ [.ref h, .ref a] (fun r σ' => σ' = σ ∧ r = nI (cof v t)) := by
  refine Met.ofW (cc := b_MA_codeOf) (maxL := 4) (ret := (some .int)) (by decide) rfl ?_
  intro p e s m args below meth c s₁ B₀ hml hv
  obtain ⟨rfl, hK, hG, hz, hE⟩ := hv
  have hx := B₀.exec
  have hb := B₀.bytes
  have hr := B₀.returns
  have hts := atoms_spec (ws := gs_ws y_MA_codeOf b_MA_codeOf 4 (some .int)) B₀.pre
  have ht : ∀ w ∈ gs_w, w.before _ s = true := fun w h => hts w (List.mem_cons_of_mem _ h)
  have hown : s.vm.findClass R_MA = some m.cls := findClass_of_methodNamed B₀.named
  have hlocks := B₀.notSynchronized
  have hA : ∀ q : Nat, s.heap.size ≤ q → gs_A X q := fun q h => Nat.le_trans hz h
  have hS : va_S (gs_A X) s.heap s.heap [] := va_S.rf
  have hl := lv_entry ([.ref h, .ref a]) (n := 4) (Nat.le_of_ble_eq_true rfl)
  rw [lg_entry_eq]
  generalize (lg_sl ([.ref h, .ref a]) ++ List.replicate (4 - (lg_sl ([.ref h, .ref a])).length) Slot.unset).toArray = ls at hl ⊢
  have hl : lv_has ls 4 [(0, .ref h), (1, .ref a)] := hl
  have hB2 := hB
  obtain ⟨b1, b2, b3, b4, b5, b6, b7⟩ := hB
  have loop : ∀ (fl : Nat) (j : Nat), (j ≤ 3) → 3 - j < fl → ∀ (H : Heap) (locs : List Loc), gs_H X σ H → va_S (gs_A X) s.heap H locs → ∀ ls, lv_has ls 4 [(3, .int (nI j)), (2, .int (nI (cofP v t j))), (0, .ref h), (1, .ref a)] → W p l e ({ frames := 1, cells := 0, slots := 0, locals := 21 } : Room) s m ([.ref h, .ref a] : List Value).toArray below meth c H locs 0 0 (MQ below (va_Qi (fun r σ' => σ' = σ ∧ r = nI (cof v t)) (gs_U X) (gs_A X)) ([.ref h, .ref a] : List Value).toArray s 0 0 (gs_A X)) (F0 m 7 ls []) := by
    intro fl
    induction fl with
    | zero => intro j _ h9; omega
    | succ fl ih =>
      intro j hj hmu  H locs hG hS ls hl
      have hcl := cofP_lt hv hB2 j
      have hb4 := b4 j
      have hpw : 64 ^ j ≤ 262144 := Nat.pow_le_pow_right (by decide) (show j ≤ 3 from hj)
      refine lv_iload_n hx hb d_MA_codeOf_7 rfl (lv_at hl 0 rfl) ?_
      refine lv_iconst (v := nI 3) hx hb d_MA_codeOf_8 (by decide) ?_
      refine lv_icmp_ge (tgt := 45) hx hb d_MA_codeOf_9 (by decide) (fun c_9 => ?_) (fun c_9 => ?_)
      · have c_9 : 3 ≤ j := (nI_leI (by omega) (by omega)).mp c_9
        refine lv_iload_n hx hb d_MA_codeOf_45 rfl (lv_at hl 1 rfl) ?_
        have hj3 : j = 3 := by omega
        exact gs_iret (v := (nI (cofP v t j))) hx hb hr rfl hK hE hz hG hS hlocks (by first | decide | omega | (dsimp only [headSpec]; omega)) (by first | decide | omega | (dsimp only [headSpec]; omega)) (⟨rfl, by rw [hj3]; rfl⟩) d_MA_codeOf_46
      · have c_9 : ¬ 3 ≤ j := mt (nI_leI (by omega) (by omega)).mpr c_9
        refine lv_iload_n hx hb d_MA_codeOf_12 rfl (lv_at hl 1 rfl) ?_
        refine lv_bipush (v := nI 64) hx hb d_MA_codeOf_13 (by decide) ?_
        refine lv_imul hx hb d_MA_codeOf_15 ?_
        refine gs_top (pk_mul (cofP v t j) 64) ?_
        refine lv_iload_n hx hb d_MA_codeOf_16 rfl (lv_at hl 0 rfl) ?_
        refine lv_aload_n hx hb d_MA_codeOf_17 rfl (lv_at hl 3 rfl) ?_
        refine gs_get hx hb ht hown hK hG k_IT h2 7 (by decide) w_462 rfl d_MA_codeOf_18 ?_
        refine lv_icmp_ge (tgt := 36) hx hb d_MA_codeOf_21 (by decide) (fun c_21 => ?_) (fun c_21 => ?_)
        · have c_21 : t.2.2.2.1 ≤ j := (nI_leI (by omega) (by omega)).mp c_21
          refine lv_iconst (v := nI 0) hx hb d_MA_codeOf_36 (by decide) ?_
          refine lv_iadd hx hb d_MA_codeOf_37 ?_
          refine gs_top (nI_add ((cofP v t j) * 64) 0) ?_
          refine lv_istore_n (lv' := [(2, .int (nI (((cofP v t j) * 64) + 0))), (3, .int (nI j)), (0, .ref h), (1, .ref a)]) hx hb d_MA_codeOf_38 rfl hl (by decide) rfl (fun ls hl => ?_)
          refine lv_iinc (v := (nI (j + 1))) (lv' := [(3, .int (nI (j + 1))), (2, .int (nI (((cofP v t j) * 64) + 0))), (0, .ref h), (1, .ref a)]) hx hb d_MA_codeOf_39 hl (k := 1) rfl (by exact nI_1 _) (by decide) rfl (fun ls hl => ?_)
          refine lv_goto (tgt := 7) hx hb d_MA_codeOf_42 (by decide) ?_
          have hst : cofP v t (j + 1) = ((cofP v t j) * 64) + 0 := by simp only [cofP]; rw [if_neg (by omega)]
          exact ih (j + 1) (by omega) (by omega) H locs hG hS ls (by rw [hst]; exact (lv_sub hl [0, 1, 2, 3] rfl))
        · have c_21 : ¬ t.2.2.2.1 ≤ j := mt (nI_leI (by omega) (by omega)).mpr c_21
          refine lv_aload_n hx hb d_MA_codeOf_24 rfl (lv_at hl 2 rfl) ?_
          refine lv_aload_n hx hb d_MA_codeOf_25 rfl (lv_at hl 3 rfl) ?_
          refine lv_iload_n hx hb d_MA_codeOf_26 rfl (lv_at hl 0 rfl) ?_
          refine gs_callVi (As := [.int (nI j)]) (rest := [.ref h, .int (nI ((cofP v t j) * 64))]) ⟨hx, hb, hml, hown, hts⟩ hK hE hz hG hS (c_IT_term l X σ a t j h2 (by omega)) mV_IT_term w_184 h2 rfl rfl hl.1 rfl (Nat.le_of_ble_eq_true rfl) ⟨(by first | decide | omega | (dsimp only [headSpec]; omega)), (by first | decide | omega | (dsimp only [headSpec]; omega))⟩ ⟨(by first | decide | omega | (dsimp only [headSpec]; omega)), (by first | decide | omega | (dsimp only [headSpec]; omega))⟩ d_MA_codeOf_27 (fun r_27 σ_27 H locs hp_27 hG hS => ?_)
          rw [hp_27.1] at hG
          refine gs_top (show r_27 = (nI (tm t j)) from hp_27.2) ?_
          refine gs_callVi (As := [.int (nI (tm t j))]) (rest := [.int (nI ((cofP v t j) * 64))]) ⟨hx, hb, hml, hown, hts⟩ hK hE hz hG hS (c_MA_valueOf l X σ h tu va vs v (tm t j) h0 h1 hv (by omega)) mV_MA_valueOf w_188 h0 rfl rfl hl.1 rfl (Nat.le_of_ble_eq_true rfl) ⟨(by first | decide | omega | (dsimp only [headSpec]; omega)), (by first | decide | omega | (dsimp only [headSpec]; omega))⟩ ⟨(by first | decide | omega | (dsimp only [headSpec]; omega)), (by first | decide | omega | (dsimp only [headSpec]; omega))⟩ d_MA_codeOf_30 (fun r_30 σ_30 H locs hp_30 hG hS => ?_)
          rw [hp_30.1] at hG
          refine gs_top (show r_30 = (nI (vl v (tm t j))) from hp_30.2) ?_
          refine lv_goto (tgt := 37) hx hb d_MA_codeOf_33 (by decide) ?_
          refine lv_iadd hx hb d_MA_codeOf_37 ?_
          refine gs_top (nI_add ((cofP v t j) * 64) (vl v (tm t j))) ?_
          refine lv_istore_n (lv' := [(2, .int (nI (((cofP v t j) * 64) + (vl v (tm t j))))), (3, .int (nI j)), (0, .ref h), (1, .ref a)]) hx hb d_MA_codeOf_38 rfl hl (by decide) rfl (fun ls hl => ?_)
          refine lv_iinc (v := (nI (j + 1))) (lv' := [(3, .int (nI (j + 1))), (2, .int (nI (((cofP v t j) * 64) + (vl v (tm t j))))), (0, .ref h), (1, .ref a)]) hx hb d_MA_codeOf_39 hl (k := 1) rfl (by exact nI_1 _) (by decide) rfl (fun ls hl => ?_)
          refine lv_goto (tgt := 7) hx hb d_MA_codeOf_42 (by decide) ?_
          have hst : cofP v t (j + 1) = ((cofP v t j) * 64) + (vl v (tm t j)) := by simp only [cofP]; rw [if_pos (by omega)]
          exact ih (j + 1) (by omega) (by omega) H locs hG hS ls (by rw [hst]; exact (lv_sub hl [0, 1, 2, 3] rfl))
  refine lv_aload_n hx hb d_MA_codeOf_0 rfl (lv_at hl 1 rfl) ?_
  refine gs_get hx hb ht hown hK hG k_IT h2 1 (by decide) w_448 rfl d_MA_codeOf_1 ?_
  refine lv_istore_n (lv' := [(2, .int (nI t.1.2.1)), (0, .ref h), (1, .ref a)]) hx hb d_MA_codeOf_4 rfl hl (by decide) rfl (fun ls hl => ?_)
  refine lv_iconst (v := nI 0) hx hb d_MA_codeOf_5 (by decide) ?_
  refine lv_istore_n (lv' := [(3, .int (nI 0)), (2, .int (nI t.1.2.1)), (0, .ref h), (1, .ref a)]) hx hb d_MA_codeOf_6 rfl hl (by decide) rfl (fun ls hl => ?_)
  exact loop 4 0 (by decide) (by decide) _ _ hG hS ls (lv_sub hl [0, 1, 2, 3] rfl)
set_option maxHeartbeats 4000000 in
set_option maxRecDepth 100000 in
/-- Matcher.fits -/
theorem c_MA_fits (l : Launch) (X : gs_X) (σ : gs_St) (h tu va a : Nat) (vs : Nat → Int32) (v : Nat → Nat) (t : It) (cd : Nat)
    (h0 : σ h = some (gs_ob 3 [.ref tu, .ref va])) (h1 : σ va = some (gs_ia X 8 vs)) (hv : vOK vs v) (h2 : σ a = some (itE t)) (hB : itB t) (hcd : cd < 2 ^ 30) : gs_Mi l X y_MA_fits b_MA_fits 6 (some .boolean) ({ frames := 1, cells := 0, slots := 0, locals := 21 }) σ [.ref h, .ref a, .int (nI cd)] (fun r σ' => ∃ vs', σ' = gs_up σ va (gs_ia X 8 vs') ∧ vOK vs' (fit1 t cd v).2 ∧ r = bI (fit1 t cd v).1) := by
  refine Met.ofW (cc := b_MA_fits) (maxL := 6) (ret := (some .boolean)) (by decide) rfl ?_
  intro p e s m args below meth c s₁ B₀ hml hv
  obtain ⟨rfl, hK, hG, hz, hE⟩ := hv
  have hx := B₀.exec
  have hb := B₀.bytes
  have hr := B₀.returns
  have hts := atoms_spec (ws := gs_ws y_MA_fits b_MA_fits 6 (some .boolean)) B₀.pre
  have ht : ∀ w ∈ gs_w, w.before _ s = true := fun w h => hts w (List.mem_cons_of_mem _ h)
  have hown : s.vm.findClass R_MA = some m.cls := findClass_of_methodNamed B₀.named
  have hlocks := B₀.notSynchronized
  have hA : ∀ q : Nat, s.heap.size ≤ q → gs_A X q := fun q h => Nat.le_trans hz h
  have hS : va_S (gs_A X) s.heap s.heap [] := va_S.rf
  have hl := lv_entry ([.ref h, .ref a, .int (nI cd)]) (n := 6) (Nat.le_of_ble_eq_true rfl)
  rw [lg_entry_eq]
  generalize (lg_sl ([.ref h, .ref a, .int (nI cd)]) ++ List.replicate (6 - (lg_sl ([.ref h, .ref a, .int (nI cd)])).length) Slot.unset).toArray = ls at hl ⊢
  have hl : lv_has ls 6 [(0, .ref h), (1, .ref a), (2, .int (nI cd))] := hl
  have hB2 := hB
  obtain ⟨b1, b2, b3, b4, b5, b6, b7⟩ := hB
  have loop : ∀ (fl : Nat) (k j : Nat) (vs1 : Nat → Int32) (v1 : Nat → Nat) (σ1 : gs_St), (t.2.2.2.1 ≤ j) → (j + k = t.1.2.2) → (vOK vs1 v1) → (fit1 t cd v = fitP t cd k j v1) → (σ1 = gs_up σ va (gs_ia X 8 vs1)) → k < fl → (σ1 h = some (gs_ob 3 [.ref tu, .ref va])) → (σ1 va = some (gs_ia X 8 vs1)) → (σ1 a = some (itE t)) → ∀ (H : Heap) (locs : List Loc), gs_H X σ1 H → va_S (gs_A X) s.heap H locs → ∀ ls, lv_has ls 6 [(3, .int (nI j)), (0, .ref h), (1, .ref a), (2, .int (nI cd))] → W p l e ({ frames := 1, cells := 0, slots := 0, locals := 21 } : Room) s m ([.ref h, .ref a, .int (nI cd)] : List Value).toArray below meth c H locs 0 0 (MQ below (va_Qi (fun r σ' => ∃ vs', σ' = gs_up σ va (gs_ia X 8 vs') ∧ vOK vs' (fit1 t cd v).2 ∧ r = bI (fit1 t cd v).1) (gs_U X) (gs_A X)) ([.ref h, .ref a, .int (nI cd)] : List Value).toArray s 0 0 (gs_A X)) (F0 m 5 ls []) := by
    intro fl
    induction fl with
    | zero => intro k j vs1 v1 σ1 _ _ _ _ _ h9; omega
    | succ fl ih =>
      intro k j vs1 v1 σ1 hj hk hv1 hf eσ1 hmu a0 a1 a2 H locs hG hS ls hl
      have hb4 := b4 j
      have hvl := vat_lt cd j
      have hvq := vl_lt hv1 (b4 j)
      refine lv_iload_n hx hb d_MA_fits_5 rfl (lv_at hl 0 rfl) ?_
      refine lv_aload_n hx hb d_MA_fits_6 rfl (lv_at hl 2 rfl) ?_
      refine gs_get hx hb ht hown hK hG k_IT a2 2 (by decide) w_452 rfl d_MA_fits_7 ?_
      refine lv_icmp_ge (tgt := 69) hx hb d_MA_fits_10 (by decide) (fun c_10 => ?_) (fun c_10 => ?_)
      · have c_10 : t.1.2.2 ≤ j := (nI_leI (by omega) (by omega)).mp c_10
        refine lv_iconst (v := nI 1) hx hb d_MA_fits_69 (by decide) ?_
        have hk0 : k = 0 := by omega
        subst hk0
        simp only [fitP] at hf
        exact gs_iret (v := (nI 1)) hx hb hr rfl hK hE hz hG hS hlocks (by first | decide | omega | (dsimp only [headSpec]; omega)) (by first | decide | omega | (dsimp only [headSpec]; omega)) (⟨vs1, eσ1, (by rw [hf]; exact hv1), (by rw [hf]; rfl)⟩) d_MA_fits_70
      · have c_10 : ¬ t.1.2.2 ≤ j := mt (nI_leI (by omega) (by omega)).mpr c_10
        obtain ⟨k, rfl⟩ : ∃ k2, k = k2 + 1 := ⟨k - 1, by omega⟩
        refine lv_aload_n hx hb d_MA_fits_13 rfl (lv_at hl 2 rfl) ?_
        refine lv_iload_n hx hb d_MA_fits_14 rfl (lv_at hl 0 rfl) ?_
        refine gs_callVi (As := [.int (nI j)]) (rest := []) ⟨hx, hb, hml, hown, hts⟩ hK hE hz hG hS (c_IT_term l X σ1 a t j a2 (by omega)) mV_IT_term w_184 a2 rfl rfl hl.1 rfl (Nat.le_of_ble_eq_true rfl) ⟨(by first | decide | omega | (dsimp only [headSpec]; omega)), (by first | decide | omega | (dsimp only [headSpec]; omega))⟩ ⟨(by first | decide | omega | (dsimp only [headSpec]; omega)), (by first | decide | omega | (dsimp only [headSpec]; omega))⟩ d_MA_fits_15 (fun r_15 σ_15 H locs hp_15 hG hS => ?_)
        rw [hp_15.1] at hG
        refine gs_top (show r_15 = (nI (tm t j)) from hp_15.2) ?_
        refine lv_istore (lv' := [(4, .int (nI (tm t j))), (3, .int (nI j)), (0, .ref h), (1, .ref a), (2, .int (nI cd))]) hx hb d_MA_fits_18 hl (by decide) rfl (fun ls hl => ?_)
        refine lv_iload_n hx hb d_MA_fits_20 rfl (lv_at hl 4 rfl) ?_
        refine lv_iload_n hx hb d_MA_fits_21 rfl (lv_at hl 1 rfl) ?_
        refine gs_callSiN (As := [.int (nI cd), .int (nI j)]) (rest := []) ⟨hx, hb, hml, hown, hts⟩ hK hE hz hG hS (c_RR_valueAt l X σ1 cd j hcd (by omega)) mS_RR_valueAt hK.2.1 rfl hl.1 rfl (Nat.le_of_ble_eq_true rfl) ⟨(by first | decide | omega | (dsimp only [headSpec]; omega)), (by first | decide | omega | (dsimp only [headSpec]; omega))⟩ ⟨(by first | decide | omega | (dsimp only [headSpec]; omega)), (by first | decide | omega | (dsimp only [headSpec]; omega))⟩ d_MA_fits_22 (fun r_22 σ_22 H locs hp_22 hG hS => ?_)
        rw [hp_22.1] at hG
        refine gs_top (show r_22 = (nI (vat cd j)) from hp_22.2) ?_
        refine lv_istore (lv' := [(5, .int (nI (vat cd j))), (4, .int (nI (tm t j))), (3, .int (nI j)), (0, .ref h), (1, .ref a), (2, .int (nI cd))]) hx hb d_MA_fits_25 hl (by decide) rfl (fun ls hl => ?_)
        refine lv_aload_n hx hb d_MA_fits_27 rfl (lv_at hl 4 rfl) ?_
        refine lv_iload_n hx hb d_MA_fits_28 rfl (lv_at hl 2 rfl) ?_
        refine gs_callVi (As := [.int (nI j)]) (rest := []) ⟨hx, hb, hml, hown, hts⟩ hK hE hz hG hS (c_IT_bindsAt l X σ1 a t j a2 (by omega) b5) mV_IT_bindsAt w_237 a2 rfl rfl hl.1 rfl (Nat.le_of_ble_eq_true rfl) ⟨(by first | decide | omega | (dsimp only [headSpec]; omega)), (by first | decide | omega | (dsimp only [headSpec]; omega))⟩ ⟨(by first | decide | omega | (dsimp only [headSpec]; omega)), (by first | decide | omega | (dsimp only [headSpec]; omega))⟩ d_MA_fits_29 (fun r_29 σ_29 H locs hp_29 hG hS => ?_)
        rw [hp_29.1] at hG
        refine gs_top (show r_29 = (bI (bd t j)) from hp_29.2) ?_
        refine lv_if_eq (tgt := 50) hx hb d_MA_fits_32 (by decide) (fun c_32 => ?_) (fun c_32 => ?_)
        · refine lv_aload_n hx hb d_MA_fits_50 rfl (lv_at hl 3 rfl) ?_
          refine lv_iload hx hb d_MA_fits_51 (lv_at hl 1 rfl) ?_
          refine gs_callVi (As := [.int (nI (tm t j))]) (rest := []) ⟨hx, hb, hml, hown, hts⟩ hK hE hz hG hS (c_MA_valueOf l X σ1 h tu va vs1 v1 (tm t j) a0 a1 hv1 (by omega)) mV_MA_valueOf w_188 a0 rfl rfl hl.1 rfl (Nat.le_of_ble_eq_true rfl) ⟨(by first | decide | omega | (dsimp only [headSpec]; omega)), (by first | decide | omega | (dsimp only [headSpec]; omega))⟩ ⟨(by first | decide | omega | (dsimp only [headSpec]; omega)), (by first | decide | omega | (dsimp only [headSpec]; omega))⟩ d_MA_fits_53 (fun r_53 σ_53 H locs hp_53 hG hS => ?_)
          rw [hp_53.1] at hG
          refine gs_top (show r_53 = (nI (vl v1 (tm t j))) from hp_53.2) ?_
          refine lv_iload hx hb d_MA_fits_56 (lv_at hl 0 rfl) ?_
          refine lv_icmp_eq (tgt := 63) hx hb d_MA_fits_58 (by decide) (fun c_58 => ?_) (fun c_58 => ?_)
          · have c_58 : (vl v1 (tm t j)) = (vat cd j) :=  (nI_eq (by omega) (by omega)).mp c_58
            refine lv_iinc (v := (nI (j + 1))) (lv' := [(3, .int (nI (j + 1))), (5, .int (nI (vat cd j))), (4, .int (nI (tm t j))), (0, .ref h), (1, .ref a), (2, .int (nI cd))]) hx hb d_MA_fits_63 hl (k := 2) rfl (by exact nI_1 _) (by decide) rfl (fun ls hl => ?_)
            refine lv_goto (tgt := 5) hx hb d_MA_fits_66 (by decide) ?_
            have hb9 := bI_0 c_32
            have hf2 : fitP t cd (k + 1) j v1 = fitP t cd k (j + 1) v1 := by simp only [fitP]; rw [if_neg (by rw [hb9]; decide), if_pos c_58]
            exact ih k (j + 1) _ _ σ1 (by omega) (by omega) hv1 (hf.trans hf2) eσ1 (by omega) a0 a1 a2 H locs hG hS ls (lv_sub hl [0, 3, 4, 5] rfl)
          · have c_58 : ¬ (vl v1 (tm t j)) = (vat cd j) := mt (nI_eq (by omega) (by omega)).mpr c_58
            refine lv_iconst (v := nI 0) hx hb d_MA_fits_61 (by decide) ?_
            have hb9 := bI_0 c_32
            have hf2 : fitP t cd (k + 1) j v1 = (false, v1) := by simp only [fitP]; rw [if_neg (by rw [hb9]; decide), if_neg c_58]
            rw [hf2] at hf
            exact gs_iret (v := (nI 0)) hx hb hr rfl hK hE hz hG hS hlocks (by first | decide | omega | (dsimp only [headSpec]; omega)) (by first | decide | omega | (dsimp only [headSpec]; omega)) (⟨vs1, eσ1, (by rw [hf]; exact hv1), (by rw [hf]; rfl)⟩) d_MA_fits_62
        · have hb8 := b7 j (by omega) (bI_n0 c_32)
          refine lv_aload_n hx hb d_MA_fits_35 rfl (lv_at hl 3 rfl) ?_
          refine gs_get hx hb ht hown hK hG k_MA a0 1 (by decide) w_97 rfl d_MA_fits_36 ?_
          refine lv_iload hx hb d_MA_fits_39 (lv_at hl 1 rfl) ?_
          refine lv_bipush (v := nI 64) hx hb d_MA_fits_41 (by decide) ?_
          refine lv_isub hx hb d_MA_fits_43 ?_
          refine gs_top (pk_sub (a := (tm t j)) (b := 64) (by omega)) ?_
          refine lv_iload hx hb d_MA_fits_44 (lv_at hl 0 rfl) ?_
          refine gs_iast hx hb hK hG hS a1 (j := (tm t j) - 64) (by omega) (by omega) d_MA_fits_46 (fun H locs hG hS => ?_)
          have hG : gs_H X (gs_up σ1 va (gs_ia X 8 (upd vs1 ((tm t j) - 64) (nI (vat cd j))))) H := hG
          obtain ⟨σ_1, eσ_1⟩ : ∃ zq, zq = gs_up σ1 va (gs_ia X 8 (upd vs1 ((tm t j) - 64) (nI (vat cd j)))) := ⟨_, rfl⟩
          rw [← eσ_1] at hG
          have hc_2 : σ_1 h = some (gs_ob 3 [.ref tu, .ref va]) := by rw [eσ_1]; exact gs_ku (gs_ne a0 a1 (by simp)) a0
          have hc_3 : σ_1 a = some (gs_ob 2 [.int (nI t.1.1), .int (nI t.1.2.1), .int (nI t.1.2.2), .int (nI t.2.1.1), .int (nI t.2.1.2.1), .int (nI t.2.1.2.2), .int (nI t.2.2.1), .int (nI t.2.2.2.1), .int t.2.2.2.2]) := by rw [eσ_1]; exact gs_ku (gs_ne a2 a1 (by simp)) a2
          have hc_4 : σ_1 va = some (gs_ia X 8 (upd vs1 ((tm t j) - 64) (nI (vat cd j)))) := by rw [eσ_1]; exact gs_us
          refine lv_goto (tgt := 63) hx hb d_MA_fits_47 (by decide) ?_
          refine lv_iinc (v := (nI (j + 1))) (lv' := [(3, .int (nI (j + 1))), (5, .int (nI (vat cd j))), (4, .int (nI (tm t j))), (0, .ref h), (1, .ref a), (2, .int (nI cd))]) hx hb d_MA_fits_63 hl (k := 2) rfl (by exact nI_1 _) (by decide) rfl (fun ls hl => ?_)
          refine lv_goto (tgt := 5) hx hb d_MA_fits_66 (by decide) ?_
          have hb9 := bI_n0 c_32
          have hf2 : fitP t cd (k + 1) j v1 = fitP t cd k (j + 1) (va_up v1 (tm t j - 64) (vat cd j)) := by simp only [fitP]; rw [if_pos hb9]
          exact ih k (j + 1) _ _ σ_1 (by omega) (by omega) (vOK_up hv1 hvl) (hf.trans hf2) (by simp only [*, gs_uu]) (by omega) hc_2 hc_4 hc_3 H locs hG hS ls (lv_sub hl [0, 3, 4, 5] rfl)
  refine lv_aload_n hx hb d_MA_fits_0 rfl (lv_at hl 1 rfl) ?_
  refine gs_get hx hb ht hown hK hG k_IT h2 7 (by decide) w_462 rfl d_MA_fits_1 ?_
  refine lv_istore_n (lv' := [(3, .int (nI t.2.2.2.1)), (0, .ref h), (1, .ref a), (2, .int (nI cd))]) hx hb d_MA_fits_4 rfl hl (by decide) rfl (fun ls hl => ?_)
  exact loop (t.1.2.2 + 1) (t.1.2.2 - t.2.2.2.1) t.2.2.2.1 vs v σ (Nat.le_refl _) (by omega) hv rfl (gs_usame h1).symm (by omega) h0 h1 h2 _ _ hG hS ls (lv_sub hl [0, 1, 2, 3] rfl)
set_option maxHeartbeats 4000000 in
set_option maxRecDepth 100000 in
/-- Matcher.comparisonHolds -/
theorem c_MA_comparisonHolds (l : Launch) (X : gs_X) (σ : gs_St) (h tu va a : Nat) (vs : Nat → Int32) (v : Nat → Nat) (t : It)
    (h0 : σ h = some (gs_ob 3 [.ref tu, .ref va])) (h1 : σ va = some (gs_ia X 8 vs)) (hv : vOK vs v) (h2 : σ a = some (itE t)) (hB : itB t) (hk2 : t.1.1 = 2 ∨ t.1.1 = 3) : gs_Mi l X y_MA_comparisonHolds b_MA_comparisonHolds 4 (some .boolean) ({ frames := 1, cells := 0, slots := 0, locals := 21 }) σ [.ref h, .ref a] (fun r σ' => σ' = σ ∧ r = bI (cmpv v t)) := by
  refine Met.ofW (cc := b_MA_comparisonHolds) (maxL := 4) (ret := (some .boolean)) (by decide) rfl ?_
  intro p e s m args below meth c s₁ B₀ hml hv
  obtain ⟨rfl, hK, hG, hz, hE⟩ := hv
  have hx := B₀.exec
  have hb := B₀.bytes
  have hr := B₀.returns
  have hts := atoms_spec (ws := gs_ws y_MA_comparisonHolds b_MA_comparisonHolds 4 (some .boolean)) B₀.pre
  have ht : ∀ w ∈ gs_w, w.before _ s = true := fun w h => hts w (List.mem_cons_of_mem _ h)
  have hown : s.vm.findClass R_MA = some m.cls := findClass_of_methodNamed B₀.named
  have hlocks := B₀.notSynchronized
  have hA : ∀ q : Nat, s.heap.size ≤ q → gs_A X q := fun q h => Nat.le_trans hz h
  have hS : va_S (gs_A X) s.heap s.heap [] := va_S.rf
  have hl := lv_entry ([.ref h, .ref a]) (n := 4) (Nat.le_of_ble_eq_true rfl)
  rw [lg_entry_eq]
  generalize (lg_sl ([.ref h, .ref a]) ++ List.replicate (4 - (lg_sl ([.ref h, .ref a])).length) Slot.unset).toArray = ls at hl ⊢
  have hl : lv_has ls 4 [(0, .ref h), (1, .ref a)] := hl
  have hB2 := hB
  obtain ⟨b1, b2, b3, b4, b5, b6, b7⟩ := hB
  have q0 : vl v t.2.1.1 < 64 := vl_lt hv (b4 0)
  have q1 : vl v t.2.1.2.1 < 64 := vl_lt hv (b4 1)
  have u0 : t.2.1.1 < 72 := b4 0
  have u1 : t.2.1.2.1 < 72 := b4 1
  refine lv_aload_n hx hb d_MA_comparisonHolds_0 rfl (lv_at hl 0 rfl) ?_
  refine lv_aload_n hx hb d_MA_comparisonHolds_1 rfl (lv_at hl 1 rfl) ?_
  refine gs_get hx hb ht hown hK hG k_IT h2 3 (by decide) w_455 rfl d_MA_comparisonHolds_2 ?_
  refine gs_callVi (As := [.int (nI t.2.1.1)]) (rest := []) ⟨hx, hb, hml, hown, hts⟩ hK hE hz hG hS (c_MA_valueOf l X σ h tu va vs v t.2.1.1 h0 h1 hv (by omega)) mV_MA_valueOf w_188 h0 rfl rfl hl.1 rfl (Nat.le_of_ble_eq_true rfl) ⟨(by first | decide | omega | (dsimp only [headSpec]; omega)), (by first | decide | omega | (dsimp only [headSpec]; omega))⟩ ⟨(by first | decide | omega | (dsimp only [headSpec]; omega)), (by first | decide | omega | (dsimp only [headSpec]; omega))⟩ d_MA_comparisonHolds_5 (fun r_5 σ_5 H locs hp_5 hG hS => ?_)
  rw [hp_5.1] at hG
  refine gs_top (show r_5 = (nI (vl v t.2.1.1)) from hp_5.2) ?_
  refine lv_istore_n (lv' := [(2, .int (nI (vl v t.2.1.1))), (0, .ref h), (1, .ref a)]) hx hb d_MA_comparisonHolds_8 rfl hl (by decide) rfl (fun ls hl => ?_)
  refine lv_aload_n hx hb d_MA_comparisonHolds_9 rfl (lv_at hl 1 rfl) ?_
  refine lv_aload_n hx hb d_MA_comparisonHolds_10 rfl (lv_at hl 2 rfl) ?_
  refine gs_get hx hb ht hown hK hG k_IT h2 4 (by decide) w_457 rfl d_MA_comparisonHolds_11 ?_
  refine gs_callVi (As := [.int (nI t.2.1.2.1)]) (rest := []) ⟨hx, hb, hml, hown, hts⟩ hK hE hz hG hS (c_MA_valueOf l X σ h tu va vs v t.2.1.2.1 h0 h1 hv (by omega)) mV_MA_valueOf w_188 h0 rfl rfl hl.1 rfl (Nat.le_of_ble_eq_true rfl) ⟨(by first | decide | omega | (dsimp only [headSpec]; omega)), (by first | decide | omega | (dsimp only [headSpec]; omega))⟩ ⟨(by first | decide | omega | (dsimp only [headSpec]; omega)), (by first | decide | omega | (dsimp only [headSpec]; omega))⟩ d_MA_comparisonHolds_14 (fun r_14 σ_14 H locs hp_14 hG hS => ?_)
  rw [hp_14.1] at hG
  refine gs_top (show r_14 = (nI (vl v t.2.1.2.1)) from hp_14.2) ?_
  refine lv_istore_n (lv' := [(3, .int (nI (vl v t.2.1.2.1))), (2, .int (nI (vl v t.2.1.1))), (0, .ref h), (1, .ref a)]) hx hb d_MA_comparisonHolds_17 rfl hl (by decide) rfl (fun ls hl => ?_)
  refine lv_aload_n hx hb d_MA_comparisonHolds_18 rfl (lv_at hl 3 rfl) ?_
  refine gs_get hx hb ht hown hK hG k_IT h2 0 (by decide) w_445 rfl d_MA_comparisonHolds_19 ?_
  refine lv_iconst (v := nI 2) hx hb d_MA_comparisonHolds_22 (by decide) ?_
  refine lv_icmp_ne (tgt := 39) hx hb d_MA_comparisonHolds_23 (by decide) (fun c_23 => ?_) (fun c_23 => ?_)
  · have c_23 : ¬ t.1.1 = 2 := mt (nI_eq (by omega) (by omega)).mpr c_23
    refine lv_iload_n hx hb d_MA_comparisonHolds_39 rfl (lv_at hl 1 rfl) ?_
    refine lv_iload_n hx hb d_MA_comparisonHolds_40 rfl (lv_at hl 0 rfl) ?_
    refine lv_icmp_eq (tgt := 48) hx hb d_MA_comparisonHolds_41 (by decide) (fun c_41 => ?_) (fun c_41 => ?_)
    · have c_41 : (vl v t.2.1.1) = (vl v t.2.1.2.1) :=  (nI_eq (by omega) (by omega)).mp c_41
      refine lv_iconst (v := nI 0) hx hb d_MA_comparisonHolds_48 (by decide) ?_
      exact gs_iret (v := (nI 0)) hx hb hr rfl hK hE hz hG hS hlocks (by first | decide | omega | (dsimp only [headSpec]; omega)) (by first | decide | omega | (dsimp only [headSpec]; omega)) (⟨rfl, by simp only [cmpv]; (first | rw [if_pos (by omega)] | rw [if_neg (by omega)]); (first | (rw [decide_eq_true (by omega)]; rfl) | (rw [decide_eq_false (by omega)]; rfl))⟩) d_MA_comparisonHolds_49
    · have c_41 : ¬ (vl v t.2.1.1) = (vl v t.2.1.2.1) := mt (nI_eq (by omega) (by omega)).mpr c_41
      refine lv_iconst (v := nI 1) hx hb d_MA_comparisonHolds_44 (by decide) ?_
      refine lv_goto (tgt := 49) hx hb d_MA_comparisonHolds_45 (by decide) ?_
      exact gs_iret (v := (nI 1)) hx hb hr rfl hK hE hz hG hS hlocks (by first | decide | omega | (dsimp only [headSpec]; omega)) (by first | decide | omega | (dsimp only [headSpec]; omega)) (⟨rfl, by simp only [cmpv]; (first | rw [if_pos (by omega)] | rw [if_neg (by omega)]); (first | (rw [decide_eq_true (by omega)]; rfl) | (rw [decide_eq_false (by omega)]; rfl))⟩) d_MA_comparisonHolds_49
  · have c_23 : t.1.1 = 2 :=  (nI_eq (by omega) (by omega)).mp c_23
    refine lv_iload_n hx hb d_MA_comparisonHolds_26 rfl (lv_at hl 1 rfl) ?_
    refine lv_iload_n hx hb d_MA_comparisonHolds_27 rfl (lv_at hl 0 rfl) ?_
    refine lv_icmp_ge (tgt := 35) hx hb d_MA_comparisonHolds_28 (by decide) (fun c_28 => ?_) (fun c_28 => ?_)
    · have c_28 : (vl v t.2.1.2.1) ≤ (vl v t.2.1.1) := (nI_leI (by omega) (by omega)).mp c_28
      refine lv_iconst (v := nI 0) hx hb d_MA_comparisonHolds_35 (by decide) ?_
      refine lv_goto (tgt := 49) hx hb d_MA_comparisonHolds_36 (by decide) ?_
      exact gs_iret (v := (nI 0)) hx hb hr rfl hK hE hz hG hS hlocks (by first | decide | omega | (dsimp only [headSpec]; omega)) (by first | decide | omega | (dsimp only [headSpec]; omega)) (⟨rfl, by simp only [cmpv]; (first | rw [if_pos (by omega)] | rw [if_neg (by omega)]); (first | (rw [decide_eq_true (by omega)]; rfl) | (rw [decide_eq_false (by omega)]; rfl))⟩) d_MA_comparisonHolds_49
    · have c_28 : ¬ (vl v t.2.1.2.1) ≤ (vl v t.2.1.1) := mt (nI_leI (by omega) (by omega)).mpr c_28
      refine lv_iconst (v := nI 1) hx hb d_MA_comparisonHolds_31 (by decide) ?_
      refine lv_goto (tgt := 49) hx hb d_MA_comparisonHolds_32 (by decide) ?_
      exact gs_iret (v := (nI 1)) hx hb hr rfl hK hE hz hG hS hlocks (by first | decide | omega | (dsimp only [headSpec]; omega)) (by first | decide | omega | (dsimp only [headSpec]; omega)) (⟨rfl, by simp only [cmpv]; (first | rw [if_pos (by omega)] | rw [if_neg (by omega)]); (first | (rw [decide_eq_true (by omega)]; rfl) | (rw [decide_eq_false (by omega)]; rfl))⟩) d_MA_comparisonHolds_49
