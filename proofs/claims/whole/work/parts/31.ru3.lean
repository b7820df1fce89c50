set_option maxHeartbeats 4000000 in
set_option maxRecDepth 100000 in
/-- Rule.add -/
theorem c_RU_add (l : Launch) (X : gs_X) (σ : gs_St) (a hd ho ck kf n k : Nat) (b : Nat) (fH fC : Nat → Option Nat) (kv : Nat → Int32) (kn : Nat → Nat) (t : It)
    (r0 : σ a = some (gs_ob 4 [.ref hd, .ref ho, .ref ck, .int (nI n), .int (nI k), .ref kf])) (r1 : σ ho = some (gs_qa X 3 3 fH)) (r2 : σ ck = some (gs_qa X 3 6 fC)) (r3 : σ kf = some (gs_ia X 8 kv)) (hkn : kOK kv kn) (h0 : σ b = some (itE t)) (hkd : t.1.1 ≤ 3) (hw : t.1.2.2 ≤ 3) (hw1 : 1 ≤ t.1.2.2) (hB : ∀ j, tm t j < 72) (hb8 : t.2.2.1 < 8) (hvb : ∀ j, j < t.1.2.2 → bd (bindI kn t) j = true → 64 ≤ tm t j) (hrm : n + k < 6 ∧ (t.1.1 ≠ 0 ∨ n < 3)) : gs_Mv l X y_RU_add b_RU_add 2 ({ frames := 3, cells := 0, slots := 0, locals := 85 }) σ [.ref a, .ref b] (fun σ' => (t.1.1 ≠ 0 → σ' = gs_up (gs_up σ ck (gs_qa X 3 6 (va_up fC k (some b)))) a (gs_ob 4 [.ref hd, .ref ho, .ref ck, .int (nI n), .int (nI (k + 1)), .ref kf])) ∧ (t.1.1 = 0 → ∃ kv', σ' = gs_up (gs_up (gs_up (gs_up σ ho (gs_qa X 3 3 (va_up fH n (some b)))) a (gs_ob 4 [.ref hd, .ref ho, .ref ck, .int (nI (n + 1)), .int (nI k), .ref kf])) b (itE (bindI kn t))) kf (gs_ia X 8 kv') ∧ kOK kv' (knP kn (bindI kn t) (n + 1) t.1.2.2))) := by
  refine Met.ofW (cc := b_RU_add) (maxL := 2) (ret := none) (by decide) rfl ?_
  intro p e s m args below meth c s₁ B₀ hml hv
  obtain ⟨rfl, hK, hG, hz, hE⟩ := hv
  have hx := B₀.exec
  have hb := B₀.bytes
  have hr := B₀.returns
  have hts := atoms_spec (ws := gs_ws y_RU_add b_RU_add 2 none) B₀.pre
  have ht : ∀ w ∈ gs_w, w.before _ s = true := fun w h => hts w (List.mem_cons_of_mem _ h)
  have hown : s.vm.findClass R_RU = some m.cls := findClass_of_methodNamed B₀.named
  have hlocks := B₀.notSynchronized
  have hA : ∀ q : Nat, s.heap.size ≤ q → gs_A X q := fun q h => Nat.le_trans hz h
  have hS : va_S (gs_A X) s.heap s.heap [] := va_S.rf
  have hl := lv_entry ([.ref a, .ref b]) (n := 2) (Nat.le_of_ble_eq_true rfl)
  rw [lg_entry_eq]
  generalize (lg_sl ([.ref a, .ref b]) ++ List.replicate (2 - (lg_sl ([.ref a, .ref b])).length) Slot.unset).toArray = ls at hl ⊢
  have hl : lv_has ls 2 [(0, .ref a), (1, .ref b)] := hl
  refine lv_aload_n hx hb d_RU_add_0 rfl (lv_at hl 0 rfl) ?_
  refine lv_aload_n hx hb d_RU_add_1 rfl (lv_at hl 1 rfl) ?_
  refine gs_get hx hb ht hown hK hG k_IT h0 0 (by decide) w_444 rfl d_RU_add_2 ?_
  refine gs_callVi (As := [.int (nI t.1.1)]) (rest := []) ⟨hx, hb, hml, hown, hts⟩ hK hE hz hG hS (c_RU_hasRoomFor l X σ a hd ho ck kf n k t.1.1 r0 (by omega) (by omega) hkd) mV_RU_hasRoomFor w_550 r0 rfl rfl hl.1 rfl (Nat.le_of_ble_eq_true rfl) ⟨(by first | decide | omega | (dsimp only [headSpec]; omega)), (by first | decide | omega | (dsimp only [headSpec]; omega))⟩ ⟨(by first | decide | omega | (dsimp only [headSpec]; omega)), (by first | decide | omega | (dsimp only [headSpec]; omega))⟩ d_RU_add_5 (fun r_5 σ_5 H locs hp_5 hG hS => ?_)
  rw [hp_5.1] at hG
  refine gs_top (show r_5 = (bI (decide (n + k < 6 ∧ (t.1.1 ≠ 0 ∨ n < 3)))) from hp_5.2) ?_
  refine lv_if_ne (tgt := 12) hx hb d_RU_add_8 (by decide) (fun c_8 => ?_) (fun c_8 => ?_)
  · refine lv_aload_n hx hb d_RU_add_12 rfl (lv_at hl 1 rfl) ?_
    refine gs_get hx hb ht hown hK hG k_IT h0 0 (by decide) w_444 rfl d_RU_add_13 ?_
    refine lv_if_eq (tgt := 40) hx hb d_RU_add_16 (by decide) (fun c_16 => ?_) (fun c_16 => ?_)
    · have c_16 : t.1.1 = 0 := gs_z (by omega) c_16
      refine lv_aload_n hx hb d_RU_add_40 rfl (lv_at hl 0 rfl) ?_
      refine gs_get hx hb ht hown hK hG k_RU r0 1 (by decide) w_496 rfl d_RU_add_41 ?_
      refine lv_aload_n hx hb d_RU_add_44 rfl (lv_at hl 0 rfl) ?_
      refine gs_get hx hb ht hown hK hG k_RU r0 3 (by decide) w_503 rfl d_RU_add_45 ?_
      refine lv_aload_n hx hb d_RU_add_48 rfl (lv_at hl 1 rfl) ?_
      refine gs_aast hx hb hK hG hS 3 2 r1 rfl h0 rfl (j := n) (by omega) (by omega) d_RU_add_49 (fun H locs hG hS => ?_)
      have hG : gs_H X (gs_up σ ho (gs_qa X 3 3 (va_up fH n (some b)))) H := hG
      obtain ⟨σ_1, eσ_1⟩ : ∃ zq, zq = gs_up σ ho (gs_qa X 3 3 (va_up fH n (some b))) := ⟨_, rfl⟩
      rw [← eσ_1] at hG
      have hc_2 : σ_1 a = some (gs_ob 4 [.ref hd, .ref ho, .ref ck, .int (nI n), .int (nI k), .ref kf]) := by rw [eσ_1]; exact gs_ku (gs_ne r0 r1 (by simp)) r0
      have hc_3 : σ_1 ck = some (gs_qa X 3 6 fC) := by rw [eσ_1]; exact gs_ku (gs_ne r2 r1 (by simp)) r2
      have hc_4 : σ_1 kf = some (gs_ia X 8 kv) := by rw [eσ_1]; exact gs_ku (gs_ne r3 r1 (by simp)) r3
      have hc_5 : σ_1 b = some (gs_ob 2 [.int (nI t.1.1), .int (nI t.1.2.1), .int (nI t.1.2.2), .int (nI t.2.1.1), .int (nI t.2.1.2.1), .int (nI t.2.1.2.2), .int (nI t.2.2.1), .int (nI t.2.2.2.1), .int t.2.2.2.2]) := by rw [eσ_1]; exact gs_ku (gs_ne h0 r1 (by simp)) h0
      have hc_6 : σ_1 ho = some (gs_qa X 3 3 (va_up fH n (some b))) := by rw [eσ_1]; exact gs_us
      refine lv_aload_n hx hb d_RU_add_50 rfl (lv_at hl 0 rfl) ?_
      refine lv_dup hx hb d_RU_add_51 rfl ?_
      refine gs_get hx hb ht hown hK hG k_RU hc_2 3 (by decide) w_503 rfl d_RU_add_52 ?_
      refine lv_iconst (v := nI 1) hx hb d_RU_add_55 (by decide) ?_
      refine lv_iadd hx hb d_RU_add_56 ?_
      refine gs_top (nI_add n 1) ?_
      refine gs_put hx hb ht hown hK hG hS k_RU hc_2 3 (by decide) w_503 rfl rfl rfl (Nat.le_of_ble_eq_true rfl) d_RU_add_57 (fun H locs hG hS => ?_)
      have hG : gs_H X (gs_up σ_1 a (gs_ob 4 [.ref hd, .ref ho, .ref ck, .int (nI (n + 1)), .int (nI k), .ref kf])) H := hG
      obtain ⟨σ_7, eσ_7⟩ : ∃ zq, zq = gs_up σ_1 a (gs_ob 4 [.ref hd, .ref ho, .ref ck, .int (nI (n + 1)), .int (nI k), .ref kf]) := ⟨_, rfl⟩
      rw [← eσ_7] at hG
      have hc_8 : σ_7 ck = some (gs_qa X 3 6 fC) := by rw [eσ_7]; exact gs_ku (gs_ne hc_3 hc_2 (by simp)) hc_3
      have hc_9 : σ_7 kf = some (gs_ia X 8 kv) := by rw [eσ_7]; exact gs_ku (gs_ne hc_4 hc_2 (by simp)) hc_4
      have hc_10 : σ_7 b = some (gs_ob 2 [.int (nI t.1.1), .int (nI t.1.2.1), .int (nI t.1.2.2), .int (nI t.2.1.1), .int (nI t.2.1.2.1), .int (nI t.2.1.2.2), .int (nI t.2.2.1), .int (nI t.2.2.2.1), .int t.2.2.2.2]) := by rw [eσ_7]; exact gs_ku (gs_ne hc_5 hc_2 (by simp)) hc_5
      have hc_11 : σ_7 ho = some (gs_qa X 3 3 (va_up fH n (some b))) := by rw [eσ_7]; exact gs_ku (gs_ne hc_6 hc_2 (by simp)) hc_6
      have hc_12 : σ_7 a = some (gs_ob 4 [.ref hd, .ref ho, .ref ck, .int (nI (n + 1)), .int (nI k), .ref kf]) := by rw [eσ_7]; exact gs_us
      refine lv_aload_n hx hb d_RU_add_60 rfl (lv_at hl 0 rfl) ?_
      refine lv_aload_n hx hb d_RU_add_61 rfl (lv_at hl 1 rfl) ?_
      refine gs_callVv (As := [.ref b]) (rest := []) ⟨hx, hb, hml, hown, hts⟩ hK hE hz hG hS (c_RU_bindVariables l X σ_7 a hd ho ck kf (n + 1) k b kv kn t hc_12 hc_9 hkn hc_10 hw hw1 hB hb8 (by omega) hvb) mV_RU_bindVariables w_551 hc_12 rfl rfl hl.1 rfl (Nat.le_of_ble_eq_true rfl) ⟨(by first | decide | omega | (dsimp only [headSpec]; omega)), (by first | decide | omega | (dsimp only [headSpec]; omega))⟩ ⟨(by first | decide | omega | (dsimp only [headSpec]; omega)), (by first | decide | omega | (dsimp only [headSpec]; omega))⟩ d_RU_add_62 (fun σ_62 H locs hp_62 hG hS => ?_)
      obtain ⟨kv2, ek2, hk2⟩ := hp_62
      rw [ek2] at hG
      exact gs_vret hx hb hr hK hE hz hG hS hlocks (by first | decide | omega | (dsimp only [headSpec]; omega)) (by first | decide | omega | (dsimp only [headSpec]; omega)) (⟨fun z => absurd c_16 z, fun _ => ⟨kv2, by simp only [*], hk2⟩⟩) d_RU_add_65
    · have c_16 : ¬ t.1.1 = 0 := gs_zn (by omega) c_16
      refine lv_aload_n hx hb d_RU_add_19 rfl (lv_at hl 0 rfl) ?_
      refine gs_get hx hb ht hown hK hG k_RU r0 2 (by decide) w_500 rfl d_RU_add_20 ?_
      refine lv_aload_n hx hb d_RU_add_23 rfl (lv_at hl 0 rfl) ?_
      refine gs_get hx hb ht hown hK hG k_RU r0 4 (by decide) w_507 rfl d_RU_add_24 ?_
      refine lv_aload_n hx hb d_RU_add_27 rfl (lv_at hl 1 rfl) ?_
      refine gs_aast hx hb hK hG hS 3 2 r2 rfl h0 rfl (j := k) (by omega) (by omega) d_RU_add_28 (fun H locs hG hS => ?_)
      have hG : gs_H X (gs_up σ ck (gs_qa X 3 6 (va_up fC k (some b)))) H := hG
      obtain ⟨σ_13, eσ_13⟩ : ∃ zq, zq = gs_up σ ck (gs_qa X 3 6 (va_up fC k (some b))) := ⟨_, rfl⟩
      rw [← eσ_13] at hG
      have hc_14 : σ_13 a = some (gs_ob 4 [.ref hd, .ref ho, .ref ck, .int (nI n), .int (nI k), .ref kf]) := by rw [eσ_13]; exact gs_ku (gs_ne r0 r2 (by simp)) r0
      have hc_15 : σ_13 ho = some (gs_qa X 3 3 fH) := by rw [eσ_13]; exact gs_ku (gs_ne r1 r2 (by simp)) r1
      have hc_16 : σ_13 kf = some (gs_ia X 8 kv) := by rw [eσ_13]; exact gs_ku (gs_ne r3 r2 (by simp)) r3
      have hc_17 : σ_13 b = some (gs_ob 2 [.int (nI t.1.1), .int (nI t.1.2.1), .int (nI t.1.2.2), .int (nI t.2.1.1), .int (nI t.2.1.2.1), .int (nI t.2.1.2.2), .int (nI t.2.2.1), .int (nI t.2.2.2.1), .int t.2.2.2.2]) := by rw [eσ_13]; exact gs_ku (gs_ne h0 r2 (by simp)) h0
      have hc_18 : σ_13 ck = some (gs_qa X 3 6 (va_up fC k (some b))) := by rw [eσ_13]; exact gs_us
      refine lv_aload_n hx hb d_RU_add_29 rfl (lv_at hl 0 rfl) ?_
      refine lv_dup hx hb d_RU_add_30 rfl ?_
      refine gs_get hx hb ht hown hK hG k_RU hc_14 4 (by decide) w_507 rfl d_RU_add_31 ?_
      refine lv_iconst (v := nI 1) hx hb d_RU_add_34 (by decide) ?_
      refine lv_iadd hx hb d_RU_add_35 ?_
      refine gs_top (nI_add k 1) ?_
      refine gs_put hx hb ht hown hK hG hS k_RU hc_14 4 (by decide) w_507 rfl rfl rfl (Nat.le_of_ble_eq_true rfl) d_RU_add_36 (fun H locs hG hS => ?_)
      have hG : gs_H X (gs_up σ_13 a (gs_ob 4 [.ref hd, .ref ho, .ref ck, .int (nI n), .int (nI (k + 1)), .ref kf])) H := hG
      obtain ⟨σ_19, eσ_19⟩ : ∃ zq, zq = gs_up σ_13 a (gs_ob 4 [.ref hd, .ref ho, .ref ck, .int (nI n), .int (nI (k + 1)), .ref kf]) := ⟨_, rfl⟩
      rw [← eσ_19] at hG
      have hc_20 : σ_19 ho = some (gs_qa X 3 3 fH) := by rw [eσ_19]; exact gs_ku (gs_ne hc_15 hc_14 (by simp)) hc_15
      have hc_21 : σ_19 kf = some (gs_ia X 8 kv) := by rw [eσ_19]; exact gs_ku (gs_ne hc_16 hc_14 (by simp)) hc_16
      have hc_22 : σ_19 b = some (gs_ob 2 [.int (nI t.1.1), .int (nI t.1.2.1), .int (nI t.1.2.2), .int (nI t.2.1.1), .int (nI t.2.1.2.1), .int (nI t.2.1.2.2), .int (nI t.2.2.1), .int (nI t.2.2.2.1), .int t.2.2.2.2]) := by rw [eσ_19]; exact gs_ku (gs_ne hc_17 hc_14 (by simp)) hc_17
      have hc_23 : σ_19 ck = some (gs_qa X 3 6 (va_up fC k (some b))) := by rw [eσ_19]; exact gs_ku (gs_ne hc_18 hc_14 (by simp)) hc_18
      have hc_24 : σ_19 a = some (gs_ob 4 [.ref hd, .ref ho, .ref ck, .int (nI n), .int (nI (k + 1)), .ref kf]) := by rw [eσ_19]; exact gs_us
      exact gs_vret hx hb hr hK hE hz hG hS hlocks (by first | decide | omega | (dsimp only [headSpec]; omega)) (by first | decide | omega | (dsimp only [headSpec]; omega)) (⟨fun _ => by simp only [*], fun z => absurd z c_16⟩) d_RU_add_39
  · exact absurd (bI_0 c_8) (by rw [decide_eq_true hrm]; decide)
set_option maxHeartbeats 4000000 in
set_option maxRecDepth 100000 in
/-- Rule.settle -/
theorem c_RU_settle (l : Launch) (X : gs_X) (σ : gs_St) (a hd ho ck kf n : Nat) (fC : Nat → Option Nat) (ca : Nat → Nat) (kv : Nat → Int32) (kn : Nat → Nat) (th : It) (ks : List It)
    (r0 : σ a = some (gs_ob 4 [.ref hd, .ref ho, .ref ck, .int (nI n), .int (nI ks.length), .ref kf])) (r2 : σ ck = some (gs_qa X 3 6 fC)) (r3 : σ kf = some (gs_ia X 8 kv)) (hkn : kOK kv kn) (h0 : σ hd = some (itE th)) (hthw : th.1.2.2 ≤ 3) (hthB : ∀ j, tm th j < 72) (hkl : ks.length ≤ 6) (rk : ∀ i t, ks[i]? = some t → fC i = some (ca i) ∧ σ (ca i) = some (itE t) ∧ ca i ≠ hd ∧ t.1.2.2 ≤ 3 ∧ ∀ j, tm t j < 72) (hinj : ∀ i j, i < ks.length → j < ks.length → ca i = ca j → i = j) : gs_Mi l X y_RU_settle b_RU_settle 3 (some .boolean) ({ frames := 2, cells := 0, slots := 0, locals := 64 }) σ [.ref a] (fun r σ' => r = bI (safeB kn th ks) ∧ (σ' hd = some (itE (wR th (rdI (rdO kn th))))) ∧ (∀ i9 t9, i9 < ks.length → ks[i9]? = some t9 → σ' (ca i9) = some (itE (wR t9 (rdI (rdO kn t9))))) ∧ (∀ q9, q9 ≠ hd → (∀ i9, i9 < ks.length → q9 ≠ ca i9) → σ' q9 = σ q9)) := by
  refine Met.ofW (cc := b_RU_settle) (maxL := 3) (ret := (some .boolean)) (by decide) rfl ?_
  intro p e s m args below meth c s₁ B₀ hml hv
  obtain ⟨rfl, hK, hG, hz, hE⟩ := hv
  have hx := B₀.exec
  have hb := B₀.bytes
  have hr := B₀.returns
  have hts := atoms_spec (ws := gs_ws y_RU_settle b_RU_settle 3 (some .boolean)) B₀.pre
  have ht : ∀ w ∈ gs_w, w.before _ s = true := fun w h => hts w (List.mem_cons_of_mem _ h)
  have hown : s.vm.findClass R_RU = some m.cls := findClass_of_methodNamed B₀.named
  have hlocks := B₀.notSynchronized
  have hA : ∀ q : Nat, s.heap.size ≤ q → gs_A X q := fun q h => Nat.le_trans hz h
  have hS : va_S (gs_A X) s.heap s.heap [] := va_S.rf
  have hl := lv_entry ([.ref a]) (n := 3) (Nat.le_of_ble_eq_true rfl)
  rw [lg_entry_eq]
  generalize (lg_sl ([.ref a]) ++ List.replicate (3 - (lg_sl ([.ref a])).length) Slot.unset).toArray = ls at hl ⊢
  have hl : lv_has ls 3 [(0, .ref a)] := hl
  have na : a ≠ hd := gs_ne r0 h0 (by simp)
  have nk : ck ≠ hd := gs_ne r2 h0 (by simp)
  have nf : kf ≠ hd := gs_ne r3 h0 (by simp)
  have mk : ∀ (i : Nat), i < ks.length → a ≠ ca i ∧ ck ≠ ca i ∧ kf ≠ ca i := fun i hi => by
    obtain ⟨t, ht⟩ := get_ex hi
    have h2 := (rk i t ht).2.1
    exact ⟨gs_ne r0 h2 (by simp), gs_ne r2 h2 (by simp), gs_ne r3 h2 (by simp)⟩
  have loop : ∀ (fl : Nat) (i : Nat) (sf : Bool) (σ1 : gs_St), (i ≤ ks.length) → (sf = ((rdO kn th).isSome && (ks.take i).all (fun t => (rdO kn t).isSome))) → (σ1 hd = some (itE (wR th (rdI (rdO kn th))))) → (∀ i9 t9, i9 < i → ks[i9]? = some t9 → σ1 (ca i9) = some (itE (wR t9 (rdI (rdO kn t9))))) → (∀ i9 t9, i ≤ i9 → ks[i9]? = some t9 → σ1 (ca i9) = some (itE t9)) → (∀ q9, q9 ≠ hd → (∀ i9, i9 < ks.length → q9 ≠ ca i9) → σ1 q9 = σ q9) → ks.length - i < fl → ∀ (H : Heap) (locs : List Loc), gs_H X σ1 H → va_S (gs_A X) s.heap H locs → ∀ ls, lv_has ls 3 [(2, .int (nI i)), (1, .int (bI sf)), (0, .ref a)] → W p l e ({ frames := 2, cells := 0, slots := 0, locals := 64 } : Room) s m ([.ref a] : List Value).toArray below meth c H locs 0 0 (MQ below (va_Qi (fun r σ' => r = bI (safeB kn th ks) ∧ (σ' hd = some (itE (wR th (rdI (rdO kn th))))) ∧ (∀ i9 t9, i9 < ks.length → ks[i9]? = some t9 → σ' (ca i9) = some (itE (wR t9 (rdI (rdO kn t9))))) ∧ (∀ q9, q9 ≠ hd → (∀ i9, i9 < ks.length → q9 ≠ ca i9) → σ' q9 = σ q9)) (gs_U X) (gs_A X)) ([.ref a] : List Value).toArray s 0 0 (gs_A X)) (F0 m 33 ls []) := by
    intro fl
    induction fl with
    | zero => intro i sf σ1 _ _ _ _ _ _ h9; omega
    | succ fl ih =>
      intro i sf σ1 hi hsf p1 p2 p3 p4 hmu  H locs hG hS ls hl
      have a0 : σ1 a = some (gs_ob 4 [.ref hd, .ref ho, .ref ck, .int (nI n), .int (nI ks.length), .ref kf]) := (p4 a na (fun i hi => (mk i hi).1)).trans r0
      have a1 : σ1 ck = some (gs_qa X 3 6 fC) := (p4 ck nk (fun i hi => (mk i hi).2.1)).trans r2
      have a2 : σ1 kf = some (gs_ia X 8 kv) := (p4 kf nf (fun i hi => (mk i hi).2.2)).trans r3
      refine lv_iload_n hx hb d_RU_settle_33 rfl (lv_at hl 0 rfl) ?_
      refine lv_aload_n hx hb d_RU_settle_34 rfl (lv_at hl 2 rfl) ?_
      refine gs_get hx hb ht hown hK hG k_RU a0 4 (by decide) w_507 rfl d_RU_settle_35 ?_
      refine lv_icmp_ge (tgt := 88) hx hb d_RU_settle_38 (by decide) (fun c_38 => ?_) (fun c_38 => ?_)
      · have c_38 : ks.length ≤ i := (nI_leI (by omega) (by omega)).mp c_38
        refine lv_iload_n hx hb d_RU_settle_88 rfl (lv_at hl 1 rfl) ?_
        have hie : i = ks.length := by omega
        have hts : ks.take i = ks := by rw [hie, List.take_length]
        rw [hts] at hsf
        exact gs_iret (v := (bI sf)) hx hb hr (bI_nar _) hK hE hz hG hS hlocks (by first | decide | omega | (dsimp only [headSpec]; omega)) (by first | decide | omega | (dsimp only [headSpec]; omega)) (⟨(by rw [hsf]; rfl), p1, (by rw [← hie]; exact p2), p4⟩) d_RU_settle_89
      · have c_38 : ¬ ks.length ≤ i := mt (nI_leI (by omega) (by omega)).mpr c_38
        refine lv_aload_n hx hb d_RU_settle_41 rfl (lv_at hl 2 rfl) ?_
        refine gs_get hx hb ht hown hK hG k_RU a0 2 (by decide) w_500 rfl d_RU_settle_42 ?_
        refine lv_iload_n hx hb d_RU_settle_45 rfl (lv_at hl 0 rfl) ?_
        obtain ⟨t, ht9⟩ := get_ex (L := ks) (j := i) (by omega)
        obtain ⟨q1, q2, q3, q4, q5⟩ := rk i t ht9
        have q6 := p3 i t (Nat.le_refl i) ht9
        refine gs_aald hx hb hK hG 3 a1 rfl (j := i) (by omega) (by omega) d_RU_settle_46 ?_
        refine gs_topr (show va_rf (fC i) = .ref (ca i) by rw [q1]; rfl) ?_
        refine lv_aload_n hx hb d_RU_settle_47 rfl (lv_at hl 2 rfl) ?_
        refine lv_aload_n hx hb d_RU_settle_48 rfl (lv_at hl 2 rfl) ?_
        refine gs_get hx hb ht hown hK hG k_RU a0 2 (by decide) w_500 rfl d_RU_settle_49 ?_
        refine lv_iload_n hx hb d_RU_settle_52 rfl (lv_at hl 0 rfl) ?_
        refine gs_aald hx hb hK hG 3 a1 rfl (j := i) (by omega) (by omega) d_RU_settle_53 ?_
        refine gs_topr (show va_rf (fC i) = .ref (ca i) by rw [q1]; rfl) ?_
        refine gs_callVi (As := [.ref (ca i)]) (rest := [.ref (ca i)]) ⟨hx, hb, hml, hown, hts⟩ hK hE hz hG hS (c_RU_readyOf l X σ1 a hd ho ck kf n ks.length (ca i) kv kn t a0 a2 hkn q6 q4 q5) mV_RU_readyOf w_573 a0 rfl rfl hl.1 rfl (Nat.le_of_ble_eq_true rfl) ⟨(by first | decide | omega | (dsimp only [headSpec]; omega)), (by first | decide | omega | (dsimp only [headSpec]; omega))⟩ ⟨(by first | decide | omega | (dsimp only [headSpec]; omega)), (by first | decide | omega | (dsimp only [headSpec]; omega))⟩ d_RU_settle_54 (fun r_54 σ_54 H locs hp_54 hG hS => ?_)
        rw [hp_54.1] at hG
        refine gs_top (show r_54 = (rdI (rdO kn t)) from hp_54.2) ?_
        have hle : ∀ m, rdO kn t = some m → m ≤ 3 := fun m => rdP_le hkn q5 t.1.2.2 m
        refine gs_put hx hb ht hown hK hG hS k_IT q6 8 (by decide) w_466 rfl rfl rfl (Nat.le_of_ble_eq_true rfl) d_RU_settle_57 (fun H locs hG hS => ?_)
        have hG : gs_H X (gs_up σ1 (ca i) (gs_ob 2 [.int (nI t.1.1), .int (nI t.1.2.1), .int (nI t.1.2.2), .int (nI t.2.1.1), .int (nI t.2.1.2.1), .int (nI t.2.1.2.2), .int (nI t.2.2.1), .int (nI t.2.2.2.1), .int (rdI (rdO kn t))])) H := hG
        obtain ⟨σ_1, eσ_1⟩ : ∃ zq, zq = gs_up σ1 (ca i) (gs_ob 2 [.int (nI t.1.1), .int (nI t.1.2.1), .int (nI t.1.2.2), .int (nI t.2.1.1), .int (nI t.2.1.2.1), .int (nI t.2.1.2.2), .int (nI t.2.2.1), .int (nI t.2.2.2.1), .int (rdI (rdO kn t))]) := ⟨_, rfl⟩
        rw [← eσ_1] at hG
        have hc_2 : σ_1 a = some (gs_ob 4 [.ref hd, .ref ho, .ref ck, .int (nI n), .int (nI ks.length), .ref kf]) := by rw [eσ_1]; exact gs_ku (gs_ne a0 q6 (by simp)) a0
        have hc_3 : σ_1 ck = some (gs_qa X 3 6 fC) := by rw [eσ_1]; exact gs_ku (gs_ne a1 q6 (by simp)) a1
        have hc_4 : σ_1 kf = some (gs_ia X 8 kv) := by rw [eσ_1]; exact gs_ku (gs_ne a2 q6 (by simp)) a2
        have hc_5 : σ_1 (ca i) = some (gs_ob 2 [.int (nI t.1.1), .int (nI t.1.2.1), .int (nI t.1.2.2), .int (nI t.2.1.1), .int (nI t.2.1.2.1), .int (nI t.2.1.2.2), .int (nI t.2.2.1), .int (nI t.2.2.2.1), .int (rdI (rdO kn t))]) := by rw [eσ_1]; exact gs_us
        refine lv_iload_n hx hb d_RU_settle_60 rfl (lv_at hl 1 rfl) ?_
        refine lv_if_eq (tgt := 80) hx hb d_RU_settle_61 (by decide) (fun c_61 => ?_) (fun c_61 => ?_)
        · refine lv_iconst (v := nI 0) hx hb d_RU_settle_80 (by decide) ?_
          refine lv_istore_n (lv' := [(1, .int (nI 0)), (2, .int (nI i)), (0, .ref a)]) hx hb d_RU_settle_81 rfl hl (by decide) rfl (fun ls hl => ?_)
          refine lv_iinc (v := (nI (i + 1))) (lv' := [(2, .int (nI (i + 1))), (1, .int (nI 0)), (0, .ref a)]) hx hb d_RU_settle_82 hl (k := 1) rfl (by exact nI_1 _) (by decide) rfl (fun ls hl => ?_)
          refine lv_goto (tgt := 33) hx hb d_RU_settle_85 (by decide) ?_
          have hsf2 : false = ((rdO kn th).isSome && (ks.take (i + 1)).all (fun t => (rdO kn t).isSome)) := by
            rw [take_snoc ht9, List.all_append, ← Bool.and_assoc, ← hsf]
            first
            | (rw [bI_0 c_61]; rfl; done)
            | (have e2 := (rdI_neg hle).mp c_73
               simp [e2])
          exact ih (i + 1) false σ_1 (by omega) hsf2 (by rw [eσ_1]; exact gs_ku (Ne.symm q3) p1) (fun j t2 hj h2 => by
              rcases Nat.lt_or_ge j i with z | z
              · rw [eσ_1]
                exact gs_ku (fun e => absurd (hinj j i (by omega) (by omega) e) (by omega)) (p2 j t2 z h2)
              · have e : j = i := by omega
                subst e
                rw [ht9] at h2
                cases h2
                exact hc_5) (fun j t2 hj h2 => by rw [eσ_1]; exact gs_ku (fun e => absurd (hinj j i (List.getElem?_eq_some_iff.mp h2).1 (by omega) e) (by omega)) (p3 j t2 (by omega) h2)) (fun q z1 z2 => by rw [eσ_1, gs_un (z2 i (by omega))]; exact p4 q z1 z2) (by omega) H locs hG hS ls (lv_sub hl [0, 1, 2] rfl)
        · refine lv_aload_n hx hb d_RU_settle_64 rfl (lv_at hl 2 rfl) ?_
          refine gs_get hx hb ht hown hK hG k_RU hc_2 2 (by decide) w_500 rfl d_RU_settle_65 ?_
          refine lv_iload_n hx hb d_RU_settle_68 rfl (lv_at hl 0 rfl) ?_
          refine gs_aald hx hb hK hG 3 hc_3 rfl (j := i) (by omega) (by omega) d_RU_settle_69 ?_
          refine gs_topr (show va_rf (fC i) = .ref (ca i) by rw [q1]; rfl) ?_
          refine gs_get hx hb ht hown hK hG k_IT hc_5 8 (by decide) w_466 rfl d_RU_settle_70 ?_
          refine lv_if_lt (tgt := 80) hx hb d_RU_settle_73 (by decide) (fun c_73 => ?_) (fun c_73 => ?_)
          · refine lv_iconst (v := nI 0) hx hb d_RU_settle_80 (by decide) ?_
            refine lv_istore_n (lv' := [(1, .int (nI 0)), (2, .int (nI i)), (0, .ref a)]) hx hb d_RU_settle_81 rfl hl (by decide) rfl (fun ls hl => ?_)
            refine lv_iinc (v := (nI (i + 1))) (lv' := [(2, .int (nI (i + 1))), (1, .int (nI 0)), (0, .ref a)]) hx hb d_RU_settle_82 hl (k := 1) rfl (by exact nI_1 _) (by decide) rfl (fun ls hl => ?_)
            refine lv_goto (tgt := 33) hx hb d_RU_settle_85 (by decide) ?_
            have hsf2 : false = ((rdO kn th).isSome && (ks.take (i + 1)).all (fun t => (rdO kn t).isSome)) := by
              rw [take_snoc ht9, List.all_append, ← Bool.and_assoc, ← hsf]
              first
              | (rw [bI_0 c_61]; rfl; done)
              | (have e2 := (rdI_neg hle).mp c_73
                 simp [e2])
            exact ih (i + 1) false σ_1 (by omega) hsf2 (by rw [eσ_1]; exact gs_ku (Ne.symm q3) p1) (fun j t2 hj h2 => by
                rcases Nat.lt_or_ge j i with z | z
                · rw [eσ_1]
                  exact gs_ku (fun e => absurd (hinj j i (by omega) (by omega) e) (by omega)) (p2 j t2 z h2)
                · have e : j = i := by omega
                  subst e
                  rw [ht9] at h2
                  cases h2
                  exact hc_5) (fun j t2 hj h2 => by rw [eσ_1]; exact gs_ku (fun e => absurd (hinj j i (List.getElem?_eq_some_iff.mp h2).1 (by omega) e) (by omega)) (p3 j t2 (by omega) h2)) (fun q z1 z2 => by rw [eσ_1, gs_un (z2 i (by omega))]; exact p4 q z1 z2) (by omega) H locs hG hS ls (lv_sub hl [0, 1, 2] rfl)
          · refine lv_iconst (v := nI 1) hx hb d_RU_settle_76 (by decide) ?_
            refine lv_goto (tgt := 81) hx hb d_RU_settle_77 (by decide) ?_
            refine lv_istore_n (lv' := [(1, .int (nI 1)), (2, .int (nI i)), (0, .ref a)]) hx hb d_RU_settle_81 rfl hl (by decide) rfl (fun ls hl => ?_)
            refine lv_iinc (v := (nI (i + 1))) (lv' := [(2, .int (nI (i + 1))), (1, .int (nI 1)), (0, .ref a)]) hx hb d_RU_settle_82 hl (k := 1) rfl (by exact nI_1 _) (by decide) rfl (fun ls hl => ?_)
            refine lv_goto (tgt := 33) hx hb d_RU_settle_85 (by decide) ?_
            have hsf2 : true = ((rdO kn th).isSome && (ks.take (i + 1)).all (fun t => (rdO kn t).isSome)) := by
              have e1 := bI_n0 c_61
              have e2 : (rdO kn t).isSome = true := by
                cases hq : (rdO kn t).isSome with
                | true => rfl
                | false => exact absurd ((rdI_neg hle).mpr hq) c_73
              rw [take_snoc ht9, List.all_append, ← Bool.and_assoc, ← hsf, e1]
              simp [e2]
            exact ih (i + 1) true σ_1 (by omega) hsf2 (by rw [eσ_1]; exact gs_ku (Ne.symm q3) p1) (fun j t2 hj h2 => by
                rcases Nat.lt_or_ge j i with z | z
                · rw [eσ_1]
                  exact gs_ku (fun e => absurd (hinj j i (by omega) (by omega) e) (by omega)) (p2 j t2 z h2)
                · have e : j = i := by omega
                  subst e
                  rw [ht9] at h2
                  cases h2
                  exact hc_5) (fun j t2 hj h2 => by rw [eσ_1]; exact gs_ku (fun e => absurd (hinj j i (List.getElem?_eq_some_iff.mp h2).1 (by omega) e) (by omega)) (p3 j t2 (by omega) h2)) (fun q z1 z2 => by rw [eσ_1, gs_un (z2 i (by omega))]; exact p4 q z1 z2) (by omega) H locs hG hS ls (lv_sub hl [0, 1, 2] rfl)
  refine lv_aload_n hx hb d_RU_settle_0 rfl (lv_at hl 0 rfl) ?_
  refine gs_get hx hb ht hown hK hG k_RU r0 0 (by decide) w_493 rfl d_RU_settle_1 ?_
  refine lv_aload_n hx hb d_RU_settle_4 rfl (lv_at hl 0 rfl) ?_
  refine lv_aload_n hx hb d_RU_settle_5 rfl (lv_at hl 0 rfl) ?_
  refine gs_get hx hb ht hown hK hG k_RU r0 0 (by decide) w_493 rfl d_RU_settle_6 ?_
  refine gs_callVi (As := [.ref hd]) (rest := [.ref hd]) ⟨hx, hb, hml, hown, hts⟩ hK hE hz hG hS (c_RU_readyOf l X σ a hd ho ck kf n ks.length hd kv kn th r0 r3 hkn h0 hthw hthB) mV_RU_readyOf w_573 r0 rfl rfl hl.1 rfl (Nat.le_of_ble_eq_true rfl) ⟨(by first | decide | omega | (dsimp only [headSpec]; omega)), (by first | decide | omega | (dsimp only [headSpec]; omega))⟩ ⟨(by first | decide | omega | (dsimp only [headSpec]; omega)), (by first | decide | omega | (dsimp only [headSpec]; omega))⟩ d_RU_settle_9 (fun r_9 σ_9 H locs hp_9 hG hS => ?_)
  rw [hp_9.1] at hG
  refine gs_top (show r_9 = (rdI (rdO kn th)) from hp_9.2) ?_
  have hle : ∀ m, rdO kn th = some m → m ≤ 3 := fun m => rdP_le hkn hthB th.1.2.2 m
  refine gs_put hx hb ht hown hK hG hS k_IT h0 8 (by decide) w_466 rfl rfl rfl (Nat.le_of_ble_eq_true rfl) d_RU_settle_12 (fun H locs hG hS => ?_)
  have hG : gs_H X (gs_up σ hd (gs_ob 2 [.int (nI th.1.1), .int (nI th.1.2.1), .int (nI th.1.2.2), .int (nI th.2.1.1), .int (nI th.2.1.2.1), .int (nI th.2.1.2.2), .int (nI th.2.2.1), .int (nI th.2.2.2.1), .int (rdI (rdO kn th))])) H := hG
  obtain ⟨σ_1, eσ_1⟩ : ∃ zq, zq = gs_up σ hd (gs_ob 2 [.int (nI th.1.1), .int (nI th.1.2.1), .int (nI th.1.2.2), .int (nI th.2.1.1), .int (nI th.2.1.2.1), .int (nI th.2.1.2.2), .int (nI th.2.2.1), .int (nI th.2.2.2.1), .int (rdI (rdO kn th))]) := ⟨_, rfl⟩
  rw [← eσ_1] at hG
  have hc_2 : σ_1 a = some (gs_ob 4 [.ref hd, .ref ho, .ref ck, .int (nI n), .int (nI ks.length), .ref kf]) := by rw [eσ_1]; exact gs_ku (gs_ne r0 h0 (by simp)) r0
  have hc_3 : σ_1 ck = some (gs_qa X 3 6 fC) := by rw [eσ_1]; exact gs_ku (gs_ne r2 h0 (by simp)) r2
  have hc_4 : σ_1 kf = some (gs_ia X 8 kv) := by rw [eσ_1]; exact gs_ku (gs_ne r3 h0 (by simp)) r3
  have hc_5 : σ_1 hd = some (gs_ob 2 [.int (nI th.1.1), .int (nI th.1.2.1), .int (nI th.1.2.2), .int (nI th.2.1.1), .int (nI th.2.1.2.1), .int (nI th.2.1.2.2), .int (nI th.2.2.1), .int (nI th.2.2.2.1), .int (rdI (rdO kn th))]) := by rw [eσ_1]; exact gs_us
  refine lv_aload_n hx hb d_RU_settle_15 rfl (lv_at hl 0 rfl) ?_
  refine gs_get hx hb ht hown hK hG k_RU hc_2 0 (by decide) w_493 rfl d_RU_settle_16 ?_
  refine gs_get hx hb ht hown hK hG k_IT hc_5 8 (by decide) w_466 rfl d_RU_settle_19 ?_
  refine lv_if_lt (tgt := 29) hx hb d_RU_settle_22 (by decide) (fun c_22 => ?_) (fun c_22 => ?_)
  · refine lv_iconst (v := nI 0) hx hb d_RU_settle_29 (by decide) ?_
    refine lv_istore_n (lv' := [(1, .int (nI 0)), (0, .ref a)]) hx hb d_RU_settle_30 rfl hl (by decide) rfl (fun ls hl => ?_)
    refine lv_iconst (v := nI 0) hx hb d_RU_settle_31 (by decide) ?_
    refine lv_istore_n (lv' := [(2, .int (nI 0)), (1, .int (nI 0)), (0, .ref a)]) hx hb d_RU_settle_32 rfl hl (by decide) rfl (fun ls hl => ?_)
    have hsf2 : false = ((rdO kn th).isSome && (ks.take 0).all (fun t => (rdO kn t).isSome)) := by
      rw [(rdI_neg hle).mp c_22]; rfl
    exact loop (ks.length + 1) 0 false σ_1 (by omega) hsf2 hc_5 (fun j t2 hj => absurd hj (Nat.not_lt_zero _)) (fun j t2 _ h2 => by rw [eσ_1]; exact gs_ku (rk j t2 h2).2.2.1 (rk j t2 h2).2.1) (fun q z1 z2 => by rw [eσ_1]; exact gs_un z1) (by omega) _ _ hG hS ls (lv_sub hl [0, 1, 2] rfl)
  · refine lv_iconst (v := nI 1) hx hb d_RU_settle_25 (by decide) ?_
    refine lv_goto (tgt := 30) hx hb d_RU_settle_26 (by decide) ?_
    refine lv_istore_n (lv' := [(1, .int (nI 1)), (0, .ref a)]) hx hb d_RU_settle_30 rfl hl (by decide) rfl (fun ls hl => ?_)
    refine lv_iconst (v := nI 0) hx hb d_RU_settle_31 (by decide) ?_
    refine lv_istore_n (lv' := [(2, .int (nI 0)), (1, .int (nI 1)), (0, .ref a)]) hx hb d_RU_settle_32 rfl hl (by decide) rfl (fun ls hl => ?_)
    have hsf2 : true = ((rdO kn th).isSome && (ks.take 0).all (fun t => (rdO kn t).isSome)) := by
      cases hq : (rdO kn th).isSome with
      | true => rfl
      | false => exact absurd ((rdI_neg hle).mpr hq) c_22
    exact loop (ks.length + 1) 0 true σ_1 (by omega) hsf2 hc_5 (fun j t2 hj => absurd hj (Nat.not_lt_zero _)) (fun j t2 _ h2 => by rw [eσ_1]; exact gs_ku (rk j t2 h2).2.2.1 (rk j t2 h2).2.1) (fun q z1 z2 => by rw [eσ_1]; exact gs_un z1) (by omega) _ _ hG hS ls (lv_sub hl [0, 1, 2] rfl)
