set_option maxHeartbeats 4000000 in
set_option maxRecDepth 100000 in
/-- Item.term -/
theorem c_IT_term (l : Launch) (X : gs_X) (σ : gs_St) (a : Nat) (t : It) (j : Nat)
    (h0 : σ a = some (itE t)) (hj : j < 3) : gs_Mi l X y_IT_term b_IT_term 2 (some .int) ({ frames := 0, cells := 0, slots := 0, locals := 0 }) σ [.ref a, .int (nI j)] (fun r σ' => σ' = σ ∧ r = nI (tm t j)) := by
  refine Met.ofW (cc := b_IT_term) (maxL := 2) (ret := (some .int)) (by decide) rfl ?_
  intro p e s m args below meth c s₁ B₀ hml hv
  obtain ⟨rfl, hK, hG, hz, hE⟩ := hv
  have hx := B₀.exec
  have hb := B₀.bytes
  have hr := B₀.returns
  have hts := atoms_spec (ws := gs_ws y_IT_term b_IT_term 2 (some .int)) B₀.pre
  have ht : ∀ w ∈ gs_w, w.before _ s = true := fun w h => hts w (List.mem_cons_of_mem _ h)
  have hown : s.vm.findClass R_IT = some m.cls := findClass_of_methodNamed B₀.named
  have hlocks := B₀.notSynchronized
  have hA : ∀ q : Nat, s.heap.size ≤ q → gs_A X q := fun q h => Nat.le_trans hz h
  have hS : va_S (gs_A X) s.heap s.heap [] := va_S.rf
  have hl := lv_entry ([.ref a, .int (nI j)]) (n := 2) (Nat.le_of_ble_eq_true rfl)
  rw [lg_entry_eq]
  generalize (lg_sl ([.ref a, .int (nI j)]) ++ List.replicate (2 - (lg_sl ([.ref a, .int (nI j)])).length) Slot.unset).toArray = ls at hl ⊢
  have hl : lv_has ls 2 [(0, .ref a), (1, .int (nI j))] := hl
  refine lv_iload_n hx hb d_IT_term_0 rfl (lv_at hl 1 rfl) ?_
  refine lv_if_ne (tgt := 11) hx hb d_IT_term_1 (by decide) (fun c_1 => ?_) (fun c_1 => ?_)
  · have c_1 : ¬ j = 0 := gs_zn (by omega) c_1
    refine lv_iload_n hx hb d_IT_term_11 rfl (lv_at hl 1 rfl) ?_
    refine lv_iconst (v := nI 1) hx hb d_IT_term_12 (by decide) ?_
    refine lv_icmp_ne (tgt := 23) hx hb d_IT_term_13 (by decide) (fun c_13 => ?_) (fun c_13 => ?_)
    · have c_13 : ¬ j = 1 := mt (nI_eq (by omega) (by omega)).mpr c_13
      refine lv_aload_n hx hb d_IT_term_23 rfl (lv_at hl 0 rfl) ?_
      refine gs_get hx hb ht hown hK hG k_IT h0 5 (by decide) w_458 rfl d_IT_term_24 ?_
      exact gs_iret (v := (nI t.2.1.2.2)) hx hb hr rfl hK hE hz hG hS hlocks (by first | decide | omega | (dsimp only [headSpec]; omega)) (by first | decide | omega | (dsimp only [headSpec]; omega)) (⟨rfl, by simp [tm, *]⟩) d_IT_term_27
    · have c_13 : j = 1 :=  (nI_eq (by omega) (by omega)).mp c_13
      refine lv_aload_n hx hb d_IT_term_16 rfl (lv_at hl 0 rfl) ?_
      refine gs_get hx hb ht hown hK hG k_IT h0 4 (by decide) w_456 rfl d_IT_term_17 ?_
      refine lv_goto (tgt := 27) hx hb d_IT_term_20 (by decide) ?_
      exact gs_iret (v := (nI t.2.1.2.1)) hx hb hr rfl hK hE hz hG hS hlocks (by first | decide | omega | (dsimp only [headSpec]; omega)) (by first | decide | omega | (dsimp only [headSpec]; omega)) (⟨rfl, by simp [tm, *]⟩) d_IT_term_27
  · have c_1 : j = 0 := gs_z (by omega) c_1
    refine lv_aload_n hx hb d_IT_term_4 rfl (lv_at hl 0 rfl) ?_
    refine gs_get hx hb ht hown hK hG k_IT h0 3 (by decide) w_454 rfl d_IT_term_5 ?_
    refine lv_goto (tgt := 27) hx hb d_IT_term_8 (by decide) ?_
    exact gs_iret (v := (nI t.2.1.1)) hx hb hr rfl hK hE hz hG hS hlocks (by first | decide | omega | (dsimp only [headSpec]; omega)) (by first | decide | omega | (dsimp only [headSpec]; omega)) (⟨rfl, by simp [tm, *]⟩) d_IT_term_27
set_option maxHeartbeats 4000000 in
set_option maxRecDepth 100000 in
/-- Item.bindsAt -/
theorem c_IT_bindsAt (l : Launch) (X : gs_X) (σ : gs_St) (a : Nat) (t : It) (j : Nat)
    (h0 : σ a = some (itE t)) (hj : j < 3) (hb9 : t.2.2.1 < 8) : gs_Mi l X y_IT_bindsAt b_IT_bindsAt 2 (some .boolean) ({ frames := 0, cells := 0, slots := 0, locals := 0 }) σ [.ref a, .int (nI j)] (fun r σ' => σ' = σ ∧ r = bI (bd t j)) := by
  refine Met.ofW (cc := b_IT_bindsAt) (maxL := 2) (ret := (some .boolean)) (by decide) rfl ?_
  intro p e s m args below meth c s₁ B₀ hml hv
  obtain ⟨rfl, hK, hG, hz, hE⟩ := hv
  have hx := B₀.exec
  have hb := B₀.bytes
  have hr := B₀.returns
  have hts := atoms_spec (ws := gs_ws y_IT_bindsAt b_IT_bindsAt 2 (some .boolean)) B₀.pre
  have ht : ∀ w ∈ gs_w, w.before _ s = true := fun w h => hts w (List.mem_cons_of_mem _ h)
  have hown : s.vm.findClass R_IT = some m.cls := findClass_of_methodNamed B₀.named
  have hlocks := B₀.notSynchronized
  have hA : ∀ q : Nat, s.heap.size ≤ q → gs_A X q := fun q h => Nat.le_trans hz h
  have hS : va_S (gs_A X) s.heap s.heap [] := va_S.rf
  have hl := lv_entry ([.ref a, .int (nI j)]) (n := 2) (Nat.le_of_ble_eq_true rfl)
  rw [lg_entry_eq]
  generalize (lg_sl ([.ref a, .int (nI j)]) ++ List.replicate (2 - (lg_sl ([.ref a, .int (nI j)])).length) Slot.unset).toArray = ls at hl ⊢
  have hl : lv_has ls 2 [(0, .ref a), (1, .int (nI j))] := hl
  have hd9 : t.2.2.1 / 2 ^ j < 8 := Nat.lt_of_le_of_lt (Nat.div_le_self _ _) hb9
  refine lv_aload_n hx hb d_IT_bindsAt_0 rfl (lv_at hl 0 rfl) ?_
  refine gs_get hx hb ht hown hK hG k_IT h0 6 (by decide) w_459 rfl d_IT_bindsAt_1 ?_
  refine lv_iload_n hx hb d_IT_bindsAt_4 rfl (lv_at hl 1 rfl) ?_
  refine lv_ishr hx hb d_IT_bindsAt_5 ?_
  refine gs_top (show ((nI t.2.2.1) >>> ((nI j) &&& 31)) = (nI (t.2.2.1 / 2 ^ j)) from gs_shr3 (by omega) hj) ?_
  refine lv_iconst (v := nI 1) hx hb d_IT_bindsAt_6 (by decide) ?_
  refine lv_iand hx hb d_IT_bindsAt_7 ?_
  refine gs_top (show ((nI (t.2.2.1 / 2 ^ j)) &&& (nI 1)) = (nI (t.2.2.1 / 2 ^ j % 2)) from gs_and1 (by omega)) ?_
  refine lv_if_eq (tgt := 15) hx hb d_IT_bindsAt_8 (by decide) (fun c_8 => ?_) (fun c_8 => ?_)
  · have c_8 : (t.2.2.1 / 2 ^ j % 2) = 0 := gs_z (by omega) c_8
    refine lv_iconst (v := nI 0) hx hb d_IT_bindsAt_15 (by decide) ?_
    have hb8 : bd t j = false := by simp only [bd, decide_eq_false_iff_not]; omega
    exact gs_iret (v := (nI 0)) hx hb hr rfl hK hE hz hG hS hlocks (by first | decide | omega | (dsimp only [headSpec]; omega)) (by first | decide | omega | (dsimp only [headSpec]; omega)) (⟨rfl, by rw [hb8]; rfl⟩) d_IT_bindsAt_16
  · have c_8 : ¬ (t.2.2.1 / 2 ^ j % 2) = 0 := gs_zn (by omega) c_8
    refine lv_iconst (v := nI 1) hx hb d_IT_bindsAt_11 (by decide) ?_
    refine lv_goto (tgt := 16) hx hb d_IT_bindsAt_12 (by decide) ?_
    have hb8 : bd t j = true := by simp only [bd, decide_eq_true_eq]; omega
    exact gs_iret (v := (nI 1)) hx hb hr rfl hK hE hz hG hS hlocks (by first | decide | omega | (dsimp only [headSpec]; omega)) (by first | decide | omega | (dsimp only [headSpec]; omega)) (⟨rfl, by rw [hb8]; rfl⟩) d_IT_bindsAt_16
set_option maxHeartbeats 4000000 in
set_option maxRecDepth 100000 in
/-- Item.isOpen -/
theorem c_IT_isOpen (l : Launch) (X : gs_X) (σ : gs_St) (a : Nat) (t : It)
    (h0 : σ a = some (itE t)) (hB : itB t) : gs_Mi l X y_IT_isOpen b_IT_isOpen 2 (some .boolean) ({ frames := 1, cells := 0, slots := 0, locals := 21 }) σ [.ref a] (fun r σ' => σ' = σ ∧ r = bI (opn t)) := by
  refine Met.ofW (cc := b_IT_isOpen) (maxL := 2) (ret := (some .boolean)) (by decide) rfl ?_
  intro p e s m args below meth c s₁ B₀ hml hv
  obtain ⟨rfl, hK, hG, hz, hE⟩ := hv
  have hx := B₀.exec
  have hb := B₀.bytes
  have hr := B₀.returns
  have hts := atoms_spec (ws := gs_ws y_IT_isOpen b_IT_isOpen 2 (some .boolean)) B₀.pre
  have ht : ∀ w ∈ gs_w, w.before _ s = true := fun w h => hts w (List.mem_cons_of_mem _ h)
  have hown : s.vm.findClass R_IT = some m.cls := findClass_of_methodNamed B₀.named
  have hlocks := B₀.notSynchronized
  have hA : ∀ q : Nat, s.heap.size ≤ q → gs_A X q := fun q h => Nat.le_trans hz h
  have hS : va_S (gs_A X) s.heap s.heap [] := va_S.rf
  have hl := lv_entry ([.ref a]) (n := 2) (Nat.le_of_ble_eq_true rfl)
  rw [lg_entry_eq]
  generalize (lg_sl ([.ref a]) ++ List.replicate (2 - (lg_sl ([.ref a])).length) Slot.unset).toArray = ls at hl ⊢
  have hl : lv_has ls 2 [(0, .ref a)] := hl
  obtain ⟨b1, b2, b3, b4, b5, b6, b7⟩ := hB
  have loop : ∀ (fl : Nat) (j : Nat), (t.2.2.2.1 ≤ j) → (j ≤ t.1.2.2) → (∀ i, i < j → (decide (i < t.2.2.2.1) || bd t i) = true) → t.1.2.2 - j < fl → ∀ (H : Heap) (locs : List Loc), gs_H X σ H → va_S (gs_A X) s.heap H locs → ∀ ls, lv_has ls 2 [(1, .int (nI j)), (0, .ref a)] → W p l e ({ frames := 1, cells := 0, slots := 0, locals := 21 } : Room) s m ([.ref a] : List Value).toArray below meth c H locs 0 0 (MQ below (va_Qi (fun r σ' => σ' = σ ∧ r = bI (opn t)) (gs_U X) (gs_A X)) ([.ref a] : List Value).toArray s 0 0 (gs_A X)) (F0 m 5 ls []) := by
    intro fl
    induction fl with
    | zero => intro j _ _ _ h9; omega
    | succ fl ih =>
      intro j hj hjw hall hmu  H locs hG hS ls hl
      refine lv_iload_n hx hb d_IT_isOpen_5 rfl (lv_at hl 0 rfl) ?_
      refine lv_aload_n hx hb d_IT_isOpen_6 rfl (lv_at hl 1 rfl) ?_
      refine gs_get hx hb ht hown hK hG k_IT h0 2 (by decide) w_451 rfl d_IT_isOpen_7 ?_
      refine lv_icmp_ge (tgt := 29) hx hb d_IT_isOpen_10 (by decide) (fun c_10 => ?_) (fun c_10 => ?_)
      · have c_10 : t.1.2.2 ≤ j := (nI_leI (by omega) (by omega)).mp c_10
        refine lv_iconst (v := nI 1) hx hb d_IT_isOpen_29 (by decide) ?_
        have ho : opn t = true := by
          simp only [opn, List.all_eq_true]
          exact fun i hi => hall i (by have := List.mem_range.mp hi; omega)
        exact gs_iret (v := (nI 1)) hx hb hr rfl hK hE hz hG hS hlocks (by first | decide | omega | (dsimp only [headSpec]; omega)) (by first | decide | omega | (dsimp only [headSpec]; omega)) (⟨rfl, by rw [ho]; rfl⟩) d_IT_isOpen_30
      · have c_10 : ¬ t.1.2.2 ≤ j := mt (nI_leI (by omega) (by omega)).mpr c_10
        refine lv_aload_n hx hb d_IT_isOpen_13 rfl (lv_at hl 1 rfl) ?_
        refine lv_iload_n hx hb d_IT_isOpen_14 rfl (lv_at hl 0 rfl) ?_
        refine gs_callVi (As := [.int (nI j)]) (rest := []) ⟨hx, hb, hml, hown, hts⟩ hK hE hz hG hS (c_IT_bindsAt l X σ a t j h0 (by omega) b5) mV_IT_bindsAt w_645 h0 rfl rfl hl.1 rfl (Nat.le_of_ble_eq_true rfl) ⟨(by first | decide | omega | (dsimp only [headSpec]; omega)), (by first | decide | omega | (dsimp only [headSpec]; omega))⟩ ⟨(by first | decide | omega | (dsimp only [headSpec]; omega)), (by first | decide | omega | (dsimp only [headSpec]; omega))⟩ d_IT_isOpen_15 (fun r_15 σ_15 H locs hp_15 hG hS => ?_)
        rw [hp_15.1] at hG
        refine gs_top (show r_15 = (bI (bd t j)) from hp_15.2) ?_
        refine lv_if_ne (tgt := 23) hx hb d_IT_isOpen_18 (by decide) (fun c_18 => ?_) (fun c_18 => ?_)
        · refine lv_iinc (v := (nI (j + 1))) (lv' := [(1, .int (nI (j + 1))), (0, .ref a)]) hx hb d_IT_isOpen_23 hl (k := 0) rfl (by exact nI_1 _) (by decide) rfl (fun ls hl => ?_)
          refine lv_goto (tgt := 5) hx hb d_IT_isOpen_26 (by decide) ?_
          exact ih (j + 1) (by omega) (by omega) (fun i hi => by rcases Nat.lt_or_ge i j with q | q; exact hall i q; (have e : i = j := by omega); subst e; rw [bI_n0 c_18]; simp) (by omega) H locs hG hS ls (lv_sub hl [0, 1] rfl)
        · refine lv_iconst (v := nI 0) hx hb d_IT_isOpen_21 (by decide) ?_
          have ho : opn t = false := by
            simp only [opn, List.all_eq_false]
            exact ⟨j, List.mem_range.mpr (by omega), by rw [bI_0 c_18]; simp; omega⟩
          exact gs_iret (v := (nI 0)) hx hb hr rfl hK hE hz hG hS hlocks (by first | decide | omega | (dsimp only [headSpec]; omega)) (by first | decide | omega | (dsimp only [headSpec]; omega)) (⟨rfl, by rw [ho]; rfl⟩) d_IT_isOpen_22
  refine lv_aload_n hx hb d_IT_isOpen_0 rfl (lv_at hl 0 rfl) ?_
  refine gs_get hx hb ht hown hK hG k_IT h0 7 (by decide) w_461 rfl d_IT_isOpen_1 ?_
  refine lv_istore_n (lv' := [(1, .int (nI t.2.2.2.1)), (0, .ref a)]) hx hb d_IT_isOpen_4 rfl hl (by decide) rfl (fun ls hl => ?_)
  exact loop (t.1.2.2 + 1) t.2.2.2.1 (Nat.le_refl _) b6 (fun i hi => by simp [hi]) (by omega) _ _ hG hS ls (lv_sub hl [0, 1] rfl)
set_option maxHeartbeats 4000000 in
set_option maxRecDepth 100000 in
/-- Item.span -/
theorem c_IT_span (l : Launch) (X : gs_X) (σ : gs_St) (a : Nat) (t : It)
    (h0 : σ a = some (itE t)) (hd : t.2.2.2.1 ≤ 3) : gs_Mi l X y_IT_span b_IT_span 1 (some .int) ({ frames := 0, cells := 0, slots := 0, locals := 0 }) σ [.ref a] (fun r σ' => σ' = σ ∧ r = nI (64 ^ (3 - t.2.2.2.1))) := by
  refine Met.ofW (cc := b_IT_span) (maxL := 1) (ret := (some .int)) (by decide) rfl ?_
  intro p e s m args below meth c s₁ B₀ hml hv
  obtain ⟨rfl, hK, hG, hz, hE⟩ := hv
  have hx := B₀.exec
  have hb := B₀.bytes
  have hr := B₀.returns
  have hts := atoms_spec (ws := gs_ws y_IT_span b_IT_span 1 (some .int)) B₀.pre
  have ht : ∀ w ∈ gs_w, w.before _ s = true := fun w h => hts w (List.mem_cons_of_mem _ h)
  have hown : s.vm.findClass R_IT = some m.cls := findClass_of_methodNamed B₀.named
  have hlocks := B₀.notSynchronized
  have hA : ∀ q : Nat, s.heap.size ≤ q → gs_A X q := fun q h => Nat.le_trans hz h
  have hS : va_S (gs_A X) s.heap s.heap [] := va_S.rf
  have hl := lv_entry ([.ref a]) (n := 1) (Nat.le_of_ble_eq_true rfl)
  rw [lg_entry_eq]
  generalize (lg_sl ([.ref a]) ++ List.replicate (1 - (lg_sl ([.ref a])).length) Slot.unset).toArray = ls at hl ⊢
  have hl : lv_has ls 1 [(0, .ref a)] := hl
  refine lv_iconst (v := nI 1) hx hb d_IT_span_0 (by decide) ?_
  refine lv_bipush (v := nI 6) hx hb d_IT_span_1 (by decide) ?_
  refine lv_iconst (v := nI 3) hx hb d_IT_span_3 (by decide) ?_
  refine lv_aload_n hx hb d_IT_span_4 rfl (lv_at hl 0 rfl) ?_
  refine gs_get hx hb ht hown hK hG k_IT h0 7 (by decide) w_461 rfl d_IT_span_5 ?_
  refine lv_isub hx hb d_IT_span_8 ?_
  refine gs_top (pk_sub (a := 3) (b := t.2.2.2.1) (by omega)) ?_
  refine lv_imul hx hb d_IT_span_9 ?_
  refine gs_top (pk_mul 6 (3 - t.2.2.2.1)) ?_
  refine lv_ishl hx hb d_IT_span_10 ?_
  refine gs_top (show ((nI 1) <<< ((nI (6 * (3 - t.2.2.2.1))) &&& 31)) = (nI (64 ^ (3 - t.2.2.2.1))) from gs_span hd) ?_
  exact gs_iret (v := (nI (64 ^ (3 - t.2.2.2.1)))) hx hb hr rfl hK hE hz hG hS hlocks (by first | decide | omega | (dsimp only [headSpec]; omega)) (by first | decide | omega | (dsimp only [headSpec]; omega)) (⟨rfl, rfl⟩) d_IT_span_11
set_option maxHeartbeats 4000000 in
set_option maxRecDepth 100000 in
/-- Item() -/
theorem c_IT_init (l : Launch) (X : gs_X) (σ : gs_St) (a k r w x1 y1 z1 : Nat)
    (h0 : σ a = some (gs_ob 2 [.int 0, .int 0, .int 0, .int 0, .int 0, .int 0, .int 0, .int 0, .int 0])) : gs_Mv l X y_IT_init b_IT_init 7 ({ frames := 1, cells := 0, slots := 0, locals := 12 }) σ [.ref a, .int (nI k), .int (nI r), .int (nI w), .int (nI x1), .int (nI y1), .int (nI z1)] (fun σ' => σ' = gs_up σ a (itE ((k, r, w), (x1, y1, z1), (0, w, nI 0)))) := by
  refine Met.ofW (cc := b_IT_init) (maxL := 7) (ret := none) (by decide) rfl ?_
  intro p e s m args below meth c s₁ B₀ hml hv
  obtain ⟨rfl, hK, hG, hz, hE⟩ := hv
  have hx := B₀.exec
  have hb := B₀.bytes
  have hr := B₀.returns
  have hts := atoms_spec (ws := gs_ws y_IT_init b_IT_init 7 none) B₀.pre
  have ht : ∀ w ∈ gs_w, w.before _ s = true := fun w h => hts w (List.mem_cons_of_mem _ h)
  have hown : s.vm.findClass R_IT = some m.cls := findClass_of_methodNamed B₀.named
  have hlocks := B₀.notSynchronized
  have hin : meth.name = "<init>" := (name_of_methodNamed B₀.named B₀.method).1
  have hA : ∀ q : Nat, s.heap.size ≤ q → gs_A X q := fun q h => Nat.le_trans hz h
  have hS : va_S (gs_A X) s.heap s.heap [] := va_S.rf
  have hl := lv_entry ([.ref a, .int (nI k), .int (nI r), .int (nI w), .int (nI x1), .int (nI y1), .int (nI z1)]) (n := 7) (Nat.le_of_ble_eq_true rfl)
  rw [lg_entry_eq]
  generalize (lg_sl ([.ref a, .int (nI k), .int (nI r), .int (nI w), .int (nI x1), .int (nI y1), .int (nI z1)]) ++ List.replicate (7 - (lg_sl ([.ref a, .int (nI k), .int (nI r), .int (nI w), .int (nI x1), .int (nI y1), .int (nI z1)])).length) Slot.unset).toArray = ls at hl ⊢
  have hl : lv_has ls 7 [(0, .ref a), (1, .int (nI k)), (2, .int (nI r)), (3, .int (nI w)), (4, .int (nI x1)), (5, .int (nI y1)), (6, .int (nI z1))] := hl
  refine lv_aload_n hx hb d_IT_init_0 rfl (lv_at hl 0 rfl) ?_
  refine W.objInit hx hb hown (ht _ w_442) (ht _ w_22) (ht _ w_23) rfl (by rw [hml]; exact hl.1) rfl d_IT_init_1 (Nat.le_of_ble_eq_true rfl) (Nat.le_of_ble_eq_true rfl) ?_
  refine W.eq (g2 := F0 m 4 ls []) rfl ?_
  refine lv_aload_n hx hb d_IT_init_4 rfl (lv_at hl 0 rfl) ?_
  refine lv_iload_n hx hb d_IT_init_5 rfl (lv_at hl 1 rfl) ?_
  refine gs_putF hx hb ht hown hK hG hS k_IT h0 0 (by decide) w_443 rfl hin rfl rfl rfl (Nat.le_of_ble_eq_true rfl) d_IT_init_6 (fun H locs hG hS => ?_)
  have hG : gs_H X (gs_up σ a (gs_ob 2 [.int (nI k), .int 0, .int 0, .int 0, .int 0, .int 0, .int 0, .int 0, .int 0])) H := hG
  obtain ⟨σ_1, eσ_1⟩ : ∃ zq, zq = gs_up σ a (gs_ob 2 [.int (nI k), .int 0, .int 0, .int 0, .int 0, .int 0, .int 0, .int 0, .int 0]) := ⟨_, rfl⟩
  rw [← eσ_1] at hG
  have hc_2 : σ_1 a = some (gs_ob 2 [.int (nI k), .int 0, .int 0, .int 0, .int 0, .int 0, .int 0, .int 0, .int 0]) := by rw [eσ_1]; exact gs_us
  refine lv_aload_n hx hb d_IT_init_9 rfl (lv_at hl 0 rfl) ?_
  refine lv_iload_n hx hb d_IT_init_10 rfl (lv_at hl 2 rfl) ?_
  refine gs_putF hx hb ht hown hK hG hS k_IT hc_2 1 (by decide) w_447 rfl hin rfl rfl rfl (Nat.le_of_ble_eq_true rfl) d_IT_init_11 (fun H locs hG hS => ?_)
  have hG : gs_H X (gs_up σ_1 a (gs_ob 2 [.int (nI k), .int (nI r), .int 0, .int 0, .int 0, .int 0, .int 0, .int 0, .int 0])) H := hG
  obtain ⟨σ_3, eσ_3⟩ : ∃ zq, zq = gs_up σ_1 a (gs_ob 2 [.int (nI k), .int (nI r), .int 0, .int 0, .int 0, .int 0, .int 0, .int 0, .int 0]) := ⟨_, rfl⟩
  rw [← eσ_3] at hG
  have hc_4 : σ_3 a = some (gs_ob 2 [.int (nI k), .int (nI r), .int 0, .int 0, .int 0, .int 0, .int 0, .int 0, .int 0]) := by rw [eσ_3]; exact gs_us
  refine lv_aload_n hx hb d_IT_init_14 rfl (lv_at hl 0 rfl) ?_
  refine lv_iload_n hx hb d_IT_init_15 rfl (lv_at hl 3 rfl) ?_
  refine gs_putF hx hb ht hown hK hG hS k_IT hc_4 2 (by decide) w_451 rfl hin rfl rfl rfl (Nat.le_of_ble_eq_true rfl) d_IT_init_16 (fun H locs hG hS => ?_)
  have hG : gs_H X (gs_up σ_3 a (gs_ob 2 [.int (nI k), .int (nI r), .int (nI w), .int 0, .int 0, .int 0, .int 0, .int 0, .int 0])) H := hG
  obtain ⟨σ_5, eσ_5⟩ : ∃ zq, zq = gs_up σ_3 a (gs_ob 2 [.int (nI k), .int (nI r), .int (nI w), .int 0, .int 0, .int 0, .int 0, .int 0, .int 0]) := ⟨_, rfl⟩
  rw [← eσ_5] at hG
  have hc_6 : σ_5 a = some (gs_ob 2 [.int (nI k), .int (nI r), .int (nI w), .int 0, .int 0, .int 0, .int 0, .int 0, .int 0]) := by rw [eσ_5]; exact gs_us
  refine lv_aload_n hx hb d_IT_init_19 rfl (lv_at hl 0 rfl) ?_
  refine lv_iload hx hb d_IT_init_20 (lv_at hl 4 rfl) ?_
  refine gs_putF hx hb ht hown hK hG hS k_IT hc_6 3 (by decide) w_454 rfl hin rfl rfl rfl (Nat.le_of_ble_eq_true rfl) d_IT_init_22 (fun H locs hG hS => ?_)
  have hG : gs_H X (gs_up σ_5 a (gs_ob 2 [.int (nI k), .int (nI r), .int (nI w), .int (nI x1), .int 0, .int 0, .int 0, .int 0, .int 0])) H := hG
  obtain ⟨σ_7, eσ_7⟩ : ∃ zq, zq = gs_up σ_5 a (gs_ob 2 [.int (nI k), .int (nI r), .int (nI w), .int (nI x1), .int 0, .int 0, .int 0, .int 0, .int 0]) := ⟨_, rfl⟩
  rw [← eσ_7] at hG
  have hc_8 : σ_7 a = some (gs_ob 2 [.int (nI k), .int (nI r), .int (nI w), .int (nI x1), .int 0, .int 0, .int 0, .int 0, .int 0]) := by rw [eσ_7]; exact gs_us
  refine lv_aload_n hx hb d_IT_init_25 rfl (lv_at hl 0 rfl) ?_
  refine lv_iload hx hb d_IT_init_26 (lv_at hl 5 rfl) ?_
  refine gs_putF hx hb ht hown hK hG hS k_IT hc_8 4 (by decide) w_456 rfl hin rfl rfl rfl (Nat.le_of_ble_eq_true rfl) d_IT_init_28 (fun H locs hG hS => ?_)
  have hG : gs_H X (gs_up σ_7 a (gs_ob 2 [.int (nI k), .int (nI r), .int (nI w), .int (nI x1), .int (nI y1), .int 0, .int 0, .int 0, .int 0])) H := hG
  obtain ⟨σ_9, eσ_9⟩ : ∃ zq, zq = gs_up σ_7 a (gs_ob 2 [.int (nI k), .int (nI r), .int (nI w), .int (nI x1), .int (nI y1), .int 0, .int 0, .int 0, .int 0]) := ⟨_, rfl⟩
  rw [← eσ_9] at hG
  have hc_10 : σ_9 a = some (gs_ob 2 [.int (nI k), .int (nI r), .int (nI w), .int (nI x1), .int (nI y1), .int 0, .int 0, .int 0, .int 0]) := by rw [eσ_9]; exact gs_us
  refine lv_aload_n hx hb d_IT_init_31 rfl (lv_at hl 0 rfl) ?_
  refine lv_iload hx hb d_IT_init_32 (lv_at hl 6 rfl) ?_
  refine gs_putF hx hb ht hown hK hG hS k_IT hc_10 5 (by decide) w_458 rfl hin rfl rfl rfl (Nat.le_of_ble_eq_true rfl) d_IT_init_34 (fun H locs hG hS => ?_)
  have hG : gs_H X (gs_up σ_9 a (gs_ob 2 [.int (nI k), .int (nI r), .int (nI w), .int (nI x1), .int (nI y1), .int (nI z1), .int 0, .int 0, .int 0])) H := hG
  obtain ⟨σ_11, eσ_11⟩ : ∃ zq, zq = gs_up σ_9 a (gs_ob 2 [.int (nI k), .int (nI r), .int (nI w), .int (nI x1), .int (nI y1), .int (nI z1), .int 0, .int 0, .int 0]) := ⟨_, rfl⟩
  rw [← eσ_11] at hG
  have hc_12 : σ_11 a = some (gs_ob 2 [.int (nI k), .int (nI r), .int (nI w), .int (nI x1), .int (nI y1), .int (nI z1), .int 0, .int 0, .int 0]) := by rw [eσ_11]; exact gs_us
  refine lv_aload_n hx hb d_IT_init_37 rfl (lv_at hl 0 rfl) ?_
  refine lv_iconst (v := nI 0) hx hb d_IT_init_38 (by decide) ?_
  refine gs_put hx hb ht hown hK hG hS k_IT hc_12 6 (by decide) w_459 rfl rfl rfl (Nat.le_of_ble_eq_true rfl) d_IT_init_39 (fun H locs hG hS => ?_)
  have hG : gs_H X (gs_up σ_11 a (gs_ob 2 [.int (nI k), .int (nI r), .int (nI w), .int (nI x1), .int (nI y1), .int (nI z1), .int (nI 0), .int 0, .int 0])) H := hG
  obtain ⟨σ_13, eσ_13⟩ : ∃ zq, zq = gs_up σ_11 a (gs_ob 2 [.int (nI k), .int (nI r), .int (nI w), .int (nI x1), .int (nI y1), .int (nI z1), .int (nI 0), .int 0, .int 0]) := ⟨_, rfl⟩
  rw [← eσ_13] at hG
  have hc_14 : σ_13 a = some (gs_ob 2 [.int (nI k), .int (nI r), .int (nI w), .int (nI x1), .int (nI y1), .int (nI z1), .int (nI 0), .int 0, .int 0]) := by rw [eσ_13]; exact gs_us
  refine lv_aload_n hx hb d_IT_init_42 rfl (lv_at hl 0 rfl) ?_
  refine lv_iload_n hx hb d_IT_init_43 rfl (lv_at hl 3 rfl) ?_
  refine gs_put hx hb ht hown hK hG hS k_IT hc_14 7 (by decide) w_461 rfl rfl rfl (Nat.le_of_ble_eq_true rfl) d_IT_init_44 (fun H locs hG hS => ?_)
  have hG : gs_H X (gs_up σ_13 a (gs_ob 2 [.int (nI k), .int (nI r), .int (nI w), .int (nI x1), .int (nI y1), .int (nI z1), .int (nI 0), .int (nI w), .int 0])) H := hG
  obtain ⟨σ_15, eσ_15⟩ : ∃ zq, zq = gs_up σ_13 a (gs_ob 2 [.int (nI k), .int (nI r), .int (nI w), .int (nI x1), .int (nI y1), .int (nI z1), .int (nI 0), .int (nI w), .int 0]) := ⟨_, rfl⟩
  rw [← eσ_15] at hG
  have hc_16 : σ_15 a = some (gs_ob 2 [.int (nI k), .int (nI r), .int (nI w), .int (nI x1), .int (nI y1), .int (nI z1), .int (nI 0), .int (nI w), .int 0]) := by rw [eσ_15]; exact gs_us
  refine lv_aload_n hx hb d_IT_init_47 rfl (lv_at hl 0 rfl) ?_
  refine lv_iconst (v := nI 0) hx hb d_IT_init_48 (by decide) ?_
  refine gs_put hx hb ht hown hK hG hS k_IT hc_16 8 (by decide) w_464 rfl rfl rfl (Nat.le_of_ble_eq_true rfl) d_IT_init_49 (fun H locs hG hS => ?_)
  have hG : gs_H X (gs_up σ_15 a (gs_ob 2 [.int (nI k), .int (nI r), .int (nI w), .int (nI x1), .int (nI y1), .int (nI z1), .int (nI 0), .int (nI w), .int (nI 0)])) H := hG
  obtain ⟨σ_17, eσ_17⟩ : ∃ zq, zq = gs_up σ_15 a (gs_ob 2 [.int (nI k), .int (nI r), .int (nI w), .int (nI x1), .int (nI y1), .int (nI z1), .int (nI 0), .int (nI w), .int (nI 0)]) := ⟨_, rfl⟩
  rw [← eσ_17] at hG
  have hc_18 : σ_17 a = some (gs_ob 2 [.int (nI k), .int (nI r), .int (nI w), .int (nI x1), .int (nI y1), .int (nI z1), .int (nI 0), .int (nI w), .int (nI 0)]) := by rw [eσ_17]; exact gs_us
  exact gs_vret hx hb hr hK hE hz hG hS hlocks (by first | decide | omega | (dsimp only [headSpec]; omega)) (by first | decide | omega | (dsimp only [headSpec]; omega)) (by simp only [*, gs_uu]) d_IT_init_52
set_option maxHeartbeats 4000000 in
set_option maxRecDepth 100000 in
/-- valueAt -/
theorem c_RR_valueAt (l : Launch) (X : gs_X) (σ : gs_St) (cd j : Nat)
    (hc : cd < 2 ^ 30) (hj : j < 3) : gs_Mi l X y_RR_valueAt b_RR_valueAt 2 (some .int) ({ frames := 0, cells := 0, slots := 0, locals := 0 }) σ [.int (nI cd), .int (nI j)] (fun r σ' => σ' = σ ∧ r = nI (vat cd j)) := by
  refine Met.ofW (cc := b_RR_valueAt) (maxL := 2) (ret := (some .int)) (by decide) rfl ?_
  intro p e s m args below meth c s₁ B₀ hml hv
  obtain ⟨rfl, hK, hG, hz, hE⟩ := hv
  have hx := B₀.exec
  have hb := B₀.bytes
  have hr := B₀.returns
  have hts := atoms_spec (ws := gs_ws y_RR_valueAt b_RR_valueAt 2 (some .int)) B₀.pre
  have ht : ∀ w ∈ gs_w, w.before _ s = true := fun w h => hts w (List.mem_cons_of_mem _ h)
  have hown : s.vm.findClass R_RR = some m.cls := findClass_of_methodNamed B₀.named
  have hlocks := B₀.notSynchronized
  have hA : ∀ q : Nat, s.heap.size ≤ q → gs_A X q := fun q h => Nat.le_trans hz h
  have hS : va_S (gs_A X) s.heap s.heap [] := va_S.rf
  have hl := lv_entry ([.int (nI cd), .int (nI j)]) (n := 2) (Nat.le_of_ble_eq_true rfl)
  rw [lg_entry_eq]
  generalize (lg_sl ([.int (nI cd), .int (nI j)]) ++ List.replicate (2 - (lg_sl ([.int (nI cd), .int (nI j)])).length) Slot.unset).toArray = ls at hl ⊢
  have hl : lv_has ls 2 [(0, .int (nI cd)), (1, .int (nI j))] := hl
  refine lv_iload_n hx hb d_RR_valueAt_0 rfl (lv_at hl 0 rfl) ?_
  refine lv_bipush (v := nI 6) hx hb d_RR_valueAt_1 (by decide) ?_
  refine lv_iconst (v := nI 2) hx hb d_RR_valueAt_3 (by decide) ?_
  refine lv_iload_n hx hb d_RR_valueAt_4 rfl (lv_at hl 1 rfl) ?_
  refine lv_isub hx hb d_RR_valueAt_5 ?_
  refine gs_top (pk_sub (a := 2) (b := j) (by omega)) ?_
  refine lv_imul hx hb d_RR_valueAt_6 ?_
  refine gs_top (pk_mul 6 (2 - j)) ?_
  refine lv_ishr hx hb d_RR_valueAt_7 ?_
  refine gs_top (show ((nI cd) >>> ((nI (6 * (2 - j))) &&& 31)) = (nI (cd / 64 ^ (2 - j))) from gs_shr6 (by omega) hj) ?_
  refine lv_bipush (v := nI 63) hx hb d_RR_valueAt_8 (by decide) ?_
  refine lv_iand hx hb d_RR_valueAt_10 ?_
  refine gs_top (show ((nI (cd / 64 ^ (2 - j))) &&& (nI 63)) = (nI (cd / 64 ^ (2 - j) % 64)) from gs_and63 (Nat.lt_of_le_of_lt (Nat.div_le_self _ _) (by omega))) ?_
  exact gs_iret (v := (nI (cd / 64 ^ (2 - j) % 64))) hx hb hr rfl hK hE hz hG hS hlocks (by first | decide | omega | (dsimp only [headSpec]; omega)) (by first | decide | omega | (dsimp only [headSpec]; omega)) (⟨rfl, rfl⟩) d_RR_valueAt_11
