set_option maxHeartbeats 4000000 in
set_option maxRecDepth 100000 in
/-- RuleRounds.item of no kind -/
theorem c_RR_item_k (l : Launch) (X : gs_X) (σ : gs_St) (rr bk tu ma dv co ru sr nr nq fc : Nat) (sc : Int32) (dw : Value) (x r y z u : Int32)
    (htr : l.stackTraces = false) (x0 : σ rr = some (gs_ob 0 [.ref bk, .ref tu, .ref ma, .ref dv, .int (nI fc), dw])) (x1 : σ bk = some (gs_ob 5 [.ref co, .ref ru, .ref sr, .int (nI nr), .int (nI nq), .int sc])) (hnr : nr ≤ 12) (hok : ¬ (¬ x < 0 ∧ x ≤ nI 3)) : gs_Mt l X y_RR_item b_RR_item 7 (some .int) ({ frames := 6, cells := 1, slots := 6, locals := 90 }) σ [.ref rr, .int x, .int r, .int y, .int z, .int u] xI := by
  refine gs_MetT.ofW (cc := b_RR_item) (maxL := 7) (ret := (some .int)) (by decide) rfl ?_
  intro p e s m args below meth c s₁ B₀ hml hv
  obtain ⟨rfl, hK, hG, hz, hE⟩ := hv
  have hx := B₀.exec
  have hb := B₀.bytes
  have hr := B₀.returns
  have hts := atoms_spec (ws := gs_ws y_RR_item b_RR_item 7 (some .int)) B₀.pre
  have ht : ∀ w ∈ gs_w, w.before _ s = true := fun w h => hts w (List.mem_cons_of_mem _ h)
  have hown : s.vm.findClass R_RR = some m.cls := findClass_of_methodNamed B₀.named
  have hlocks := B₀.notSynchronized
  have hout9 : ∀ pc, ∀ x ∈ c.exceptionTable.toList, covers x pc = false := covers_of_empty (B₀.noHandlers (hts _ List.mem_cons_self))
  have hA : ∀ q : Nat, s.heap.size ≤ q → gs_A X q := fun q h => Nat.le_trans hz h
  have hS : va_S (gs_A X) s.heap s.heap [] := va_S.rf
  have hl := lv_entry ([.ref rr, .int x, .int r, .int y, .int z, .int u]) (n := 7) (Nat.le_of_ble_eq_true rfl)
  rw [lg_entry_eq]
  generalize (lg_sl ([.ref rr, .int x, .int r, .int y, .int z, .int u]) ++ List.replicate (7 - (lg_sl ([.ref rr, .int x, .int r, .int y, .int z, .int u])).length) Slot.unset).toArray = ls at hl ⊢
  have hl : lv_has ls 7 [(0, .ref rr), (1, .int x), (2, .int r), (3, .int y), (4, .int z), (5, .int u)] := hl
  refine lv_iload_n hx hb d_RR_item_0 rfl (lv_at hl 1 rfl) ?_
  refine lv_if_lt (tgt := 9) hx hb d_RR_item_1 (by decide) (fun c_1 => ?_) (fun c_1 => ?_)
  · exact gs_thrI hx hb hml htr hown ht hK hE hz hG (List.mem_of_getElem? (i := 6) rfl) hl.1 d_RR_item_9 d_RR_item_12 d_RR_item_13 d_RR_item_15 d_RR_item_18 (hout9 _) ⟨(by first | decide | omega | (dsimp only [headSpec]; omega)), (by first | decide | omega | (dsimp only [headSpec]; omega)), (by first | decide | omega | (dsimp only [headSpec]; omega)), (by first | decide | omega | (dsimp only [headSpec]; omega))⟩ ⟨(by first | decide | omega | (dsimp only [headSpec]; omega)), (by first | decide | omega | (dsimp only [headSpec]; omega))⟩ hlocks
  · refine lv_iload_n hx hb d_RR_item_4 rfl (lv_at hl 1 rfl) ?_
    refine lv_iconst (v := nI 3) hx hb d_RR_item_5 (by decide) ?_
    refine lv_icmp_le (tgt := 19) hx hb d_RR_item_6 (by decide) (fun c_6 => ?_) (fun c_6 => ?_)
    · exact absurd ⟨c_1, c_6⟩ hok
    · exact gs_thrI hx hb hml htr hown ht hK hE hz hG (List.mem_of_getElem? (i := 6) rfl) hl.1 d_RR_item_9 d_RR_item_12 d_RR_item_13 d_RR_item_15 d_RR_item_18 (hout9 _) ⟨(by first | decide | omega | (dsimp only [headSpec]; omega)), (by first | decide | omega | (dsimp only [headSpec]; omega)), (by first | decide | omega | (dsimp only [headSpec]; omega)), (by first | decide | omega | (dsimp only [headSpec]; omega))⟩ ⟨(by first | decide | omega | (dsimp only [headSpec]; omega)), (by first | decide | omega | (dsimp only [headSpec]; omega))⟩ hlocks
set_option maxHeartbeats 4000000 in
set_option maxRecDepth 100000 in
/-- RuleRounds.item of no comparison -/
theorem c_RR_item_c (l : Launch) (X : gs_X) (σ : gs_St) (rr bk tu ma dv co ru sr nr nq fc : Nat) (sc : Int32) (dw : Value) (kd : Nat) (r y z u : Int32)
    (htr : l.stackTraces = false) (x0 : σ rr = some (gs_ob 0 [.ref bk, .ref tu, .ref ma, .ref dv, .int (nI fc), dw])) (x1 : σ bk = some (gs_ob 5 [.ref co, .ref ru, .ref sr, .int (nI nr), .int (nI nq), .int sc])) (hnr : nr ≤ 12) (hkd : kd = 2 ∨ kd = 3) (hok : ¬ (r = 0 ∧ wi3 72 2 y z u = true)) : gs_Mt l X y_RR_item b_RR_item 7 (some .int) ({ frames := 7, cells := 1, slots := 6, locals := 113 }) σ [.ref rr, .int (nI kd), .int r, .int y, .int z, .int u] xI := by
  refine gs_MetT.ofW (cc := b_RR_item) (maxL := 7) (ret := (some .int)) (by decide) rfl ?_
  intro p e s m args below meth c s₁ B₀ hml hv
  obtain ⟨rfl, hK, hG, hz, hE⟩ := hv
  have hx := B₀.exec
  have hb := B₀.bytes
  have hr := B₀.returns
  have hts := atoms_spec (ws := gs_ws y_RR_item b_RR_item 7 (some .int)) B₀.pre
  have ht : ∀ w ∈ gs_w, w.before _ s = true := fun w h => hts w (List.mem_cons_of_mem _ h)
  have hown : s.vm.findClass R_RR = some m.cls := findClass_of_methodNamed B₀.named
  have hlocks := B₀.notSynchronized
  have hout9 : ∀ pc, ∀ x ∈ c.exceptionTable.toList, covers x pc = false := covers_of_empty (B₀.noHandlers (hts _ List.mem_cons_self))
  have hA : ∀ q : Nat, s.heap.size ≤ q → gs_A X q := fun q h => Nat.le_trans hz h
  have hS : va_S (gs_A X) s.heap s.heap [] := va_S.rf
  have hl := lv_entry ([.ref rr, .int (nI kd), .int r, .int y, .int z, .int u]) (n := 7) (Nat.le_of_ble_eq_true rfl)
  rw [lg_entry_eq]
  generalize (lg_sl ([.ref rr, .int (nI kd), .int r, .int y, .int z, .int u]) ++ List.replicate (7 - (lg_sl ([.ref rr, .int (nI kd), .int r, .int y, .int z, .int u])).length) Slot.unset).toArray = ls at hl ⊢
  have hl : lv_has ls 7 [(0, .ref rr), (1, .int (nI kd)), (2, .int r), (3, .int y), (4, .int z), (5, .int u)] := hl
  refine lv_iload_n hx hb d_RR_item_0 rfl (lv_at hl 1 rfl) ?_
  refine lv_if_lt (tgt := 9) hx hb d_RR_item_1 (by decide) (fun c_1 => ?_) (fun c_1 => ?_)
  · exact absurd c_1 (nI_pos (by omega))
    
  · refine lv_iload_n hx hb d_RR_item_4 rfl (lv_at hl 1 rfl) ?_
    refine lv_iconst (v := nI 3) hx hb d_RR_item_5 (by decide) ?_
    refine lv_icmp_le (tgt := 19) hx hb d_RR_item_6 (by decide) (fun c_6 => ?_) (fun c_6 => ?_)
    · have c_6 : kd ≤ 3 := (nI_leI (by omega) (by omega)).mp c_6
      refine lv_iload_n hx hb d_RR_item_19 rfl (lv_at hl 1 rfl) ?_
      refine lv_iconst (v := nI 2) hx hb d_RR_item_20 (by decide) ?_
      refine lv_icmp_eq (tgt := 29) hx hb d_RR_item_21 (by decide) (fun c_21 => ?_) (fun c_21 => ?_)
      · have c_21 : kd = 2 :=  (nI_eq (by omega) (by omega)).mp c_21
        refine lv_iconst (v := nI 1) hx hb d_RR_item_29 (by decide) ?_
        refine lv_goto (tgt := 34) hx hb d_RR_item_30 (by decide) ?_
        refine lv_istore (lv' := [(6, .int (nI 1)), (0, .ref rr), (1, .int (nI kd)), (2, .int r), (3, .int y), (4, .int z), (5, .int u)]) hx hb d_RR_item_34 hl (by decide) rfl (fun ls hl => ?_)
        refine lv_iload hx hb d_RR_item_36 (lv_at hl 0 rfl) ?_
        refine lv_if_eq (tgt := 53) hx hb d_RR_item_38 (by decide) (fun c_38 => ?_) (fun c_38 => ?_)
        · exact absurd c_38 (by decide)
        · have c_38 : ¬ 1 = 0 := gs_zn (by omega) c_38
          refine lv_iload_n hx hb d_RR_item_41 rfl (lv_at hl 3 rfl) ?_
          refine lv_iload_n hx hb d_RR_item_42 rfl (lv_at hl 4 rfl) ?_
          refine lv_iload hx hb d_RR_item_43 (lv_at hl 5 rfl) ?_
          refine lv_iload hx hb d_RR_item_45 (lv_at hl 6 rfl) ?_
          exact gs_callSt (As := [.int r, .int y, .int z, .int u]) (rest := []) ⟨hx, hb, hml, hown, hts⟩ hK hE hz hG (c_RR_requireComparison_t l X σ r y z u htr hok) mS_RR_requireComparison w_532 rfl hl.1 rfl (Nat.le_of_ble_eq_true rfl) ⟨(by first | decide | omega | (dsimp only [headSpec]; omega)), (by first | decide | omega | (dsimp only [headSpec]; omega))⟩ ⟨(by first | decide | omega | (dsimp only [headSpec]; omega)), (by first | decide | omega | (dsimp only [headSpec]; omega))⟩ d_RR_item_47 ⟨(by first | decide | omega | (dsimp only [headSpec]; omega)), (by first | decide | omega | (dsimp only [headSpec]; omega))⟩ (hout9 _) hlocks
      · have c_21 : ¬ kd = 2 := mt (nI_eq (by omega) (by omega)).mpr c_21
        refine lv_iload_n hx hb d_RR_item_24 rfl (lv_at hl 1 rfl) ?_
        refine lv_iconst (v := nI 3) hx hb d_RR_item_25 (by decide) ?_
        refine lv_icmp_ne (tgt := 33) hx hb d_RR_item_26 (by decide) (fun c_26 => ?_) (fun c_26 => ?_)
        · have c_26 : ¬ kd = 3 := mt (nI_eq (by omega) (by omega)).mpr c_26
          omega
        · have c_26 : kd = 3 :=  (nI_eq (by omega) (by omega)).mp c_26
          refine lv_iconst (v := nI 1) hx hb d_RR_item_29 (by decide) ?_
          refine lv_goto (tgt := 34) hx hb d_RR_item_30 (by decide) ?_
          refine lv_istore (lv' := [(6, .int (nI 1)), (0, .ref rr), (1, .int (nI kd)), (2, .int r), (3, .int y), (4, .int z), (5, .int u)]) hx hb d_RR_item_34 hl (by decide) rfl (fun ls hl => ?_)
          refine lv_iload hx hb d_RR_item_36 (lv_at hl 0 rfl) ?_
          refine lv_if_eq (tgt := 53) hx hb d_RR_item_38 (by decide) (fun c_38 => ?_) (fun c_38 => ?_)
          · exact absurd c_38 (by decide)
          · have c_38 : ¬ 1 = 0 := gs_zn (by omega) c_38
            refine lv_iload_n hx hb d_RR_item_41 rfl (lv_at hl 3 rfl) ?_
            refine lv_iload_n hx hb d_RR_item_42 rfl (lv_at hl 4 rfl) ?_
            refine lv_iload hx hb d_RR_item_43 (lv_at hl 5 rfl) ?_
            refine lv_iload hx hb d_RR_item_45 (lv_at hl 6 rfl) ?_
            exact gs_callSt (As := [.int r, .int y, .int z, .int u]) (rest := []) ⟨hx, hb, hml, hown, hts⟩ hK hE hz hG (c_RR_requireComparison_t l X σ r y z u htr hok) mS_RR_requireComparison w_532 rfl hl.1 rfl (Nat.le_of_ble_eq_true rfl) ⟨(by first | decide | omega | (dsimp only [headSpec]; omega)), (by first | decide | omega | (dsimp only [headSpec]; omega))⟩ ⟨(by first | decide | omega | (dsimp only [headSpec]; omega)), (by first | decide | omega | (dsimp only [headSpec]; omega))⟩ d_RR_item_47 ⟨(by first | decide | omega | (dsimp only [headSpec]; omega)), (by first | decide | omega | (dsimp only [headSpec]; omega))⟩ (hout9 _) hlocks
    · have c_6 : ¬ kd ≤ 3 := mt (nI_leI (by omega) (by omega)).mpr c_6
      omega
set_option maxHeartbeats 4000000 in
set_option maxRecDepth 100000 in
/-- RuleRounds.item of no terms -/
theorem c_RR_item_t (l : Launch) (X : gs_X) (σ : gs_St) (rr bk tu ma dv co ru sr nr nq fc : Nat) (sc : Int32) (dw : Value) (cf : Nat → Int32) (cw : Nat → Nat) (rl : Nat) (kd : Nat) (y z u : Int32)
    (htr : l.stackTraces = false) (x0 : σ rr = some (gs_ob 0 [.ref bk, .ref tu, .ref ma, .ref dv, .int (nI fc), dw])) (x1 : σ bk = some (gs_ob 5 [.ref co, .ref ru, .ref sr, .int (nI nr), .int (nI nq), .int sc])) (hnr : nr ≤ 12) (x2 : σ co = some (gs_ia X 12 cf)) (hrl : rl < nr) (hcf : cf rl = nI (cw rl)) (hcw : cw rl ≤ 3) (hkd : kd ≤ 1) (hok : wi3 72 (cw rl) y z u = false) : gs_Mt l X y_RR_item b_RR_item 7 (some .int) ({ frames := 7, cells := 1, slots := 6, locals := 114 }) σ [.ref rr, .int (nI kd), .int (nI rl), .int y, .int z, .int u] xI := by
  refine gs_MetT.ofW (cc := b_RR_item) (maxL := 7) (ret := (some .int)) (by decide) rfl ?_
  intro p e s m args below meth c s₁ B₀ hml hv
  obtain ⟨rfl, hK, hG, hz, hE⟩ := hv
  have hx := B₀.exec
  have hb := B₀.bytes
  have hr := B₀.returns
  have hts := atoms_spec (ws := gs_ws y_RR_item b_RR_item 7 (some .int)) B₀.pre
  have ht : ∀ w ∈ gs_w, w.before _ s = true := fun w h => hts w (List.mem_cons_of_mem _ h)
  have hown : s.vm.findClass R_RR = some m.cls := findClass_of_methodNamed B₀.named
  have hlocks := B₀.notSynchronized
  have hout9 : ∀ pc, ∀ x ∈ c.exceptionTable.toList, covers x pc = false := covers_of_empty (B₀.noHandlers (hts _ List.mem_cons_self))
  have hA : ∀ q : Nat, s.heap.size ≤ q → gs_A X q := fun q h => Nat.le_trans hz h
  have hS : va_S (gs_A X) s.heap s.heap [] := va_S.rf
  have hl := lv_entry ([.ref rr, .int (nI kd), .int (nI rl), .int y, .int z, .int u]) (n := 7) (Nat.le_of_ble_eq_true rfl)
  rw [lg_entry_eq]
  generalize (lg_sl ([.ref rr, .int (nI kd), .int (nI rl), .int y, .int z, .int u]) ++ List.replicate (7 - (lg_sl ([.ref rr, .int (nI kd), .int (nI rl), .int y, .int z, .int u])).length) Slot.unset).toArray = ls at hl ⊢
  have hl : lv_has ls 7 [(0, .ref rr), (1, .int (nI kd)), (2, .int (nI rl)), (3, .int y), (4, .int z), (5, .int u)] := hl
  refine lv_iload_n hx hb d_RR_item_0 rfl (lv_at hl 1 rfl) ?_
  refine lv_if_lt (tgt := 9) hx hb d_RR_item_1 (by decide) (fun c_1 => ?_) (fun c_1 => ?_)
  · exact absurd c_1 (nI_pos (by omega))
    
  · refine lv_iload_n hx hb d_RR_item_4 rfl (lv_at hl 1 rfl) ?_
    refine lv_iconst (v := nI 3) hx hb d_RR_item_5 (by decide) ?_
    refine lv_icmp_le (tgt := 19) hx hb d_RR_item_6 (by decide) (fun c_6 => ?_) (fun c_6 => ?_)
    · have c_6 : kd ≤ 3 := (nI_leI (by omega) (by omega)).mp c_6
      refine lv_iload_n hx hb d_RR_item_19 rfl (lv_at hl 1 rfl) ?_
      refine lv_iconst (v := nI 2) hx hb d_RR_item_20 (by decide) ?_
      refine lv_icmp_eq (tgt := 29) hx hb d_RR_item_21 (by decide) (fun c_21 => ?_) (fun c_21 => ?_)
      · have c_21 : kd = 2 :=  (nI_eq (by omega) (by omega)).mp c_21
        omega
      · have c_21 : ¬ kd = 2 := mt (nI_eq (by omega) (by omega)).mpr c_21
        refine lv_iload_n hx hb d_RR_item_24 rfl (lv_at hl 1 rfl) ?_
        refine lv_iconst (v := nI 3) hx hb d_RR_item_25 (by decide) ?_
        refine lv_icmp_ne (tgt := 33) hx hb d_RR_item_26 (by decide) (fun c_26 => ?_) (fun c_26 => ?_)
        · have c_26 : ¬ kd = 3 := mt (nI_eq (by omega) (by omega)).mpr c_26
          refine lv_iconst (v := nI 0) hx hb d_RR_item_33 (by decide) ?_
          refine lv_istore (lv' := [(6, .int (nI 0)), (0, .ref rr), (1, .int (nI kd)), (2, .int (nI rl)), (3, .int y), (4, .int z), (5, .int u)]) hx hb d_RR_item_34 hl (by decide) rfl (fun ls hl => ?_)
          refine lv_iload hx hb d_RR_item_36 (lv_at hl 0 rfl) ?_
          refine lv_if_eq (tgt := 53) hx hb d_RR_item_38 (by decide) (fun c_38 => ?_) (fun c_38 => ?_)
          · have c_38 : 0 = 0 := gs_z (by omega) c_38
            refine lv_aload_n hx hb d_RR_item_53 rfl (lv_at hl 1 rfl) ?_
            refine lv_iload_n hx hb d_RR_item_54 rfl (lv_at hl 3 rfl) ?_
            refine lv_iload_n hx hb d_RR_item_55 rfl (lv_at hl 4 rfl) ?_
            refine lv_iload hx hb d_RR_item_56 (lv_at hl 5 rfl) ?_
            refine lv_iload hx hb d_RR_item_58 (lv_at hl 6 rfl) ?_
            exact gs_callVt (As := [.int (nI rl), .int y, .int z, .int u]) (rest := []) ⟨hx, hb, hml, hown, hts⟩ hK hE hz hG (c_RR_requireTerms_t l X σ rr bk tu ma dv co ru sr nr nq fc sc dw cf cw rl y z u htr x0 x1 hnr x2 hrl hcf hcw hok) mV_RR_requireTerms w_430 x0 rfl rfl hl.1 rfl (Nat.le_of_ble_eq_true rfl) ⟨(by first | decide | omega | (dsimp only [headSpec]; omega)), (by first | decide | omega | (dsimp only [headSpec]; omega))⟩ ⟨(by first | decide | omega | (dsimp only [headSpec]; omega)), (by first | decide | omega | (dsimp only [headSpec]; omega))⟩ d_RR_item_60 ⟨(by first | decide | omega | (dsimp only [headSpec]; omega)), (by first | decide | omega | (dsimp only [headSpec]; omega))⟩ (hout9 _) hlocks
          · exact absurd c_38 (by decide)
        · have c_26 : kd = 3 :=  (nI_eq (by omega) (by omega)).mp c_26
          omega
    · have c_6 : ¬ kd ≤ 3 := mt (nI_leI (by omega) (by omega)).mpr c_6
      omega
set_option maxHeartbeats 4000000 in
set_option maxRecDepth 100000 in
/-- RuleRounds.item of no relation -/
theorem c_RR_item_r (l : Launch) (X : gs_X) (σ : gs_St) (rr bk tu ma dv co ru sr nr nq fc : Nat) (sc : Int32) (dw : Value) (kd : Nat) (x y z u : Int32)
    (htr : l.stackTraces = false) (x0 : σ rr = some (gs_ob 0 [.ref bk, .ref tu, .ref ma, .ref dv, .int (nI fc), dw])) (x1 : σ bk = some (gs_ob 5 [.ref co, .ref ru, .ref sr, .int (nI nr), .int (nI nq), .int sc])) (hnr : nr ≤ 12) (hkd : kd ≤ 1) (hok : wi nr x = false) : gs_Mt l X y_RR_item b_RR_item 7 (some .int) ({ frames := 8, cells := 1, slots := 6, locals := 135 }) σ [.ref rr, .int (nI kd), .int x, .int y, .int z, .int u] xI := by
  refine gs_MetT.ofW (cc := b_RR_item) (maxL := 7) (ret := (some .int)) (by decide) rfl ?_
  intro p e s m args below meth c s₁ B₀ hml hv
  obtain ⟨rfl, hK, hG, hz, hE⟩ := hv
  have hx := B₀.exec
  have hb := B₀.bytes
  have hr := B₀.returns
  have hts := atoms_spec (ws := gs_ws y_RR_item b_RR_item 7 (some .int)) B₀.pre
  have ht : ∀ w ∈ gs_w, w.before _ s = true := fun w h => hts w (List.mem_cons_of_mem _ h)
  have hown : s.vm.findClass R_RR = some m.cls := findClass_of_methodNamed B₀.named
  have hlocks := B₀.notSynchronized
  have hout9 : ∀ pc, ∀ x ∈ c.exceptionTable.toList, covers x pc = false := covers_of_empty (B₀.noHandlers (hts _ List.mem_cons_self))
  have hA : ∀ q : Nat, s.heap.size ≤ q → gs_A X q := fun q h => Nat.le_trans hz h
  have hS : va_S (gs_A X) s.heap s.heap [] := va_S.rf
  have hl := lv_entry ([.ref rr, .int (nI kd), .int x, .int y, .int z, .int u]) (n := 7) (Nat.le_of_ble_eq_true rfl)
  rw [lg_entry_eq]
  generalize (lg_sl ([.ref rr, .int (nI kd), .int x, .int y, .int z, .int u]) ++ List.replicate (7 - (lg_sl ([.ref rr, .int (nI kd), .int x, .int y, .int z, .int u])).length) Slot.unset).toArray = ls at hl ⊢
  have hl : lv_has ls 7 [(0, .ref rr), (1, .int (nI kd)), (2, .int x), (3, .int y), (4, .int z), (5, .int u)] := hl
  refine lv_iload_n hx hb d_RR_item_0 rfl (lv_at hl 1 rfl) ?_
  refine lv_if_lt (tgt := 9) hx hb d_RR_item_1 (by decide) (fun c_1 => ?_) (fun c_1 => ?_)
  · exact absurd c_1 (nI_pos (by omega))
    
  · refine lv_iload_n hx hb d_RR_item_4 rfl (lv_at hl 1 rfl) ?_
    refine lv_iconst (v := nI 3) hx hb d_RR_item_5 (by decide) ?_
    refine lv_icmp_le (tgt := 19) hx hb d_RR_item_6 (by decide) (fun c_6 => ?_) (fun c_6 => ?_)
    · have c_6 : kd ≤ 3 := (nI_leI (by omega) (by omega)).mp c_6
      refine lv_iload_n hx hb d_RR_item_19 rfl (lv_at hl 1 rfl) ?_
      refine lv_iconst (v := nI 2) hx hb d_RR_item_20 (by decide) ?_
      refine lv_icmp_eq (tgt := 29) hx hb d_RR_item_21 (by decide) (fun c_21 => ?_) (fun c_21 => ?_)
      · have c_21 : kd = 2 :=  (nI_eq (by omega) (by omega)).mp c_21
        omega
      · have c_21 : ¬ kd = 2 := mt (nI_eq (by omega) (by omega)).mpr c_21
        refine lv_iload_n hx hb d_RR_item_24 rfl (lv_at hl 1 rfl) ?_
        refine lv_iconst (v := nI 3) hx hb d_RR_item_25 (by decide) ?_
        refine lv_icmp_ne (tgt := 33) hx hb d_RR_item_26 (by decide) (fun c_26 => ?_) (fun c_26 => ?_)
        · have c_26 : ¬ kd = 3 := mt (nI_eq (by omega) (by omega)).mpr c_26
          refine lv_iconst (v := nI 0) hx hb d_RR_item_33 (by decide) ?_
          refine lv_istore (lv' := [(6, .int (nI 0)), (0, .ref rr), (1, .int (nI kd)), (2, .int x), (3, .int y), (4, .int z), (5, .int u)]) hx hb d_RR_item_34 hl (by decide) rfl (fun ls hl => ?_)
          refine lv_iload hx hb d_RR_item_36 (lv_at hl 0 rfl) ?_
          refine lv_if_eq (tgt := 53) hx hb d_RR_item_38 (by decide) (fun c_38 => ?_) (fun c_38 => ?_)
          · have c_38 : 0 = 0 := gs_z (by omega) c_38
            refine lv_aload_n hx hb d_RR_item_53 rfl (lv_at hl 1 rfl) ?_
            refine lv_iload_n hx hb d_RR_item_54 rfl (lv_at hl 3 rfl) ?_
            refine lv_iload_n hx hb d_RR_item_55 rfl (lv_at hl 4 rfl) ?_
            refine lv_iload hx hb d_RR_item_56 (lv_at hl 5 rfl) ?_
            refine lv_iload hx hb d_RR_item_58 (lv_at hl 6 rfl) ?_
            exact gs_callVt (As := [.int x, .int y, .int z, .int u]) (rest := []) ⟨hx, hb, hml, hown, hts⟩ hK hE hz hG (c_RR_requireTerms_r l X σ rr bk tu ma dv co ru sr nr nq fc sc dw x y z u htr x0 x1 hnr hok) mV_RR_requireTerms w_430 x0 rfl rfl hl.1 rfl (Nat.le_of_ble_eq_true rfl) ⟨(by first | decide | omega | (dsimp only [headSpec]; omega)), (by first | decide | omega | (dsimp only [headSpec]; omega))⟩ ⟨(by first | decide | omega | (dsimp only [headSpec]; omega)), (by first | decide | omega | (dsimp only [headSpec]; omega))⟩ d_RR_item_60 ⟨(by first | decide | omega | (dsimp only [headSpec]; omega)), (by first | decide | omega | (dsimp only [headSpec]; omega))⟩ (hout9 _) hlocks
          · exact absurd c_38 (by decide)
        · have c_26 : kd = 3 :=  (nI_eq (by omega) (by omega)).mp c_26
          omega
    · have c_6 : ¬ kd ≤ 3 := mt (nI_leI (by omega) (by omega)).mpr c_6
      omega
set_option maxHeartbeats 4000000 in
set_option maxRecDepth 100000 in
/-- RuleRounds.item, refused (n), a comparison -/
theorem c_RR_item_cn (l : Launch) (X : gs_X) (σ : gs_St) (rr bk tu ma dv co ru sr nr nq fc : Nat) (sc : Int32) (kd : Nat) (y z u : Int32)
    (htr : l.stackTraces = false) (x0 : σ rr = some (gs_ob 0 [.ref bk, .ref tu, .ref ma, .ref dv, .int (nI fc), .null])) (x1 : σ bk = some (gs_ob 5 [.ref co, .ref ru, .ref sr, .int (nI nr), .int (nI nq), .int sc])) (hnr : nr ≤ 12) (hkd : kd = 2 ∨ kd = 3) (hok : wi3 72 2 y z u = true) : gs_Mt l X y_RR_item b_RR_item 7 (some .int) ({ frames := 6, cells := 1, slots := 6, locals := 90 }) σ [.ref rr, .int (nI kd), .int (nI 0), .int y, .int z, .int u] xS := by
  refine gs_MetT.ofW (cc := b_RR_item) (maxL := 7) (ret := (some .int)) (by decide) rfl ?_
  intro p e s m args below meth c s₁ B₀ hml hv
  obtain ⟨rfl, hK, hG, hz, hE⟩ := hv
  have hx := B₀.exec
  have hb := B₀.bytes
  have hr := B₀.returns
  have hts := atoms_spec (ws := gs_ws y_RR_item b_RR_item 7 (some .int)) B₀.pre
  have ht : ∀ w ∈ gs_w, w.before _ s = true := fun w h => hts w (List.mem_cons_of_mem _ h)
  have hown : s.vm.findClass R_RR = some m.cls := findClass_of_methodNamed B₀.named
  have hlocks := B₀.notSynchronized
  have hout9 : ∀ pc, ∀ x ∈ c.exceptionTable.toList, covers x pc = false := covers_of_empty (B₀.noHandlers (hts _ List.mem_cons_self))
  have hA : ∀ q : Nat, s.heap.size ≤ q → gs_A X q := fun q h => Nat.le_trans hz h
  have hS : va_S (gs_A X) s.heap s.heap [] := va_S.rf
  have hl := lv_entry ([.ref rr, .int (nI kd), .int (nI 0), .int y, .int z, .int u]) (n := 7) (Nat.le_of_ble_eq_true rfl)
  rw [lg_entry_eq]
  generalize (lg_sl ([.ref rr, .int (nI kd), .int (nI 0), .int y, .int z, .int u]) ++ List.replicate (7 - (lg_sl ([.ref rr, .int (nI kd), .int (nI 0), .int y, .int z, .int u])).length) Slot.unset).toArray = ls at hl ⊢
  have hl : lv_has ls 7 [(0, .ref rr), (1, .int (nI kd)), (2, .int (nI 0)), (3, .int y), (4, .int z), (5, .int u)] := hl
  refine lv_iload_n hx hb d_RR_item_0 rfl (lv_at hl 1 rfl) ?_
  refine lv_if_lt (tgt := 9) hx hb d_RR_item_1 (by decide) (fun c_1 => ?_) (fun c_1 => ?_)
  · exact absurd c_1 (nI_pos (by omega))
    
  · refine lv_iload_n hx hb d_RR_item_4 rfl (lv_at hl 1 rfl) ?_
    refine lv_iconst (v := nI 3) hx hb d_RR_item_5 (by decide) ?_
    refine lv_icmp_le (tgt := 19) hx hb d_RR_item_6 (by decide) (fun c_6 => ?_) (fun c_6 => ?_)
    · have c_6 : kd ≤ 3 := (nI_leI (by omega) (by omega)).mp c_6
      refine lv_iload_n hx hb d_RR_item_19 rfl (lv_at hl 1 rfl) ?_
      refine lv_iconst (v := nI 2) hx hb d_RR_item_20 (by decide) ?_
      refine lv_icmp_eq (tgt := 29) hx hb d_RR_item_21 (by decide) (fun c_21 => ?_) (fun c_21 => ?_)
      · have c_21 : kd = 2 :=  (nI_eq (by omega) (by omega)).mp c_21
        refine lv_iconst (v := nI 1) hx hb d_RR_item_29 (by decide) ?_
        refine lv_goto (tgt := 34) hx hb d_RR_item_30 (by decide) ?_
        refine lv_istore (lv' := [(6, .int (nI 1)), (0, .ref rr), (1, .int (nI kd)), (2, .int (nI 0)), (3, .int y), (4, .int z), (5, .int u)]) hx hb d_RR_item_34 hl (by decide) rfl (fun ls hl => ?_)
        refine lv_iload hx hb d_RR_item_36 (lv_at hl 0 rfl) ?_
        refine lv_if_eq (tgt := 53) hx hb d_RR_item_38 (by decide) (fun c_38 => ?_) (fun c_38 => ?_)
        · exact absurd c_38 (by decide)
        · have c_38 : ¬ 1 = 0 := gs_zn (by omega) c_38
          refine lv_iload_n hx hb d_RR_item_41 rfl (lv_at hl 3 rfl) ?_
          refine lv_iload_n hx hb d_RR_item_42 rfl (lv_at hl 4 rfl) ?_
          refine lv_iload hx hb d_RR_item_43 (lv_at hl 5 rfl) ?_
          refine lv_iload hx hb d_RR_item_45 (lv_at hl 6 rfl) ?_
          refine gs_callSpv (As := [.int (nI 0), .int y, .int z, .int u]) (rest := []) ⟨hx, hb, hml, hown, hts⟩ hK hE hz hG hS (c_RR_requireComparison l X σ ((nI 0)) (y) (z) (u) rfl hok) ⟨rfl, rfl⟩ mS_RR_requireComparison w_532 rfl hl.1 rfl (Nat.le_of_ble_eq_true rfl) ⟨(by first | decide | omega | (dsimp only [headSpec]; omega)), (by first | decide | omega | (dsimp only [headSpec]; omega))⟩ ⟨(by first | decide | omega | (dsimp only [headSpec]; omega)), (by first | decide | omega | (dsimp only [headSpec]; omega))⟩ d_RR_item_47 ?_
          refine lv_goto (tgt := 63) hx hb d_RR_item_50 (by decide) ?_
          refine lv_aload_n hx hb d_RR_item_63 rfl (lv_at hl 1 rfl) ?_
          refine gs_get hx hb ht hown hK hG k_RR x0 5 (by decide) w_142 rfl d_RR_item_64 ?_
          refine lv_ifnonnullN hx hb d_RR_item_67 ?_
          exact gs_thrS hx hb hml htr hown ht hK hE hz hG (List.mem_of_getElem? (i := 8) rfl) hl.1 d_RR_item_70 d_RR_item_73 d_RR_item_74 d_RR_item_76 d_RR_item_79 (hout9 _) ⟨(by first | decide | omega | (dsimp only [headSpec]; omega)), (by first | decide | omega | (dsimp only [headSpec]; omega)), (by first | decide | omega | (dsimp only [headSpec]; omega)), (by first | decide | omega | (dsimp only [headSpec]; omega))⟩ ⟨(by first | decide | omega | (dsimp only [headSpec]; omega)), (by first | decide | omega | (dsimp only [headSpec]; omega))⟩ hlocks
      · have c_21 : ¬ kd = 2 := mt (nI_eq (by omega) (by omega)).mpr c_21
        refine lv_iload_n hx hb d_RR_item_24 rfl (lv_at hl 1 rfl) ?_
        refine lv_iconst (v := nI 3) hx hb d_RR_item_25 (by decide) ?_
        refine lv_icmp_ne (tgt := 33) hx hb d_RR_item_26 (by decide) (fun c_26 => ?_) (fun c_26 => ?_)
        · have c_26 : ¬ kd = 3 := mt (nI_eq (by omega) (by omega)).mpr c_26
          omega
        · have c_26 : kd = 3 :=  (nI_eq (by omega) (by omega)).mp c_26
          refine lv_iconst (v := nI 1) hx hb d_RR_item_29 (by decide) ?_
          refine lv_goto (tgt := 34) hx hb d_RR_item_30 (by decide) ?_
          refine lv_istore (lv' := [(6, .int (nI 1)), (0, .ref rr), (1, .int (nI kd)), (2, .int (nI 0)), (3, .int y), (4, .int z), (5, .int u)]) hx hb d_RR_item_34 hl (by decide) rfl (fun ls hl => ?_)
          refine lv_iload hx hb d_RR_item_36 (lv_at hl 0 rfl) ?_
          refine lv_if_eq (tgt := 53) hx hb d_RR_item_38 (by decide) (fun c_38 => ?_) (fun c_38 => ?_)
          · exact absurd c_38 (by decide)
          · have c_38 : ¬ 1 = 0 := gs_zn (by omega) c_38
            refine lv_iload_n hx hb d_RR_item_41 rfl (lv_at hl 3 rfl) ?_
            refine lv_iload_n hx hb d_RR_item_42 rfl (lv_at hl 4 rfl) ?_
            refine lv_iload hx hb d_RR_item_43 (lv_at hl 5 rfl) ?_
            refine lv_iload hx hb d_RR_item_45 (lv_at hl 6 rfl) ?_
            refine gs_callSpv (As := [.int (nI 0), .int y, .int z, .int u]) (rest := []) ⟨hx, hb, hml, hown, hts⟩ hK hE hz hG hS (c_RR_requireComparison l X σ ((nI 0)) (y) (z) (u) rfl hok) ⟨rfl, rfl⟩ mS_RR_requireComparison w_532 rfl hl.1 rfl (Nat.le_of_ble_eq_true rfl) ⟨(by first | decide | omega | (dsimp only [headSpec]; omega)), (by first | decide | omega | (dsimp only [headSpec]; omega))⟩ ⟨(by first | decide | omega | (dsimp only [headSpec]; omega)), (by first | decide | omega | (dsimp only [headSpec]; omega))⟩ d_RR_item_47 ?_
            refine lv_goto (tgt := 63) hx hb d_RR_item_50 (by decide) ?_
            refine lv_aload_n hx hb d_RR_item_63 rfl (lv_at hl 1 rfl) ?_
            refine gs_get hx hb ht hown hK hG k_RR x0 5 (by decide) w_142 rfl d_RR_item_64 ?_
            refine lv_ifnonnullN hx hb d_RR_item_67 ?_
            exact gs_thrS hx hb hml htr hown ht hK hE hz hG (List.mem_of_getElem? (i := 8) rfl) hl.1 d_RR_item_70 d_RR_item_73 d_RR_item_74 d_RR_item_76 d_RR_item_79 (hout9 _) ⟨(by first | decide | omega | (dsimp only [headSpec]; omega)), (by first | decide | omega | (dsimp only [headSpec]; omega)), (by first | decide | omega | (dsimp only [headSpec]; omega)), (by first | decide | omega | (dsimp only [headSpec]; omega))⟩ ⟨(by first | decide | omega | (dsimp only [headSpec]; omega)), (by first | decide | omega | (dsimp only [headSpec]; omega))⟩ hlocks
    · have c_6 : ¬ kd ≤ 3 := mt (nI_leI (by omega) (by omega)).mpr c_6
      omega
set_option maxHeartbeats 4000000 in
set_option maxRecDepth 100000 in
/-- RuleRounds.item, refused (n), a tuple -/
theorem c_RR_item_tn (l : Launch) (X : gs_X) (σ : gs_St) (rr bk tu ma dv co ru sr nr nq fc : Nat) (sc : Int32) (cf : Nat → Int32) (cw : Nat → Nat) (rl : Nat) (kd : Nat) (y z u : Int32)
    (htr : l.stackTraces = false) (x0 : σ rr = some (gs_ob 0 [.ref bk, .ref tu, .ref ma, .ref dv, .int (nI fc), .null])) (x1 : σ bk = some (gs_ob 5 [.ref co, .ref ru, .ref sr, .int (nI nr), .int (nI nq), .int sc])) (hnr : nr ≤ 12) (x2 : σ co = some (gs_ia X 12 cf)) (hrl : rl < nr) (hcf : cf rl = nI (cw rl)) (hcw : cw rl ≤ 3) (hkd : kd ≤ 1) (hok : wi3 72 (cw rl) y z u = true) : gs_Mt l X y_RR_item b_RR_item 7 (some .int) ({ frames := 6, cells := 1, slots := 6, locals := 90 }) σ [.ref rr, .int (nI kd), .int (nI rl), .int y, .int z, .int u] xS := by
  refine gs_MetT.ofW (cc := b_RR_item) (maxL := 7) (ret := (some .int)) (by decide) rfl ?_
  intro p e s m args below meth c s₁ B₀ hml hv
  obtain ⟨rfl, hK, hG, hz, hE⟩ := hv
  have hx := B₀.exec
  have hb := B₀.bytes
  have hr := B₀.returns
  have hts := atoms_spec (ws := gs_ws y_RR_item b_RR_item 7 (some .int)) B₀.pre
  have ht : ∀ w ∈ gs_w, w.before _ s = true := fun w h => hts w (List.mem_cons_of_mem _ h)
  have hown : s.vm.findClass R_RR = some m.cls := findClass_of_methodNamed B₀.named
  have hlocks := B₀.notSynchronized
  have hout9 : ∀ pc, ∀ x ∈ c.exceptionTable.toList, covers x pc = false := covers_of_empty (B₀.noHandlers (hts _ List.mem_cons_self))
  have hA : ∀ q : Nat, s.heap.size ≤ q → gs_A X q := fun q h => Nat.le_trans hz h
  have hS : va_S (gs_A X) s.heap s.heap [] := va_S.rf
  have hl := lv_entry ([.ref rr, .int (nI kd), .int (nI rl), .int y, .int z, .int u]) (n := 7) (Nat.le_of_ble_eq_true rfl)
  rw [lg_entry_eq]
  generalize (lg_sl ([.ref rr, .int (nI kd), .int (nI rl), .int y, .int z, .int u]) ++ List.replicate (7 - (lg_sl ([.ref rr, .int (nI kd), .int (nI rl), .int y, .int z, .int u])).length) Slot.unset).toArray = ls at hl ⊢
  have hl : lv_has ls 7 [(0, .ref rr), (1, .int (nI kd)), (2, .int (nI rl)), (3, .int y), (4, .int z), (5, .int u)] := hl
  refine lv_iload_n hx hb d_RR_item_0 rfl (lv_at hl 1 rfl) ?_
  refine lv_if_lt (tgt := 9) hx hb d_RR_item_1 (by decide) (fun c_1 => ?_) (fun c_1 => ?_)
  · exact absurd c_1 (nI_pos (by omega))
    
  · refine lv_iload_n hx hb d_RR_item_4 rfl (lv_at hl 1 rfl) ?_
    refine lv_iconst (v := nI 3) hx hb d_RR_item_5 (by decide) ?_
    refine lv_icmp_le (tgt := 19) hx hb d_RR_item_6 (by decide) (fun c_6 => ?_) (fun c_6 => ?_)
    · have c_6 : kd ≤ 3 := (nI_leI (by omega) (by omega)).mp c_6
      refine lv_iload_n hx hb d_RR_item_19 rfl (lv_at hl 1 rfl) ?_
      refine lv_iconst (v := nI 2) hx hb d_RR_item_20 (by decide) ?_
      refine lv_icmp_eq (tgt := 29) hx hb d_RR_item_21 (by decide) (fun c_21 => ?_) (fun c_21 => ?_)
      · have c_21 : kd = 2 :=  (nI_eq (by omega) (by omega)).mp c_21
        omega
      · have c_21 : ¬ kd = 2 := mt (nI_eq (by omega) (by omega)).mpr c_21
        refine lv_iload_n hx hb d_RR_item_24 rfl (lv_at hl 1 rfl) ?_
        refine lv_iconst (v := nI 3) hx hb d_RR_item_25 (by decide) ?_
        refine lv_icmp_ne (tgt := 33) hx hb d_RR_item_26 (by decide) (fun c_26 => ?_) (fun c_26 => ?_)
        · have c_26 : ¬ kd = 3 := mt (nI_eq (by omega) (by omega)).mpr c_26
          refine lv_iconst (v := nI 0) hx hb d_RR_item_33 (by decide) ?_
          refine lv_istore (lv' := [(6, .int (nI 0)), (0, .ref rr), (1, .int (nI kd)), (2, .int (nI rl)), (3, .int y), (4, .int z), (5, .int u)]) hx hb d_RR_item_34 hl (by decide) rfl (fun ls hl => ?_)
          refine lv_iload hx hb d_RR_item_36 (lv_at hl 0 rfl) ?_
          refine lv_if_eq (tgt := 53) hx hb d_RR_item_38 (by decide) (fun c_38 => ?_) (fun c_38 => ?_)
          · have c_38 : 0 = 0 := gs_z (by omega) c_38
            refine lv_aload_n hx hb d_RR_item_53 rfl (lv_at hl 1 rfl) ?_
            refine lv_iload_n hx hb d_RR_item_54 rfl (lv_at hl 3 rfl) ?_
            refine lv_iload_n hx hb d_RR_item_55 rfl (lv_at hl 4 rfl) ?_
            refine lv_iload hx hb d_RR_item_56 (lv_at hl 5 rfl) ?_
            refine lv_iload hx hb d_RR_item_58 (lv_at hl 6 rfl) ?_
            refine gs_callVpv (As := [.int (nI rl), .int y, .int z, .int u]) (rest := []) ⟨hx, hb, hml, hown, hts⟩ hK hE hz hG hS (c_RR_requireTerms l X σ rr bk tu ma dv co ru sr nr nq fc sc .null cf cw rl (y) (z) (u) x0 x1 hnr x2 hrl hcf hcw hok) ⟨rfl, rfl⟩ mV_RR_requireTerms w_430 x0 rfl rfl hl.1 rfl (Nat.le_of_ble_eq_true rfl) ⟨(by first | decide | omega | (dsimp only [headSpec]; omega)), (by first | decide | omega | (dsimp only [headSpec]; omega))⟩ ⟨(by first | decide | omega | (dsimp only [headSpec]; omega)), (by first | decide | omega | (dsimp only [headSpec]; omega))⟩ d_RR_item_60 ?_
            refine lv_aload_n hx hb d_RR_item_63 rfl (lv_at hl 1 rfl) ?_
            refine gs_get hx hb ht hown hK hG k_RR x0 5 (by decide) w_142 rfl d_RR_item_64 ?_
            refine lv_ifnonnullN hx hb d_RR_item_67 ?_
            exact gs_thrS hx hb hml htr hown ht hK hE hz hG (List.mem_of_getElem? (i := 8) rfl) hl.1 d_RR_item_70 d_RR_item_73 d_RR_item_74 d_RR_item_76 d_RR_item_79 (hout9 _) ⟨(by first | decide | omega | (dsimp only [headSpec]; omega)), (by first | decide | omega | (dsimp only [headSpec]; omega)), (by first | decide | omega | (dsimp only [headSpec]; omega)), (by first | decide | omega | (dsimp only [headSpec]; omega))⟩ ⟨(by first | decide | omega | (dsimp only [headSpec]; omega)), (by first | decide | omega | (dsimp only [headSpec]; omega))⟩ hlocks
          · exact absurd c_38 (by decide)
        · have c_26 : kd = 3 :=  (nI_eq (by omega) (by omega)).mp c_26
          omega
    · have c_6 : ¬ kd ≤ 3 := mt (nI_leI (by omega) (by omega)).mpr c_6
      omega
set_option maxHeartbeats 4000000 in
set_option maxRecDepth 100000 in
/-- RuleRounds.item, refused (f), a comparison -/
theorem c_RR_item_cf (l : Launch) (X : gs_X) (σ : gs_St) (rr bk tu ma dv co ru sr nr nq fc : Nat) (sc : Int32) (d hd ho ck kf n k : Nat) (kd : Nat) (y z u : Int32)
    (htr : l.stackTraces = false) (x0 : σ rr = some (gs_ob 0 [.ref bk, .ref tu, .ref ma, .ref dv, .int (nI fc), .ref d])) (x1 : σ bk = some (gs_ob 5 [.ref co, .ref ru, .ref sr, .int (nI nr), .int (nI nq), .int sc])) (hnr : nr ≤ 12) (r0 : σ d = some (gs_ob 4 [.ref hd, .ref ho, .ref ck, .int (nI n), .int (nI k), .ref kf])) (hn : n ≤ 3) (hk : k ≤ 6) (hkd : kd = 2 ∨ kd = 3) (hok : wi3 72 2 y z u = true) (hfu : ¬ (n + k < 6 ∧ (kd ≠ 0 ∨ n < 3))) : gs_Mt l X y_RR_item b_RR_item 7 (some .int) ({ frames := 6, cells := 1, slots := 6, locals := 90 }) σ [.ref rr, .int (nI kd), .int (nI 0), .int y, .int z, .int u] xS := by
  refine gs_MetT.ofW (cc := b_RR_item) (maxL := 7) (ret := (some .int)) (by decide) rfl ?_
  intro p e s m args below meth c s₁ B₀ hml hv
  obtain ⟨rfl, hK, hG, hz, hE⟩ := hv
  have hx := B₀.exec
  have hb := B₀.bytes
  have hr := B₀.returns
  have hts := atoms_spec (ws := gs_ws y_RR_item b_RR_item 7 (some .int)) B₀.pre
  have ht : ∀ w ∈ gs_w, w.before _ s = true := fun w h => hts w (List.mem_cons_of_mem _ h)
  have hown : s.vm.findClass R_RR = some m.cls := findClass_of_methodNamed B₀.named
  have hlocks := B₀.notSynchronized
  have hout9 : ∀ pc, ∀ x ∈ c.exceptionTable.toList, covers x pc = false := covers_of_empty (B₀.noHandlers (hts _ List.mem_cons_self))
  have hA : ∀ q : Nat, s.heap.size ≤ q → gs_A X q := fun q h => Nat.le_trans hz h
  have hS : va_S (gs_A X) s.heap s.heap [] := va_S.rf
  have hl := lv_entry ([.ref rr, .int (nI kd), .int (nI 0), .int y, .int z, .int u]) (n := 7) (Nat.le_of_ble_eq_true rfl)
  rw [lg_entry_eq]
  generalize (lg_sl ([.ref rr, .int (nI kd), .int (nI 0), .int y, .int z, .int u]) ++ List.replicate (7 - (lg_sl ([.ref rr, .int (nI kd), .int (nI 0), .int y, .int z, .int u])).length) Slot.unset).toArray = ls at hl ⊢
  have hl : lv_has ls 7 [(0, .ref rr), (1, .int (nI kd)), (2, .int (nI 0)), (3, .int y), (4, .int z), (5, .int u)] := hl
  refine lv_iload_n hx hb d_RR_item_0 rfl (lv_at hl 1 rfl) ?_
  refine lv_if_lt (tgt := 9) hx hb d_RR_item_1 (by decide) (fun c_1 => ?_) (fun c_1 => ?_)
  · exact absurd c_1 (nI_pos (by omega))
    
  · refine lv_iload_n hx hb d_RR_item_4 rfl (lv_at hl 1 rfl) ?_
    refine lv_iconst (v := nI 3) hx hb d_RR_item_5 (by decide) ?_
    refine lv_icmp_le (tgt := 19) hx hb d_RR_item_6 (by decide) (fun c_6 => ?_) (fun c_6 => ?_)
    · have c_6 : kd ≤ 3 := (nI_leI (by omega) (by omega)).mp c_6
      refine lv_iload_n hx hb d_RR_item_19 rfl (lv_at hl 1 rfl) ?_
      refine lv_iconst (v := nI 2) hx hb d_RR_item_20 (by decide) ?_
      refine lv_icmp_eq (tgt := 29) hx hb d_RR_item_21 (by decide) (fun c_21 => ?_) (fun c_21 => ?_)
      · have c_21 : kd = 2 :=  (nI_eq (by omega) (by omega)).mp c_21
        refine lv_iconst (v := nI 1) hx hb d_RR_item_29 (by decide) ?_
        refine lv_goto (tgt := 34) hx hb d_RR_item_30 (by decide) ?_
        refine lv_istore (lv' := [(6, .int (nI 1)), (0, .ref rr), (1, .int (nI kd)), (2, .int (nI 0)), (3, .int y), (4, .int z), (5, .int u)]) hx hb d_RR_item_34 hl (by decide) rfl (fun ls hl => ?_)
        refine lv_iload hx hb d_RR_item_36 (lv_at hl 0 rfl) ?_
        refine lv_if_eq (tgt := 53) hx hb d_RR_item_38 (by decide) (fun c_38 => ?_) (fun c_38 => ?_)
        · exact absurd c_38 (by decide)
        · have c_38 : ¬ 1 = 0 := gs_zn (by omega) c_38
          refine lv_iload_n hx hb d_RR_item_41 rfl (lv_at hl 3 rfl) ?_
          refine lv_iload_n hx hb d_RR_item_42 rfl (lv_at hl 4 rfl) ?_
          refine lv_iload hx hb d_RR_item_43 (lv_at hl 5 rfl) ?_
          refine lv_iload hx hb d_RR_item_45 (lv_at hl 6 rfl) ?_
          refine gs_callSpv (As := [.int (nI 0), .int y, .int z, .int u]) (rest := []) ⟨hx, hb, hml, hown, hts⟩ hK hE hz hG hS (c_RR_requireComparison l X σ ((nI 0)) (y) (z) (u) rfl hok) ⟨rfl, rfl⟩ mS_RR_requireComparison w_532 rfl hl.1 rfl (Nat.le_of_ble_eq_true rfl) ⟨(by first | decide | omega | (dsimp only [headSpec]; omega)), (by first | decide | omega | (dsimp only [headSpec]; omega))⟩ ⟨(by first | decide | omega | (dsimp only [headSpec]; omega)), (by first | decide | omega | (dsimp only [headSpec]; omega))⟩ d_RR_item_47 ?_
          refine lv_goto (tgt := 63) hx hb d_RR_item_50 (by decide) ?_
          refine lv_aload_n hx hb d_RR_item_63 rfl (lv_at hl 1 rfl) ?_
          refine gs_get hx hb ht hown hK hG k_RR x0 5 (by decide) w_142 rfl d_RR_item_64 ?_
          refine lv_ifnonnull (tgt := 80) hx hb d_RR_item_67 (by decide) ?_
          refine lv_aload_n hx hb d_RR_item_80 rfl (lv_at hl 1 rfl) ?_
          refine gs_get hx hb ht hown hK hG k_RR x0 5 (by decide) w_142 rfl d_RR_item_81 ?_
          refine lv_iload_n hx hb d_RR_item_84 rfl (lv_at hl 2 rfl) ?_
          refine gs_callVp (As := [.int (nI kd)]) (rest := []) ⟨hx, hb, hml, hown, hts⟩ hK hE hz hG hS (c_RU_hasRoomFor_p l X σ d hd ho ck kf n k kd r0 (by omega) (by omega) (by omega)) ⟨rfl, rfl⟩ mV_RU_hasRoomFor w_537 r0 rfl rfl hl.1 rfl (Nat.le_of_ble_eq_true rfl) ⟨(by first | decide | omega | (dsimp only [headSpec]; omega)), (by first | decide | omega | (dsimp only [headSpec]; omega))⟩ ⟨(by first | decide | omega | (dsimp only [headSpec]; omega)), (by first | decide | omega | (dsimp only [headSpec]; omega))⟩ d_RR_item_85 (fun r_85 hp_85 => ?_)
          refine gs_top (show r_85 = (bI (decide (n + k < 6 ∧ (kd ≠ 0 ∨ n < 3)))) from hp_85) ?_
          refine lv_if_ne (tgt := 101) hx hb d_RR_item_88 (by decide) (fun c_88 => ?_) (fun c_88 => ?_)
          · exact absurd (of_decide_eq_true (bI_n0 c_88)) hfu
          · exact gs_thrS hx hb hml htr hown ht hK hE hz hG (List.mem_of_getElem? (i := 9) rfl) hl.1 d_RR_item_91 d_RR_item_94 d_RR_item_95 d_RR_item_97 d_RR_item_100 (hout9 _) ⟨(by first | decide | omega | (dsimp only [headSpec]; omega)), (by first | decide | omega | (dsimp only [headSpec]; omega)), (by first | decide | omega | (dsimp only [headSpec]; omega)), (by first | decide | omega | (dsimp only [headSpec]; omega))⟩ ⟨(by first | decide | omega | (dsimp only [headSpec]; omega)), (by first | decide | omega | (dsimp only [headSpec]; omega))⟩ hlocks
      · have c_21 : ¬ kd = 2 := mt (nI_eq (by omega) (by omega)).mpr c_21
        refine lv_iload_n hx hb d_RR_item_24 rfl (lv_at hl 1 rfl) ?_
        refine lv_iconst (v := nI 3) hx hb d_RR_item_25 (by decide) ?_
        refine lv_icmp_ne (tgt := 33) hx hb d_RR_item_26 (by decide) (fun c_26 => ?_) (fun c_26 => ?_)
        · have c_26 : ¬ kd = 3 := mt (nI_eq (by omega) (by omega)).mpr c_26
          omega
        · have c_26 : kd = 3 :=  (nI_eq (by omega) (by omega)).mp c_26
          refine lv_iconst (v := nI 1) hx hb d_RR_item_29 (by decide) ?_
          refine lv_goto (tgt := 34) hx hb d_RR_item_30 (by decide) ?_
          refine lv_istore (lv' := [(6, .int (nI 1)), (0, .ref rr), (1, .int (nI kd)), (2, .int (nI 0)), (3, .int y), (4, .int z), (5, .int u)]) hx hb d_RR_item_34 hl (by decide) rfl (fun ls hl => ?_)
          refine lv_iload hx hb d_RR_item_36 (lv_at hl 0 rfl) ?_
          refine lv_if_eq (tgt := 53) hx hb d_RR_item_38 (by decide) (fun c_38 => ?_) (fun c_38 => ?_)
          · exact absurd c_38 (by decide)
          · have c_38 : ¬ 1 = 0 := gs_zn (by omega) c_38
            refine lv_iload_n hx hb d_RR_item_41 rfl (lv_at hl 3 rfl) ?_
            refine lv_iload_n hx hb d_RR_item_42 rfl (lv_at hl 4 rfl) ?_
            refine lv_iload hx hb d_RR_item_43 (lv_at hl 5 rfl) ?_
            refine lv_iload hx hb d_RR_item_45 (lv_at hl 6 rfl) ?_
            refine gs_callSpv (As := [.int (nI 0), .int y, .int z, .int u]) (rest := []) ⟨hx, hb, hml, hown, hts⟩ hK hE hz hG hS (c_RR_requireComparison l X σ ((nI 0)) (y) (z) (u) rfl hok) ⟨rfl, rfl⟩ mS_RR_requireComparison w_532 rfl hl.1 rfl (Nat.le_of_ble_eq_true rfl) ⟨(by first | decide | omega | (dsimp only [headSpec]; omega)), (by first | decide | omega | (dsimp only [headSpec]; omega))⟩ ⟨(by first | decide | omega | (dsimp only [headSpec]; omega)), (by first | decide | omega | (dsimp only [headSpec]; omega))⟩ d_RR_item_47 ?_
            refine lv_goto (tgt := 63) hx hb d_RR_item_50 (by decide) ?_
            refine lv_aload_n hx hb d_RR_item_63 rfl (lv_at hl 1 rfl) ?_
            refine gs_get hx hb ht hown hK hG k_RR x0 5 (by decide) w_142 rfl d_RR_item_64 ?_
            refine lv_ifnonnull (tgt := 80) hx hb d_RR_item_67 (by decide) ?_
            refine lv_aload_n hx hb d_RR_item_80 rfl (lv_at hl 1 rfl) ?_
            refine gs_get hx hb ht hown hK hG k_RR x0 5 (by decide) w_142 rfl d_RR_item_81 ?_
            refine lv_iload_n hx hb d_RR_item_84 rfl (lv_at hl 2 rfl) ?_
            refine gs_callVp (As := [.int (nI kd)]) (rest := []) ⟨hx, hb, hml, hown, hts⟩ hK hE hz hG hS (c_RU_hasRoomFor_p l X σ d hd ho ck kf n k kd r0 (by omega) (by omega) (by omega)) ⟨rfl, rfl⟩ mV_RU_hasRoomFor w_537 r0 rfl rfl hl.1 rfl (Nat.le_of_ble_eq_true rfl) ⟨(by first | decide | omega | (dsimp only [headSpec]; omega)), (by first | decide | omega | (dsimp only [headSpec]; omega))⟩ ⟨(by first | decide | omega | (dsimp only [headSpec]; omega)), (by first | decide | omega | (dsimp only [headSpec]; omega))⟩ d_RR_item_85 (fun r_85 hp_85 => ?_)
            refine gs_top (show r_85 = (bI (decide (n + k < 6 ∧ (kd ≠ 0 ∨ n < 3)))) from hp_85) ?_
            refine lv_if_ne (tgt := 101) hx hb d_RR_item_88 (by decide) (fun c_88 => ?_) (fun c_88 => ?_)
            · exact absurd (of_decide_eq_true (bI_n0 c_88)) hfu
            · exact gs_thrS hx hb hml htr hown ht hK hE hz hG (List.mem_of_getElem? (i := 9) rfl) hl.1 d_RR_item_91 d_RR_item_94 d_RR_item_95 d_RR_item_97 d_RR_item_100 (hout9 _) ⟨(by first | decide | omega | (dsimp only [headSpec]; omega)), (by first | decide | omega | (dsimp only [headSpec]; omega)), (by first | decide | omega | (dsimp only [headSpec]; omega)), (by first | decide | omega | (dsimp only [headSpec]; omega))⟩ ⟨(by first | decide | omega | (dsimp only [headSpec]; omega)), (by first | decide | omega | (dsimp only [headSpec]; omega))⟩ hlocks
    · have c_6 : ¬ kd ≤ 3 := mt (nI_leI (by omega) (by omega)).mpr c_6
      omega
set_option maxHeartbeats 4000000 in
set_option maxRecDepth 100000 in
/-- RuleRounds.item, refused (f), a tuple -/
theorem c_RR_item_tf (l : Launch) (X : gs_X) (σ : gs_St) (rr bk tu ma dv co ru sr nr nq fc : Nat) (sc : Int32) (cf : Nat → Int32) (cw : Nat → Nat) (rl : Nat) (d hd ho ck kf n k : Nat) (kd : Nat) (y z u : Int32)
    (htr : l.stackTraces = false) (x0 : σ rr = some (gs_ob 0 [.ref bk, .ref tu, .ref ma, .ref dv, .int (nI fc), .ref d])) (x1 : σ bk = some (gs_ob 5 [.ref co, .ref ru, .ref sr, .int (nI nr), .int (nI nq), .int sc])) (hnr : nr ≤ 12) (x2 : σ co = some (gs_ia X 12 cf)) (hrl : rl < nr) (hcf : cf rl = nI (cw rl)) (hcw : cw rl ≤ 3) (r0 : σ d = some (gs_ob 4 [.ref hd, .ref ho, .ref ck, .int (nI n), .int (nI k), .ref kf])) (hn : n ≤ 3) (hk : k ≤ 6) (hkd : kd ≤ 1) (hok : wi3 72 (cw rl) y z u = true) (hfu : ¬ (n + k < 6 ∧ (kd ≠ 0 ∨ n < 3))) : gs_Mt l X y_RR_item b_RR_item 7 (some .int) ({ frames := 6, cells := 1, slots := 6, locals := 90 }) σ [.ref rr, .int (nI kd), .int (nI rl), .int y, .int z, .int u] xS := by
  refine gs_MetT.ofW (cc := b_RR_item) (maxL := 7) (ret := (some .int)) (by decide) rfl ?_
  intro p e s m args below meth c s₁ B₀ hml hv
  obtain ⟨rfl, hK, hG, hz, hE⟩ := hv
  have hx := B₀.exec
  have hb := B₀.bytes
  have hr := B₀.returns
  have hts := atoms_spec (ws := gs_ws y_RR_item b_RR_item 7 (some .int)) B₀.pre
  have ht : ∀ w ∈ gs_w, w.before _ s = true := fun w h => hts w (List.mem_cons_of_mem _ h)
  have hown : s.vm.findClass R_RR = some m.cls := findClass_of_methodNamed B₀.named
  have hlocks := B₀.notSynchronized
  have hout9 : ∀ pc, ∀ x ∈ c.exceptionTable.toList, covers x pc = false := covers_of_empty (B₀.noHandlers (hts _ List.mem_cons_self))
  have hA : ∀ q : Nat, s.heap.size ≤ q → gs_A X q := fun q h => Nat.le_trans hz h
  have hS : va_S (gs_A X) s.heap s.heap [] := va_S.rf
  have hl := lv_entry ([.ref rr, .int (nI kd), .int (nI rl), .int y, .int z, .int u]) (n := 7) (Nat.le_of_ble_eq_true rfl)
  rw [lg_entry_eq]
  generalize (lg_sl ([.ref rr, .int (nI kd), .int (nI rl), .int y, .int z, .int u]) ++ List.replicate (7 - (lg_sl ([.ref rr, .int (nI kd), .int (nI rl), .int y, .int z, .int u])).length) Slot.unset).toArray = ls at hl ⊢
  have hl : lv_has ls 7 [(0, .ref rr), (1, .int (nI kd)), (2, .int (nI rl)), (3, .int y), (4, .int z), (5, .int u)] := hl
  refine lv_iload_n hx hb d_RR_item_0 rfl (lv_at hl 1 rfl) ?_
  refine lv_if_lt (tgt := 9) hx hb d_RR_item_1 (by decide) (fun c_1 => ?_) (fun c_1 => ?_)
  · exact absurd c_1 (nI_pos (by omega))
    
  · refine lv_iload_n hx hb d_RR_item_4 rfl (lv_at hl 1 rfl) ?_
    refine lv_iconst (v := nI 3) hx hb d_RR_item_5 (by decide) ?_
    refine lv_icmp_le (tgt := 19) hx hb d_RR_item_6 (by decide) (fun c_6 => ?_) (fun c_6 => ?_)
    · have c_6 : kd ≤ 3 := (nI_leI (by omega) (by omega)).mp c_6
      refine lv_iload_n hx hb d_RR_item_19 rfl (lv_at hl 1 rfl) ?_
      refine lv_iconst (v := nI 2) hx hb d_RR_item_20 (by decide) ?_
      refine lv_icmp_eq (tgt := 29) hx hb d_RR_item_21 (by decide) (fun c_21 => ?_) (fun c_21 => ?_)
      · have c_21 : kd = 2 :=  (nI_eq (by omega) (by omega)).mp c_21
        omega
      · have c_21 : ¬ kd = 2 := mt (nI_eq (by omega) (by omega)).mpr c_21
        refine lv_iload_n hx hb d_RR_item_24 rfl (lv_at hl 1 rfl) ?_
        refine lv_iconst (v := nI 3) hx hb d_RR_item_25 (by decide) ?_
        refine lv_icmp_ne (tgt := 33) hx hb d_RR_item_26 (by decide) (fun c_26 => ?_) (fun c_26 => ?_)
        · have c_26 : ¬ kd = 3 := mt (nI_eq (by omega) (by omega)).mpr c_26
          refine lv_iconst (v := nI 0) hx hb d_RR_item_33 (by decide) ?_
          refine lv_istore (lv' := [(6, .int (nI 0)), (0, .ref rr), (1, .int (nI kd)), (2, .int (nI rl)), (3, .int y), (4, .int z), (5, .int u)]) hx hb d_RR_item_34 hl (by decide) rfl (fun ls hl => ?_)
          refine lv_iload hx hb d_RR_item_36 (lv_at hl 0 rfl) ?_
          refine lv_if_eq (tgt := 53) hx hb d_RR_item_38 (by decide) (fun c_38 => ?_) (fun c_38 => ?_)
          · have c_38 : 0 = 0 := gs_z (by omega) c_38
            refine lv_aload_n hx hb d_RR_item_53 rfl (lv_at hl 1 rfl) ?_
            refine lv_iload_n hx hb d_RR_item_54 rfl (lv_at hl 3 rfl) ?_
            refine lv_iload_n hx hb d_RR_item_55 rfl (lv_at hl 4 rfl) ?_
            refine lv_iload hx hb d_RR_item_56 (lv_at hl 5 rfl) ?_
            refine lv_iload hx hb d_RR_item_58 (lv_at hl 6 rfl) ?_
            refine gs_callVpv (As := [.int (nI rl), .int y, .int z, .int u]) (rest := []) ⟨hx, hb, hml, hown, hts⟩ hK hE hz hG hS (c_RR_requireTerms l X σ rr bk tu ma dv co ru sr nr nq fc sc (.ref d) cf cw rl (y) (z) (u) x0 x1 hnr x2 hrl hcf hcw hok) ⟨rfl, rfl⟩ mV_RR_requireTerms w_430 x0 rfl rfl hl.1 rfl (Nat.le_of_ble_eq_true rfl) ⟨(by first | decide | omega | (dsimp only [headSpec]; omega)), (by first | decide | omega | (dsimp only [headSpec]; omega))⟩ ⟨(by first | decide | omega | (dsimp only [headSpec]; omega)), (by first | decide | omega | (dsimp only [headSpec]; omega))⟩ d_RR_item_60 ?_
            refine lv_aload_n hx hb d_RR_item_63 rfl (lv_at hl 1 rfl) ?_
            refine gs_get hx hb ht hown hK hG k_RR x0 5 (by decide) w_142 rfl d_RR_item_64 ?_
            refine lv_ifnonnull (tgt := 80) hx hb d_RR_item_67 (by decide) ?_
            refine lv_aload_n hx hb d_RR_item_80 rfl (lv_at hl 1 rfl) ?_
            refine gs_get hx hb ht hown hK hG k_RR x0 5 (by decide) w_142 rfl d_RR_item_81 ?_
            refine lv_iload_n hx hb d_RR_item_84 rfl (lv_at hl 2 rfl) ?_
            refine gs_callVp (As := [.int (nI kd)]) (rest := []) ⟨hx, hb, hml, hown, hts⟩ hK hE hz hG hS (c_RU_hasRoomFor_p l X σ d hd ho ck kf n k kd r0 (by omega) (by omega) (by omega)) ⟨rfl, rfl⟩ mV_RU_hasRoomFor w_537 r0 rfl rfl hl.1 rfl (Nat.le_of_ble_eq_true rfl) ⟨(by first | decide | omega | (dsimp only [headSpec]; omega)), (by first | decide | omega | (dsimp only [headSpec]; omega))⟩ ⟨(by first | decide | omega | (dsimp only [headSpec]; omega)), (by first | decide | omega | (dsimp only [headSpec]; omega))⟩ d_RR_item_85 (fun r_85 hp_85 => ?_)
            refine gs_top (show r_85 = (bI (decide (n + k < 6 ∧ (kd ≠ 0 ∨ n < 3)))) from hp_85) ?_
            refine lv_if_ne (tgt := 101) hx hb d_RR_item_88 (by decide) (fun c_88 => ?_) (fun c_88 => ?_)
            · exact absurd (of_decide_eq_true (bI_n0 c_88)) hfu
            · exact gs_thrS hx hb hml htr hown ht hK hE hz hG (List.mem_of_getElem? (i := 9) rfl) hl.1 d_RR_item_91 d_RR_item_94 d_RR_item_95 d_RR_item_97 d_RR_item_100 (hout9 _) ⟨(by first | decide | omega | (dsimp only [headSpec]; omega)), (by first | decide | omega | (dsimp only [headSpec]; omega)), (by first | decide | omega | (dsimp only [headSpec]; omega)), (by first | decide | omega | (dsimp only [headSpec]; omega))⟩ ⟨(by first | decide | omega | (dsimp only [headSpec]; omega)), (by first | decide | omega | (dsimp only [headSpec]; omega))⟩ hlocks
          · exact absurd c_38 (by decide)
        · have c_26 : kd = 3 :=  (nI_eq (by omega) (by omega)).mp c_26
          omega
    · have c_6 : ¬ kd ≤ 3 := mt (nI_leI (by omega) (by omega)).mpr c_6
      omega
set_option maxHeartbeats 4000000 in
set_option maxRecDepth 100000 in
/-- RuleRounds.rule without a head -/
theorem c_RR_rule_n (l : Launch) (X : gs_X) (σ : gs_St) (rr bk tu ma dv co ru sr nr nq fc : Nat) (sc : Int32)
    (htr : l.stackTraces = false) (x0 : σ rr = some (gs_ob 0 [.ref bk, .ref tu, .ref ma, .ref dv, .int (nI fc), .null])) (x1 : σ bk = some (gs_ob 5 [.ref co, .ref ru, .ref sr, .int (nI nr), .int (nI nq), .int sc])) (hnr : nr ≤ 12) : gs_Mt l X y_RR_rule b_RR_rule 1 (some .int) ({ frames := 6, cells := 1, slots := 6, locals := 90 }) σ [.ref rr] xS := by
  refine gs_MetT.ofW (cc := b_RR_rule) (maxL := 1) (ret := (some .int)) (by decide) rfl ?_
  intro p e s m args below meth c s₁ B₀ hml hv
  obtain ⟨rfl, hK, hG, hz, hE⟩ := hv
  have hx := B₀.exec
  have hb := B₀.bytes
  have hr := B₀.returns
  have hts := atoms_spec (ws := gs_ws y_RR_rule b_RR_rule 1 (some .int)) B₀.pre
  have ht : ∀ w ∈ gs_w, w.before _ s = true := fun w h => hts w (List.mem_cons_of_mem _ h)
  have hown : s.vm.findClass R_RR = some m.cls := findClass_of_methodNamed B₀.named
  have hlocks := B₀.notSynchronized
  have hout9 : ∀ pc, ∀ x ∈ c.exceptionTable.toList, covers x pc = false := covers_of_empty (B₀.noHandlers (hts _ List.mem_cons_self))
  have hA : ∀ q : Nat, s.heap.size ≤ q → gs_A X q := fun q h => Nat.le_trans hz h
  have hS : va_S (gs_A X) s.heap s.heap [] := va_S.rf
  have hl := lv_entry ([.ref rr]) (n := 1) (Nat.le_of_ble_eq_true rfl)
  rw [lg_entry_eq]
  generalize (lg_sl ([.ref rr]) ++ List.replicate (1 - (lg_sl ([.ref rr])).length) Slot.unset).toArray = ls at hl ⊢
  have hl : lv_has ls 1 [(0, .ref rr)] := hl
  refine lv_aload_n hx hb d_RR_rule_0 rfl (lv_at hl 0 rfl) ?_
  refine gs_get hx hb ht hown hK hG k_RR x0 5 (by decide) w_142 rfl d_RR_rule_1 ?_
  refine lv_ifnonnullN hx hb d_RR_rule_4 ?_
  exact gs_thrS hx hb hml htr hown ht hK hE hz hG (List.mem_of_getElem? (i := 8) rfl) hl.1 d_RR_rule_7 d_RR_rule_10 d_RR_rule_11 d_RR_rule_13 d_RR_rule_16 (hout9 _) ⟨(by first | decide | omega | (dsimp only [headSpec]; omega)), (by first | decide | omega | (dsimp only [headSpec]; omega)), (by first | decide | omega | (dsimp only [headSpec]; omega)), (by first | decide | omega | (dsimp only [headSpec]; omega))⟩ ⟨(by first | decide | omega | (dsimp only [headSpec]; omega)), (by first | decide | omega | (dsimp only [headSpec]; omega))⟩ hlocks
set_option maxHeartbeats 4000000 in
set_option maxRecDepth 100000 in
/-- RuleRounds.rule, too many -/
theorem c_RR_rule_f (l : Launch) (X : gs_X) (σ : gs_St) (rr bk tu ma dv co ru sr nr nq fc : Nat) (sc : Int32) (d hd ho ck kf n k : Nat)
    (htr : l.stackTraces = false) (x0 : σ rr = some (gs_ob 0 [.ref bk, .ref tu, .ref ma, .ref dv, .int (nI fc), .ref d])) (x1 : σ bk = some (gs_ob 5 [.ref co, .ref ru, .ref sr, .int (nI nr), .int (nI nq), .int sc])) (hnr : nr ≤ 12) (r0 : σ d = some (gs_ob 4 [.ref hd, .ref ho, .ref ck, .int (nI n), .int (nI k), .ref kf])) (hn : n ≤ 3) (hk : k ≤ 6) (hfu : nq = 24) : gs_Mt l X y_RR_rule b_RR_rule 1 (some .int) ({ frames := 6, cells := 1, slots := 6, locals := 90 }) σ [.ref rr] xS := by
  refine gs_MetT.ofW (cc := b_RR_rule) (maxL := 1) (ret := (some .int)) (by decide) rfl ?_
  intro p e s m args below meth c s₁ B₀ hml hv
  obtain ⟨rfl, hK, hG, hz, hE⟩ := hv
  have hx := B₀.exec
  have hb := B₀.bytes
  have hr := B₀.returns
  have hts := atoms_spec (ws := gs_ws y_RR_rule b_RR_rule 1 (some .int)) B₀.pre
  have ht : ∀ w ∈ gs_w, w.before _ s = true := fun w h => hts w (List.mem_cons_of_mem _ h)
  have hown : s.vm.findClass R_RR = some m.cls := findClass_of_methodNamed B₀.named
  have hlocks := B₀.notSynchronized
  have hout9 : ∀ pc, ∀ x ∈ c.exceptionTable.toList, covers x pc = false := covers_of_empty (B₀.noHandlers (hts _ List.mem_cons_self))
  have hA : ∀ q : Nat, s.heap.size ≤ q → gs_A X q := fun q h => Nat.le_trans hz h
  have hS : va_S (gs_A X) s.heap s.heap [] := va_S.rf
  have hl := lv_entry ([.ref rr]) (n := 1) (Nat.le_of_ble_eq_true rfl)
  rw [lg_entry_eq]
  generalize (lg_sl ([.ref rr]) ++ List.replicate (1 - (lg_sl ([.ref rr])).length) Slot.unset).toArray = ls at hl ⊢
  have hl : lv_has ls 1 [(0, .ref rr)] := hl
  refine lv_aload_n hx hb d_RR_rule_0 rfl (lv_at hl 0 rfl) ?_
  refine gs_get hx hb ht hown hK hG k_RR x0 5 (by decide) w_142 rfl d_RR_rule_1 ?_
  refine lv_ifnonnull (tgt := 17) hx hb d_RR_rule_4 (by decide) ?_
  refine lv_aload_n hx hb d_RR_rule_17 rfl (lv_at hl 0 rfl) ?_
  refine gs_get hx hb ht hown hK hG k_RR x0 0 (by decide) w_137 rfl d_RR_rule_18 ?_
  refine gs_get hx hb ht hown hK hG k_RB x1 4 (by decide) w_44 rfl d_RR_rule_21 ?_
  refine lv_bipush (v := nI 24) hx hb d_RR_rule_24 (by decide) ?_
  refine lv_icmp_lt (tgt := 39) hx hb d_RR_rule_26 (by decide) (fun c_26 => ?_) (fun c_26 => ?_)
  · have c_26 : nq < 24 := (nI_ltI (by omega) (by omega)).mp c_26
    omega
  · have c_26 : ¬ nq < 24 := mt (nI_ltI (by omega) (by omega)).mpr c_26
    exact gs_thrS hx hb hml htr hown ht hK hE hz hG (List.mem_of_getElem? (i := 10) rfl) hl.1 d_RR_rule_29 d_RR_rule_32 d_RR_rule_33 d_RR_rule_35 d_RR_rule_38 (hout9 _) ⟨(by first | decide | omega | (dsimp only [headSpec]; omega)), (by first | decide | omega | (dsimp only [headSpec]; omega)), (by first | decide | omega | (dsimp only [headSpec]; omega)), (by first | decide | omega | (dsimp only [headSpec]; omega))⟩ ⟨(by first | decide | omega | (dsimp only [headSpec]; omega)), (by first | decide | omega | (dsimp only [headSpec]; omega))⟩ hlocks
