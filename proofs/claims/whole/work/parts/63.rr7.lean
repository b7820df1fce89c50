set_option maxHeartbeats 4000000 in
set_option maxRecDepth 100000 in
/-- RuleRounds.relation of no number of columns -/
theorem c_RR_relation_t (l : Launch) (X : gs_X) (σ : gs_St) (rr bk tu ma dv co ru sr nr nq fc : Nat) (sc : Int32) (dw : Value) (x : Int32)
    (htr : l.stackTraces = false) (x0 : σ rr = some (gs_ob 0 [.ref bk, .ref tu, .ref ma, .ref dv, .int (nI fc), dw])) (x1 : σ bk = some (gs_ob 5 [.ref co, .ref ru, .ref sr, .int (nI nr), .int (nI nq), .int sc])) (hnr : nr ≤ 12) (hok : ¬ (¬ x < nI 1 ∧ x ≤ nI 3)) : gs_Mt l X y_RR_relation b_RR_relation 2 (some .int) ({ frames := 6, cells := 1, slots := 6, locals := 90 }) σ [.ref rr, .int x] xI := by
  refine gs_MetT.ofW (cc := b_RR_relation) (maxL := 2) (ret := (some .int)) (by decide) rfl ?_
  intro p e s m args below meth c s₁ B₀ hml hv
  obtain ⟨rfl, hK, hG, hz, hE⟩ := hv
  have hx := B₀.exec
  have hb := B₀.bytes
  have hr := B₀.returns
  have hts := atoms_spec (ws := gs_ws y_RR_relation b_RR_relation 2 (some .int)) B₀.pre
  have ht : ∀ w ∈ gs_w, w.before _ s = true := fun w h => hts w (List.mem_cons_of_mem _ h)
  have hown : s.vm.findClass R_RR = some m.cls := findClass_of_methodNamed B₀.named
  have hlocks := B₀.notSynchronized
  have hout9 : ∀ pc, ∀ x ∈ c.exceptionTable.toList, covers x pc = false := covers_of_empty (B₀.noHandlers (hts _ List.mem_cons_self))
  have hA : ∀ q : Nat, s.heap.size ≤ q → gs_A X q := fun q h => Nat.le_trans hz h
  have hS : va_S (gs_A X) s.heap s.heap [] := va_S.rf
  have hl := lv_entry ([.ref rr, .int x]) (n := 2) (Nat.le_of_ble_eq_true rfl)
  rw [lg_entry_eq]
  generalize (lg_sl ([.ref rr, .int x]) ++ List.replicate (2 - (lg_sl ([.ref rr, .int x])).length) Slot.unset).toArray = ls at hl ⊢
  have hl : lv_has ls 2 [(0, .ref rr), (1, .int x)] := hl
  refine lv_iload_n hx hb d_RR_relation_0 rfl (lv_at hl 1 rfl) ?_
  refine lv_iconst (v := nI 1) hx hb d_RR_relation_1 (by decide) ?_
  refine lv_icmp_lt (tgt := 10) hx hb d_RR_relation_2 (by decide) (fun c_2 => ?_) (fun c_2 => ?_)
  · exact gs_thrI hx hb hml htr hown ht hK hE hz hG (List.mem_of_getElem? (i := 0) rfl) hl.1 d_RR_relation_10 d_RR_relation_13 d_RR_relation_14 d_RR_relation_16 d_RR_relation_19 (hout9 _) ⟨(by first | decide | omega | (dsimp only [headSpec]; omega)), (by first | decide | omega | (dsimp only [headSpec]; omega)), (by first | decide | omega | (dsimp only [headSpec]; omega)), (by first | decide | omega | (dsimp only [headSpec]; omega))⟩ ⟨(by first | decide | omega | (dsimp only [headSpec]; omega)), (by first | decide | omega | (dsimp only [headSpec]; omega))⟩ hlocks
  · refine lv_iload_n hx hb d_RR_relation_5 rfl (lv_at hl 1 rfl) ?_
    refine lv_iconst (v := nI 3) hx hb d_RR_relation_6 (by decide) ?_
    refine lv_icmp_le (tgt := 20) hx hb d_RR_relation_7 (by decide) (fun c_7 => ?_) (fun c_7 => ?_)
    · exact absurd ⟨c_2, c_7⟩ hok
    · exact gs_thrI hx hb hml htr hown ht hK hE hz hG (List.mem_of_getElem? (i := 0) rfl) hl.1 d_RR_relation_10 d_RR_relation_13 d_RR_relation_14 d_RR_relation_16 d_RR_relation_19 (hout9 _) ⟨(by first | decide | omega | (dsimp only [headSpec]; omega)), (by first | decide | omega | (dsimp only [headSpec]; omega)), (by first | decide | omega | (dsimp only [headSpec]; omega)), (by first | decide | omega | (dsimp only [headSpec]; omega))⟩ ⟨(by first | decide | omega | (dsimp only [headSpec]; omega)), (by first | decide | omega | (dsimp only [headSpec]; omega))⟩ hlocks
set_option maxHeartbeats 4000000 in
set_option maxRecDepth 100000 in
/-- RuleRounds.relation, too many -/
theorem c_RR_relation_s (l : Launch) (X : gs_X) (σ : gs_St) (rr bk tu ma dv co ru sr nr nq fc : Nat) (sc : Int32) (dw : Value) (wd : Nat)
    (htr : l.stackTraces = false) (x0 : σ rr = some (gs_ob 0 [.ref bk, .ref tu, .ref ma, .ref dv, .int (nI fc), dw])) (x1 : σ bk = some (gs_ob 5 [.ref co, .ref ru, .ref sr, .int (nI nr), .int (nI nq), .int sc])) (hnr : nr ≤ 12) (hw1 : 1 ≤ wd) (hw3 : wd ≤ 3) (hok : nr = 12) : gs_Mt l X y_RR_relation b_RR_relation 2 (some .int) ({ frames := 6, cells := 1, slots := 6, locals := 90 }) σ [.ref rr, .int (nI wd)] xS := by
  refine gs_MetT.ofW (cc := b_RR_relation) (maxL := 2) (ret := (some .int)) (by decide) rfl ?_
  intro p e s m args below meth c s₁ B₀ hml hv
  obtain ⟨rfl, hK, hG, hz, hE⟩ := hv
  have hx := B₀.exec
  have hb := B₀.bytes
  have hr := B₀.returns
  have hts := atoms_spec (ws := gs_ws y_RR_relation b_RR_relation 2 (some .int)) B₀.pre
  have ht : ∀ w ∈ gs_w, w.before _ s = true := fun w h => hts w (List.mem_cons_of_mem _ h)
  have hown : s.vm.findClass R_RR = some m.cls := findClass_of_methodNamed B₀.named
  have hlocks := B₀.notSynchronized
  have hout9 : ∀ pc, ∀ x ∈ c.exceptionTable.toList, covers x pc = false := covers_of_empty (B₀.noHandlers (hts _ List.mem_cons_self))
  have hA : ∀ q : Nat, s.heap.size ≤ q → gs_A X q := fun q h => Nat.le_trans hz h
  have hS : va_S (gs_A X) s.heap s.heap [] := va_S.rf
  have hl := lv_entry ([.ref rr, .int (nI wd)]) (n := 2) (Nat.le_of_ble_eq_true rfl)
  rw [lg_entry_eq]
  generalize (lg_sl ([.ref rr, .int (nI wd)]) ++ List.replicate (2 - (lg_sl ([.ref rr, .int (nI wd)])).length) Slot.unset).toArray = ls at hl ⊢
  have hl : lv_has ls 2 [(0, .ref rr), (1, .int (nI wd))] := hl
  refine lv_iload_n hx hb d_RR_relation_0 rfl (lv_at hl 1 rfl) ?_
  refine lv_iconst (v := nI 1) hx hb d_RR_relation_1 (by decide) ?_
  refine lv_icmp_lt (tgt := 10) hx hb d_RR_relation_2 (by decide) (fun c_2 => ?_) (fun c_2 => ?_)
  · have c_2 : wd < 1 := (nI_ltI (by omega) (by omega)).mp c_2
    omega
  · have c_2 : ¬ wd < 1 := mt (nI_ltI (by omega) (by omega)).mpr c_2
    refine lv_iload_n hx hb d_RR_relation_5 rfl (lv_at hl 1 rfl) ?_
    refine lv_iconst (v := nI 3) hx hb d_RR_relation_6 (by decide) ?_
    refine lv_icmp_le (tgt := 20) hx hb d_RR_relation_7 (by decide) (fun c_7 => ?_) (fun c_7 => ?_)
    · have c_7 : wd ≤ 3 := (nI_leI (by omega) (by omega)).mp c_7
      refine lv_aload_n hx hb d_RR_relation_20 rfl (lv_at hl 0 rfl) ?_
      refine gs_get hx hb ht hown hK hG k_RR x0 0 (by decide) w_137 rfl d_RR_relation_21 ?_
      refine gs_get hx hb ht hown hK hG k_RB x1 3 (by decide) w_41 rfl d_RR_relation_24 ?_
      refine lv_bipush (v := nI 12) hx hb d_RR_relation_27 (by decide) ?_
      refine lv_icmp_lt (tgt := 42) hx hb d_RR_relation_29 (by decide) (fun c_29 => ?_) (fun c_29 => ?_)
      · have c_29 : nr < 12 := (nI_ltI (by omega) (by omega)).mp c_29
        omega
      · have c_29 : ¬ nr < 12 := mt (nI_ltI (by omega) (by omega)).mpr c_29
        exact gs_thrS hx hb hml htr hown ht hK hE hz hG (List.mem_of_getElem? (i := 1) rfl) hl.1 d_RR_relation_32 d_RR_relation_35 d_RR_relation_36 d_RR_relation_38 d_RR_relation_41 (hout9 _) ⟨(by first | decide | omega | (dsimp only [headSpec]; omega)), (by first | decide | omega | (dsimp only [headSpec]; omega)), (by first | decide | omega | (dsimp only [headSpec]; omega)), (by first | decide | omega | (dsimp only [headSpec]; omega))⟩ ⟨(by first | decide | omega | (dsimp only [headSpec]; omega)), (by first | decide | omega | (dsimp only [headSpec]; omega))⟩ hlocks
    · have c_7 : ¬ wd ≤ 3 := mt (nI_leI (by omega) (by omega)).mpr c_7
      omega
set_option maxHeartbeats 4000000 in
set_option maxRecDepth 100000 in
/-- RuleRounds.fact of what is one -/
theorem c_RR_fact_o (l : Launch) (X : gs_X) (σ : gs_St) (rr dv bk tu ma la cm ac ai ab lc li lb mc mi mb va co ru sr nr sa rc fc : Nat) (dw : Value) (nw : Bool) (sc : Int32) (E : List En) (Lt : List Nat) (v S : Nat → Nat) (Q : List Rl) (cf : Nat → Int32) (cw : Nat → Nat) (rl a b cz : Nat)
    (hnd : [ac, ai, ab, lc, mc, mi, mb].Nodup) (hnd2 : [tu, la, cm].Nodup) (x0 : σ rr = some (gs_ob 0 [.ref bk, .ref tu, .ref ma, .ref dv, .int (nI fc), dw])) (hdv : dvA X σ dv bk tu ma la cm ac ai ab lc li lb mc mi mb va E Lt v sa nw rc) (hbk : bkA X σ bk co ru sr nr sc Q S) (x2 : σ co = some (gs_ia X 12 cf)) (hnr : nr ≤ 12) (hrl : rl < nr) (hcf : cf rl = nI (cw rl)) (hcw : cw rl ≤ 3) (ha : a < 64) (hb9 : b < 64) (hc9 : cz < 64) (hok : wi3 64 (cw rl) (nI a) (nI b) (nI cz) = true) (hst9 : (cds E).Pairwise (· < ·)) (hin : (∃ x ∈ E, x.1 = ((rl * 64 + a) * 64 + b) * 64 + cz ∧ x.2.1 = 0)) : gs_Mp l X y_RR_fact b_RR_fact 6 (some .boolean) ({ frames := 3, cells := 0, slots := 0, locals := 69 }) σ [.ref rr, .int (nI rl), .int (nI a), .int (nI b), .int (nI cz)] (fun r => r = nI 0) := by
  refine Met.ofW (cc := b_RR_fact) (maxL := 6) (ret := (some .boolean)) (by decide) rfl ?_
  intro p e s m args below meth c s₁ B₀ hml hv
  obtain ⟨rfl, hK, hG, hz, hE⟩ := hv
  have hx := B₀.exec
  have hb := B₀.bytes
  have hr := B₀.returns
  have hts := atoms_spec (ws := gs_ws y_RR_fact b_RR_fact 6 (some .boolean)) B₀.pre
  have ht : ∀ w ∈ gs_w, w.before _ s = true := fun w h => hts w (List.mem_cons_of_mem _ h)
  have hown : s.vm.findClass R_RR = some m.cls := findClass_of_methodNamed B₀.named
  have hlocks := B₀.notSynchronized
  have hA : ∀ q : Nat, s.heap.size ≤ q → gs_A X q := fun q h => Nat.le_trans hz h
  have hS : va_S (gs_A X) s.heap s.heap [] := va_S.rf
  have hl := lv_entry ([.ref rr, .int (nI rl), .int (nI a), .int (nI b), .int (nI cz)]) (n := 6) (Nat.le_of_ble_eq_true rfl)
  rw [lg_entry_eq]
  generalize (lg_sl ([.ref rr, .int (nI rl), .int (nI a), .int (nI b), .int (nI cz)]) ++ List.replicate (6 - (lg_sl ([.ref rr, .int (nI rl), .int (nI a), .int (nI b), .int (nI cz)])).length) Slot.unset).toArray = ls at hl ⊢
  have hl : lv_has ls 6 [(0, .ref rr), (1, .int (nI rl)), (2, .int (nI a)), (3, .int (nI b)), (4, .int (nI cz))] := hl
  obtain ⟨cs, ci, cr, ds, vs, a9, b9, c9, z9, d0, t0, t1, t2, t3, l0, l1, m0, m1, m2, m3, q0, q1, hB, hR, hl3, hs2, hn2, hds, hv⟩ := id hdv
  obtain ⟨fR, sf, k0, k2, k3, hQl, hsO, hQ⟩ := id hbk
  refine lv_aload_n hx hb d_RR_fact_0 rfl (lv_at hl 0 rfl) ?_
  refine lv_iload_n hx hb d_RR_fact_1 rfl (lv_at hl 1 rfl) ?_
  refine lv_iload_n hx hb d_RR_fact_2 rfl (lv_at hl 2 rfl) ?_
  refine lv_iload_n hx hb d_RR_fact_3 rfl (lv_at hl 3 rfl) ?_
  refine lv_iload hx hb d_RR_fact_4 (lv_at hl 4 rfl) ?_
  refine gs_callVpv (As := [.int (nI rl), .int (nI a), .int (nI b), .int (nI cz)]) (rest := []) ⟨hx, hb, hml, hown, hts⟩ hK hE hz hG hS (c_RR_requireTuple l X σ rr bk tu ma dv co ru sr nr Q.length fc sc dw cf cw rl (nI a) (nI b) (nI cz) x0 k0 hnr x2 hrl hcf hcw hok) ⟨rfl, rfl⟩ mV_RR_requireTuple w_387 x0 rfl rfl hl.1 rfl (Nat.le_of_ble_eq_true rfl) ⟨(by first | decide | omega | (dsimp only [headSpec]; omega)), (by first | decide | omega | (dsimp only [headSpec]; omega))⟩ ⟨(by first | decide | omega | (dsimp only [headSpec]; omega)), (by first | decide | omega | (dsimp only [headSpec]; omega))⟩ d_RR_fact_6 ?_
  refine lv_iload_n hx hb d_RR_fact_9 rfl (lv_at hl 1 rfl) ?_
  refine lv_iload_n hx hb d_RR_fact_10 rfl (lv_at hl 2 rfl) ?_
  refine lv_iload_n hx hb d_RR_fact_11 rfl (lv_at hl 3 rfl) ?_
  refine lv_iload hx hb d_RR_fact_12 (lv_at hl 4 rfl) ?_
  refine gs_callSp (As := [.int (nI rl), .int (nI a), .int (nI b), .int (nI cz)]) (rest := []) ⟨hx, hb, hml, hown, hts⟩ hK hE hz hG hS (c_RR_codeOf l X σ rl a b cz) ⟨rfl, rfl⟩ mS_RR_codeOf w_403 rfl hl.1 rfl (Nat.le_of_ble_eq_true rfl) ⟨(by first | decide | omega | (dsimp only [headSpec]; omega)), (by first | decide | omega | (dsimp only [headSpec]; omega))⟩ ⟨(by first | decide | omega | (dsimp only [headSpec]; omega)), (by first | decide | omega | (dsimp only [headSpec]; omega))⟩ d_RR_fact_14 (fun r_14 hp_14 => ?_)
  refine gs_top (show r_14 = (nI (((rl * 64 + a) * 64 + b) * 64 + cz)) from hp_14) ?_
  obtain ⟨cd, ecd⟩ : ∃ z, z = ((rl * 64 + a) * 64 + b) * 64 + cz := ⟨_, rfl⟩
  have hcd : cd < 2 ^ 30 := by omega
  refine gs_top (show nI (((rl * 64 + a) * 64 + b) * 64 + cz) = nI cd by rw [ecd]) ?_
  refine lv_istore (lv' := [(5, .int (nI cd)), (0, .ref rr), (1, .int (nI rl)), (2, .int (nI a)), (3, .int (nI b)), (4, .int (nI cz))]) hx hb d_RR_fact_17 hl (by decide) rfl (fun ls hl => ?_)
  refine lv_aload_n hx hb d_RR_fact_19 rfl (lv_at hl 1 rfl) ?_
  refine gs_get hx hb ht hown hK hG k_RR x0 1 (by decide) w_138 rfl d_RR_fact_20 ?_
  refine lv_iload hx hb d_RR_fact_23 (lv_at hl 0 rfl) ?_
  refine gs_callVp (As := [.int (nI cd)]) (rest := []) ⟨hx, hb, hml, hown, hts⟩ hK hE hz hG hS (c_TU_containsFact_p l X σ tu ac ai ab E cs ci cr cd hst9 hB hR hcd t0 t1 t2) ⟨rfl, rfl⟩ mV_TU_containsFact w_406 t0 rfl rfl hl.1 rfl (Nat.le_of_ble_eq_true rfl) ⟨(by first | decide | omega | (dsimp only [headSpec]; omega)), (by first | decide | omega | (dsimp only [headSpec]; omega))⟩ ⟨(by first | decide | omega | (dsimp only [headSpec]; omega)), (by first | decide | omega | (dsimp only [headSpec]; omega))⟩ d_RR_fact_25 (fun r_25 hp_25 => ?_)
  refine gs_top (show r_25 = (bI (decide (∃ x ∈ E, x.1 = cd ∧ x.2.1 = 0))) from hp_25) ?_
  refine lv_if_eq (tgt := 33) hx hb d_RR_fact_28 (by decide) (fun c_28 => ?_) (fun c_28 => ?_)
  · exact absurd (by rw [ecd]; exact hin) (of_decide_eq_false (bI_0 c_28))
  · refine lv_iconst (v := nI 0) hx hb d_RR_fact_31 (by decide) ?_
    exact gs_iretp (v := (nI 0)) hx hb hr rfl hlocks (Nat.zero_le _) (Nat.zero_le _) (rfl) d_RR_fact_32
set_option maxHeartbeats 4000000 in
set_option maxRecDepth 100000 in
/-- RuleRounds.drop of what is none -/
theorem c_RR_drop_o (l : Launch) (X : gs_X) (σ : gs_St) (rr dv bk tu ma la cm ac ai ab lc li lb mc mi mb va co ru sr nr sa rc fc : Nat) (dw : Value) (nw : Bool) (sc : Int32) (E : List En) (Lt : List Nat) (v S : Nat → Nat) (Q : List Rl) (cf : Nat → Int32) (cw : Nat → Nat) (rl a b cz : Nat)
    (hnd : [ac, ai, ab, lc, mc, mi, mb].Nodup) (hnd2 : [tu, la, cm].Nodup) (x0 : σ rr = some (gs_ob 0 [.ref bk, .ref tu, .ref ma, .ref dv, .int (nI fc), dw])) (hdv : dvA X σ dv bk tu ma la cm ac ai ab lc li lb mc mi mb va E Lt v sa nw rc) (hbk : bkA X σ bk co ru sr nr sc Q S) (x2 : σ co = some (gs_ia X 12 cf)) (hnr : nr ≤ 12) (hrl : rl < nr) (hcf : cf rl = nI (cw rl)) (hcw : cw rl ≤ 3) (ha : a < 64) (hb9 : b < 64) (hc9 : cz < 64) (hok : wi3 64 (cw rl) (nI a) (nI b) (nI cz) = true) (hst9 : (cds E).Pairwise (· < ·)) (hin : ¬ (∃ x ∈ E, x.1 = ((rl * 64 + a) * 64 + b) * 64 + cz ∧ x.2.1 = 0)) : gs_Mp l X y_RR_drop b_RR_drop 6 (some .boolean) ({ frames := 3, cells := 0, slots := 0, locals := 69 }) σ [.ref rr, .int (nI rl), .int (nI a), .int (nI b), .int (nI cz)] (fun r => r = nI 0) := by
  refine Met.ofW (cc := b_RR_drop) (maxL := 6) (ret := (some .boolean)) (by decide) rfl ?_
  intro p e s m args below meth c s₁ B₀ hml hv
  obtain ⟨rfl, hK, hG, hz, hE⟩ := hv
  have hx := B₀.exec
  have hb := B₀.bytes
  have hr := B₀.returns
  have hts := atoms_spec (ws := gs_ws y_RR_drop b_RR_drop 6 (some .boolean)) B₀.pre
  have ht : ∀ w ∈ gs_w, w.before _ s = true := fun w h => hts w (List.mem_cons_of_mem _ h)
  have hown : s.vm.findClass R_RR = some m.cls := findClass_of_methodNamed B₀.named
  have hlocks := B₀.notSynchronized
  have hA : ∀ q : Nat, s.heap.size ≤ q → gs_A X q := fun q h => Nat.le_trans hz h
  have hS : va_S (gs_A X) s.heap s.heap [] := va_S.rf
  have hl := lv_entry ([.ref rr, .int (nI rl), .int (nI a), .int (nI b), .int (nI cz)]) (n := 6) (Nat.le_of_ble_eq_true rfl)
  rw [lg_entry_eq]
  generalize (lg_sl ([.ref rr, .int (nI rl), .int (nI a), .int (nI b), .int (nI cz)]) ++ List.replicate (6 - (lg_sl ([.ref rr, .int (nI rl), .int (nI a), .int (nI b), .int (nI cz)])).length) Slot.unset).toArray = ls at hl ⊢
  have hl : lv_has ls 6 [(0, .ref rr), (1, .int (nI rl)), (2, .int (nI a)), (3, .int (nI b)), (4, .int (nI cz))] := hl
  obtain ⟨cs, ci, cr, ds, vs, a9, b9, c9, z9, d0, t0, t1, t2, t3, l0, l1, m0, m1, m2, m3, q0, q1, hB, hR, hl3, hs2, hn2, hds, hv⟩ := id hdv
  obtain ⟨fR, sf, k0, k2, k3, hQl, hsO, hQ⟩ := id hbk
  refine lv_aload_n hx hb d_RR_drop_0 rfl (lv_at hl 0 rfl) ?_
  refine lv_iload_n hx hb d_RR_drop_1 rfl (lv_at hl 1 rfl) ?_
  refine lv_iload_n hx hb d_RR_drop_2 rfl (lv_at hl 2 rfl) ?_
  refine lv_iload_n hx hb d_RR_drop_3 rfl (lv_at hl 3 rfl) ?_
  refine lv_iload hx hb d_RR_drop_4 (lv_at hl 4 rfl) ?_
  refine gs_callVpv (As := [.int (nI rl), .int (nI a), .int (nI b), .int (nI cz)]) (rest := []) ⟨hx, hb, hml, hown, hts⟩ hK hE hz hG hS (c_RR_requireTuple l X σ rr bk tu ma dv co ru sr nr Q.length fc sc dw cf cw rl (nI a) (nI b) (nI cz) x0 k0 hnr x2 hrl hcf hcw hok) ⟨rfl, rfl⟩ mV_RR_requireTuple w_387 x0 rfl rfl hl.1 rfl (Nat.le_of_ble_eq_true rfl) ⟨(by first | decide | omega | (dsimp only [headSpec]; omega)), (by first | decide | omega | (dsimp only [headSpec]; omega))⟩ ⟨(by first | decide | omega | (dsimp only [headSpec]; omega)), (by first | decide | omega | (dsimp only [headSpec]; omega))⟩ d_RR_drop_6 ?_
  refine lv_iload_n hx hb d_RR_drop_9 rfl (lv_at hl 1 rfl) ?_
  refine lv_iload_n hx hb d_RR_drop_10 rfl (lv_at hl 2 rfl) ?_
  refine lv_iload_n hx hb d_RR_drop_11 rfl (lv_at hl 3 rfl) ?_
  refine lv_iload hx hb d_RR_drop_12 (lv_at hl 4 rfl) ?_
  refine gs_callSp (As := [.int (nI rl), .int (nI a), .int (nI b), .int (nI cz)]) (rest := []) ⟨hx, hb, hml, hown, hts⟩ hK hE hz hG hS (c_RR_codeOf l X σ rl a b cz) ⟨rfl, rfl⟩ mS_RR_codeOf w_403 rfl hl.1 rfl (Nat.le_of_ble_eq_true rfl) ⟨(by first | decide | omega | (dsimp only [headSpec]; omega)), (by first | decide | omega | (dsimp only [headSpec]; omega))⟩ ⟨(by first | decide | omega | (dsimp only [headSpec]; omega)), (by first | decide | omega | (dsimp only [headSpec]; omega))⟩ d_RR_drop_14 (fun r_14 hp_14 => ?_)
  refine gs_top (show r_14 = (nI (((rl * 64 + a) * 64 + b) * 64 + cz)) from hp_14) ?_
  obtain ⟨cd, ecd⟩ : ∃ z, z = ((rl * 64 + a) * 64 + b) * 64 + cz := ⟨_, rfl⟩
  have hcd : cd < 2 ^ 30 := by omega
  refine gs_top (show nI (((rl * 64 + a) * 64 + b) * 64 + cz) = nI cd by rw [ecd]) ?_
  refine lv_istore (lv' := [(5, .int (nI cd)), (0, .ref rr), (1, .int (nI rl)), (2, .int (nI a)), (3, .int (nI b)), (4, .int (nI cz))]) hx hb d_RR_drop_17 hl (by decide) rfl (fun ls hl => ?_)
  refine lv_aload_n hx hb d_RR_drop_19 rfl (lv_at hl 1 rfl) ?_
  refine gs_get hx hb ht hown hK hG k_RR x0 1 (by decide) w_138 rfl d_RR_drop_20 ?_
  refine lv_iload hx hb d_RR_drop_23 (lv_at hl 0 rfl) ?_
  refine gs_callVp (As := [.int (nI cd)]) (rest := []) ⟨hx, hb, hml, hown, hts⟩ hK hE hz hG hS (c_TU_containsFact_p l X σ tu ac ai ab E cs ci cr cd hst9 hB hR hcd t0 t1 t2) ⟨rfl, rfl⟩ mV_TU_containsFact w_406 t0 rfl rfl hl.1 rfl (Nat.le_of_ble_eq_true rfl) ⟨(by first | decide | omega | (dsimp only [headSpec]; omega)), (by first | decide | omega | (dsimp only [headSpec]; omega))⟩ ⟨(by first | decide | omega | (dsimp only [headSpec]; omega)), (by first | decide | omega | (dsimp only [headSpec]; omega))⟩ d_RR_drop_25 (fun r_25 hp_25 => ?_)
  refine gs_top (show r_25 = (bI (decide (∃ x ∈ E, x.1 = cd ∧ x.2.1 = 0))) from hp_25) ?_
  refine lv_if_ne (tgt := 33) hx hb d_RR_drop_28 (by decide) (fun c_28 => ?_) (fun c_28 => ?_)
  · exact absurd (of_decide_eq_true (bI_n0 c_28)) (by rw [ecd]; exact hin)
  · refine lv_iconst (v := nI 0) hx hb d_RR_drop_31 (by decide) ?_
    exact gs_iretp (v := (nI 0)) hx hb hr rfl hlocks (Nat.zero_le _) (Nat.zero_le _) (rfl) d_RR_drop_32
set_option maxHeartbeats 4000000 in
set_option maxRecDepth 100000 in
/-- RuleRounds.fact, too many -/
theorem c_RR_fact_s (l : Launch) (X : gs_X) (σ : gs_St) (rr dv bk tu ma la cm ac ai ab lc li lb mc mi mb va co ru sr nr sa rc fc : Nat) (dw : Value) (nw : Bool) (sc : Int32) (E : List En) (Lt : List Nat) (v S : Nat → Nat) (Q : List Rl) (cf : Nat → Int32) (cw : Nat → Nat) (rl a b cz : Nat)
    (htr : l.stackTraces = false) (hnd : [ac, ai, ab, lc, mc, mi, mb].Nodup) (hnd2 : [tu, la, cm].Nodup) (x0 : σ rr = some (gs_ob 0 [.ref bk, .ref tu, .ref ma, .ref dv, .int (nI fc), dw])) (hdv : dvA X σ dv bk tu ma la cm ac ai ab lc li lb mc mi mb va E Lt v sa nw rc) (hbk : bkA X σ bk co ru sr nr sc Q S) (x2 : σ co = some (gs_ia X 12 cf)) (hnr : nr ≤ 12) (hrl : rl < nr) (hcf : cf rl = nI (cw rl)) (hcw : cw rl ≤ 3) (ha : a < 64) (hb9 : b < 64) (hc9 : cz < 64) (hok : wi3 64 (cw rl) (nI a) (nI b) (nI cz) = true) (hst9 : (cds E).Pairwise (· < ·)) (hin : ¬ (∃ x ∈ E, x.1 = ((rl * 64 + a) * 64 + b) * 64 + cz ∧ x.2.1 = 0)) (hfc : 200 ≤ fc) (hfc2 : fc < 2 ^ 20) : gs_Mt l X y_RR_fact b_RR_fact 6 (some .boolean) ({ frames := 6, cells := 1, slots := 6, locals := 90 }) σ [.ref rr, .int (nI rl), .int (nI a), .int (nI b), .int (nI cz)] xS := by
  refine gs_MetT.ofW (cc := b_RR_fact) (maxL := 6) (ret := (some .boolean)) (by decide) rfl ?_
  intro p e s m args below meth c s₁ B₀ hml hv
  obtain ⟨rfl, hK, hG, hz, hE⟩ := hv
  have hx := B₀.exec
  have hb := B₀.bytes
  have hr := B₀.returns
  have hts := atoms_spec (ws := gs_ws y_RR_fact b_RR_fact 6 (some .boolean)) B₀.pre
  have ht : ∀ w ∈ gs_w, w.before _ s = true := fun w h => hts w (List.mem_cons_of_mem _ h)
  have hown : s.vm.findClass R_RR = some m.cls := findClass_of_methodNamed B₀.named
  have hlocks := B₀.notSynchronized
  have hout9 : ∀ pc, ∀ x ∈ c.exceptionTable.toList, covers x pc = false := covers_of_empty (B₀.noHandlers (hts _ List.mem_cons_self))
  have hA : ∀ q : Nat, s.heap.size ≤ q → gs_A X q := fun q h => Nat.le_trans hz h
  have hS : va_S (gs_A X) s.heap s.heap [] := va_S.rf
  have hl := lv_entry ([.ref rr, .int (nI rl), .int (nI a), .int (nI b), .int (nI cz)]) (n := 6) (Nat.le_of_ble_eq_true rfl)
  rw [lg_entry_eq]
  generalize (lg_sl ([.ref rr, .int (nI rl), .int (nI a), .int (nI b), .int (nI cz)]) ++ List.replicate (6 - (lg_sl ([.ref rr, .int (nI rl), .int (nI a), .int (nI b), .int (nI cz)])).length) Slot.unset).toArray = ls at hl ⊢
  have hl : lv_has ls 6 [(0, .ref rr), (1, .int (nI rl)), (2, .int (nI a)), (3, .int (nI b)), (4, .int (nI cz))] := hl
  obtain ⟨cs, ci, cr, ds, vs, a9, b9, c9, z9, d0, t0, t1, t2, t3, l0, l1, m0, m1, m2, m3, q0, q1, hB, hR, hl3, hs2, hn2, hds, hv⟩ := id hdv
  obtain ⟨fR, sf, k0, k2, k3, hQl, hsO, hQ⟩ := id hbk
  refine lv_aload_n hx hb d_RR_fact_0 rfl (lv_at hl 0 rfl) ?_
  refine lv_iload_n hx hb d_RR_fact_1 rfl (lv_at hl 1 rfl) ?_
  refine lv_iload_n hx hb d_RR_fact_2 rfl (lv_at hl 2 rfl) ?_
  refine lv_iload_n hx hb d_RR_fact_3 rfl (lv_at hl 3 rfl) ?_
  refine lv_iload hx hb d_RR_fact_4 (lv_at hl 4 rfl) ?_
  refine gs_callVpv (As := [.int (nI rl), .int (nI a), .int (nI b), .int (nI cz)]) (rest := []) ⟨hx, hb, hml, hown, hts⟩ hK hE hz hG hS (c_RR_requireTuple l X σ rr bk tu ma dv co ru sr nr Q.length fc sc dw cf cw rl (nI a) (nI b) (nI cz) x0 k0 hnr x2 hrl hcf hcw hok) ⟨rfl, rfl⟩ mV_RR_requireTuple w_387 x0 rfl rfl hl.1 rfl (Nat.le_of_ble_eq_true rfl) ⟨(by first | decide | omega | (dsimp only [headSpec]; omega)), (by first | decide | omega | (dsimp only [headSpec]; omega))⟩ ⟨(by first | decide | omega | (dsimp only [headSpec]; omega)), (by first | decide | omega | (dsimp only [headSpec]; omega))⟩ d_RR_fact_6 ?_
  refine lv_iload_n hx hb d_RR_fact_9 rfl (lv_at hl 1 rfl) ?_
  refine lv_iload_n hx hb d_RR_fact_10 rfl (lv_at hl 2 rfl) ?_
  refine lv_iload_n hx hb d_RR_fact_11 rfl (lv_at hl 3 rfl) ?_
  refine lv_iload hx hb d_RR_fact_12 (lv_at hl 4 rfl) ?_
  refine gs_callSp (As := [.int (nI rl), .int (nI a), .int (nI b), .int (nI cz)]) (rest := []) ⟨hx, hb, hml, hown, hts⟩ hK hE hz hG hS (c_RR_codeOf l X σ rl a b cz) ⟨rfl, rfl⟩ mS_RR_codeOf w_403 rfl hl.1 rfl (Nat.le_of_ble_eq_true rfl) ⟨(by first | decide | omega | (dsimp only [headSpec]; omega)), (by first | decide | omega | (dsimp only [headSpec]; omega))⟩ ⟨(by first | decide | omega | (dsimp only [headSpec]; omega)), (by first | decide | omega | (dsimp only [headSpec]; omega))⟩ d_RR_fact_14 (fun r_14 hp_14 => ?_)
  refine gs_top (show r_14 = (nI (((rl * 64 + a) * 64 + b) * 64 + cz)) from hp_14) ?_
  obtain ⟨cd, ecd⟩ : ∃ z, z = ((rl * 64 + a) * 64 + b) * 64 + cz := ⟨_, rfl⟩
  have hcd : cd < 2 ^ 30 := by omega
  refine gs_top (show nI (((rl * 64 + a) * 64 + b) * 64 + cz) = nI cd by rw [ecd]) ?_
  refine lv_istore (lv' := [(5, .int (nI cd)), (0, .ref rr), (1, .int (nI rl)), (2, .int (nI a)), (3, .int (nI b)), (4, .int (nI cz))]) hx hb d_RR_fact_17 hl (by decide) rfl (fun ls hl => ?_)
  refine lv_aload_n hx hb d_RR_fact_19 rfl (lv_at hl 1 rfl) ?_
  refine gs_get hx hb ht hown hK hG k_RR x0 1 (by decide) w_138 rfl d_RR_fact_20 ?_
  refine lv_iload hx hb d_RR_fact_23 (lv_at hl 0 rfl) ?_
  refine gs_callVp (As := [.int (nI cd)]) (rest := []) ⟨hx, hb, hml, hown, hts⟩ hK hE hz hG hS (c_TU_containsFact_p l X σ tu ac ai ab E cs ci cr cd hst9 hB hR hcd t0 t1 t2) ⟨rfl, rfl⟩ mV_TU_containsFact w_406 t0 rfl rfl hl.1 rfl (Nat.le_of_ble_eq_true rfl) ⟨(by first | decide | omega | (dsimp only [headSpec]; omega)), (by first | decide | omega | (dsimp only [headSpec]; omega))⟩ ⟨(by first | decide | omega | (dsimp only [headSpec]; omega)), (by first | decide | omega | (dsimp only [headSpec]; omega))⟩ d_RR_fact_25 (fun r_25 hp_25 => ?_)
  refine gs_top (show r_25 = (bI (decide (∃ x ∈ E, x.1 = cd ∧ x.2.1 = 0))) from hp_25) ?_
  refine lv_if_eq (tgt := 33) hx hb d_RR_fact_28 (by decide) (fun c_28 => ?_) (fun c_28 => ?_)
  · refine lv_aload_n hx hb d_RR_fact_33 rfl (lv_at hl 1 rfl) ?_
    refine gs_get hx hb ht hown hK hG k_RR x0 4 (by decide) w_141 rfl d_RR_fact_34 ?_
    refine lv_sipush (v := nI 200) hx hb d_RR_fact_37 (by decide) ?_
    refine lv_icmp_lt (tgt := 53) hx hb d_RR_fact_40 (by decide) (fun c_40 => ?_) (fun c_40 => ?_)
    · have c_40 : fc < 200 := (nI_ltI (by omega) (by omega)).mp c_40
      omega
    · have c_40 : ¬ fc < 200 := mt (nI_ltI (by omega) (by omega)).mpr c_40
      exact gs_thrS hx hb hml htr hown ht hK hE hz hG (List.mem_of_getElem? (i := 4) rfl) hl.1 d_RR_fact_43 d_RR_fact_46 d_RR_fact_47 d_RR_fact_49 d_RR_fact_52 (hout9 _) ⟨(by first | decide | omega | (dsimp only [headSpec]; omega)), (by first | decide | omega | (dsimp only [headSpec]; omega)), (by first | decide | omega | (dsimp only [headSpec]; omega)), (by first | decide | omega | (dsimp only [headSpec]; omega))⟩ ⟨(by first | decide | omega | (dsimp only [headSpec]; omega)), (by first | decide | omega | (dsimp only [headSpec]; omega))⟩ hlocks
  · exact absurd (of_decide_eq_true (bI_n0 c_28)) (by rw [ecd]; exact hin)
set_option maxHeartbeats 4000000 in
set_option maxRecDepth 100000 in
/-- RR_fact of no tuple -/
theorem c_RR_fact_t (l : Launch) (X : gs_X) (σ : gs_St) (rr bk tu ma dv co ru sr nr nq fc : Nat) (sc : Int32) (dw : Value) (cf : Nat → Int32) (cw : Nat → Nat) (rl : Nat) (x y z : Int32)
    (htr : l.stackTraces = false) (x0 : σ rr = some (gs_ob 0 [.ref bk, .ref tu, .ref ma, .ref dv, .int (nI fc), dw])) (x1 : σ bk = some (gs_ob 5 [.ref co, .ref ru, .ref sr, .int (nI nr), .int (nI nq), .int sc])) (hnr : nr ≤ 12) (x2 : σ co = some (gs_ia X 12 cf)) (hrl : rl < nr) (hcf : cf rl = nI (cw rl)) (hcw : cw rl ≤ 3) (hok : wi3 64 (cw rl) x y z = false) : gs_Mt l X y_RR_fact b_RR_fact 6 (some .boolean) ({ frames := 7, cells := 1, slots := 6, locals := 114 }) σ [.ref rr, .int (nI rl), .int x, .int y, .int z] xI := by
  refine gs_MetT.ofW (cc := b_RR_fact) (maxL := 6) (ret := (some .boolean)) (by decide) rfl ?_
  intro p e s m args below meth c s₁ B₀ hml hv
  obtain ⟨rfl, hK, hG, hz, hE⟩ := hv
  have hx := B₀.exec
  have hb := B₀.bytes
  have hr := B₀.returns
  have hts := atoms_spec (ws := gs_ws y_RR_fact b_RR_fact 6 (some .boolean)) B₀.pre
  have ht : ∀ w ∈ gs_w, w.before _ s = true := fun w h => hts w (List.mem_cons_of_mem _ h)
  have hown : s.vm.findClass R_RR = some m.cls := findClass_of_methodNamed B₀.named
  have hlocks := B₀.notSynchronized
  have hout9 : ∀ pc, ∀ x ∈ c.exceptionTable.toList, covers x pc = false := covers_of_empty (B₀.noHandlers (hts _ List.mem_cons_self))
  have hA : ∀ q : Nat, s.heap.size ≤ q → gs_A X q := fun q h => Nat.le_trans hz h
  have hS : va_S (gs_A X) s.heap s.heap [] := va_S.rf
  have hl := lv_entry ([.ref rr, .int (nI rl), .int x, .int y, .int z]) (n := 6) (Nat.le_of_ble_eq_true rfl)
  rw [lg_entry_eq]
  generalize (lg_sl ([.ref rr, .int (nI rl), .int x, .int y, .int z]) ++ List.replicate (6 - (lg_sl ([.ref rr, .int (nI rl), .int x, .int y, .int z])).length) Slot.unset).toArray = ls at hl ⊢
  have hl : lv_has ls 6 [(0, .ref rr), (1, .int (nI rl)), (2, .int x), (3, .int y), (4, .int z)] := hl
  refine lv_aload_n hx hb d_RR_fact_0 rfl (lv_at hl 0 rfl) ?_
  refine lv_iload_n hx hb d_RR_fact_1 rfl (lv_at hl 1 rfl) ?_
  refine lv_iload_n hx hb d_RR_fact_2 rfl (lv_at hl 2 rfl) ?_
  refine lv_iload_n hx hb d_RR_fact_3 rfl (lv_at hl 3 rfl) ?_
  refine lv_iload hx hb d_RR_fact_4 (lv_at hl 4 rfl) ?_
  exact gs_callVt (As := [.int (nI rl), .int x, .int y, .int z]) (rest := []) ⟨hx, hb, hml, hown, hts⟩ hK hE hz hG (c_RR_requireTuple_t l X σ rr bk tu ma dv co ru sr nr nq fc sc dw cf cw rl x y z htr x0 x1 hnr x2 hrl hcf hcw hok) mV_RR_requireTuple w_387 x0 rfl rfl hl.1 rfl (Nat.le_of_ble_eq_true rfl) ⟨(by first | decide | omega | (dsimp only [headSpec]; omega)), (by first | decide | omega | (dsimp only [headSpec]; omega))⟩ ⟨(by first | decide | omega | (dsimp only [headSpec]; omega)), (by first | decide | omega | (dsimp only [headSpec]; omega))⟩ d_RR_fact_6 ⟨(by first | decide | omega | (dsimp only [headSpec]; omega)), (by first | decide | omega | (dsimp only [headSpec]; omega))⟩ (hout9 _) hlocks
set_option maxHeartbeats 4000000 in
set_option maxRecDepth 100000 in
/-- RR_fact of no relation -/
theorem c_RR_fact_r (l : Launch) (X : gs_X) (σ : gs_St) (rr bk tu ma dv co ru sr nr nq fc : Nat) (sc : Int32) (dw : Value) (x x2 y z : Int32)
    (htr : l.stackTraces = false) (x0 : σ rr = some (gs_ob 0 [.ref bk, .ref tu, .ref ma, .ref dv, .int (nI fc), dw])) (x1 : σ bk = some (gs_ob 5 [.ref co, .ref ru, .ref sr, .int (nI nr), .int (nI nq), .int sc])) (hnr : nr ≤ 12) (hok : wi nr x = false) : gs_Mt l X y_RR_fact b_RR_fact 6 (some .boolean) ({ frames := 8, cells := 1, slots := 6, locals := 135 }) σ [.ref rr, .int x, .int x2, .int y, .int z] xI := by
  refine gs_MetT.ofW (cc := b_RR_fact) (maxL := 6) (ret := (some .boolean)) (by decide) rfl ?_
  intro p e s m args below meth c s₁ B₀ hml hv
  obtain ⟨rfl, hK, hG, hz, hE⟩ := hv
  have hx := B₀.exec
  have hb := B₀.bytes
  have hr := B₀.returns
  have hts := atoms_spec (ws := gs_ws y_RR_fact b_RR_fact 6 (some .boolean)) B₀.pre
  have ht : ∀ w ∈ gs_w, w.before _ s = true := fun w h => hts w (List.mem_cons_of_mem _ h)
  have hown : s.vm.findClass R_RR = some m.cls := findClass_of_methodNamed B₀.named
  have hlocks := B₀.notSynchronized
  have hout9 : ∀ pc, ∀ x ∈ c.exceptionTable.toList, covers x pc = false := covers_of_empty (B₀.noHandlers (hts _ List.mem_cons_self))
  have hA : ∀ q : Nat, s.heap.size ≤ q → gs_A X q := fun q h => Nat.le_trans hz h
  have hS : va_S (gs_A X) s.heap s.heap [] := va_S.rf
  have hl := lv_entry ([.ref rr, .int x, .int x2, .int y, .int z]) (n := 6) (Nat.le_of_ble_eq_true rfl)
  rw [lg_entry_eq]
  generalize (lg_sl ([.ref rr, .int x, .int x2, .int y, .int z]) ++ List.replicate (6 - (lg_sl ([.ref rr, .int x, .int x2, .int y, .int z])).length) Slot.unset).toArray = ls at hl ⊢
  have hl : lv_has ls 6 [(0, .ref rr), (1, .int x), (2, .int x2), (3, .int y), (4, .int z)] := hl
  refine lv_aload_n hx hb d_RR_fact_0 rfl (lv_at hl 0 rfl) ?_
  refine lv_iload_n hx hb d_RR_fact_1 rfl (lv_at hl 1 rfl) ?_
  refine lv_iload_n hx hb d_RR_fact_2 rfl (lv_at hl 2 rfl) ?_
  refine lv_iload_n hx hb d_RR_fact_3 rfl (lv_at hl 3 rfl) ?_
  refine lv_iload hx hb d_RR_fact_4 (lv_at hl 4 rfl) ?_
  exact gs_callVt (As := [.int x, .int x2, .int y, .int z]) (rest := []) ⟨hx, hb, hml, hown, hts⟩ hK hE hz hG (c_RR_requireTuple_r l X σ rr bk tu ma dv co ru sr nr nq fc sc dw x x2 y z htr x0 x1 hnr hok) mV_RR_requireTuple w_387 x0 rfl rfl hl.1 rfl (Nat.le_of_ble_eq_true rfl) ⟨(by first | decide | omega | (dsimp only [headSpec]; omega)), (by first | decide | omega | (dsimp only [headSpec]; omega))⟩ ⟨(by first | decide | omega | (dsimp only [headSpec]; omega)), (by first | decide | omega | (dsimp only [headSpec]; omega))⟩ d_RR_fact_6 ⟨(by first | decide | omega | (dsimp only [headSpec]; omega)), (by first | decide | omega | (dsimp only [headSpec]; omega))⟩ (hout9 _) hlocks
set_option maxHeartbeats 4000000 in
set_option maxRecDepth 100000 in
/-- RR_drop of no tuple -/
theorem c_RR_drop_t (l : Launch) (X : gs_X) (σ : gs_St) (rr bk tu ma dv co ru sr nr nq fc : Nat) (sc : Int32) (dw : Value) (cf : Nat → Int32) (cw : Nat → Nat) (rl : Nat) (x y z : Int32)
    (htr : l.stackTraces = false) (x0 : σ rr = some (gs_ob 0 [.ref bk, .ref tu, .ref ma, .ref dv, .int (nI fc), dw])) (x1 : σ bk = some (gs_ob 5 [.ref co, .ref ru, .ref sr, .int (nI nr), .int (nI nq), .int sc])) (hnr : nr ≤ 12) (x2 : σ co = some (gs_ia X 12 cf)) (hrl : rl < nr) (hcf : cf rl = nI (cw rl)) (hcw : cw rl ≤ 3) (hok : wi3 64 (cw rl) x y z = false) : gs_Mt l X y_RR_drop b_RR_drop 6 (some .boolean) ({ frames := 7, cells := 1, slots := 6, locals := 114 }) σ [.ref rr, .int (nI rl), .int x, .int y, .int z] xI := by
  refine gs_MetT.ofW (cc := b_RR_drop) (maxL := 6) (ret := (some .boolean)) (by decide) rfl ?_
  intro p e s m args below meth c s₁ B₀ hml hv
  obtain ⟨rfl, hK, hG, hz, hE⟩ := hv
  have hx := B₀.exec
  have hb := B₀.bytes
  have hr := B₀.returns
  have hts := atoms_spec (ws := gs_ws y_RR_drop b_RR_drop 6 (some .boolean)) B₀.pre
  have ht : ∀ w ∈ gs_w, w.before _ s = true := fun w h => hts w (List.mem_cons_of_mem _ h)
  have hown : s.vm.findClass R_RR = some m.cls := findClass_of_methodNamed B₀.named
  have hlocks := B₀.notSynchronized
  have hout9 : ∀ pc, ∀ x ∈ c.exceptionTable.toList, covers x pc = false := covers_of_empty (B₀.noHandlers (hts _ List.mem_cons_self))
  have hA : ∀ q : Nat, s.heap.size ≤ q → gs_A X q := fun q h => Nat.le_trans hz h
  have hS : va_S (gs_A X) s.heap s.heap [] := va_S.rf
  have hl := lv_entry ([.ref rr, .int (nI rl), .int x, .int y, .int z]) (n := 6) (Nat.le_of_ble_eq_true rfl)
  rw [lg_entry_eq]
  generalize (lg_sl ([.ref rr, .int (nI rl), .int x, .int y, .int z]) ++ List.replicate (6 - (lg_sl ([.ref rr, .int (nI rl), .int x, .int y, .int z])).length) Slot.unset).toArray = ls at hl ⊢
  have hl : lv_has ls 6 [(0, .ref rr), (1, .int (nI rl)), (2, .int x), (3, .int y), (4, .int z)] := hl
  refine lv_aload_n hx hb d_RR_drop_0 rfl (lv_at hl 0 rfl) ?_
  refine lv_iload_n hx hb d_RR_drop_1 rfl (lv_at hl 1 rfl) ?_
  refine lv_iload_n hx hb d_RR_drop_2 rfl (lv_at hl 2 rfl) ?_
  refine lv_iload_n hx hb d_RR_drop_3 rfl (lv_at hl 3 rfl) ?_
  refine lv_iload hx hb d_RR_drop_4 (lv_at hl 4 rfl) ?_
  exact gs_callVt (As := [.int (nI rl), .int x, .int y, .int z]) (rest := []) ⟨hx, hb, hml, hown, hts⟩ hK hE hz hG (c_RR_requireTuple_t l X σ rr bk tu ma dv co ru sr nr nq fc sc dw cf cw rl x y z htr x0 x1 hnr x2 hrl hcf hcw hok) mV_RR_requireTuple w_387 x0 rfl rfl hl.1 rfl (Nat.le_of_ble_eq_true rfl) ⟨(by first | decide | omega | (dsimp only [headSpec]; omega)), (by first | decide | omega | (dsimp only [headSpec]; omega))⟩ ⟨(by first | decide | omega | (dsimp only [headSpec]; omega)), (by first | decide | omega | (dsimp only [headSpec]; omega))⟩ d_RR_drop_6 ⟨(by first | decide | omega | (dsimp only [headSpec]; omega)), (by first | decide | omega | (dsimp only [headSpec]; omega))⟩ (hout9 _) hlocks
set_option maxHeartbeats 4000000 in
set_option maxRecDepth 100000 in
/-- RR_drop of no relation -/
theorem c_RR_drop_r (l : Launch) (X : gs_X) (σ : gs_St) (rr bk tu ma dv co ru sr nr nq fc : Nat) (sc : Int32) (dw : Value) (x x2 y z : Int32)
    (htr : l.stackTraces = false) (x0 : σ rr = some (gs_ob 0 [.ref bk, .ref tu, .ref ma, .ref dv, .int (nI fc), dw])) (x1 : σ bk = some (gs_ob 5 [.ref co, .ref ru, .ref sr, .int (nI nr), .int (nI nq), .int sc])) (hnr : nr ≤ 12) (hok : wi nr x = false) : gs_Mt l X y_RR_drop b_RR_drop 6 (some .boolean) ({ frames := 8, cells := 1, slots := 6, locals := 135 }) σ [.ref rr, .int x, .int x2, .int y, .int z] xI := by
  refine gs_MetT.ofW (cc := b_RR_drop) (maxL := 6) (ret := (some .boolean)) (by decide) rfl ?_
  intro p e s m args below meth c s₁ B₀ hml hv
  obtain ⟨rfl, hK, hG, hz, hE⟩ := hv
  have hx := B₀.exec
  have hb := B₀.bytes
  have hr := B₀.returns
  have hts := atoms_spec (ws := gs_ws y_RR_drop b_RR_drop 6 (some .boolean)) B₀.pre
  have ht : ∀ w ∈ gs_w, w.before _ s = true := fun w h => hts w (List.mem_cons_of_mem _ h)
  have hown : s.vm.findClass R_RR = some m.cls := findClass_of_methodNamed B₀.named
  have hlocks := B₀.notSynchronized
  have hout9 : ∀ pc, ∀ x ∈ c.exceptionTable.toList, covers x pc = false := covers_of_empty (B₀.noHandlers (hts _ List.mem_cons_self))
  have hA : ∀ q : Nat, s.heap.size ≤ q → gs_A X q := fun q h => Nat.le_trans hz h
  have hS : va_S (gs_A X) s.heap s.heap [] := va_S.rf
  have hl := lv_entry ([.ref rr, .int x, .int x2, .int y, .int z]) (n := 6) (Nat.le_of_ble_eq_true rfl)
  rw [lg_entry_eq]
  generalize (lg_sl ([.ref rr, .int x, .int x2, .int y, .int z]) ++ List.replicate (6 - (lg_sl ([.ref rr, .int x, .int x2, .int y, .int z])).length) Slot.unset).toArray = ls at hl ⊢
  have hl : lv_has ls 6 [(0, .ref rr), (1, .int x), (2, .int x2), (3, .int y), (4, .int z)] := hl
  refine lv_aload_n hx hb d_RR_drop_0 rfl (lv_at hl 0 rfl) ?_
  refine lv_iload_n hx hb d_RR_drop_1 rfl (lv_at hl 1 rfl) ?_
  refine lv_iload_n hx hb d_RR_drop_2 rfl (lv_at hl 2 rfl) ?_
  refine lv_iload_n hx hb d_RR_drop_3 rfl (lv_at hl 3 rfl) ?_
  refine lv_iload hx hb d_RR_drop_4 (lv_at hl 4 rfl) ?_
  exact gs_callVt (As := [.int x, .int x2, .int y, .int z]) (rest := []) ⟨hx, hb, hml, hown, hts⟩ hK hE hz hG (c_RR_requireTuple_r l X σ rr bk tu ma dv co ru sr nr nq fc sc dw x x2 y z htr x0 x1 hnr hok) mV_RR_requireTuple w_387 x0 rfl rfl hl.1 rfl (Nat.le_of_ble_eq_true rfl) ⟨(by first | decide | omega | (dsimp only [headSpec]; omega)), (by first | decide | omega | (dsimp only [headSpec]; omega))⟩ ⟨(by first | decide | omega | (dsimp only [headSpec]; omega)), (by first | decide | omega | (dsimp only [headSpec]; omega))⟩ d_RR_drop_6 ⟨(by first | decide | omega | (dsimp only [headSpec]; omega)), (by first | decide | omega | (dsimp only [headSpec]; omega))⟩ (hout9 _) hlocks
set_option maxHeartbeats 4000000 in
set_option maxRecDepth 100000 in
/-- RuleRounds.fact -/
theorem c_RR_fact (l : Launch) (X : gs_X) (σ : gs_St) (rr dv bk tu ma la cm ac ai ab lc li lb mc mi mb va co ru sr nr sa rc fc : Nat) (dw : Value) (nw : Bool) (sc : Int32) (E : List En) (Lt : List Nat) (v S : Nat → Nat) (Q : List Rl) (cf : Nat → Int32) (cw : Nat → Nat) (rl a b cz : Nat)
    (hnd : [ac, ai, ab, lc, mc, mi, mb].Nodup) (hnd2 : [tu, la, cm].Nodup) (x0 : σ rr = some (gs_ob 0 [.ref bk, .ref tu, .ref ma, .ref dv, .int (nI fc), dw])) (hdv : dvA X σ dv bk tu ma la cm ac ai ab lc li lb mc mi mb va E Lt v sa nw rc) (hbk : bkA X σ bk co ru sr nr sc Q S) (x2 : σ co = some (gs_ia X 12 cf)) (hnr : nr ≤ 12) (hrl : rl < nr) (hcf : cf rl = nI (cw rl)) (hcw : cw rl ≤ 3) (ha : a < 64) (hb9 : b < 64) (hc9 : cz < 64) (hok : wi3 64 (cw rl) (nI a) (nI b) (nI cz) = true) (hst9 : (cds E).Pairwise (· < ·)) (hin : ¬ (∃ x ∈ E, x.1 = ((rl * 64 + a) * 64 + b) * 64 + cz ∧ x.2.1 = 0)) (hfc : fc < 200) (hkp : (keepE E).length = fc) : gs_Mi l X y_RR_fact b_RR_fact 6 (some .boolean) ({ frames := 3, cells := 0, slots := 0, locals := 87 }) σ [.ref rr, .int (nI rl), .int (nI a), .int (nI b), .int (nI cz)] (fun r σ' => dvA X σ' dv bk tu ma la cm ac ai ab lc li lb mc mi mb va (insE (keepE E) (((rl * 64 + a) * 64 + b) * 64 + cz, 0, -1)) Lt v 0 true 0 ∧ σ' rr = some (gs_ob 0 [.ref bk, .ref tu, .ref ma, .ref dv, .int (nI (fc + 1)), dw]) ∧ frm [rr, dv, tu, ac, ai, ab] σ σ' ∧ r = nI 1) := by
  refine Met.ofW (cc := b_RR_fact) (maxL := 6) (ret := (some .boolean)) (by decide) rfl ?_
  intro p e s m args below meth c s₁ B₀ hml hv
  obtain ⟨rfl, hK, hG, hz, hE⟩ := hv
  have hx := B₀.exec
  have hb := B₀.bytes
  have hr := B₀.returns
  have hts := atoms_spec (ws := gs_ws y_RR_fact b_RR_fact 6 (some .boolean)) B₀.pre
  have ht : ∀ w ∈ gs_w, w.before _ s = true := fun w h => hts w (List.mem_cons_of_mem _ h)
  have hown : s.vm.findClass R_RR = some m.cls := findClass_of_methodNamed B₀.named
  have hlocks := B₀.notSynchronized
  have hA : ∀ q : Nat, s.heap.size ≤ q → gs_A X q := fun q h => Nat.le_trans hz h
  have hS : va_S (gs_A X) s.heap s.heap [] := va_S.rf
  have hl := lv_entry ([.ref rr, .int (nI rl), .int (nI a), .int (nI b), .int (nI cz)]) (n := 6) (Nat.le_of_ble_eq_true rfl)
  rw [lg_entry_eq]
  generalize (lg_sl ([.ref rr, .int (nI rl), .int (nI a), .int (nI b), .int (nI cz)]) ++ List.replicate (6 - (lg_sl ([.ref rr, .int (nI rl), .int (nI a), .int (nI b), .int (nI cz)])).length) Slot.unset).toArray = ls at hl ⊢
  have hl : lv_has ls 6 [(0, .ref rr), (1, .int (nI rl)), (2, .int (nI a)), (3, .int (nI b)), (4, .int (nI cz))] := hl
  obtain ⟨cs, ci, cr, ds, vs, a9, b9, c9, z9, d0, t0, t1, t2, t3, l0, l1, m0, m1, m2, m3, q0, q1, hB, hR, hl3, hs2, hn2, hds, hv⟩ := id hdv
  obtain ⟨fR, sf, k0, k2, k3, hQl, hsO, hQ⟩ := id hbk
  have fr0 : frm [rr, dv, tu, ac, ai, ab] σ σ := frm.rf
  refine lv_aload_n hx hb d_RR_fact_0 rfl (lv_at hl 0 rfl) ?_
  refine lv_iload_n hx hb d_RR_fact_1 rfl (lv_at hl 1 rfl) ?_
  refine lv_iload_n hx hb d_RR_fact_2 rfl (lv_at hl 2 rfl) ?_
  refine lv_iload_n hx hb d_RR_fact_3 rfl (lv_at hl 3 rfl) ?_
  refine lv_iload hx hb d_RR_fact_4 (lv_at hl 4 rfl) ?_
  refine gs_callVpv (As := [.int (nI rl), .int (nI a), .int (nI b), .int (nI cz)]) (rest := []) ⟨hx, hb, hml, hown, hts⟩ hK hE hz hG hS (c_RR_requireTuple l X σ rr bk tu ma dv co ru sr nr Q.length fc sc dw cf cw rl (nI a) (nI b) (nI cz) x0 k0 hnr x2 hrl hcf hcw hok) ⟨rfl, rfl⟩ mV_RR_requireTuple w_387 x0 rfl rfl hl.1 rfl (Nat.le_of_ble_eq_true rfl) ⟨(by first | decide | omega | (dsimp only [headSpec]; omega)), (by first | decide | omega | (dsimp only [headSpec]; omega))⟩ ⟨(by first | decide | omega | (dsimp only [headSpec]; omega)), (by first | decide | omega | (dsimp only [headSpec]; omega))⟩ d_RR_fact_6 ?_
  refine lv_iload_n hx hb d_RR_fact_9 rfl (lv_at hl 1 rfl) ?_
  refine lv_iload_n hx hb d_RR_fact_10 rfl (lv_at hl 2 rfl) ?_
  refine lv_iload_n hx hb d_RR_fact_11 rfl (lv_at hl 3 rfl) ?_
  refine lv_iload hx hb d_RR_fact_12 (lv_at hl 4 rfl) ?_
  refine gs_callSp (As := [.int (nI rl), .int (nI a), .int (nI b), .int (nI cz)]) (rest := []) ⟨hx, hb, hml, hown, hts⟩ hK hE hz hG hS (c_RR_codeOf l X σ rl a b cz) ⟨rfl, rfl⟩ mS_RR_codeOf w_403 rfl hl.1 rfl (Nat.le_of_ble_eq_true rfl) ⟨(by first | decide | omega | (dsimp only [headSpec]; omega)), (by first | decide | omega | (dsimp only [headSpec]; omega))⟩ ⟨(by first | decide | omega | (dsimp only [headSpec]; omega)), (by first | decide | omega | (dsimp only [headSpec]; omega))⟩ d_RR_fact_14 (fun r_14 hp_14 => ?_)
  refine gs_top (show r_14 = (nI (((rl * 64 + a) * 64 + b) * 64 + cz)) from hp_14) ?_
  obtain ⟨cd, ecd⟩ : ∃ z, z = ((rl * 64 + a) * 64 + b) * 64 + cz := ⟨_, rfl⟩
  have hcd : cd < 2 ^ 30 := by omega
  refine gs_top (show nI (((rl * 64 + a) * 64 + b) * 64 + cz) = nI cd by rw [ecd]) ?_
  refine lv_istore (lv' := [(5, .int (nI cd)), (0, .ref rr), (1, .int (nI rl)), (2, .int (nI a)), (3, .int (nI b)), (4, .int (nI cz))]) hx hb d_RR_fact_17 hl (by decide) rfl (fun ls hl => ?_)
  refine lv_aload_n hx hb d_RR_fact_19 rfl (lv_at hl 1 rfl) ?_
  refine gs_get hx hb ht hown hK hG k_RR x0 1 (by decide) w_138 rfl d_RR_fact_20 ?_
  refine lv_iload hx hb d_RR_fact_23 (lv_at hl 0 rfl) ?_
  refine gs_callVp (As := [.int (nI cd)]) (rest := []) ⟨hx, hb, hml, hown, hts⟩ hK hE hz hG hS (c_TU_containsFact_p l X σ tu ac ai ab E cs ci cr cd hst9 hB hR hcd t0 t1 t2) ⟨rfl, rfl⟩ mV_TU_containsFact w_406 t0 rfl rfl hl.1 rfl (Nat.le_of_ble_eq_true rfl) ⟨(by first | decide | omega | (dsimp only [headSpec]; omega)), (by first | decide | omega | (dsimp only [headSpec]; omega))⟩ ⟨(by first | decide | omega | (dsimp only [headSpec]; omega)), (by first | decide | omega | (dsimp only [headSpec]; omega))⟩ d_RR_fact_25 (fun r_25 hp_25 => ?_)
  refine gs_top (show r_25 = (bI (decide (∃ x ∈ E, x.1 = cd ∧ x.2.1 = 0))) from hp_25) ?_
  refine lv_if_eq (tgt := 33) hx hb d_RR_fact_28 (by decide) (fun c_28 => ?_) (fun c_28 => ?_)
  · refine lv_aload_n hx hb d_RR_fact_33 rfl (lv_at hl 1 rfl) ?_
    refine gs_get hx hb ht hown hK hG k_RR x0 4 (by decide) w_141 rfl d_RR_fact_34 ?_
    refine lv_sipush (v := nI 200) hx hb d_RR_fact_37 (by decide) ?_
    refine lv_icmp_lt (tgt := 53) hx hb d_RR_fact_40 (by decide) (fun c_40 => ?_) (fun c_40 => ?_)
    · have c_40 : fc < 200 := (nI_ltI (by omega) (by omega)).mp c_40
      refine lv_aload_n hx hb d_RR_fact_53 rfl (lv_at hl 1 rfl) ?_
      refine gs_get hx hb ht hown hK hG k_RR x0 3 (by decide) w_140 rfl d_RR_fact_54 ?_
      refine gs_callVv (As := []) (rest := []) ⟨hx, hb, hml, hown, hts⟩ hK hE hz hG hS (c_DE_beginAnew l X σ dv bk tu ma la cm ac ai ab lc li lb mc mi mb va sa rc nw E Lt v hnd hnd2 hdv) mV_DE_beginAnew w_372 d0 rfl rfl hl.1 rfl (Nat.le_of_ble_eq_true rfl) ⟨(by first | decide | omega | (dsimp only [headSpec]; omega)), (by first | decide | omega | (dsimp only [headSpec]; omega))⟩ ⟨(by first | decide | omega | (dsimp only [headSpec]; omega)), (by first | decide | omega | (dsimp only [headSpec]; omega))⟩ d_RR_fact_57 (fun σ_57 H locs hp_57 hG hS => ?_)
      obtain ⟨hd2, hf2⟩ := hp_57
      have hc_1 : σ_57 rr = some (gs_ob 0 [.ref bk, .ref tu, .ref ma, .ref dv, .int (nI fc), dw]) := hf2 _ _ (nin_cons (gs_ne x0 d0 (by simp)) (nin_cons (gs_ne x0 t0 (by simp)) (nin_cons (gs_ne x0 t1 (by simp)) (nin_cons (gs_ne x0 t2 (by simp)) (nin_cons (gs_ne x0 t3 (by simp)) nin_nil))))) x0
      have fr_2 : frm [rr, dv, tu, ac, ai, ab] σ σ_57 := fr0.trans hf2 (by simp)
      obtain ⟨cs2, ci2, cr2, ds2, vs2, a92, b92, c92, z92, d02, t02, t12, t22, t32, l02, l12, m02, m12, m22, m32, q02, q12, hB2, hR2, hl32, hs22, hn22, hds2, hv2⟩ := id hd2
      refine lv_aload_n hx hb d_RR_fact_60 rfl (lv_at hl 1 rfl) ?_
      refine gs_get hx hb ht hown hK hG k_RR hc_1 1 (by decide) w_138 rfl d_RR_fact_61 ?_
      refine lv_iload hx hb d_RR_fact_64 (lv_at hl 0 rfl) ?_
      refine lv_iconst (v := nI 0) hx hb d_RR_fact_66 (by decide) ?_
      refine lv_iconst (v := -1) hx hb d_RR_fact_67 (by decide) ?_
      refine gs_callVv (As := [.int (nI cd), .int (nI 0), .int (-1)]) (rest := []) ⟨hx, hb, hml, hown, hts⟩ hK hE hz hG hS (c_TU_insert l X σ_57 tu ac ai ab (keepE E) cs2 ci2 cr2 cd 0 (-1) (ndp hnd 0 1 (by decide) rfl rfl) (ndp hnd 0 2 (by decide) rfl rfl) (ndp hnd 1 2 (by decide) rfl rfl) hB2 hR2 (by omega) hcd t02 t12 t22 t32) mV_TU_insert w_411 t02 rfl rfl hl.1 rfl (Nat.le_of_ble_eq_true rfl) ⟨(by first | decide | omega | (dsimp only [headSpec]; omega)), (by first | decide | omega | (dsimp only [headSpec]; omega))⟩ ⟨(by first | decide | omega | (dsimp only [headSpec]; omega)), (by first | decide | omega | (dsimp only [headSpec]; omega))⟩ d_RR_fact_68 (fun σ_68 H locs hp_68 hG hS => ?_)
      obtain ⟨cs3, ci3, cr3, ev3, hR3⟩ := hp_68
      rw [ev3] at hG
      unfold tu4 at hG
      have hB3 := tuB_ins hB2 (e := (cd, 0, -1)) hcd (show (0 : Nat) < 2 ^ 30 by decide) (by omega)
      have hln : (insE (keepE E) (cd, 0, -1)).length = (keepE E).length + 1 := insE_len _ _
      obtain ⟨σ_3, eσ_3⟩ : ∃ zq, zq = gs_up σ_57 ac (gs_ia X 301 cs3) := ⟨_, rfl⟩
      have hc_4 : σ_3 rr = some (gs_ob 0 [.ref bk, .ref tu, .ref ma, .ref dv, .int (nI fc), dw]) := by rw [eσ_3]; exact gs_ku (gs_ne hc_1 t12 (by simp)) hc_1
      have hc_5 : σ_3 dv = some (gs_ob 1 [.ref bk, .ref tu, .ref ma, .ref la, .ref cm, .int (nI 0), .int (bI true), .int (nI 0)]) := by rw [eσ_3]; exact gs_ku (gs_ne d02 t12 (by simp)) d02
      have hc_6 : σ_3 tu = some (gs_ob 6 [.ref ac, .ref ai, .ref ab, .int (nI ((keepE E).length))]) := by rw [eσ_3]; exact gs_ku (gs_ne t02 t12 (by simp)) t02
      have hc_7 : σ_3 ai = some (gs_ia X 301 ci2) := by rw [eσ_3]; exact gs_ku (Ne.symm (ndp hnd 0 1 (by decide) rfl rfl)) t22
      have hc_8 : σ_3 ab = some (gs_ia X 301 cr2) := by rw [eσ_3]; exact gs_ku (Ne.symm (ndp hnd 0 2 (by decide) rfl rfl)) t32
      have hc_9 : σ_3 la = some (gs_ob 6 [.ref lc, .ref li, .ref lb, .int (nI Lt.length)]) := by rw [eσ_3]; exact gs_ku (gs_ne l02 t12 (by simp)) l02
      have hc_10 : σ_3 lc = some (gs_ia X 301 ds2) := by rw [eσ_3]; exact gs_ku (Ne.symm (ndp hnd 0 3 (by decide) rfl rfl)) l12
      have hc_11 : σ_3 cm = some (gs_ob 6 [.ref mc, .ref mi, .ref mb, .int z92]) := by rw [eσ_3]; exact gs_ku (gs_ne m02 t12 (by simp)) m02
      have hc_12 : σ_3 mc = some (gs_ia X 301 a92) := by rw [eσ_3]; exact gs_ku (Ne.symm (ndp hnd 0 4 (by decide) rfl rfl)) m12
      have hc_13 : σ_3 mi = some (gs_ia X 301 b92) := by rw [eσ_3]; exact gs_ku (Ne.symm (ndp hnd 0 5 (by decide) rfl rfl)) m22
      have hc_14 : σ_3 mb = some (gs_ia X 301 c92) := by rw [eσ_3]; exact gs_ku (Ne.symm (ndp hnd 0 6 (by decide) rfl rfl)) m32
      have hc_15 : σ_3 ma = some (gs_ob 3 [.ref tu, .ref va]) := by rw [eσ_3]; exact gs_ku (gs_ne q02 t12 (by simp)) q02
      have hc_16 : σ_3 va = some (gs_ia X 8 vs2) := by rw [eσ_3]; exact gs_ku (gs_ne q12 t12 (by simp)) q12
      have hc_17 : σ_3 ac = some (gs_ia X 301 cs3) := by rw [eσ_3]; exact gs_us
      have fr_18 : frm [rr, dv, tu, ac, ai, ab] σ σ_3 := by rw [eσ_3]; exact fr_2.up (by simp)
      obtain ⟨σ_19, eσ_19⟩ : ∃ zq, zq = gs_up σ_3 ai (gs_ia X 301 ci3) := ⟨_, rfl⟩
      have hc_20 : σ_19 rr = some (gs_ob 0 [.ref bk, .ref tu, .ref ma, .ref dv, .int (nI fc), dw]) := by rw [eσ_19]; exact gs_ku (gs_ne hc_4 hc_7 (by simp)) hc_4
      have hc_21 : σ_19 dv = some (gs_ob 1 [.ref bk, .ref tu, .ref ma, .ref la, .ref cm, .int (nI 0), .int (bI true), .int (nI 0)]) := by rw [eσ_19]; exact gs_ku (gs_ne hc_5 hc_7 (by simp)) hc_5
      have hc_22 : σ_19 tu = some (gs_ob 6 [.ref ac, .ref ai, .ref ab, .int (nI ((keepE E).length))]) := by rw [eσ_19]; exact gs_ku (gs_ne hc_6 hc_7 (by simp)) hc_6
      have hc_23 : σ_19 ab = some (gs_ia X 301 cr2) := by rw [eσ_19]; exact gs_ku (Ne.symm (ndp hnd 1 2 (by decide) rfl rfl)) hc_8
      have hc_24 : σ_19 la = some (gs_ob 6 [.ref lc, .ref li, .ref lb, .int (nI Lt.length)]) := by rw [eσ_19]; exact gs_ku (gs_ne hc_9 hc_7 (by simp)) hc_9
      have hc_25 : σ_19 lc = some (gs_ia X 301 ds2) := by rw [eσ_19]; exact gs_ku (Ne.symm (ndp hnd 1 3 (by decide) rfl rfl)) hc_10
      have hc_26 : σ_19 cm = some (gs_ob 6 [.ref mc, .ref mi, .ref mb, .int z92]) := by rw [eσ_19]; exact gs_ku (gs_ne hc_11 hc_7 (by simp)) hc_11
      have hc_27 : σ_19 mc = some (gs_ia X 301 a92) := by rw [eσ_19]; exact gs_ku (Ne.symm (ndp hnd 1 4 (by decide) rfl rfl)) hc_12
      have hc_28 : σ_19 mi = some (gs_ia X 301 b92) := by rw [eσ_19]; exact gs_ku (Ne.symm (ndp hnd 1 5 (by decide) rfl rfl)) hc_13
      have hc_29 : σ_19 mb = some (gs_ia X 301 c92) := by rw [eσ_19]; exact gs_ku (Ne.symm (ndp hnd 1 6 (by decide) rfl rfl)) hc_14
      have hc_30 : σ_19 ma = some (gs_ob 3 [.ref tu, .ref va]) := by rw [eσ_19]; exact gs_ku (gs_ne hc_15 hc_7 (by simp)) hc_15
      have hc_31 : σ_19 va = some (gs_ia X 8 vs2) := by rw [eσ_19]; exact gs_ku (gs_ne hc_16 hc_7 (by simp)) hc_16
      have hc_32 : σ_19 ac = some (gs_ia X 301 cs3) := by rw [eσ_19]; exact gs_ku (ndp hnd 0 1 (by decide) rfl rfl) hc_17
      have hc_33 : σ_19 ai = some (gs_ia X 301 ci3) := by rw [eσ_19]; exact gs_us
      have fr_34 : frm [rr, dv, tu, ac, ai, ab] σ σ_19 := by rw [eσ_19]; exact fr_18.up (by simp)
      obtain ⟨σ_35, eσ_35⟩ : ∃ zq, zq = gs_up σ_19 ab (gs_ia X 301 cr3) := ⟨_, rfl⟩
      have hc_36 : σ_35 rr = some (gs_ob 0 [.ref bk, .ref tu, .ref ma, .ref dv, .int (nI fc), dw]) := by rw [eσ_35]; exact gs_ku (gs_ne hc_20 hc_23 (by simp)) hc_20
      have hc_37 : σ_35 dv = some (gs_ob 1 [.ref bk, .ref tu, .ref ma, .ref la, .ref cm, .int (nI 0), .int (bI true), .int (nI 0)]) := by rw [eσ_35]; exact gs_ku (gs_ne hc_21 hc_23 (by simp)) hc_21
      have hc_38 : σ_35 tu = some (gs_ob 6 [.ref ac, .ref ai, .ref ab, .int (nI ((keepE E).length))]) := by rw [eσ_35]; exact gs_ku (gs_ne hc_22 hc_23 (by simp)) hc_22
      have hc_39 : σ_35 la = some (gs_ob 6 [.ref lc, .ref li, .ref lb, .int (nI Lt.length)]) := by rw [eσ_35]; exact gs_ku (gs_ne hc_24 hc_23 (by simp)) hc_24
      have hc_40 : σ_35 lc = some (gs_ia X 301 ds2) := by rw [eσ_35]; exact gs_ku (Ne.symm (ndp hnd 2 3 (by decide) rfl rfl)) hc_25
      have hc_41 : σ_35 cm = some (gs_ob 6 [.ref mc, .ref mi, .ref mb, .int z92]) := by rw [eσ_35]; exact gs_ku (gs_ne hc_26 hc_23 (by simp)) hc_26
      have hc_42 : σ_35 mc = some (gs_ia X 301 a92) := by rw [eσ_35]; exact gs_ku (Ne.symm (ndp hnd 2 4 (by decide) rfl rfl)) hc_27
      have hc_43 : σ_35 mi = some (gs_ia X 301 b92) := by rw [eσ_35]; exact gs_ku (Ne.symm (ndp hnd 2 5 (by decide) rfl rfl)) hc_28
      have hc_44 : σ_35 mb = some (gs_ia X 301 c92) := by rw [eσ_35]; exact gs_ku (Ne.symm (ndp hnd 2 6 (by decide) rfl rfl)) hc_29
      have hc_45 : σ_35 ma = some (gs_ob 3 [.ref tu, .ref va]) := by rw [eσ_35]; exact gs_ku (gs_ne hc_30 hc_23 (by simp)) hc_30
      have hc_46 : σ_35 va = some (gs_ia X 8 vs2) := by rw [eσ_35]; exact gs_ku (gs_ne hc_31 hc_23 (by simp)) hc_31
      have hc_47 : σ_35 ac = some (gs_ia X 301 cs3) := by rw [eσ_35]; exact gs_ku (ndp hnd 0 2 (by decide) rfl rfl) hc_32
      have hc_48 : σ_35 ai = some (gs_ia X 301 ci3) := by rw [eσ_35]; exact gs_ku (ndp hnd 1 2 (by decide) rfl rfl) hc_33
      have hc_49 : σ_35 ab = some (gs_ia X 301 cr3) := by rw [eσ_35]; exact gs_us
      have fr_50 : frm [rr, dv, tu, ac, ai, ab] σ σ_35 := by rw [eσ_35]; exact fr_34.up (by simp)
      obtain ⟨σ_51, eσ_51⟩ : ∃ zq, zq = gs_up σ_35 tu (gs_ob 6 [.ref ac, .ref ai, .ref ab, .int (nI ((keepE E).length + 1))]) := ⟨_, rfl⟩
      have hc_52 : σ_51 rr = some (gs_ob 0 [.ref bk, .ref tu, .ref ma, .ref dv, .int (nI fc), dw]) := by rw [eσ_51]; exact gs_ku (gs_ne hc_36 hc_38 (by simp)) hc_36
      have hc_53 : σ_51 dv = some (gs_ob 1 [.ref bk, .ref tu, .ref ma, .ref la, .ref cm, .int (nI 0), .int (bI true), .int (nI 0)]) := by rw [eσ_51]; exact gs_ku (gs_ne hc_37 hc_38 (by simp)) hc_37
      have hc_54 : σ_51 la = some (gs_ob 6 [.ref lc, .ref li, .ref lb, .int (nI Lt.length)]) := by rw [eσ_51]; exact gs_ku (Ne.symm (ndp hnd2 0 1 (by decide) rfl rfl)) hc_39
      have hc_55 : σ_51 lc = some (gs_ia X 301 ds2) := by rw [eσ_51]; exact gs_ku (gs_ne hc_40 hc_38 (by simp)) hc_40
      have hc_56 : σ_51 cm = some (gs_ob 6 [.ref mc, .ref mi, .ref mb, .int z92]) := by rw [eσ_51]; exact gs_ku (Ne.symm (ndp hnd2 0 2 (by decide) rfl rfl)) hc_41
      have hc_57 : σ_51 mc = some (gs_ia X 301 a92) := by rw [eσ_51]; exact gs_ku (gs_ne hc_42 hc_38 (by simp)) hc_42
      have hc_58 : σ_51 mi = some (gs_ia X 301 b92) := by rw [eσ_51]; exact gs_ku (gs_ne hc_43 hc_38 (by simp)) hc_43
      have hc_59 : σ_51 mb = some (gs_ia X 301 c92) := by rw [eσ_51]; exact gs_ku (gs_ne hc_44 hc_38 (by simp)) hc_44
      have hc_60 : σ_51 ma = some (gs_ob 3 [.ref tu, .ref va]) := by rw [eσ_51]; exact gs_ku (gs_ne hc_45 hc_38 (by simp)) hc_45
      have hc_61 : σ_51 va = some (gs_ia X 8 vs2) := by rw [eσ_51]; exact gs_ku (gs_ne hc_46 hc_38 (by simp)) hc_46
      have hc_62 : σ_51 ac = some (gs_ia X 301 cs3) := by rw [eσ_51]; exact gs_ku (gs_ne hc_47 hc_38 (by simp)) hc_47
      have hc_63 : σ_51 ai = some (gs_ia X 301 ci3) := by rw [eσ_51]; exact gs_ku (gs_ne hc_48 hc_38 (by simp)) hc_48
      have hc_64 : σ_51 ab = some (gs_ia X 301 cr3) := by rw [eσ_51]; exact gs_ku (gs_ne hc_49 hc_38 (by simp)) hc_49
      have hc_65 : σ_51 tu = some (gs_ob 6 [.ref ac, .ref ai, .ref ab, .int (nI ((keepE E).length + 1))]) := by rw [eσ_51]; exact gs_us
      have fr_66 : frm [rr, dv, tu, ac, ai, ab] σ σ_51 := by rw [eσ_51]; exact fr_50.up (by simp)
      rw [← eσ_3, ← eσ_19, ← eσ_35, ← eσ_51] at hG
      refine lv_aload_n hx hb d_RR_fact_71 rfl (lv_at hl 1 rfl) ?_
      refine lv_dup hx hb d_RR_fact_72 rfl ?_
      refine gs_get hx hb ht hown hK hG k_RR hc_52 4 (by decide) w_141 rfl d_RR_fact_73 ?_
      refine lv_iconst (v := nI 1) hx hb d_RR_fact_76 (by decide) ?_
      refine lv_iadd hx hb d_RR_fact_77 ?_
      refine gs_top (nI_add fc 1) ?_
      refine gs_put hx hb ht hown hK hG hS k_RR hc_52 4 (by decide) w_141 rfl rfl rfl (Nat.le_of_ble_eq_true rfl) d_RR_fact_78 (fun H locs hG hS => ?_)
      have hG : gs_H X (gs_up σ_51 rr (gs_ob 0 [.ref bk, .ref tu, .ref ma, .ref dv, .int (nI (fc + 1)), dw])) H := hG
      obtain ⟨σ_67, eσ_67⟩ : ∃ zq, zq = gs_up σ_51 rr (gs_ob 0 [.ref bk, .ref tu, .ref ma, .ref dv, .int (nI (fc + 1)), dw]) := ⟨_, rfl⟩
      rw [← eσ_67] at hG
      have hc_68 : σ_67 dv = some (gs_ob 1 [.ref bk, .ref tu, .ref ma, .ref la, .ref cm, .int (nI 0), .int (bI true), .int (nI 0)]) := by rw [eσ_67]; exact gs_ku (gs_ne hc_53 hc_52 (by simp)) hc_53
      have hc_69 : σ_67 la = some (gs_ob 6 [.ref lc, .ref li, .ref lb, .int (nI Lt.length)]) := by rw [eσ_67]; exact gs_ku (gs_ne hc_54 hc_52 (by simp)) hc_54
      have hc_70 : σ_67 lc = some (gs_ia X 301 ds2) := by rw [eσ_67]; exact gs_ku (gs_ne hc_55 hc_52 (by simp)) hc_55
      have hc_71 : σ_67 cm = some (gs_ob 6 [.ref mc, .ref mi, .ref mb, .int z92]) := by rw [eσ_67]; exact gs_ku (gs_ne hc_56 hc_52 (by simp)) hc_56
      have hc_72 : σ_67 mc = some (gs_ia X 301 a92) := by rw [eσ_67]; exact gs_ku (gs_ne hc_57 hc_52 (by simp)) hc_57
      have hc_73 : σ_67 mi = some (gs_ia X 301 b92) := by rw [eσ_67]; exact gs_ku (gs_ne hc_58 hc_52 (by simp)) hc_58
      have hc_74 : σ_67 mb = some (gs_ia X 301 c92) := by rw [eσ_67]; exact gs_ku (gs_ne hc_59 hc_52 (by simp)) hc_59
      have hc_75 : σ_67 ma = some (gs_ob 3 [.ref tu, .ref va]) := by rw [eσ_67]; exact gs_ku (gs_ne hc_60 hc_52 (by simp)) hc_60
      have hc_76 : σ_67 va = some (gs_ia X 8 vs2) := by rw [eσ_67]; exact gs_ku (gs_ne hc_61 hc_52 (by simp)) hc_61
      have hc_77 : σ_67 ac = some (gs_ia X 301 cs3) := by rw [eσ_67]; exact gs_ku (gs_ne hc_62 hc_52 (by simp)) hc_62
      have hc_78 : σ_67 ai = some (gs_ia X 301 ci3) := by rw [eσ_67]; exact gs_ku (gs_ne hc_63 hc_52 (by simp)) hc_63
      have hc_79 : σ_67 ab = some (gs_ia X 301 cr3) := by rw [eσ_67]; exact gs_ku (gs_ne hc_64 hc_52 (by simp)) hc_64
      have hc_80 : σ_67 tu = some (gs_ob 6 [.ref ac, .ref ai, .ref ab, .int (nI ((keepE E).length + 1))]) := by rw [eσ_67]; exact gs_ku (gs_ne hc_65 hc_52 (by simp)) hc_65
      have hc_81 : σ_67 rr = some (gs_ob 0 [.ref bk, .ref tu, .ref ma, .ref dv, .int (nI (fc + 1)), dw]) := by rw [eσ_67]; exact gs_us
      have fr_82 : frm [rr, dv, tu, ac, ai, ab] σ σ_67 := by rw [eσ_67]; exact fr_66.up (by simp)
      refine lv_iconst (v := nI 1) hx hb d_RR_fact_81 (by decide) ?_
      exact gs_iret (v := (nI 1)) hx hb hr rfl hK hE hz hG hS hlocks (by first | decide | omega | (dsimp only [headSpec]; omega)) (by first | decide | omega | (dsimp only [headSpec]; omega)) (by rw [← ecd]; exact ⟨⟨cs3, ci3, cr3, ds2, vs2, a92, b92, c92, z92, hc_68, (by rw [hln]; exact hc_80), hc_77, hc_78, hc_79, hc_69, hc_70, hc_71, hc_72, hc_73, hc_74, hc_75, hc_76, hB3, hR3, (by omega), hs22, hn22, hds2, hv2⟩, hc_81, fr_82, rfl⟩) d_RR_fact_82
    · have c_40 : ¬ fc < 200 := mt (nI_ltI (by omega) (by omega)).mpr c_40
      omega
  · exact absurd (of_decide_eq_true (bI_n0 c_28)) (by rw [ecd]; exact hin)
