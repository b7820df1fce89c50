set_option maxHeartbeats 4000000 in
set_option maxRecDepth 100000 in
/-- valueAt writes nothing -/
theorem c_RR_valueAt_p (l : Launch) (X : gs_X) (σ : gs_St) (cd j : Nat)
    (hc : cd < 2 ^ 30) (hj : j < 3) : gs_Mp l X y_RR_valueAt b_RR_valueAt 2 (some .int) ({ frames := 0, cells := 0, slots := 0, locals := 0 }) σ [.int (nI cd), .int (nI j)] (fun r => r = nI (vat cd j)) := by
  refine Met.ofW (cc := b_RR_valueAt) (maxL := 2) (ret := (some .int)) (by decide) rfl ?_
  intro p e s m args below meth c s₁ B₀ hml hv
  obtain ⟨rfl, hK, hG, hz, hE⟩ := hv
  have hx := B₀.exec
  have hb := B₀.bytes
  have hr := B₀.returns
  have hts := atoms_spec (ws := gs_ws y_RR_valueAt b_RR_valueAt 2 (some .int)) B₀.pre
  have ht : ∀ w ∈ gs_w, w.before _ s = true := fun w h => hts w (List.mem_cons_of_mem _ h)
  have hown : s.vm.findClass R_RR = some m.cls := findClass_of_methodNamed B₀.named
  have hlocks := B₀.notSynchronized
  have hA : ∀ q : Nat, s.heap.size ≤ q → gs_A X q := fun q h => Nat.le_trans hz h
  have hS : va_S (gs_A X) s.heap s.heap [] := va_S.rf
  have hl := lv_entry ([.int (nI cd), .int (nI j)]) (n := 2) (Nat.le_of_ble_eq_true rfl)
  rw [lg_entry_eq]
  generalize (lg_sl ([.int (nI cd), .int (nI j)]) ++ List.replicate (2 - (lg_sl ([.int (nI cd), .int (nI j)])).length) Slot.unset).toArray = ls at hl ⊢
  have hl : lv_has ls 2 [(0, .int (nI cd)), (1, .int (nI j))] := hl
  refine lv_iload_n hx hb d_RR_valueAt_0 rfl (lv_at hl 0 rfl) ?_
  refine lv_bipush (v := nI 6) hx hb d_RR_valueAt_1 (by decide) ?_
  refine lv_iconst (v := nI 2) hx hb d_RR_valueAt_3 (by decide) ?_
  refine lv_iload_n hx hb d_RR_valueAt_4 rfl (lv_at hl 1 rfl) ?_
  refine lv_isub hx hb d_RR_valueAt_5 ?_
  refine gs_top (pk_sub (a := 2) (b := j) (by omega)) ?_
  refine lv_imul hx hb d_RR_valueAt_6 ?_
  refine gs_top (pk_mul 6 (2 - j)) ?_
  refine lv_ishr hx hb d_RR_valueAt_7 ?_
  refine gs_top (show ((nI cd) >>> ((nI (6 * (2 - j))) &&& 31)) = (nI (cd / 64 ^ (2 - j))) from gs_shr6 (by omega) hj) ?_
  refine lv_bipush (v := nI 63) hx hb d_RR_valueAt_8 (by decide) ?_
  refine lv_iand hx hb d_RR_valueAt_10 ?_
  refine gs_top (show ((nI (cd / 64 ^ (2 - j))) &&& (nI 63)) = (nI (cd / 64 ^ (2 - j) % 64)) from gs_and63 (Nat.lt_of_le_of_lt (Nat.div_le_self _ _) (by omega))) ?_
  exact gs_iretp (v := (nI (cd / 64 ^ (2 - j) % 64))) hx hb hr rfl hlocks (Nat.zero_le _) (Nat.zero_le _) (rfl) d_RR_valueAt_11
set_option maxHeartbeats 4000000 in
set_option maxRecDepth 100000 in
/-- RuleRounds.tuple -/
theorem c_RR_tuple (l : Launch) (X : gs_X) (σ : gs_St) (rr bk tu ma dv co ru sr nr nq fc : Nat) (sc : Int32) (dw : Value) (ac ai ab : Nat) (E : List En) (cs ci cr : Nat → Int32) (rl : Nat) (pl wh : Nat)
    (x0 : σ rr = some (gs_ob 0 [.ref bk, .ref tu, .ref ma, .ref dv, .int (nI fc), dw])) (x1 : σ bk = some (gs_ob 5 [.ref co, .ref ru, .ref sr, .int (nI nr), .int (nI nq), .int sc])) (hnr : nr ≤ 12) (hB : tuB E) (hR : tuR E cs ci cr) (h0 : σ tu = some (gs_ob 6 [.ref ac, .ref ai, .ref ab, .int (nI E.length)])) (h1 : σ ac = some (gs_ia X 301 cs)) (h2 : σ ai = some (gs_ia X 301 ci)) (h3 : σ ab = some (gs_ia X 301 cr)) (hrl : rl < nr) (hpl : pl < cb (cds E) ((rl + 1) * 262144) - cb (cds E) (rl * 262144)) (hwh : wh < 5) : gs_Mp l X y_RR_tuple b_RR_tuple 5 (some .int) ({ frames := 2, cells := 0, slots := 0, locals := 45 }) σ [.ref rr, .int (nI rl), .int (nI pl), .int (nI wh)] (fun r => ∃ x, E[cb (cds E) (rl * 262144) + pl]? = some x ∧ r = tupR x wh) := by
  refine Met.ofW (cc := b_RR_tuple) (maxL := 5) (ret := (some .int)) (by decide) rfl ?_
  intro p e s m args below meth c s₁ B₀ hml hv
  obtain ⟨rfl, hK, hG, hz, hE⟩ := hv
  have hx := B₀.exec
  have hb := B₀.bytes
  have hr := B₀.returns
  have hts := atoms_spec (ws := gs_ws y_RR_tuple b_RR_tuple 5 (some .int)) B₀.pre
  have ht : ∀ w ∈ gs_w, w.before _ s = true := fun w h => hts w (List.mem_cons_of_mem _ h)
  have hown : s.vm.findClass R_RR = some m.cls := findClass_of_methodNamed B₀.named
  have hlocks := B₀.notSynchronized
  have hA : ∀ q : Nat, s.heap.size ≤ q → gs_A X q := fun q h => Nat.le_trans hz h
  have hS : va_S (gs_A X) s.heap s.heap [] := va_S.rf
  have hl := lv_entry ([.ref rr, .int (nI rl), .int (nI pl), .int (nI wh)]) (n := 5) (Nat.le_of_ble_eq_true rfl)
  rw [lg_entry_eq]
  generalize (lg_sl ([.ref rr, .int (nI rl), .int (nI pl), .int (nI wh)]) ++ List.replicate (5 - (lg_sl ([.ref rr, .int (nI rl), .int (nI pl), .int (nI wh)])).length) Slot.unset).toArray = ls at hl ⊢
  have hl : lv_has ls 5 [(0, .ref rr), (1, .int (nI rl)), (2, .int (nI pl)), (3, .int (nI wh))] := hl
  have hcl : cb (cds E) ((rl + 1) * 262144) ≤ E.length := by simpa using cb_le (cds E) ((rl + 1) * 262144)
  have hlen := hB.2.1
  refine lv_aload_n hx hb d_RR_tuple_0 rfl (lv_at hl 0 rfl) ?_
  refine lv_iload_n hx hb d_RR_tuple_1 rfl (lv_at hl 1 rfl) ?_
  refine gs_callVpv (As := [.int (nI rl)]) (rest := []) ⟨hx, hb, hml, hown, hts⟩ hK hE hz hG hS (c_RR_requireRelation l X σ rr bk tu ma dv co ru sr nr nq fc sc dw (nI rl) x0 x1 hnr (wi_nI hrl (by omega))) ⟨rfl, rfl⟩ mV_RR_requireRelation w_391 x0 rfl rfl hl.1 rfl (Nat.le_of_ble_eq_true rfl) ⟨(by first | decide | omega | (dsimp only [headSpec]; omega)), (by first | decide | omega | (dsimp only [headSpec]; omega))⟩ ⟨(by first | decide | omega | (dsimp only [headSpec]; omega)), (by first | decide | omega | (dsimp only [headSpec]; omega))⟩ d_RR_tuple_2 ?_
  refine lv_iload_n hx hb d_RR_tuple_5 rfl (lv_at hl 2 rfl) ?_
  refine lv_if_lt (tgt := 18) hx hb d_RR_tuple_6 (by decide) (fun c_6 => ?_) (fun c_6 => ?_)
  · exact absurd c_6 (nI_pos (by omega))
    
  · refine lv_iload_n hx hb d_RR_tuple_9 rfl (lv_at hl 2 rfl) ?_
    refine lv_aload_n hx hb d_RR_tuple_10 rfl (lv_at hl 0 rfl) ?_
    refine lv_iload_n hx hb d_RR_tuple_11 rfl (lv_at hl 1 rfl) ?_
    refine gs_callVp (As := [.int (nI rl)]) (rest := [.int (nI pl)]) ⟨hx, hb, hml, hown, hts⟩ hK hE hz hG hS (c_RR_sizeOf l X σ rr bk tu ma dv fc dw ac ai ab (cds E) cs rl x0 hB.1 (by rw [cds_len]; exact hB.2.1) (hR.cds hB.2.2) (by rw [cds_len]; exact h0) h1 (by omega)) ⟨rfl, rfl⟩ mV_RR_sizeOf w_597 x0 rfl rfl hl.1 rfl (Nat.le_of_ble_eq_true rfl) ⟨(by first | decide | omega | (dsimp only [headSpec]; omega)), (by first | decide | omega | (dsimp only [headSpec]; omega))⟩ ⟨(by first | decide | omega | (dsimp only [headSpec]; omega)), (by first | decide | omega | (dsimp only [headSpec]; omega))⟩ d_RR_tuple_12 (fun r_12 hp_12 => ?_)
    refine gs_top (show r_12 = (nI (cb (cds E) ((rl + 1) * 262144) - cb (cds E) (rl * 262144))) from hp_12) ?_
    refine lv_icmp_lt (tgt := 28) hx hb d_RR_tuple_15 (by decide) (fun c_15 => ?_) (fun c_15 => ?_)
    · have c_15 : pl < (cb (cds E) ((rl + 1) * 262144) - cb (cds E) (rl * 262144)) := (nI_ltI (by omega) (by omega)).mp c_15
      refine lv_aload_n hx hb d_RR_tuple_28 rfl (lv_at hl 0 rfl) ?_
      refine gs_get hx hb ht hown hK hG k_RR x0 1 (by decide) w_138 rfl d_RR_tuple_29 ?_
      refine lv_iload_n hx hb d_RR_tuple_32 rfl (lv_at hl 1 rfl) ?_
      refine lv_iconst (v := nI 0) hx hb d_RR_tuple_33 (by decide) ?_
      refine lv_iconst (v := nI 0) hx hb d_RR_tuple_34 (by decide) ?_
      refine lv_iconst (v := nI 0) hx hb d_RR_tuple_35 (by decide) ?_
      refine gs_callSp (As := [.int (nI rl), .int (nI 0), .int (nI 0), .int (nI 0)]) (rest := [.ref tu]) ⟨hx, hb, hml, hown, hts⟩ hK hE hz hG hS (c_RR_codeOf l X σ rl 0 0 0) ⟨rfl, rfl⟩ mS_RR_codeOf w_403 rfl hl.1 rfl (Nat.le_of_ble_eq_true rfl) ⟨(by first | decide | omega | (dsimp only [headSpec]; omega)), (by first | decide | omega | (dsimp only [headSpec]; omega))⟩ ⟨(by first | decide | omega | (dsimp only [headSpec]; omega)), (by first | decide | omega | (dsimp only [headSpec]; omega))⟩ d_RR_tuple_36 (fun r_36 hp_36 => ?_)
      refine gs_top (show r_36 = (nI (((rl * 64 + 0) * 64 + 0) * 64 + 0)) from hp_36) ?_
      refine gs_top (show nI (((rl * 64 + 0) * 64 + 0) * 64 + 0) = nI (rl * 262144) from congrArg nI (by omega)) ?_
      refine gs_callVp (As := [.int (nI (rl * 262144))]) (rest := []) ⟨hx, hb, hml, hown, hts⟩ hK hE hz hG hS (c_TU_placeOf_p l X σ tu ac ai ab (cds E) cs (rl * 262144) hB.1 (by rw [cds_len]; exact hB.2.1) (hR.cds hB.2.2) (by omega) (by rw [cds_len]; exact h0) h1) ⟨rfl, rfl⟩ mV_TU_placeOf w_601 h0 rfl rfl hl.1 rfl (Nat.le_of_ble_eq_true rfl) ⟨(by first | decide | omega | (dsimp only [headSpec]; omega)), (by first | decide | omega | (dsimp only [headSpec]; omega))⟩ ⟨(by first | decide | omega | (dsimp only [headSpec]; omega)), (by first | decide | omega | (dsimp only [headSpec]; omega))⟩ d_RR_tuple_39 (fun r_39 hp_39 => ?_)
      refine gs_top (show r_39 = (nI (cb (cds E) (rl * 262144))) from hp_39) ?_
      refine lv_iload_n hx hb d_RR_tuple_42 rfl (lv_at hl 2 rfl) ?_
      refine lv_iadd hx hb d_RR_tuple_43 ?_
      refine gs_top (nI_add (cb (cds E) (rl * 262144)) pl) ?_
      refine lv_istore (lv' := [(4, .int (nI ((cb (cds E) (rl * 262144)) + pl))), (0, .ref rr), (1, .int (nI rl)), (2, .int (nI pl)), (3, .int (nI wh))]) hx hb d_RR_tuple_44 hl (by decide) rfl (fun ls hl => ?_)
      obtain ⟨x, hx9⟩ := get_ex (L := E) (j := cb (cds E) (rl * 262144) + pl) (by omega)
      obtain ⟨hx1, hx2, hx3⟩ := hR _ _ hx9
      have hx4 := hB.2.2 x (List.mem_of_getElem? hx9)
      refine lv_iload_n hx hb d_RR_tuple_46 rfl (lv_at hl 4 rfl) ?_
      rcases Nat.lt_or_ge wh 5 with hsw_47 | hsw_47
      · rcases (show wh = 0 ∨ wh = 1 ∨ wh = 2 ∨ wh = 3 ∨ wh = 4 by omega) with hsw_47 | hsw_47 | hsw_47 | hsw_47 | hsw_47
        · refine gs_top (show nI wh = nI 0 from congrArg nI hsw_47) ?_
          refine lv_tableIn (off := 33) (tgt := 80) hx hb d_RR_tuple_47 (by decide) (by decide) (by decide) (by decide) ?_
          refine lv_aload_n hx hb d_RR_tuple_80 rfl (lv_at hl 1 rfl) ?_
          refine gs_get hx hb ht hown hK hG k_RR x0 1 (by decide) w_138 rfl d_RR_tuple_81 ?_
          refine gs_get hx hb ht hown hK hG k_TU h0 0 (by decide) w_71 rfl d_RR_tuple_84 ?_
          refine lv_iload hx hb d_RR_tuple_87 (lv_at hl 0 rfl) ?_
          refine gs_iald hx hb hK hG h1 (j := (cb (cds E) (rl * 262144)) + pl) (by omega) (by omega) d_RR_tuple_89 ?_
          refine gs_top (show (cs ((cb (cds E) (rl * 262144)) + pl)) = (nI x.1) from hx1) ?_
          refine lv_iload_n hx hb d_RR_tuple_90 rfl (lv_at hl 4 rfl) ?_
          refine gs_callSp (As := [.int (nI x.1), .int (nI wh)]) (rest := []) ⟨hx, hb, hml, hown, hts⟩ hK hE hz hG hS (c_RR_valueAt_p l X σ x.1 wh hx4.1 (by omega)) ⟨rfl, rfl⟩ mS_RR_valueAt w_618 rfl hl.1 rfl (Nat.le_of_ble_eq_true rfl) ⟨(by first | decide | omega | (dsimp only [headSpec]; omega)), (by first | decide | omega | (dsimp only [headSpec]; omega))⟩ ⟨(by first | decide | omega | (dsimp only [headSpec]; omega)), (by first | decide | omega | (dsimp only [headSpec]; omega))⟩ d_RR_tuple_91 (fun r_91 hp_91 => ?_)
          refine gs_top (show r_91 = (nI (vat x.1 wh)) from hp_91) ?_
          exact gs_iretp (v := (nI (vat x.1 wh))) hx hb hr rfl hlocks (Nat.zero_le _) (Nat.zero_le _) (⟨x, hx9, by unfold tupR; rw [if_pos (by omega)]⟩) d_RR_tuple_94
        · refine gs_top (show nI wh = nI 1 from congrArg nI hsw_47) ?_
          refine lv_tableIn (off := 33) (tgt := 80) hx hb d_RR_tuple_47 (by decide) (by decide) (by decide) (by decide) ?_
          refine lv_aload_n hx hb d_RR_tuple_80 rfl (lv_at hl 1 rfl) ?_
          refine gs_get hx hb ht hown hK hG k_RR x0 1 (by decide) w_138 rfl d_RR_tuple_81 ?_
          refine gs_get hx hb ht hown hK hG k_TU h0 0 (by decide) w_71 rfl d_RR_tuple_84 ?_
          refine lv_iload hx hb d_RR_tuple_87 (lv_at hl 0 rfl) ?_
          refine gs_iald hx hb hK hG h1 (j := (cb (cds E) (rl * 262144)) + pl) (by omega) (by omega) d_RR_tuple_89 ?_
          refine gs_top (show (cs ((cb (cds E) (rl * 262144)) + pl)) = (nI x.1) from hx1) ?_
          refine lv_iload_n hx hb d_RR_tuple_90 rfl (lv_at hl 4 rfl) ?_
          refine gs_callSp (As := [.int (nI x.1), .int (nI wh)]) (rest := []) ⟨hx, hb, hml, hown, hts⟩ hK hE hz hG hS (c_RR_valueAt_p l X σ x.1 wh hx4.1 (by omega)) ⟨rfl, rfl⟩ mS_RR_valueAt w_618 rfl hl.1 rfl (Nat.le_of_ble_eq_true rfl) ⟨(by first | decide | omega | (dsimp only [headSpec]; omega)), (by first | decide | omega | (dsimp only [headSpec]; omega))⟩ ⟨(by first | decide | omega | (dsimp only [headSpec]; omega)), (by first | decide | omega | (dsimp only [headSpec]; omega))⟩ d_RR_tuple_91 (fun r_91 hp_91 => ?_)
          refine gs_top (show r_91 = (nI (vat x.1 wh)) from hp_91) ?_
          exact gs_iretp (v := (nI (vat x.1 wh))) hx hb hr rfl hlocks (Nat.zero_le _) (Nat.zero_le _) (⟨x, hx9, by unfold tupR; rw [if_pos (by omega)]⟩) d_RR_tuple_94
        · refine gs_top (show nI wh = nI 2 from congrArg nI hsw_47) ?_
          refine lv_tableIn (off := 33) (tgt := 80) hx hb d_RR_tuple_47 (by decide) (by decide) (by decide) (by decide) ?_
          refine lv_aload_n hx hb d_RR_tuple_80 rfl (lv_at hl 1 rfl) ?_
          refine gs_get hx hb ht hown hK hG k_RR x0 1 (by decide) w_138 rfl d_RR_tuple_81 ?_
          refine gs_get hx hb ht hown hK hG k_TU h0 0 (by decide) w_71 rfl d_RR_tuple_84 ?_
          refine lv_iload hx hb d_RR_tuple_87 (lv_at hl 0 rfl) ?_
          refine gs_iald hx hb hK hG h1 (j := (cb (cds E) (rl * 262144)) + pl) (by omega) (by omega) d_RR_tuple_89 ?_
          refine gs_top (show (cs ((cb (cds E) (rl * 262144)) + pl)) = (nI x.1) from hx1) ?_
          refine lv_iload_n hx hb d_RR_tuple_90 rfl (lv_at hl 4 rfl) ?_
          refine gs_callSp (As := [.int (nI x.1), .int (nI wh)]) (rest := []) ⟨hx, hb, hml, hown, hts⟩ hK hE hz hG hS (c_RR_valueAt_p l X σ x.1 wh hx4.1 (by omega)) ⟨rfl, rfl⟩ mS_RR_valueAt w_618 rfl hl.1 rfl (Nat.le_of_ble_eq_true rfl) ⟨(by first | decide | omega | (dsimp only [headSpec]; omega)), (by first | decide | omega | (dsimp only [headSpec]; omega))⟩ ⟨(by first | decide | omega | (dsimp only [headSpec]; omega)), (by first | decide | omega | (dsimp only [headSpec]; omega))⟩ d_RR_tuple_91 (fun r_91 hp_91 => ?_)
          refine gs_top (show r_91 = (nI (vat x.1 wh)) from hp_91) ?_
          exact gs_iretp (v := (nI (vat x.1 wh))) hx hb hr rfl hlocks (Nat.zero_le _) (Nat.zero_le _) (⟨x, hx9, by unfold tupR; rw [if_pos (by omega)]⟩) d_RR_tuple_94
        · refine gs_top (show nI wh = nI 3 from congrArg nI hsw_47) ?_
          refine lv_tableIn (off := 48) (tgt := 95) hx hb d_RR_tuple_47 (by decide) (by decide) (by decide) (by decide) ?_
          refine lv_aload_n hx hb d_RR_tuple_95 rfl (lv_at hl 1 rfl) ?_
          refine gs_get hx hb ht hown hK hG k_RR x0 1 (by decide) w_138 rfl d_RR_tuple_96 ?_
          refine gs_get hx hb ht hown hK hG k_TU h0 1 (by decide) w_73 rfl d_RR_tuple_99 ?_
          refine lv_iload hx hb d_RR_tuple_102 (lv_at hl 0 rfl) ?_
          refine gs_iald hx hb hK hG h2 (j := (cb (cds E) (rl * 262144)) + pl) (by omega) (by omega) d_RR_tuple_104 ?_
          refine gs_top (show (ci ((cb (cds E) (rl * 262144)) + pl)) = (nI x.2.1) from hx2) ?_
          exact gs_iretp (v := (nI x.2.1)) hx hb hr rfl hlocks (Nat.zero_le _) (Nat.zero_le _) (⟨x, hx9, by unfold tupR; rw [if_neg (by omega), if_pos hsw_47]⟩) d_RR_tuple_105
        · refine gs_top (show nI wh = nI 4 from congrArg nI hsw_47) ?_
          refine lv_tableIn (off := 59) (tgt := 106) hx hb d_RR_tuple_47 (by decide) (by decide) (by decide) (by decide) ?_
          refine lv_aload_n hx hb d_RR_tuple_106 rfl (lv_at hl 1 rfl) ?_
          refine gs_get hx hb ht hown hK hG k_RR x0 1 (by decide) w_138 rfl d_RR_tuple_107 ?_
          refine gs_get hx hb ht hown hK hG k_TU h0 2 (by decide) w_76 rfl d_RR_tuple_110 ?_
          refine lv_iload hx hb d_RR_tuple_113 (lv_at hl 0 rfl) ?_
          refine gs_iald hx hb hK hG h3 (j := (cb (cds E) (rl * 262144)) + pl) (by omega) (by omega) d_RR_tuple_115 ?_
          refine gs_top (show (cr ((cb (cds E) (rl * 262144)) + pl)) = x.2.2 from hx3) ?_
          exact gs_iretp (v := x.2.2) hx hb hr rfl hlocks (Nat.zero_le _) (Nat.zero_le _) (⟨x, hx9, by unfold tupR; rw [if_neg (by omega), if_neg (by omega)]⟩) d_RR_tuple_116
      · refine lv_tableOut (tgt := 117) hx hb d_RR_tuple_47 (Or.inr (by rw [nI_toInt (by omega)]; omega)) (by decide) ?_
        omega
    · have c_15 : ¬ pl < (cb (cds E) ((rl + 1) * 262144) - cb (cds E) (rl * 262144)) := mt (nI_ltI (by omega) (by omega)).mpr c_15
      omega
set_option maxHeartbeats 4000000 in
set_option maxRecDepth 100000 in
/-- RuleRounds.tuple of no place -/
theorem c_RR_tuple_t (l : Launch) (X : gs_X) (σ : gs_St) (rr bk tu ma dv co ru sr nr nq fc : Nat) (sc : Int32) (dw : Value) (ac ai ab : Nat) (E : List En) (cs ci cr : Nat → Int32) (rl : Nat) (x y : Int32)
    (htr : l.stackTraces = false) (x0 : σ rr = some (gs_ob 0 [.ref bk, .ref tu, .ref ma, .ref dv, .int (nI fc), dw])) (x1 : σ bk = some (gs_ob 5 [.ref co, .ref ru, .ref sr, .int (nI nr), .int (nI nq), .int sc])) (hnr : nr ≤ 12) (hB : tuB E) (hR : tuR E cs ci cr) (h0 : σ tu = some (gs_ob 6 [.ref ac, .ref ai, .ref ab, .int (nI E.length)])) (h1 : σ ac = some (gs_ia X 301 cs)) (h2 : σ ai = some (gs_ia X 301 ci)) (h3 : σ ab = some (gs_ia X 301 cr)) (hrl : rl < nr) (hok : ¬ (¬ x < 0 ∧ x < nI (cb (cds E) ((rl + 1) * 262144) - cb (cds E) (rl * 262144)))) : gs_Mt l X y_RR_tuple b_RR_tuple 5 (some .int) ({ frames := 6, cells := 1, slots := 6, locals := 90 }) σ [.ref rr, .int (nI rl), .int x, .int y] xI := by
  refine gs_MetT.ofW (cc := b_RR_tuple) (maxL := 5) (ret := (some .int)) (by decide) rfl ?_
  intro p e s m args below meth c s₁ B₀ hml hv
  obtain ⟨rfl, hK, hG, hz, hE⟩ := hv
  have hx := B₀.exec
  have hb := B₀.bytes
  have hr := B₀.returns
  have hts := atoms_spec (ws := gs_ws y_RR_tuple b_RR_tuple 5 (some .int)) B₀.pre
  have ht : ∀ w ∈ gs_w, w.before _ s = true := fun w h => hts w (List.mem_cons_of_mem _ h)
  have hown : s.vm.findClass R_RR = some m.cls := findClass_of_methodNamed B₀.named
  have hlocks := B₀.notSynchronized
  have hout9 : ∀ pc, ∀ x ∈ c.exceptionTable.toList, covers x pc = false := covers_of_empty (B₀.noHandlers (hts _ List.mem_cons_self))
  have hA : ∀ q : Nat, s.heap.size ≤ q → gs_A X q := fun q h => Nat.le_trans hz h
  have hS : va_S (gs_A X) s.heap s.heap [] := va_S.rf
  have hl := lv_entry ([.ref rr, .int (nI rl), .int x, .int y]) (n := 5) (Nat.le_of_ble_eq_true rfl)
  rw [lg_entry_eq]
  generalize (lg_sl ([.ref rr, .int (nI rl), .int x, .int y]) ++ List.replicate (5 - (lg_sl ([.ref rr, .int (nI rl), .int x, .int y])).length) Slot.unset).toArray = ls at hl ⊢
  have hl : lv_has ls 5 [(0, .ref rr), (1, .int (nI rl)), (2, .int x), (3, .int y)] := hl
  have hcl : cb (cds E) ((rl + 1) * 262144) ≤ E.length := by simpa using cb_le (cds E) ((rl + 1) * 262144)
  have hlen := hB.2.1
  refine lv_aload_n hx hb d_RR_tuple_0 rfl (lv_at hl 0 rfl) ?_
  refine lv_iload_n hx hb d_RR_tuple_1 rfl (lv_at hl 1 rfl) ?_
  refine gs_callVpv (As := [.int (nI rl)]) (rest := []) ⟨hx, hb, hml, hown, hts⟩ hK hE hz hG hS (c_RR_requireRelation l X σ rr bk tu ma dv co ru sr nr nq fc sc dw (nI rl) x0 x1 hnr (wi_nI hrl (by omega))) ⟨rfl, rfl⟩ mV_RR_requireRelation w_391 x0 rfl rfl hl.1 rfl (Nat.le_of_ble_eq_true rfl) ⟨(by first | decide | omega | (dsimp only [headSpec]; omega)), (by first | decide | omega | (dsimp only [headSpec]; omega))⟩ ⟨(by first | decide | omega | (dsimp only [headSpec]; omega)), (by first | decide | omega | (dsimp only [headSpec]; omega))⟩ d_RR_tuple_2 ?_
  refine lv_iload_n hx hb d_RR_tuple_5 rfl (lv_at hl 2 rfl) ?_
  refine lv_if_lt (tgt := 18) hx hb d_RR_tuple_6 (by decide) (fun c_6 => ?_) (fun c_6 => ?_)
  · exact gs_thrI hx hb hml htr hown ht hK hE hz hG (List.mem_of_getElem? (i := 12) rfl) hl.1 d_RR_tuple_18 d_RR_tuple_21 d_RR_tuple_22 d_RR_tuple_24 d_RR_tuple_27 (hout9 _) ⟨(by first | decide | omega | (dsimp only [headSpec]; omega)), (by first | decide | omega | (dsimp only [headSpec]; omega)), (by first | decide | omega | (dsimp only [headSpec]; omega)), (by first | decide | omega | (dsimp only [headSpec]; omega))⟩ ⟨(by first | decide | omega | (dsimp only [headSpec]; omega)), (by first | decide | omega | (dsimp only [headSpec]; omega))⟩ hlocks
  · refine lv_iload_n hx hb d_RR_tuple_9 rfl (lv_at hl 2 rfl) ?_
    refine lv_aload_n hx hb d_RR_tuple_10 rfl (lv_at hl 0 rfl) ?_
    refine lv_iload_n hx hb d_RR_tuple_11 rfl (lv_at hl 1 rfl) ?_
    refine gs_callVp (As := [.int (nI rl)]) (rest := [.int x]) ⟨hx, hb, hml, hown, hts⟩ hK hE hz hG hS (c_RR_sizeOf l X σ rr bk tu ma dv fc dw ac ai ab (cds E) cs rl x0 hB.1 (by rw [cds_len]; exact hB.2.1) (hR.cds hB.2.2) (by rw [cds_len]; exact h0) h1 (by omega)) ⟨rfl, rfl⟩ mV_RR_sizeOf w_597 x0 rfl rfl hl.1 rfl (Nat.le_of_ble_eq_true rfl) ⟨(by first | decide | omega | (dsimp only [headSpec]; omega)), (by first | decide | omega | (dsimp only [headSpec]; omega))⟩ ⟨(by first | decide | omega | (dsimp only [headSpec]; omega)), (by first | decide | omega | (dsimp only [headSpec]; omega))⟩ d_RR_tuple_12 (fun r_12 hp_12 => ?_)
    refine gs_top (show r_12 = (nI (cb (cds E) ((rl + 1) * 262144) - cb (cds E) (rl * 262144))) from hp_12) ?_
    refine lv_icmp_lt (tgt := 28) hx hb d_RR_tuple_15 (by decide) (fun c_15 => ?_) (fun c_15 => ?_)
    · exact absurd ⟨c_6, c_15⟩ hok
    · exact gs_thrI hx hb hml htr hown ht hK hE hz hG (List.mem_of_getElem? (i := 12) rfl) hl.1 d_RR_tuple_18 d_RR_tuple_21 d_RR_tuple_22 d_RR_tuple_24 d_RR_tuple_27 (hout9 _) ⟨(by first | decide | omega | (dsimp only [headSpec]; omega)), (by first | decide | omega | (dsimp only [headSpec]; omega)), (by first | decide | omega | (dsimp only [headSpec]; omega)), (by first | decide | omega | (dsimp only [headSpec]; omega))⟩ ⟨(by first | decide | omega | (dsimp only [headSpec]; omega)), (by first | decide | omega | (dsimp only [headSpec]; omega))⟩ hlocks
set_option maxHeartbeats 4000000 in
set_option maxRecDepth 100000 in
/-- RuleRounds.tuple of no part -/
theorem c_RR_tuple_w (l : Launch) (X : gs_X) (σ : gs_St) (rr bk tu ma dv co ru sr nr nq fc : Nat) (sc : Int32) (dw : Value) (ac ai ab : Nat) (E : List En) (cs ci cr : Nat → Int32) (rl : Nat) (pl : Nat) (y : Int32)
    (htr : l.stackTraces = false) (x0 : σ rr = some (gs_ob 0 [.ref bk, .ref tu, .ref ma, .ref dv, .int (nI fc), dw])) (x1 : σ bk = some (gs_ob 5 [.ref co, .ref ru, .ref sr, .int (nI nr), .int (nI nq), .int sc])) (hnr : nr ≤ 12) (hB : tuB E) (hR : tuR E cs ci cr) (h0 : σ tu = some (gs_ob 6 [.ref ac, .ref ai, .ref ab, .int (nI E.length)])) (h1 : σ ac = some (gs_ia X 301 cs)) (h2 : σ ai = some (gs_ia X 301 ci)) (h3 : σ ab = some (gs_ia X 301 cr)) (hrl : rl < nr) (hpl : pl < cb (cds E) ((rl + 1) * 262144) - cb (cds E) (rl * 262144)) (hok : y.toInt < 0 ∨ 4 < y.toInt) : gs_Mt l X y_RR_tuple b_RR_tuple 5 (some .int) ({ frames := 6, cells := 1, slots := 6, locals := 90 }) σ [.ref rr, .int (nI rl), .int (nI pl), .int y] xI := by
  refine gs_MetT.ofW (cc := b_RR_tuple) (maxL := 5) (ret := (some .int)) (by decide) rfl ?_
  intro p e s m args below meth c s₁ B₀ hml hv
  obtain ⟨rfl, hK, hG, hz, hE⟩ := hv
  have hx := B₀.exec
  have hb := B₀.bytes
  have hr := B₀.returns
  have hts := atoms_spec (ws := gs_ws y_RR_tuple b_RR_tuple 5 (some .int)) B₀.pre
  have ht : ∀ w ∈ gs_w, w.before _ s = true := fun w h => hts w (List.mem_cons_of_mem _ h)
  have hown : s.vm.findClass R_RR = some m.cls := findClass_of_methodNamed B₀.named
  have hlocks := B₀.notSynchronized
  have hout9 : ∀ pc, ∀ x ∈ c.exceptionTable.toList, covers x pc = false := covers_of_empty (B₀.noHandlers (hts _ List.mem_cons_self))
  have hA : ∀ q : Nat, s.heap.size ≤ q → gs_A X q := fun q h => Nat.le_trans hz h
  have hS : va_S (gs_A X) s.heap s.heap [] := va_S.rf
  have hl := lv_entry ([.ref rr, .int (nI rl), .int (nI pl), .int y]) (n := 5) (Nat.le_of_ble_eq_true rfl)
  rw [lg_entry_eq]
  generalize (lg_sl ([.ref rr, .int (nI rl), .int (nI pl), .int y]) ++ List.replicate (5 - (lg_sl ([.ref rr, .int (nI rl), .int (nI pl), .int y])).length) Slot.unset).toArray = ls at hl ⊢
  have hl : lv_has ls 5 [(0, .ref rr), (1, .int (nI rl)), (2, .int (nI pl)), (3, .int y)] := hl
  have hcl : cb (cds E) ((rl + 1) * 262144) ≤ E.length := by simpa using cb_le (cds E) ((rl + 1) * 262144)
  have hlen := hB.2.1
  refine lv_aload_n hx hb d_RR_tuple_0 rfl (lv_at hl 0 rfl) ?_
  refine lv_iload_n hx hb d_RR_tuple_1 rfl (lv_at hl 1 rfl) ?_
  refine gs_callVpv (As := [.int (nI rl)]) (rest := []) ⟨hx, hb, hml, hown, hts⟩ hK hE hz hG hS (c_RR_requireRelation l X σ rr bk tu ma dv co ru sr nr nq fc sc dw (nI rl) x0 x1 hnr (wi_nI hrl (by omega))) ⟨rfl, rfl⟩ mV_RR_requireRelation w_391 x0 rfl rfl hl.1 rfl (Nat.le_of_ble_eq_true rfl) ⟨(by first | decide | omega | (dsimp only [headSpec]; omega)), (by first | decide | omega | (dsimp only [headSpec]; omega))⟩ ⟨(by first | decide | omega | (dsimp only [headSpec]; omega)), (by first | decide | omega | (dsimp only [headSpec]; omega))⟩ d_RR_tuple_2 ?_
  refine lv_iload_n hx hb d_RR_tuple_5 rfl (lv_at hl 2 rfl) ?_
  refine lv_if_lt (tgt := 18) hx hb d_RR_tuple_6 (by decide) (fun c_6 => ?_) (fun c_6 => ?_)
  · exact absurd c_6 (nI_pos (by omega))
    
  · refine lv_iload_n hx hb d_RR_tuple_9 rfl (lv_at hl 2 rfl) ?_
    refine lv_aload_n hx hb d_RR_tuple_10 rfl (lv_at hl 0 rfl) ?_
    refine lv_iload_n hx hb d_RR_tuple_11 rfl (lv_at hl 1 rfl) ?_
    refine gs_callVp (As := [.int (nI rl)]) (rest := [.int (nI pl)]) ⟨hx, hb, hml, hown, hts⟩ hK hE hz hG hS (c_RR_sizeOf l X σ rr bk tu ma dv fc dw ac ai ab (cds E) cs rl x0 hB.1 (by rw [cds_len]; exact hB.2.1) (hR.cds hB.2.2) (by rw [cds_len]; exact h0) h1 (by omega)) ⟨rfl, rfl⟩ mV_RR_sizeOf w_597 x0 rfl rfl hl.1 rfl (Nat.le_of_ble_eq_true rfl) ⟨(by first | decide | omega | (dsimp only [headSpec]; omega)), (by first | decide | omega | (dsimp only [headSpec]; omega))⟩ ⟨(by first | decide | omega | (dsimp only [headSpec]; omega)), (by first | decide | omega | (dsimp only [headSpec]; omega))⟩ d_RR_tuple_12 (fun r_12 hp_12 => ?_)
    refine gs_top (show r_12 = (nI (cb (cds E) ((rl + 1) * 262144) - cb (cds E) (rl * 262144))) from hp_12) ?_
    refine lv_icmp_lt (tgt := 28) hx hb d_RR_tuple_15 (by decide) (fun c_15 => ?_) (fun c_15 => ?_)
    · have c_15 : pl < (cb (cds E) ((rl + 1) * 262144) - cb (cds E) (rl * 262144)) := (nI_ltI (by omega) (by omega)).mp c_15
      refine lv_aload_n hx hb d_RR_tuple_28 rfl (lv_at hl 0 rfl) ?_
      refine gs_get hx hb ht hown hK hG k_RR x0 1 (by decide) w_138 rfl d_RR_tuple_29 ?_
      refine lv_iload_n hx hb d_RR_tuple_32 rfl (lv_at hl 1 rfl) ?_
      refine lv_iconst (v := nI 0) hx hb d_RR_tuple_33 (by decide) ?_
      refine lv_iconst (v := nI 0) hx hb d_RR_tuple_34 (by decide) ?_
      refine lv_iconst (v := nI 0) hx hb d_RR_tuple_35 (by decide) ?_
      refine gs_callSp (As := [.int (nI rl), .int (nI 0), .int (nI 0), .int (nI 0)]) (rest := [.ref tu]) ⟨hx, hb, hml, hown, hts⟩ hK hE hz hG hS (c_RR_codeOf l X σ rl 0 0 0) ⟨rfl, rfl⟩ mS_RR_codeOf w_403 rfl hl.1 rfl (Nat.le_of_ble_eq_true rfl) ⟨(by first | decide | omega | (dsimp only [headSpec]; omega)), (by first | decide | omega | (dsimp only [headSpec]; omega))⟩ ⟨(by first | decide | omega | (dsimp only [headSpec]; omega)), (by first | decide | omega | (dsimp only [headSpec]; omega))⟩ d_RR_tuple_36 (fun r_36 hp_36 => ?_)
      refine gs_top (show r_36 = (nI (((rl * 64 + 0) * 64 + 0) * 64 + 0)) from hp_36) ?_
      refine gs_top (show nI (((rl * 64 + 0) * 64 + 0) * 64 + 0) = nI (rl * 262144) from congrArg nI (by omega)) ?_
      refine gs_callVp (As := [.int (nI (rl * 262144))]) (rest := []) ⟨hx, hb, hml, hown, hts⟩ hK hE hz hG hS (c_TU_placeOf_p l X σ tu ac ai ab (cds E) cs (rl * 262144) hB.1 (by rw [cds_len]; exact hB.2.1) (hR.cds hB.2.2) (by omega) (by rw [cds_len]; exact h0) h1) ⟨rfl, rfl⟩ mV_TU_placeOf w_601 h0 rfl rfl hl.1 rfl (Nat.le_of_ble_eq_true rfl) ⟨(by first | decide | omega | (dsimp only [headSpec]; omega)), (by first | decide | omega | (dsimp only [headSpec]; omega))⟩ ⟨(by first | decide | omega | (dsimp only [headSpec]; omega)), (by first | decide | omega | (dsimp only [headSpec]; omega))⟩ d_RR_tuple_39 (fun r_39 hp_39 => ?_)
      refine gs_top (show r_39 = (nI (cb (cds E) (rl * 262144))) from hp_39) ?_
      refine lv_iload_n hx hb d_RR_tuple_42 rfl (lv_at hl 2 rfl) ?_
      refine lv_iadd hx hb d_RR_tuple_43 ?_
      refine gs_top (nI_add (cb (cds E) (rl * 262144)) pl) ?_
      refine lv_istore (lv' := [(4, .int (nI ((cb (cds E) (rl * 262144)) + pl))), (0, .ref rr), (1, .int (nI rl)), (2, .int (nI pl)), (3, .int y)]) hx hb d_RR_tuple_44 hl (by decide) rfl (fun ls hl => ?_)
      refine lv_iload_n hx hb d_RR_tuple_46 rfl (lv_at hl 4 rfl) ?_
      refine lv_tableOut (tgt := 117) hx hb d_RR_tuple_47 hok (by decide) ?_
      exact gs_thrI hx hb hml htr hown ht hK hE hz hG (List.mem_of_getElem? (i := 13) rfl) hl.1 d_RR_tuple_117 d_RR_tuple_120 d_RR_tuple_121 d_RR_tuple_123 d_RR_tuple_126 (hout9 _) ⟨(by first | decide | omega | (dsimp only [headSpec]; omega)), (by first | decide | omega | (dsimp only [headSpec]; omega)), (by first | decide | omega | (dsimp only [headSpec]; omega)), (by first | decide | omega | (dsimp only [headSpec]; omega))⟩ ⟨(by first | decide | omega | (dsimp only [headSpec]; omega)), (by first | decide | omega | (dsimp only [headSpec]; omega))⟩ hlocks
    · have c_15 : ¬ pl < (cb (cds E) ((rl + 1) * 262144) - cb (cds E) (rl * 262144)) := mt (nI_ltI (by omega) (by omega)).mpr c_15
      omega
set_option maxHeartbeats 4000000 in
set_option maxRecDepth 100000 in
/-- RuleRounds.tuple of no relation -/
theorem c_RR_tuple_r (l : Launch) (X : gs_X) (σ : gs_St) (rr bk tu ma dv co ru sr nr nq fc : Nat) (sc : Int32) (dw : Value) (x y z : Int32)
    (htr : l.stackTraces = false) (x0 : σ rr = some (gs_ob 0 [.ref bk, .ref tu, .ref ma, .ref dv, .int (nI fc), dw])) (x1 : σ bk = some (gs_ob 5 [.ref co, .ref ru, .ref sr, .int (nI nr), .int (nI nq), .int sc])) (hnr : nr ≤ 12) (hok : wi nr x = false) : gs_Mt l X y_RR_tuple b_RR_tuple 5 (some .int) ({ frames := 7, cells := 1, slots := 6, locals := 111 }) σ [.ref rr, .int x, .int y, .int z] xI := by
  refine gs_MetT.ofW (cc := b_RR_tuple) (maxL := 5) (ret := (some .int)) (by decide) rfl ?_
  intro p e s m args below meth c s₁ B₀ hml hv
  obtain ⟨rfl, hK, hG, hz, hE⟩ := hv
  have hx := B₀.exec
  have hb := B₀.bytes
  have hr := B₀.returns
  have hts := atoms_spec (ws := gs_ws y_RR_tuple b_RR_tuple 5 (some .int)) B₀.pre
  have ht : ∀ w ∈ gs_w, w.before _ s = true := fun w h => hts w (List.mem_cons_of_mem _ h)
  have hown : s.vm.findClass R_RR = some m.cls := findClass_of_methodNamed B₀.named
  have hlocks := B₀.notSynchronized
  have hout9 : ∀ pc, ∀ x ∈ c.exceptionTable.toList, covers x pc = false := covers_of_empty (B₀.noHandlers (hts _ List.mem_cons_self))
  have hA : ∀ q : Nat, s.heap.size ≤ q → gs_A X q := fun q h => Nat.le_trans hz h
  have hS : va_S (gs_A X) s.heap s.heap [] := va_S.rf
  have hl := lv_entry ([.ref rr, .int x, .int y, .int z]) (n := 5) (Nat.le_of_ble_eq_true rfl)
  rw [lg_entry_eq]
  generalize (lg_sl ([.ref rr, .int x, .int y, .int z]) ++ List.replicate (5 - (lg_sl ([.ref rr, .int x, .int y, .int z])).length) Slot.unset).toArray = ls at hl ⊢
  have hl : lv_has ls 5 [(0, .ref rr), (1, .int x), (2, .int y), (3, .int z)] := hl
  refine lv_aload_n hx hb d_RR_tuple_0 rfl (lv_at hl 0 rfl) ?_
  refine lv_iload_n hx hb d_RR_tuple_1 rfl (lv_at hl 1 rfl) ?_
  exact gs_callVt (As := [.int x]) (rest := []) ⟨hx, hb, hml, hown, hts⟩ hK hE hz hG (c_RR_requireRelation_t l X σ rr bk tu ma dv co ru sr nr nq fc sc dw x htr x0 x1 hnr hok) mV_RR_requireRelation w_391 x0 rfl rfl hl.1 rfl (Nat.le_of_ble_eq_true rfl) ⟨(by first | decide | omega | (dsimp only [headSpec]; omega)), (by first | decide | omega | (dsimp only [headSpec]; omega))⟩ ⟨(by first | decide | omega | (dsimp only [headSpec]; omega)), (by first | decide | omega | (dsimp only [headSpec]; omega))⟩ d_RR_tuple_2 ⟨(by first | decide | omega | (dsimp only [headSpec]; omega)), (by first | decide | omega | (dsimp only [headSpec]; omega))⟩ (hout9 _) hlocks
set_option maxHeartbeats 4000000 in
set_option maxRecDepth 100000 in
/-- RuleRounds.matches -/
theorem c_RR_matches (l : Launch) (X : gs_X) (σ : gs_St) (rr dv bk tu ma la cm ac ai ab lc li lb mc mi mb va co ru sr nr sa rc fc : Nat) (dw : Value) (nw : Bool) (sc : Int32) (E : List En) (Lt : List Nat) (v S : Nat → Nat) (Q : List Rl) (q9 : Nat) (R : Rl)
    (hnd : [ac, ai, ab, lc, mc, mi, mb].Nodup) (hnd2 : [tu, la, cm].Nodup) (x0 : σ rr = some (gs_ob 0 [.ref bk, .ref tu, .ref ma, .ref dv, .int (nI fc), dw])) (hdv : dvA X σ dv bk tu ma la cm ac ai ab lc li lb mc mi mb va E Lt v sa nw rc) (hbk : bkA X σ bk co ru sr nr sc Q S) (hq9 : Q[q9]? = some R) : gs_Mi l X y_RR_matches b_RR_matches 2 (some .int) ({ frames := 10, cells := 0, slots := 0, locals := 421 }) σ [.ref rr, .int (nI q9)] (fun r σ' => dvA X σ' dv bk tu ma la cm ac ai ab lc li lb mc mi mb va E Lt (cnt (cds E) R.2.1 R.2.2 R.2.1.length 0 v).2 sa nw rc ∧ frm [va] σ σ' ∧ r = nI (cnt (cds E) R.2.1 R.2.2 R.2.1.length 0 v).1) := by
  refine Met.ofW (cc := b_RR_matches) (maxL := 2) (ret := (some .int)) (by decide) rfl ?_
  intro p e s m args below meth c s₁ B₀ hml hv
  obtain ⟨rfl, hK, hG, hz, hE⟩ := hv
  have hx := B₀.exec
  have hb := B₀.bytes
  have hr := B₀.returns
  have hts := atoms_spec (ws := gs_ws y_RR_matches b_RR_matches 2 (some .int)) B₀.pre
  have ht : ∀ w ∈ gs_w, w.before _ s = true := fun w h => hts w (List.mem_cons_of_mem _ h)
  have hown : s.vm.findClass R_RR = some m.cls := findClass_of_methodNamed B₀.named
  have hlocks := B₀.notSynchronized
  have hA : ∀ q : Nat, s.heap.size ≤ q → gs_A X q := fun q h => Nat.le_trans hz h
  have hS : va_S (gs_A X) s.heap s.heap [] := va_S.rf
  have hl := lv_entry ([.ref rr, .int (nI q9)]) (n := 2) (Nat.le_of_ble_eq_true rfl)
  rw [lg_entry_eq]
  generalize (lg_sl ([.ref rr, .int (nI q9)]) ++ List.replicate (2 - (lg_sl ([.ref rr, .int (nI q9)])).length) Slot.unset).toArray = ls at hl ⊢
  have hl : lv_has ls 2 [(0, .ref rr), (1, .int (nI q9))] := hl
  obtain ⟨cs, ci, cr, ds, vs, a9, b9, c9, z9, d0, t0, t1, t2, t3, l0, l1, m0, m1, m2, m3, q0, q1, hB, hR, hl3, hs2, hn2, hds, hv⟩ := id hdv
  obtain ⟨fR, sf, k0, k2, k3, hQl, hsO, hQ⟩ := id hbk
  obtain ⟨hRB, hrv, a, ha1, ha2⟩ := hQ q9 R hq9
  obtain ⟨hd, ho, ck, kf, fH, fC, r0, r1, r2, r3, rh, rk⟩ := id ha2
  have hlt := (List.getElem?_eq_some_iff.mp hq9).1
  have fr0 : frm [va] σ σ := frm.rf
  refine lv_iload_n hx hb d_RR_matches_0 rfl (lv_at hl 1 rfl) ?_
  refine lv_if_lt (tgt := 15) hx hb d_RR_matches_1 (by decide) (fun c_1 => ?_) (fun c_1 => ?_)
  · exact absurd c_1 (nI_pos (by omega))
    
  · refine lv_iload_n hx hb d_RR_matches_4 rfl (lv_at hl 1 rfl) ?_
    refine lv_aload_n hx hb d_RR_matches_5 rfl (lv_at hl 0 rfl) ?_
    refine gs_get hx hb ht hown hK hG k_RR x0 0 (by decide) w_137 rfl d_RR_matches_6 ?_
    refine gs_get hx hb ht hown hK hG k_RB k0 4 (by decide) w_44 rfl d_RR_matches_9 ?_
    refine lv_icmp_lt (tgt := 25) hx hb d_RR_matches_12 (by decide) (fun c_12 => ?_) (fun c_12 => ?_)
    · have c_12 : q9 < Q.length := (nI_ltI (by omega) (by omega)).mp c_12
      refine lv_aload_n hx hb d_RR_matches_25 rfl (lv_at hl 0 rfl) ?_
      refine gs_get hx hb ht hown hK hG k_RR x0 2 (by decide) w_139 rfl d_RR_matches_26 ?_
      refine lv_aload_n hx hb d_RR_matches_29 rfl (lv_at hl 0 rfl) ?_
      refine gs_get hx hb ht hown hK hG k_RR x0 0 (by decide) w_137 rfl d_RR_matches_30 ?_
      refine gs_get hx hb ht hown hK hG k_RB k0 1 (by decide) w_36 rfl d_RR_matches_33 ?_
      refine lv_iload_n hx hb d_RR_matches_36 rfl (lv_at hl 1 rfl) ?_
      refine gs_aald hx hb hK hG 2 k2 rfl (j := q9) (by omega) (by omega) d_RR_matches_37 ?_
      refine gs_topr (show va_rf (fR q9) = .ref a by rw [ha1]; rfl) ?_
      refine gs_callVi (As := [.ref a]) (rest := []) ⟨hx, hb, hml, hown, hts⟩ hK hE hz hG hS (c_MA_countMatches l X σ ma tu va a ac ai ab hd ho ck kf (cds E) cs R.2.1 R.2.2 fH fC vs v hB.1 (by rw [cds_len]; exact hB.2.1) (hR.cds hB.2.2) hRB.2.1 hRB.2.2.1 hRB.2.2.2.1 hRB.2.2.2.2 hv q0 q1 (by rw [cds_len]; exact t0) t1 r0 r2 r3 rh rk) mV_MA_countMatches w_627 q0 rfl rfl hl.1 rfl (Nat.le_of_ble_eq_true rfl) ⟨(by first | decide | omega | (dsimp only [headSpec]; omega)), (by first | decide | omega | (dsimp only [headSpec]; omega))⟩ ⟨(by first | decide | omega | (dsimp only [headSpec]; omega)), (by first | decide | omega | (dsimp only [headSpec]; omega))⟩ d_RR_matches_38 (fun r_38 σ_38 H locs hp_38 hG hS => ?_)
      obtain ⟨vs2, ev2, hv2, er2⟩ := hp_38
      rw [ev2] at hG
      refine gs_top er2 ?_
      exact gs_iret (v := (nI ((cnt (cds E) R.2.1 R.2.2 R.2.1.length 0 v).1))) hx hb hr rfl hK hE hz hG hS hlocks (by first | decide | omega | (dsimp only [headSpec]; omega)) (by first | decide | omega | (dsimp only [headSpec]; omega)) (⟨⟨cs, ci, cr, ds, vs2, a9, b9, c9, z9, gs_ku (gs_ne d0 q1 (by simp)) d0, gs_ku (gs_ne t0 q1 (by simp)) t0, gs_ku (gs_ne t1 q1 (by simp)) t1, gs_ku (gs_ne t2 q1 (by simp)) t2, gs_ku (gs_ne t3 q1 (by simp)) t3, gs_ku (gs_ne l0 q1 (by simp)) l0, gs_ku (gs_ne l1 q1 (by simp)) l1, gs_ku (gs_ne m0 q1 (by simp)) m0, gs_ku (gs_ne m1 q1 (by simp)) m1, gs_ku (gs_ne m2 q1 (by simp)) m2, gs_ku (gs_ne m3 q1 (by simp)) m3, gs_ku (gs_ne q0 q1 (by simp)) q0, gs_us, hB, hR, hl3, hs2, hn2, hds, hv2⟩, fr0.up (by simp), rfl⟩) d_RR_matches_41
    · have c_12 : ¬ q9 < Q.length := mt (nI_ltI (by omega) (by omega)).mpr c_12
      omega
set_option maxHeartbeats 4000000 in
set_option maxRecDepth 100000 in
/-- RuleRounds.matches of no rule -/
theorem c_RR_matches_t (l : Launch) (X : gs_X) (σ : gs_St) (rr bk tu ma dv co ru sr nr nq fc : Nat) (sc : Int32) (dw : Value) (x : Int32)
    (htr : l.stackTraces = false) (x0 : σ rr = some (gs_ob 0 [.ref bk, .ref tu, .ref ma, .ref dv, .int (nI fc), dw])) (x1 : σ bk = some (gs_ob 5 [.ref co, .ref ru, .ref sr, .int (nI nr), .int (nI nq), .int sc])) (hnr : nr ≤ 12) (hnq : nq ≤ 24) (hok : wi nq x = false) : gs_Mt l X y_RR_matches b_RR_matches 2 (some .int) ({ frames := 6, cells := 1, slots := 6, locals := 90 }) σ [.ref rr, .int x] xI := by
  refine gs_MetT.ofW (cc := b_RR_matches) (maxL := 2) (ret := (some .int)) (by decide) rfl ?_
  intro p e s m args below meth c s₁ B₀ hml hv
  obtain ⟨rfl, hK, hG, hz, hE⟩ := hv
  have hx := B₀.exec
  have hb := B₀.bytes
  have hr := B₀.returns
  have hts := atoms_spec (ws := gs_ws y_RR_matches b_RR_matches 2 (some .int)) B₀.pre
  have ht : ∀ w ∈ gs_w, w.before _ s = true := fun w h => hts w (List.mem_cons_of_mem _ h)
  have hown : s.vm.findClass R_RR = some m.cls := findClass_of_methodNamed B₀.named
  have hlocks := B₀.notSynchronized
  have hout9 : ∀ pc, ∀ x ∈ c.exceptionTable.toList, covers x pc = false := covers_of_empty (B₀.noHandlers (hts _ List.mem_cons_self))
  have hA : ∀ q : Nat, s.heap.size ≤ q → gs_A X q := fun q h => Nat.le_trans hz h
  have hS : va_S (gs_A X) s.heap s.heap [] := va_S.rf
  have hl := lv_entry ([.ref rr, .int x]) (n := 2) (Nat.le_of_ble_eq_true rfl)
  rw [lg_entry_eq]
  generalize (lg_sl ([.ref rr, .int x]) ++ List.replicate (2 - (lg_sl ([.ref rr, .int x])).length) Slot.unset).toArray = ls at hl ⊢
  have hl : lv_has ls 2 [(0, .ref rr), (1, .int x)] := hl
  refine lv_iload_n hx hb d_RR_matches_0 rfl (lv_at hl 1 rfl) ?_
  refine lv_if_lt (tgt := 15) hx hb d_RR_matches_1 (by decide) (fun c_1 => ?_) (fun c_1 => ?_)
  · exact gs_thrI hx hb hml htr hown ht hK hE hz hG (List.mem_of_getElem? (i := 14) rfl) hl.1 d_RR_matches_15 d_RR_matches_18 d_RR_matches_19 d_RR_matches_21 d_RR_matches_24 (hout9 _) ⟨(by first | decide | omega | (dsimp only [headSpec]; omega)), (by first | decide | omega | (dsimp only [headSpec]; omega)), (by first | decide | omega | (dsimp only [headSpec]; omega)), (by first | decide | omega | (dsimp only [headSpec]; omega))⟩ ⟨(by first | decide | omega | (dsimp only [headSpec]; omega)), (by first | decide | omega | (dsimp only [headSpec]; omega))⟩ hlocks
  · refine lv_iload_n hx hb d_RR_matches_4 rfl (lv_at hl 1 rfl) ?_
    refine lv_aload_n hx hb d_RR_matches_5 rfl (lv_at hl 0 rfl) ?_
    refine gs_get hx hb ht hown hK hG k_RR x0 0 (by decide) w_137 rfl d_RR_matches_6 ?_
    refine gs_get hx hb ht hown hK hG k_RB x1 4 (by decide) w_44 rfl d_RR_matches_9 ?_
    refine lv_icmp_lt (tgt := 25) hx hb d_RR_matches_12 (by decide) (fun c_12 => ?_) (fun c_12 => ?_)
    · exact absurd hok (by unfold wi; rw [decide_eq_false c_1, decide_eq_true c_12]; decide)
    · exact gs_thrI hx hb hml htr hown ht hK hE hz hG (List.mem_of_getElem? (i := 14) rfl) hl.1 d_RR_matches_15 d_RR_matches_18 d_RR_matches_19 d_RR_matches_21 d_RR_matches_24 (hout9 _) ⟨(by first | decide | omega | (dsimp only [headSpec]; omega)), (by first | decide | omega | (dsimp only [headSpec]; omega)), (by first | decide | omega | (dsimp only [headSpec]; omega)), (by first | decide | omega | (dsimp only [headSpec]; omega))⟩ ⟨(by first | decide | omega | (dsimp only [headSpec]; omega)), (by first | decide | omega | (dsimp only [headSpec]; omega))⟩ hlocks
