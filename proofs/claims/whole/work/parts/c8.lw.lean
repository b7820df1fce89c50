set_option maxHeartbeats 4000000 in
set_option maxRecDepth 100000 in
theorem lb_item_k {RL : RLT} (h0 : pe0 RL) {p : Program} {e : Env} {s : State} {m : MethodId} {below : List Frame} {meth : Method} {c : Code} (l : Launch) {sb L : Nat} {xs : Nat → Int32} {X : gs_X} (htr : l.stackTraces = false) (C0 : lw_At p s m meth c sb L xs) (hL : L ≤ 3072) (hXX : X.2.1 3 ≠ X.2.1 2) (hK : gs_T X s) (hE : gs_E X s) (hz : X.2.2 ≤ s.heap.size) (hbA : ¬ gs_A X sb) {rr mo out : Nat} {A : Nat → Nat} {σ : gs_St} {nr : Nat} {cw : Nat → Nat} {Q : List Rl} {E : List En} {Lt : List Nat} {sa : Nat} {nw : Bool} {rc fc : Nat} {dr : Option Dr} {F : List (Nat × Nat)} {T : List MT} {QM : List MR} {drM : Option MR} {cd : Nat} {f : Nat → Int64} (hR : rrA X σ (out :: aM mo A) rr nr cw Q E Lt sa nw rc fc dr) (hM : moA X σ mo A cd nr cw F T sa rc QM drM) (hRL : RL nr cw Q E Lt sa nw rc fc dr F T QM drM) (ho : σ out = some (gs_la X 1 f)) {i cells slots : Nat} (hi : i + 6 ≤ L) (hce : cells + 6 ≤ 601024) (hsl : slots + 64 ≤ 7293034)  (hok : ¬ (¬ xs (i + 1) < 0 ∧ xs (i + 1) ≤ nI 3)) (kk : ∀ (σ' : gs_St) (H : Heap) (locs : List Loc), LI RL X σ' rr mo out A → gs_H X σ' H → va_S (gs_A X) s.heap H locs → ∀ ls, lv_has ls 7 [(4, .int (nI i)), (3, .ref out), (2, .ref mo), (1, .ref rr), (0, .ref sb)] → W p l e room_1 s m #[Value.ref sb] below meth c H locs (cells + 6) (slots + 64) (lw_Z below #[Value.ref sb] s) (F0 m 1085 ls [])) {H : Heap} {locs : List Loc} (hG : gs_H X σ H) (hS : va_S (gs_A X) s.heap H locs) {ls : Array Slot} (hl : lv_has ls 7 [(4, .int (nI i)), (3, .ref out), (2, .ref mo), (1, .ref rr), (0, .ref sb)]) : W p l e room_1 s m #[Value.ref sb] below meth c H locs cells slots (lw_Z below #[Value.ref sb] s) (F0 m 446 ls []) := by
  obtain ⟨hx, hb, hr, hml, hown, hts0, hX, hbl, hlocks, hgv⟩ := id C0
  have ht : ∀ w ∈ gs_w, w.before #[Value.ref sb] s = true := fun w h => hts0 w (List.mem_filter.mp h).1
  have hts : ∀ w ∈ (Cond.initialized "RuleRoundsLaw") :: gs_w, w.before #[Value.ref sb] s = true := fun w h => by
    rcases List.mem_cons.mp h with z | z
    · rw [z]; exact ht _ w_0
    · exact ht w z
  obtain ⟨gs, x0⟩ := hR.cell
  obtain ⟨Z, m0, z0⟩ := hM.cell
  have q0 := h0 _ _ _ _ _ _ _ _ _ _ _ _ _ _ hRL
  refine lv_aload_n hx hb d_LA_law_446 rfl (lv_at hl 3 rfl) ?_
  refine lv_aload_n hx hb d_LA_law_447 rfl (lv_at hl 4 rfl) ?_
  refine lv_iload hx hb d_LA_law_448 (lv_at hl 0 rfl) ?_
  refine lv_iconst (v := nI 1) hx hb d_LA_law_450 (by decide) ?_
  refine lv_iadd hx hb d_LA_law_451 ?_
  refine gs_top (nI_add i 1) ?_
  refine gs_sld hx hb hX hbl hbA hS (j := i + 1) (by omega) (by omega) d_LA_law_452 ?_
  refine lv_aload_n hx hb d_LA_law_453 rfl (lv_at hl 4 rfl) ?_
  refine lv_iload hx hb d_LA_law_454 (lv_at hl 0 rfl) ?_
  refine lv_iconst (v := nI 2) hx hb d_LA_law_456 (by decide) ?_
  refine lv_iadd hx hb d_LA_law_457 ?_
  refine gs_top (nI_add i 2) ?_
  refine gs_sld hx hb hX hbl hbA hS (j := i + 2) (by omega) (by omega) d_LA_law_458 ?_
  refine lv_aload_n hx hb d_LA_law_459 rfl (lv_at hl 4 rfl) ?_
  refine lv_iload hx hb d_LA_law_460 (lv_at hl 0 rfl) ?_
  refine lv_iconst (v := nI 3) hx hb d_LA_law_462 (by decide) ?_
  refine lv_iadd hx hb d_LA_law_463 ?_
  refine gs_top (nI_add i 3) ?_
  refine gs_sld hx hb hX hbl hbA hS (j := i + 3) (by omega) (by omega) d_LA_law_464 ?_
  refine lv_aload_n hx hb d_LA_law_465 rfl (lv_at hl 4 rfl) ?_
  refine lv_iload hx hb d_LA_law_466 (lv_at hl 0 rfl) ?_
  refine lv_iconst (v := nI 4) hx hb d_LA_law_468 (by decide) ?_
  refine lv_iadd hx hb d_LA_law_469 ?_
  refine gs_top (nI_add i 4) ?_
  refine gs_sld hx hb hX hbl hbA hS (j := i + 4) (by omega) (by omega) d_LA_law_470 ?_
  refine lv_aload_n hx hb d_LA_law_471 rfl (lv_at hl 4 rfl) ?_
  refine lv_iload hx hb d_LA_law_472 (lv_at hl 0 rfl) ?_
  refine lv_iconst (v := nI 5) hx hb d_LA_law_474 (by decide) ?_
  refine lv_iadd hx hb d_LA_law_475 ?_
  refine gs_top (nI_add i 5) ?_
  refine gs_sld hx hb hX hbl hbA hS (j := i + 5) (by omega) (by omega) d_LA_law_476 ?_
  refine lv_aload_n hx hb d_LA_law_477 rfl (lv_at hl 1 rfl) ?_
  refine gs_callSiH (As := [.ref rr, .int (xs (i + 1)), .int (xs (i + 2)), .int (xs (i + 3)), .int (xs (i + 4)), .int (xs (i + 5)), .ref out]) (rest := []) ⟨hx, hb, hml, hown, hts⟩ hK hE hz hG hS (c_LA_item_xI l X σ rr out gs _ (xs (i + 1)) (xs (i + 2)) (xs (i + 3)) (xs (i + 4)) (xs (i + 5)) x0 ⟨by decide, by decide, by decide, by decide⟩ (c_rr_item_k l hR htr hok)) mSH_LA_item w_524 rfl hl.1 rfl (Nat.le_of_ble_eq_true rfl) ⟨by decide, by decide⟩ ⟨(by first | (show cells + 6 ≤ 601024; omega) | (show cells ≤ 601024; omega)), (by first | (show slots + 64 ≤ 7293034; omega) | (show slots ≤ 7293034; omega))⟩ d_LA_law_478 (fun r_478 σ_478 H locs hp_478 hG hS => ?_)
  refine gs_top hp_478.1 ?_
  rw [hp_478.2] at hG
  refine lv_istore (lv' := [(5, .int (nI 1)), (4, .int (nI i)), (3, .ref out), (2, .ref mo), (1, .ref rr), (0, .ref sb)]) hx hb d_LA_law_481 hl (by decide) rfl (fun ls hl => ?_)
  refine lv_aload_n hx hb d_LA_law_483 rfl (lv_at hl 3 rfl) ?_
  refine lv_aload_n hx hb d_LA_law_484 rfl (lv_at hl 5 rfl) ?_
  refine lv_iload hx hb d_LA_law_485 (lv_at hl 1 rfl) ?_
  refine lv_iconst (v := nI 1) hx hb d_LA_law_487 (by decide) ?_
  refine lv_iadd hx hb d_LA_law_488 ?_
  refine gs_top (nI_add i 1) ?_
  refine gs_sld hx hb hX hbl hbA hS (j := i + 1) (by omega) (by omega) d_LA_law_489 ?_
  refine lv_aload_n hx hb d_LA_law_490 rfl (lv_at hl 5 rfl) ?_
  refine lv_iload hx hb d_LA_law_491 (lv_at hl 1 rfl) ?_
  refine lv_iconst (v := nI 2) hx hb d_LA_law_493 (by decide) ?_
  refine lv_iadd hx hb d_LA_law_494 ?_
  refine gs_top (nI_add i 2) ?_
  refine gs_sld hx hb hX hbl hbA hS (j := i + 2) (by omega) (by omega) d_LA_law_495 ?_
  refine lv_aload_n hx hb d_LA_law_496 rfl (lv_at hl 5 rfl) ?_
  refine lv_iload hx hb d_LA_law_497 (lv_at hl 1 rfl) ?_
  refine lv_iconst (v := nI 3) hx hb d_LA_law_499 (by decide) ?_
  refine lv_iadd hx hb d_LA_law_500 ?_
  refine gs_top (nI_add i 3) ?_
  refine gs_sld hx hb hX hbl hbA hS (j := i + 3) (by omega) (by omega) d_LA_law_501 ?_
  refine lv_aload_n hx hb d_LA_law_502 rfl (lv_at hl 5 rfl) ?_
  refine lv_iload hx hb d_LA_law_503 (lv_at hl 1 rfl) ?_
  refine lv_iconst (v := nI 4) hx hb d_LA_law_505 (by decide) ?_
  refine lv_iadd hx hb d_LA_law_506 ?_
  refine gs_top (nI_add i 4) ?_
  refine gs_sld hx hb hX hbl hbA hS (j := i + 4) (by omega) (by omega) d_LA_law_507 ?_
  refine lv_aload_n hx hb d_LA_law_508 rfl (lv_at hl 5 rfl) ?_
  refine lv_iload hx hb d_LA_law_509 (lv_at hl 1 rfl) ?_
  refine lv_iconst (v := nI 5) hx hb d_LA_law_511 (by decide) ?_
  refine lv_iadd hx hb d_LA_law_512 ?_
  refine gs_top (nI_add i 5) ?_
  refine gs_sld hx hb hX hbl hbA hS (j := i + 5) (by omega) (by omega) d_LA_law_513 ?_
  refine gs_callVi (As := [.int (xs (i + 1)), .int (xs (i + 2)), .int (xs (i + 3)), .int (xs (i + 4)), .int (xs (i + 5))]) (rest := []) ⟨hx, hb, hml, hown, hts⟩ hK hE hz hG hS (c_MO_item_t l X σ mo A cd nr cw F T sa rc QM drM (xs (i + 1)) (xs (i + 2)) (xs (i + 3)) (xs (i + 4)) (xs (i + 5)) hM (itR_k hok)) mV_MO_item w_796 m0 rfl rfl hl.1 rfl (Nat.le_of_ble_eq_true rfl) ⟨by decide, by decide⟩ ⟨(by first | (show cells + 6 ≤ 601024; omega) | (show cells ≤ 601024; omega)), (by first | (show slots + 64 ≤ 7293034; omega) | (show slots ≤ 7293034; omega))⟩ d_LA_law_514 (fun r_514 σ_514 H locs hp_514 hG hS => ?_)
  obtain ⟨hM3, hf3, er3⟩ := hp_514
  have hR3 := hR.mdl (hM.gG ho) hf3
  have ho3 := hf3 _ _ (out_nin hM ho) ho
  obtain ⟨Z3, m03, z03⟩ := hM3.cell
  refine gs_top er3 ?_
  refine lv_istore (lv' := [(6, .int (nI 0)), (5, .int (nI 1)), (4, .int (nI i)), (3, .ref out), (2, .ref mo), (1, .ref rr), (0, .ref sb)]) hx hb d_LA_law_517 hl (by decide) rfl (fun ls hl => ?_)
  refine lv_aload_n hx hb d_LA_law_519 rfl (lv_at hl 4 rfl) ?_
  refine gs_callVp (As := []) (rest := []) ⟨hx, hb, hml, hown, hts⟩ hK hE hz hG hS (c_MO_thrown l X σ_514 mo A Z3 m03) ⟨rfl, rfl⟩ mV_MO_thrown w_757 m03 rfl rfl hl.1 rfl (Nat.le_of_ble_eq_true rfl) ⟨by decide, by decide⟩ ⟨(by first | (show cells + 6 ≤ 601024; omega) | (show cells ≤ 601024; omega)), (by first | (show slots + 64 ≤ 7293034; omega) | (show slots ≤ 7293034; omega))⟩ d_LA_law_520 (fun r_520 hp_520 => ?_)
  refine gs_top (show r_520 = nI 1 from by rw [hp_520, z03]) ?_
  refine lv_iload hx hb d_LA_law_523 (lv_at hl 1 rfl) ?_
  refine lv_icmp_eq (tgt := 530) hx hb d_LA_law_525 (by decide) (fun c_525 => ?_) (fun c_525 => ?_)
  · have c_525 : 1 = 1 :=  (nI_eq (by omega) (by omega)).mp c_525
    refine lv_iload hx hb d_LA_law_530 (lv_at hl 1 rfl) ?_
    refine lv_if_ne (tgt := 547) hx hb d_LA_law_532 (by decide) (fun c_532 => ?_) (fun c_532 => ?_)
    · have c_532 : ¬ 1 = 0 := gs_zn (by omega) c_532
      refine lv_goto (tgt := 1085) hx hb d_LA_law_547 (by decide) ?_
      refine W.widen (k := cells + 6) (n := slots + 64) (by first | exact Nat.le_refl _ | exact Nat.le_add_right _ _) (by first | exact Nat.le_refl _ | exact Nat.le_add_right _ _) ?_
      exact kk σ_514 H locs ⟨_, _, _, _, _, _, _, _, _, _, _, _, _, _, _, _, hR3, hM3, hRL, ho3⟩ hG hS ls (lv_sub hl [2, 3, 4, 5, 6] rfl)
    · exact absurd c_532 (by decide)
  · exact absurd c_525 (by decide)
set_option maxHeartbeats 4000000 in
set_option maxRecDepth 100000 in
theorem lb_item_c {RL : RLT} (h0 : pe0 RL) {p : Program} {e : Env} {s : State} {m : MethodId} {below : List Frame} {meth : Method} {c : Code} (l : Launch) {sb L : Nat} {xs : Nat → Int32} {X : gs_X} (htr : l.stackTraces = false) (C0 : lw_At p s m meth c sb L xs) (hL : L ≤ 3072) (hXX : X.2.1 3 ≠ X.2.1 2) (hK : gs_T X s) (hE : gs_E X s) (hz : X.2.2 ≤ s.heap.size) (hbA : ¬ gs_A X sb) {rr mo out : Nat} {A : Nat → Nat} {σ : gs_St} {nr : Nat} {cw : Nat → Nat} {Q : List Rl} {E : List En} {Lt : List Nat} {sa : Nat} {nw : Bool} {rc fc : Nat} {dr : Option Dr} {F : List (Nat × Nat)} {T : List MT} {QM : List MR} {drM : Option MR} {cd : Nat} {f : Nat → Int64} (hR : rrA X σ (out :: aM mo A) rr nr cw Q E Lt sa nw rc fc dr) (hM : moA X σ mo A cd nr cw F T sa rc QM drM) (hRL : RL nr cw Q E Lt sa nw rc fc dr F T QM drM) (ho : σ out = some (gs_la X 1 f)) {i cells slots : Nat} (hi : i + 6 ≤ L) (hce : cells + 6 ≤ 601024) (hsl : slots + 64 ≤ 7293034) {kd : Nat} (e1 : xs (i + 1) = nI kd) (hkd : kd = 2 ∨ kd = 3) (hok : ¬ (xs (i + 2) = 0 ∧ wi3 72 2 (xs (i + 3)) (xs (i + 4)) (xs (i + 5)) = true)) (kk : ∀ (σ' : gs_St) (H : Heap) (locs : List Loc), LI RL X σ' rr mo out A → gs_H X σ' H → va_S (gs_A X) s.heap H locs → ∀ ls, lv_has ls 7 [(4, .int (nI i)), (3, .ref out), (2, .ref mo), (1, .ref rr), (0, .ref sb)] → W p l e room_1 s m #[Value.ref sb] below meth c H locs (cells + 6) (slots + 64) (lw_Z below #[Value.ref sb] s) (F0 m 1085 ls [])) {H : Heap} {locs : List Loc} (hG : gs_H X σ H) (hS : va_S (gs_A X) s.heap H locs) {ls : Array Slot} (hl : lv_has ls 7 [(4, .int (nI i)), (3, .ref out), (2, .ref mo), (1, .ref rr), (0, .ref sb)]) : W p l e room_1 s m #[Value.ref sb] below meth c H locs cells slots (lw_Z below #[Value.ref sb] s) (F0 m 446 ls []) := by
  obtain ⟨hx, hb, hr, hml, hown, hts0, hX, hbl, hlocks, hgv⟩ := id C0
  have ht : ∀ w ∈ gs_w, w.before #[Value.ref sb] s = true := fun w h => hts0 w (List.mem_filter.mp h).1
  have hts : ∀ w ∈ (Cond.initialized "RuleRoundsLaw") :: gs_w, w.before #[Value.ref sb] s = true := fun w h => by
    rcases List.mem_cons.mp h with z | z
    · rw [z]; exact ht _ w_0
    · exact ht w z
  obtain ⟨gs, x0⟩ := hR.cell
  obtain ⟨Z, m0, z0⟩ := hM.cell
  have q0 := h0 _ _ _ _ _ _ _ _ _ _ _ _ _ _ hRL
  refine lv_aload_n hx hb d_LA_law_446 rfl (lv_at hl 3 rfl) ?_
  refine lv_aload_n hx hb d_LA_law_447 rfl (lv_at hl 4 rfl) ?_
  refine lv_iload hx hb d_LA_law_448 (lv_at hl 0 rfl) ?_
  refine lv_iconst (v := nI 1) hx hb d_LA_law_450 (by decide) ?_
  refine lv_iadd hx hb d_LA_law_451 ?_
  refine gs_top (nI_add i 1) ?_
  refine gs_sld hx hb hX hbl hbA hS (j := i + 1) (by omega) (by omega) d_LA_law_452 ?_
  refine gs_top (show xs (i + 1) = (nI kd) from e1) ?_
  refine lv_aload_n hx hb d_LA_law_453 rfl (lv_at hl 4 rfl) ?_
  refine lv_iload hx hb d_LA_law_454 (lv_at hl 0 rfl) ?_
  refine lv_iconst (v := nI 2) hx hb d_LA_law_456 (by decide) ?_
  refine lv_iadd hx hb d_LA_law_457 ?_
  refine gs_top (nI_add i 2) ?_
  refine gs_sld hx hb hX hbl hbA hS (j := i + 2) (by omega) (by omega) d_LA_law_458 ?_
  refine lv_aload_n hx hb d_LA_law_459 rfl (lv_at hl 4 rfl) ?_
  refine lv_iload hx hb d_LA_law_460 (lv_at hl 0 rfl) ?_
  refine lv_iconst (v := nI 3) hx hb d_LA_law_462 (by decide) ?_
  refine lv_iadd hx hb d_LA_law_463 ?_
  refine gs_top (nI_add i 3) ?_
  refine gs_sld hx hb hX hbl hbA hS (j := i + 3) (by omega) (by omega) d_LA_law_464 ?_
  refine lv_aload_n hx hb d_LA_law_465 rfl (lv_at hl 4 rfl) ?_
  refine lv_iload hx hb d_LA_law_466 (lv_at hl 0 rfl) ?_
  refine lv_iconst (v := nI 4) hx hb d_LA_law_468 (by decide) ?_
  refine lv_iadd hx hb d_LA_law_469 ?_
  refine gs_top (nI_add i 4) ?_
  refine gs_sld hx hb hX hbl hbA hS (j := i + 4) (by omega) (by omega) d_LA_law_470 ?_
  refine lv_aload_n hx hb d_LA_law_471 rfl (lv_at hl 4 rfl) ?_
  refine lv_iload hx hb d_LA_law_472 (lv_at hl 0 rfl) ?_
  refine lv_iconst (v := nI 5) hx hb d_LA_law_474 (by decide) ?_
  refine lv_iadd hx hb d_LA_law_475 ?_
  refine gs_top (nI_add i 5) ?_
  refine gs_sld hx hb hX hbl hbA hS (j := i + 5) (by omega) (by omega) d_LA_law_476 ?_
  refine lv_aload_n hx hb d_LA_law_477 rfl (lv_at hl 1 rfl) ?_
  refine gs_callSiH (As := [.ref rr, .int (nI kd), .int (xs (i + 2)), .int (xs (i + 3)), .int (xs (i + 4)), .int (xs (i + 5)), .ref out]) (rest := []) ⟨hx, hb, hml, hown, hts⟩ hK hE hz hG hS (c_LA_item_xI l X σ rr out gs _ (nI kd) (xs (i + 2)) (xs (i + 3)) (xs (i + 4)) (xs (i + 5)) x0 ⟨by decide, by decide, by decide, by decide⟩ (c_rr_item_c' l hR htr hkd hok)) mSH_LA_item w_524 rfl hl.1 rfl (Nat.le_of_ble_eq_true rfl) ⟨by decide, by decide⟩ ⟨(by first | (show cells + 6 ≤ 601024; omega) | (show cells ≤ 601024; omega)), (by first | (show slots + 64 ≤ 7293034; omega) | (show slots ≤ 7293034; omega))⟩ d_LA_law_478 (fun r_478 σ_478 H locs hp_478 hG hS => ?_)
  refine gs_top hp_478.1 ?_
  rw [hp_478.2] at hG
  refine lv_istore (lv' := [(5, .int (nI 1)), (4, .int (nI i)), (3, .ref out), (2, .ref mo), (1, .ref rr), (0, .ref sb)]) hx hb d_LA_law_481 hl (by decide) rfl (fun ls hl => ?_)
  refine lv_aload_n hx hb d_LA_law_483 rfl (lv_at hl 3 rfl) ?_
  refine lv_aload_n hx hb d_LA_law_484 rfl (lv_at hl 5 rfl) ?_
  refine lv_iload hx hb d_LA_law_485 (lv_at hl 1 rfl) ?_
  refine lv_iconst (v := nI 1) hx hb d_LA_law_487 (by decide) ?_
  refine lv_iadd hx hb d_LA_law_488 ?_
  refine gs_top (nI_add i 1) ?_
  refine gs_sld hx hb hX hbl hbA hS (j := i + 1) (by omega) (by omega) d_LA_law_489 ?_
  refine gs_top (show xs (i + 1) = (nI kd) from e1) ?_
  refine lv_aload_n hx hb d_LA_law_490 rfl (lv_at hl 5 rfl) ?_
  refine lv_iload hx hb d_LA_law_491 (lv_at hl 1 rfl) ?_
  refine lv_iconst (v := nI 2) hx hb d_LA_law_493 (by decide) ?_
  refine lv_iadd hx hb d_LA_law_494 ?_
  refine gs_top (nI_add i 2) ?_
  refine gs_sld hx hb hX hbl hbA hS (j := i + 2) (by omega) (by omega) d_LA_law_495 ?_
  refine lv_aload_n hx hb d_LA_law_496 rfl (lv_at hl 5 rfl) ?_
  refine lv_iload hx hb d_LA_law_497 (lv_at hl 1 rfl) ?_
  refine lv_iconst (v := nI 3) hx hb d_LA_law_499 (by decide) ?_
  refine lv_iadd hx hb d_LA_law_500 ?_
  refine gs_top (nI_add i 3) ?_
  refine gs_sld hx hb hX hbl hbA hS (j := i + 3) (by omega) (by omega) d_LA_law_501 ?_
  refine lv_aload_n hx hb d_LA_law_502 rfl (lv_at hl 5 rfl) ?_
  refine lv_iload hx hb d_LA_law_503 (lv_at hl 1 rfl) ?_
  refine lv_iconst (v := nI 4) hx hb d_LA_law_505 (by decide) ?_
  refine lv_iadd hx hb d_LA_law_506 ?_
  refine gs_top (nI_add i 4) ?_
  refine gs_sld hx hb hX hbl hbA hS (j := i + 4) (by omega) (by omega) d_LA_law_507 ?_
  refine lv_aload_n hx hb d_LA_law_508 rfl (lv_at hl 5 rfl) ?_
  refine lv_iload hx hb d_LA_law_509 (lv_at hl 1 rfl) ?_
  refine lv_iconst (v := nI 5) hx hb d_LA_law_511 (by decide) ?_
  refine lv_iadd hx hb d_LA_law_512 ?_
  refine gs_top (nI_add i 5) ?_
  refine gs_sld hx hb hX hbl hbA hS (j := i + 5) (by omega) (by omega) d_LA_law_513 ?_
  refine gs_callVi (As := [.int (nI kd), .int (xs (i + 2)), .int (xs (i + 3)), .int (xs (i + 4)), .int (xs (i + 5))]) (rest := []) ⟨hx, hb, hml, hown, hts⟩ hK hE hz hG hS (c_MO_item_t l X σ mo A cd nr cw F T sa rc QM drM (nI kd) (xs (i + 2)) (xs (i + 3)) (xs (i + 4)) (xs (i + 5)) hM (by rw [itR_c hkd]; exact cmpF hok)) mV_MO_item w_796 m0 rfl rfl hl.1 rfl (Nat.le_of_ble_eq_true rfl) ⟨by decide, by decide⟩ ⟨(by first | (show cells + 6 ≤ 601024; omega) | (show cells ≤ 601024; omega)), (by first | (show slots + 64 ≤ 7293034; omega) | (show slots ≤ 7293034; omega))⟩ d_LA_law_514 (fun r_514 σ_514 H locs hp_514 hG hS => ?_)
  obtain ⟨hM3, hf3, er3⟩ := hp_514
  have hR3 := hR.mdl (hM.gG ho) hf3
  have ho3 := hf3 _ _ (out_nin hM ho) ho
  obtain ⟨Z3, m03, z03⟩ := hM3.cell
  refine gs_top er3 ?_
  refine lv_istore (lv' := [(6, .int (nI 0)), (5, .int (nI 1)), (4, .int (nI i)), (3, .ref out), (2, .ref mo), (1, .ref rr), (0, .ref sb)]) hx hb d_LA_law_517 hl (by decide) rfl (fun ls hl => ?_)
  refine lv_aload_n hx hb d_LA_law_519 rfl (lv_at hl 4 rfl) ?_
  refine gs_callVp (As := []) (rest := []) ⟨hx, hb, hml, hown, hts⟩ hK hE hz hG hS (c_MO_thrown l X σ_514 mo A Z3 m03) ⟨rfl, rfl⟩ mV_MO_thrown w_757 m03 rfl rfl hl.1 rfl (Nat.le_of_ble_eq_true rfl) ⟨by decide, by decide⟩ ⟨(by first | (show cells + 6 ≤ 601024; omega) | (show cells ≤ 601024; omega)), (by first | (show slots + 64 ≤ 7293034; omega) | (show slots ≤ 7293034; omega))⟩ d_LA_law_520 (fun r_520 hp_520 => ?_)
  refine gs_top (show r_520 = nI 1 from by rw [hp_520, z03]) ?_
  refine lv_iload hx hb d_LA_law_523 (lv_at hl 1 rfl) ?_
  refine lv_icmp_eq (tgt := 530) hx hb d_LA_law_525 (by decide) (fun c_525 => ?_) (fun c_525 => ?_)
  · have c_525 : 1 = 1 :=  (nI_eq (by omega) (by omega)).mp c_525
    refine lv_iload hx hb d_LA_law_530 (lv_at hl 1 rfl) ?_
    refine lv_if_ne (tgt := 547) hx hb d_LA_law_532 (by decide) (fun c_532 => ?_) (fun c_532 => ?_)
    · have c_532 : ¬ 1 = 0 := gs_zn (by omega) c_532
      refine lv_goto (tgt := 1085) hx hb d_LA_law_547 (by decide) ?_
      refine W.widen (k := cells + 6) (n := slots + 64) (by first | exact Nat.le_refl _ | exact Nat.le_add_right _ _) (by first | exact Nat.le_refl _ | exact Nat.le_add_right _ _) ?_
      exact kk σ_514 H locs ⟨_, _, _, _, _, _, _, _, _, _, _, _, _, _, _, _, hR3, hM3, hRL, ho3⟩ hG hS ls (lv_sub hl [2, 3, 4, 5, 6] rfl)
    · exact absurd c_532 (by decide)
  · exact absurd c_525 (by decide)
set_option maxHeartbeats 4000000 in
set_option maxRecDepth 100000 in
theorem lb_item_t {RL : RLT} (h0 : pe0 RL) {p : Program} {e : Env} {s : State} {m : MethodId} {below : List Frame} {meth : Method} {c : Code} (l : Launch) {sb L : Nat} {xs : Nat → Int32} {X : gs_X} (htr : l.stackTraces = false) (C0 : lw_At p s m meth c sb L xs) (hL : L ≤ 3072) (hXX : X.2.1 3 ≠ X.2.1 2) (hK : gs_T X s) (hE : gs_E X s) (hz : X.2.2 ≤ s.heap.size) (hbA : ¬ gs_A X sb) {rr mo out : Nat} {A : Nat → Nat} {σ : gs_St} {nr : Nat} {cw : Nat → Nat} {Q : List Rl} {E : List En} {Lt : List Nat} {sa : Nat} {nw : Bool} {rc fc : Nat} {dr : Option Dr} {F : List (Nat × Nat)} {T : List MT} {QM : List MR} {drM : Option MR} {cd : Nat} {f : Nat → Int64} (hR : rrA X σ (out :: aM mo A) rr nr cw Q E Lt sa nw rc fc dr) (hM : moA X σ mo A cd nr cw F T sa rc QM drM) (hRL : RL nr cw Q E Lt sa nw rc fc dr F T QM drM) (ho : σ out = some (gs_la X 1 f)) {i cells slots : Nat} (hi : i + 6 ≤ L) (hce : cells + 6 ≤ 601024) (hsl : slots + 64 ≤ 7293034) {kd rl : Nat} (e1 : xs (i + 1) = nI kd) (e2 : xs (i + 2) = nI rl) (hkd : kd ≤ 1) (hrl : rl < nr) (hok : wi3 72 (cw rl) (xs (i + 3)) (xs (i + 4)) (xs (i + 5)) = false) (kk : ∀ (σ' : gs_St) (H : Heap) (locs : List Loc), LI RL X σ' rr mo out A → gs_H X σ' H → va_S (gs_A X) s.heap H locs → ∀ ls, lv_has ls 7 [(4, .int (nI i)), (3, .ref out), (2, .ref mo), (1, .ref rr), (0, .ref sb)] → W p l e room_1 s m #[Value.ref sb] below meth c H locs (cells + 6) (slots + 64) (lw_Z below #[Value.ref sb] s) (F0 m 1085 ls [])) {H : Heap} {locs : List Loc} (hG : gs_H X σ H) (hS : va_S (gs_A X) s.heap H locs) {ls : Array Slot} (hl : lv_has ls 7 [(4, .int (nI i)), (3, .ref out), (2, .ref mo), (1, .ref rr), (0, .ref sb)]) : W p l e room_1 s m #[Value.ref sb] below meth c H locs cells slots (lw_Z below #[Value.ref sb] s) (F0 m 446 ls []) := by
  obtain ⟨hx, hb, hr, hml, hown, hts0, hX, hbl, hlocks, hgv⟩ := id C0
  have ht : ∀ w ∈ gs_w, w.before #[Value.ref sb] s = true := fun w h => hts0 w (List.mem_filter.mp h).1
  have hts : ∀ w ∈ (Cond.initialized "RuleRoundsLaw") :: gs_w, w.before #[Value.ref sb] s = true := fun w h => by
    rcases List.mem_cons.mp h with z | z
    · rw [z]; exact ht _ w_0
    · exact ht w z
  obtain ⟨gs, x0⟩ := hR.cell
  obtain ⟨Z, m0, z0⟩ := hM.cell
  have q0 := h0 _ _ _ _ _ _ _ _ _ _ _ _ _ _ hRL
  refine lv_aload_n hx hb d_LA_law_446 rfl (lv_at hl 3 rfl) ?_
  refine lv_aload_n hx hb d_LA_law_447 rfl (lv_at hl 4 rfl) ?_
  refine lv_iload hx hb d_LA_law_448 (lv_at hl 0 rfl) ?_
  refine lv_iconst (v := nI 1) hx hb d_LA_law_450 (by decide) ?_
  refine lv_iadd hx hb d_LA_law_451 ?_
  refine gs_top (nI_add i 1) ?_
  refine gs_sld hx hb hX hbl hbA hS (j := i + 1) (by omega) (by omega) d_LA_law_452 ?_
  refine gs_top (show xs (i + 1) = (nI kd) from e1) ?_
  refine lv_aload_n hx hb d_LA_law_453 rfl (lv_at hl 4 rfl) ?_
  refine lv_iload hx hb d_LA_law_454 (lv_at hl 0 rfl) ?_
  refine lv_iconst (v := nI 2) hx hb d_LA_law_456 (by decide) ?_
  refine lv_iadd hx hb d_LA_law_457 ?_
  refine gs_top (nI_add i 2) ?_
  refine gs_sld hx hb hX hbl hbA hS (j := i + 2) (by omega) (by omega) d_LA_law_458 ?_
  refine gs_top (show xs (i + 2) = (nI rl) from e2) ?_
  refine lv_aload_n hx hb d_LA_law_459 rfl (lv_at hl 4 rfl) ?_
  refine lv_iload hx hb d_LA_law_460 (lv_at hl 0 rfl) ?_
  refine lv_iconst (v := nI 3) hx hb d_LA_law_462 (by decide) ?_
  refine lv_iadd hx hb d_LA_law_463 ?_
  refine gs_top (nI_add i 3) ?_
  refine gs_sld hx hb hX hbl hbA hS (j := i + 3) (by omega) (by omega) d_LA_law_464 ?_
  refine lv_aload_n hx hb d_LA_law_465 rfl (lv_at hl 4 rfl) ?_
  refine lv_iload hx hb d_LA_law_466 (lv_at hl 0 rfl) ?_
  refine lv_iconst (v := nI 4) hx hb d_LA_law_468 (by decide) ?_
  refine lv_iadd hx hb d_LA_law_469 ?_
  refine gs_top (nI_add i 4) ?_
  refine gs_sld hx hb hX hbl hbA hS (j := i + 4) (by omega) (by omega) d_LA_law_470 ?_
  refine lv_aload_n hx hb d_LA_law_471 rfl (lv_at hl 4 rfl) ?_
  refine lv_iload hx hb d_LA_law_472 (lv_at hl 0 rfl) ?_
  refine lv_iconst (v := nI 5) hx hb d_LA_law_474 (by decide) ?_
  refine lv_iadd hx hb d_LA_law_475 ?_
  refine gs_top (nI_add i 5) ?_
  refine gs_sld hx hb hX hbl hbA hS (j := i + 5) (by omega) (by omega) d_LA_law_476 ?_
  refine lv_aload_n hx hb d_LA_law_477 rfl (lv_at hl 1 rfl) ?_
  refine gs_callSiH (As := [.ref rr, .int (nI kd), .int (nI rl), .int (xs (i + 3)), .int (xs (i + 4)), .int (xs (i + 5)), .ref out]) (rest := []) ⟨hx, hb, hml, hown, hts⟩ hK hE hz hG hS (c_LA_item_xI l X σ rr out gs _ (nI kd) (nI rl) (xs (i + 3)) (xs (i + 4)) (xs (i + 5)) x0 ⟨by decide, by decide, by decide, by decide⟩ (c_rr_item_t l hR htr hrl hkd hok)) mSH_LA_item w_524 rfl hl.1 rfl (Nat.le_of_ble_eq_true rfl) ⟨by decide, by decide⟩ ⟨(by first | (show cells + 6 ≤ 601024; omega) | (show cells ≤ 601024; omega)), (by first | (show slots + 64 ≤ 7293034; omega) | (show slots ≤ 7293034; omega))⟩ d_LA_law_478 (fun r_478 σ_478 H locs hp_478 hG hS => ?_)
  refine gs_top hp_478.1 ?_
  rw [hp_478.2] at hG
  refine lv_istore (lv' := [(5, .int (nI 1)), (4, .int (nI i)), (3, .ref out), (2, .ref mo), (1, .ref rr), (0, .ref sb)]) hx hb d_LA_law_481 hl (by decide) rfl (fun ls hl => ?_)
  refine lv_aload_n hx hb d_LA_law_483 rfl (lv_at hl 3 rfl) ?_
  refine lv_aload_n hx hb d_LA_law_484 rfl (lv_at hl 5 rfl) ?_
  refine lv_iload hx hb d_LA_law_485 (lv_at hl 1 rfl) ?_
  refine lv_iconst (v := nI 1) hx hb d_LA_law_487 (by decide) ?_
  refine lv_iadd hx hb d_LA_law_488 ?_
  refine gs_top (nI_add i 1) ?_
  refine gs_sld hx hb hX hbl hbA hS (j := i + 1) (by omega) (by omega) d_LA_law_489 ?_
  refine gs_top (show xs (i + 1) = (nI kd) from e1) ?_
  refine lv_aload_n hx hb d_LA_law_490 rfl (lv_at hl 5 rfl) ?_
  refine lv_iload hx hb d_LA_law_491 (lv_at hl 1 rfl) ?_
  refine lv_iconst (v := nI 2) hx hb d_LA_law_493 (by decide) ?_
  refine lv_iadd hx hb d_LA_law_494 ?_
  refine gs_top (nI_add i 2) ?_
  refine gs_sld hx hb hX hbl hbA hS (j := i + 2) (by omega) (by omega) d_LA_law_495 ?_
  refine gs_top (show xs (i + 2) = (nI rl) from e2) ?_
  refine lv_aload_n hx hb d_LA_law_496 rfl (lv_at hl 5 rfl) ?_
  refine lv_iload hx hb d_LA_law_497 (lv_at hl 1 rfl) ?_
  refine lv_iconst (v := nI 3) hx hb d_LA_law_499 (by decide) ?_
  refine lv_iadd hx hb d_LA_law_500 ?_
  refine gs_top (nI_add i 3) ?_
  refine gs_sld hx hb hX hbl hbA hS (j := i + 3) (by omega) (by omega) d_LA_law_501 ?_
  refine lv_aload_n hx hb d_LA_law_502 rfl (lv_at hl 5 rfl) ?_
  refine lv_iload hx hb d_LA_law_503 (lv_at hl 1 rfl) ?_
  refine lv_iconst (v := nI 4) hx hb d_LA_law_505 (by decide) ?_
  refine lv_iadd hx hb d_LA_law_506 ?_
  refine gs_top (nI_add i 4) ?_
  refine gs_sld hx hb hX hbl hbA hS (j := i + 4) (by omega) (by omega) d_LA_law_507 ?_
  refine lv_aload_n hx hb d_LA_law_508 rfl (lv_at hl 5 rfl) ?_
  refine lv_iload hx hb d_LA_law_509 (lv_at hl 1 rfl) ?_
  refine lv_iconst (v := nI 5) hx hb d_LA_law_511 (by decide) ?_
  refine lv_iadd hx hb d_LA_law_512 ?_
  refine gs_top (nI_add i 5) ?_
  refine gs_sld hx hb hX hbl hbA hS (j := i + 5) (by omega) (by omega) d_LA_law_513 ?_
  refine gs_callVi (As := [.int (nI kd), .int (nI rl), .int (xs (i + 3)), .int (xs (i + 4)), .int (xs (i + 5))]) (rest := []) ⟨hx, hb, hml, hown, hts⟩ hK hE hz hG hS (c_MO_item_t l X σ mo A cd nr cw F T sa rc QM drM (nI kd) (nI rl) (xs (i + 3)) (xs (i + 4)) (xs (i + 5)) hM (by rw [itR_f hkd, fitR_n hrl hM.2.1]; exact hok)) mV_MO_item w_796 m0 rfl rfl hl.1 rfl (Nat.le_of_ble_eq_true rfl) ⟨by decide, by decide⟩ ⟨(by first | (show cells + 6 ≤ 601024; omega) | (show cells ≤ 601024; omega)), (by first | (show slots + 64 ≤ 7293034; omega) | (show slots ≤ 7293034; omega))⟩ d_LA_law_514 (fun r_514 σ_514 H locs hp_514 hG hS => ?_)
  obtain ⟨hM3, hf3, er3⟩ := hp_514
  have hR3 := hR.mdl (hM.gG ho) hf3
  have ho3 := hf3 _ _ (out_nin hM ho) ho
  obtain ⟨Z3, m03, z03⟩ := hM3.cell
  refine gs_top er3 ?_
  refine lv_istore (lv' := [(6, .int (nI 0)), (5, .int (nI 1)), (4, .int (nI i)), (3, .ref out), (2, .ref mo), (1, .ref rr), (0, .ref sb)]) hx hb d_LA_law_517 hl (by decide) rfl (fun ls hl => ?_)
  refine lv_aload_n hx hb d_LA_law_519 rfl (lv_at hl 4 rfl) ?_
  refine gs_callVp (As := []) (rest := []) ⟨hx, hb, hml, hown, hts⟩ hK hE hz hG hS (c_MO_thrown l X σ_514 mo A Z3 m03) ⟨rfl, rfl⟩ mV_MO_thrown w_757 m03 rfl rfl hl.1 rfl (Nat.le_of_ble_eq_true rfl) ⟨by decide, by decide⟩ ⟨(by first | (show cells + 6 ≤ 601024; omega) | (show cells ≤ 601024; omega)), (by first | (show slots + 64 ≤ 7293034; omega) | (show slots ≤ 7293034; omega))⟩ d_LA_law_520 (fun r_520 hp_520 => ?_)
  refine gs_top (show r_520 = nI 1 from by rw [hp_520, z03]) ?_
  refine lv_iload hx hb d_LA_law_523 (lv_at hl 1 rfl) ?_
  refine lv_icmp_eq (tgt := 530) hx hb d_LA_law_525 (by decide) (fun c_525 => ?_) (fun c_525 => ?_)
  · have c_525 : 1 = 1 :=  (nI_eq (by omega) (by omega)).mp c_525
    refine lv_iload hx hb d_LA_law_530 (lv_at hl 1 rfl) ?_
    refine lv_if_ne (tgt := 547) hx hb d_LA_law_532 (by decide) (fun c_532 => ?_) (fun c_532 => ?_)
    · have c_532 : ¬ 1 = 0 := gs_zn (by omega) c_532
      refine lv_goto (tgt := 1085) hx hb d_LA_law_547 (by decide) ?_
      refine W.widen (k := cells + 6) (n := slots + 64) (by first | exact Nat.le_refl _ | exact Nat.le_add_right _ _) (by first | exact Nat.le_refl _ | exact Nat.le_add_right _ _) ?_
      exact kk σ_514 H locs ⟨_, _, _, _, _, _, _, _, _, _, _, _, _, _, _, _, hR3, hM3, hRL, ho3⟩ hG hS ls (lv_sub hl [2, 3, 4, 5, 6] rfl)
    · exact absurd c_532 (by decide)
  · exact absurd c_525 (by decide)
set_option maxHeartbeats 4000000 in
set_option maxRecDepth 100000 in
theorem lb_item_r {RL : RLT} (h0 : pe0 RL) {p : Program} {e : Env} {s : State} {m : MethodId} {below : List Frame} {meth : Method} {c : Code} (l : Launch) {sb L : Nat} {xs : Nat → Int32} {X : gs_X} (htr : l.stackTraces = false) (C0 : lw_At p s m meth c sb L xs) (hL : L ≤ 3072) (hXX : X.2.1 3 ≠ X.2.1 2) (hK : gs_T X s) (hE : gs_E X s) (hz : X.2.2 ≤ s.heap.size) (hbA : ¬ gs_A X sb) {rr mo out : Nat} {A : Nat → Nat} {σ : gs_St} {nr : Nat} {cw : Nat → Nat} {Q : List Rl} {E : List En} {Lt : List Nat} {sa : Nat} {nw : Bool} {rc fc : Nat} {dr : Option Dr} {F : List (Nat × Nat)} {T : List MT} {QM : List MR} {drM : Option MR} {cd : Nat} {f : Nat → Int64} (hR : rrA X σ (out :: aM mo A) rr nr cw Q E Lt sa nw rc fc dr) (hM : moA X σ mo A cd nr cw F T sa rc QM drM) (hRL : RL nr cw Q E Lt sa nw rc fc dr F T QM drM) (ho : σ out = some (gs_la X 1 f)) {i cells slots : Nat} (hi : i + 6 ≤ L) (hce : cells + 6 ≤ 601024) (hsl : slots + 64 ≤ 7293034) {kd : Nat} (e1 : xs (i + 1) = nI kd) (hkd : kd ≤ 1) (hok : wi nr (xs (i + 2)) = false) (kk : ∀ (σ' : gs_St) (H : Heap) (locs : List Loc), LI RL X σ' rr mo out A → gs_H X σ' H → va_S (gs_A X) s.heap H locs → ∀ ls, lv_has ls 7 [(4, .int (nI i)), (3, .ref out), (2, .ref mo), (1, .ref rr), (0, .ref sb)] → W p l e room_1 s m #[Value.ref sb] below meth c H locs (cells + 6) (slots + 64) (lw_Z below #[Value.ref sb] s) (F0 m 1085 ls [])) {H : Heap} {locs : List Loc} (hG : gs_H X σ H) (hS : va_S (gs_A X) s.heap H locs) {ls : Array Slot} (hl : lv_has ls 7 [(4, .int (nI i)), (3, .ref out), (2, .ref mo), (1, .ref rr), (0, .ref sb)]) : W p l e room_1 s m #[Value.ref sb] below meth c H locs cells slots (lw_Z below #[Value.ref sb] s) (F0 m 446 ls []) := by
  obtain ⟨hx, hb, hr, hml, hown, hts0, hX, hbl, hlocks, hgv⟩ := id C0
  have ht : ∀ w ∈ gs_w, w.before #[Value.ref sb] s = true := fun w h => hts0 w (List.mem_filter.mp h).1
  have hts : ∀ w ∈ (Cond.initialized "RuleRoundsLaw") :: gs_w, w.before #[Value.ref sb] s = true := fun w h => by
    rcases List.mem_cons.mp h with z | z
    · rw [z]; exact ht _ w_0
    · exact ht w z
  obtain ⟨gs, x0⟩ := hR.cell
  obtain ⟨Z, m0, z0⟩ := hM.cell
  have q0 := h0 _ _ _ _ _ _ _ _ _ _ _ _ _ _ hRL
  refine lv_aload_n hx hb d_LA_law_446 rfl (lv_at hl 3 rfl) ?_
  refine lv_aload_n hx hb d_LA_law_447 rfl (lv_at hl 4 rfl) ?_
  refine lv_iload hx hb d_LA_law_448 (lv_at hl 0 rfl) ?_
  refine lv_iconst (v := nI 1) hx hb d_LA_law_450 (by decide) ?_
  refine lv_iadd hx hb d_LA_law_451 ?_
  refine gs_top (nI_add i 1) ?_
  refine gs_sld hx hb hX hbl hbA hS (j := i + 1) (by omega) (by omega) d_LA_law_452 ?_
  refine gs_top (show xs (i + 1) = (nI kd) from e1) ?_
  refine lv_aload_n hx hb d_LA_law_453 rfl (lv_at hl 4 rfl) ?_
  refine lv_iload hx hb d_LA_law_454 (lv_at hl 0 rfl) ?_
  refine lv_iconst (v := nI 2) hx hb d_LA_law_456 (by decide) ?_
  refine lv_iadd hx hb d_LA_law_457 ?_
  refine gs_top (nI_add i 2) ?_
  refine gs_sld hx hb hX hbl hbA hS (j := i + 2) (by omega) (by omega) d_LA_law_458 ?_
  refine lv_aload_n hx hb d_LA_law_459 rfl (lv_at hl 4 rfl) ?_
  refine lv_iload hx hb d_LA_law_460 (lv_at hl 0 rfl) ?_
  refine lv_iconst (v := nI 3) hx hb d_LA_law_462 (by decide) ?_
  refine lv_iadd hx hb d_LA_law_463 ?_
  refine gs_top (nI_add i 3) ?_
  refine gs_sld hx hb hX hbl hbA hS (j := i + 3) (by omega) (by omega) d_LA_law_464 ?_
  refine lv_aload_n hx hb d_LA_law_465 rfl (lv_at hl 4 rfl) ?_
  refine lv_iload hx hb d_LA_law_466 (lv_at hl 0 rfl) ?_
  refine lv_iconst (v := nI 4) hx hb d_LA_law_468 (by decide) ?_
  refine lv_iadd hx hb d_LA_law_469 ?_
  refine gs_top (nI_add i 4) ?_
  refine gs_sld hx hb hX hbl hbA hS (j := i + 4) (by omega) (by omega) d_LA_law_470 ?_
  refine lv_aload_n hx hb d_LA_law_471 rfl (lv_at hl 4 rfl) ?_
  refine lv_iload hx hb d_LA_law_472 (lv_at hl 0 rfl) ?_
  refine lv_iconst (v := nI 5) hx hb d_LA_law_474 (by decide) ?_
  refine lv_iadd hx hb d_LA_law_475 ?_
  refine gs_top (nI_add i 5) ?_
  refine gs_sld hx hb hX hbl hbA hS (j := i + 5) (by omega) (by omega) d_LA_law_476 ?_
  refine lv_aload_n hx hb d_LA_law_477 rfl (lv_at hl 1 rfl) ?_
  refine gs_callSiH (As := [.ref rr, .int (nI kd), .int (xs (i + 2)), .int (xs (i + 3)), .int (xs (i + 4)), .int (xs (i + 5)), .ref out]) (rest := []) ⟨hx, hb, hml, hown, hts⟩ hK hE hz hG hS (c_LA_item_xI l X σ rr out gs _ (nI kd) (xs (i + 2)) (xs (i + 3)) (xs (i + 4)) (xs (i + 5)) x0 ⟨by decide, by decide, by decide, by decide⟩ (c_rr_item_r l hR htr hkd hok)) mSH_LA_item w_524 rfl hl.1 rfl (Nat.le_of_ble_eq_true rfl) ⟨by decide, by decide⟩ ⟨(by first | (show cells + 6 ≤ 601024; omega) | (show cells ≤ 601024; omega)), (by first | (show slots + 64 ≤ 7293034; omega) | (show slots ≤ 7293034; omega))⟩ d_LA_law_478 (fun r_478 σ_478 H locs hp_478 hG hS => ?_)
  refine gs_top hp_478.1 ?_
  rw [hp_478.2] at hG
  refine lv_istore (lv' := [(5, .int (nI 1)), (4, .int (nI i)), (3, .ref out), (2, .ref mo), (1, .ref rr), (0, .ref sb)]) hx hb d_LA_law_481 hl (by decide) rfl (fun ls hl => ?_)
  refine lv_aload_n hx hb d_LA_law_483 rfl (lv_at hl 3 rfl) ?_
  refine lv_aload_n hx hb d_LA_law_484 rfl (lv_at hl 5 rfl) ?_
  refine lv_iload hx hb d_LA_law_485 (lv_at hl 1 rfl) ?_
  refine lv_iconst (v := nI 1) hx hb d_LA_law_487 (by decide) ?_
  refine lv_iadd hx hb d_LA_law_488 ?_
  refine gs_top (nI_add i 1) ?_
  refine gs_sld hx hb hX hbl hbA hS (j := i + 1) (by omega) (by omega) d_LA_law_489 ?_
  refine gs_top (show xs (i + 1) = (nI kd) from e1) ?_
  refine lv_aload_n hx hb d_LA_law_490 rfl (lv_at hl 5 rfl) ?_
  refine lv_iload hx hb d_LA_law_491 (lv_at hl 1 rfl) ?_
  refine lv_iconst (v := nI 2) hx hb d_LA_law_493 (by decide) ?_
  refine lv_iadd hx hb d_LA_law_494 ?_
  refine gs_top (nI_add i 2) ?_
  refine gs_sld hx hb hX hbl hbA hS (j := i + 2) (by omega) (by omega) d_LA_law_495 ?_
  refine lv_aload_n hx hb d_LA_law_496 rfl (lv_at hl 5 rfl) ?_
  refine lv_iload hx hb d_LA_law_497 (lv_at hl 1 rfl) ?_
  refine lv_iconst (v := nI 3) hx hb d_LA_law_499 (by decide) ?_
  refine lv_iadd hx hb d_LA_law_500 ?_
  refine gs_top (nI_add i 3) ?_
  refine gs_sld hx hb hX hbl hbA hS (j := i + 3) (by omega) (by omega) d_LA_law_501 ?_
  refine lv_aload_n hx hb d_LA_law_502 rfl (lv_at hl 5 rfl) ?_
  refine lv_iload hx hb d_LA_law_503 (lv_at hl 1 rfl) ?_
  refine lv_iconst (v := nI 4) hx hb d_LA_law_505 (by decide) ?_
  refine lv_iadd hx hb d_LA_law_506 ?_
  refine gs_top (nI_add i 4) ?_
  refine gs_sld hx hb hX hbl hbA hS (j := i + 4) (by omega) (by omega) d_LA_law_507 ?_
  refine lv_aload_n hx hb d_LA_law_508 rfl (lv_at hl 5 rfl) ?_
  refine lv_iload hx hb d_LA_law_509 (lv_at hl 1 rfl) ?_
  refine lv_iconst (v := nI 5) hx hb d_LA_law_511 (by decide) ?_
  refine lv_iadd hx hb d_LA_law_512 ?_
  refine gs_top (nI_add i 5) ?_
  refine gs_sld hx hb hX hbl hbA hS (j := i + 5) (by omega) (by omega) d_LA_law_513 ?_
  refine gs_callVi (As := [.int (nI kd), .int (xs (i + 2)), .int (xs (i + 3)), .int (xs (i + 4)), .int (xs (i + 5))]) (rest := []) ⟨hx, hb, hml, hown, hts⟩ hK hE hz hG hS (c_MO_item_t l X σ mo A cd nr cw F T sa rc QM drM (nI kd) (xs (i + 2)) (xs (i + 3)) (xs (i + 4)) (xs (i + 5)) hM (by rw [itR_f hkd]; exact fitR_r hok)) mV_MO_item w_796 m0 rfl rfl hl.1 rfl (Nat.le_of_ble_eq_true rfl) ⟨by decide, by decide⟩ ⟨(by first | (show cells + 6 ≤ 601024; omega) | (show cells ≤ 601024; omega)), (by first | (show slots + 64 ≤ 7293034; omega) | (show slots ≤ 7293034; omega))⟩ d_LA_law_514 (fun r_514 σ_514 H locs hp_514 hG hS => ?_)
  obtain ⟨hM3, hf3, er3⟩ := hp_514
  have hR3 := hR.mdl (hM.gG ho) hf3
  have ho3 := hf3 _ _ (out_nin hM ho) ho
  obtain ⟨Z3, m03, z03⟩ := hM3.cell
  refine gs_top er3 ?_
  refine lv_istore (lv' := [(6, .int (nI 0)), (5, .int (nI 1)), (4, .int (nI i)), (3, .ref out), (2, .ref mo), (1, .ref rr), (0, .ref sb)]) hx hb d_LA_law_517 hl (by decide) rfl (fun ls hl => ?_)
  refine lv_aload_n hx hb d_LA_law_519 rfl (lv_at hl 4 rfl) ?_
  refine gs_callVp (As := []) (rest := []) ⟨hx, hb, hml, hown, hts⟩ hK hE hz hG hS (c_MO_thrown l X σ_514 mo A Z3 m03) ⟨rfl, rfl⟩ mV_MO_thrown w_757 m03 rfl rfl hl.1 rfl (Nat.le_of_ble_eq_true rfl) ⟨by decide, by decide⟩ ⟨(by first | (show cells + 6 ≤ 601024; omega) | (show cells ≤ 601024; omega)), (by first | (show slots + 64 ≤ 7293034; omega) | (show slots ≤ 7293034; omega))⟩ d_LA_law_520 (fun r_520 hp_520 => ?_)
  refine gs_top (show r_520 = nI 1 from by rw [hp_520, z03]) ?_
  refine lv_iload hx hb d_LA_law_523 (lv_at hl 1 rfl) ?_
  refine lv_icmp_eq (tgt := 530) hx hb d_LA_law_525 (by decide) (fun c_525 => ?_) (fun c_525 => ?_)
  · have c_525 : 1 = 1 :=  (nI_eq (by omega) (by omega)).mp c_525
    refine lv_iload hx hb d_LA_law_530 (lv_at hl 1 rfl) ?_
    refine lv_if_ne (tgt := 547) hx hb d_LA_law_532 (by decide) (fun c_532 => ?_) (fun c_532 => ?_)
    · have c_532 : ¬ 1 = 0 := gs_zn (by omega) c_532
      refine lv_goto (tgt := 1085) hx hb d_LA_law_547 (by decide) ?_
      refine W.widen (k := cells + 6) (n := slots + 64) (by first | exact Nat.le_refl _ | exact Nat.le_add_right _ _) (by first | exact Nat.le_refl _ | exact Nat.le_add_right _ _) ?_
      exact kk σ_514 H locs ⟨_, _, _, _, _, _, _, _, _, _, _, _, _, _, _, _, hR3, hM3, hRL, ho3⟩ hG hS ls (lv_sub hl [2, 3, 4, 5, 6] rfl)
    · exact absurd c_532 (by decide)
  · exact absurd c_525 (by decide)
set_option maxHeartbeats 4000000 in
set_option maxRecDepth 100000 in
theorem lb_item_cn {RL : RLT} (h0 : pe0 RL) {p : Program} {e : Env} {s : State} {m : MethodId} {below : List Frame} {meth : Method} {c : Code} (l : Launch) {sb L : Nat} {xs : Nat → Int32} {X : gs_X} (htr : l.stackTraces = false) (C0 : lw_At p s m meth c sb L xs) (hL : L ≤ 3072) (hXX : X.2.1 3 ≠ X.2.1 2) (hK : gs_T X s) (hE : gs_E X s) (hz : X.2.2 ≤ s.heap.size) (hbA : ¬ gs_A X sb) {rr mo out : Nat} {A : Nat → Nat} {σ : gs_St} {nr : Nat} {cw : Nat → Nat} {Q : List Rl} {E : List En} {Lt : List Nat} {sa : Nat} {nw : Bool} {rc fc : Nat} {F : List (Nat × Nat)} {T : List MT} {QM : List MR} {cd : Nat} {f : Nat → Int64} (hR : rrA X σ (out :: aM mo A) rr nr cw Q E Lt sa nw rc fc none) (hM : moA X σ mo A cd nr cw F T sa rc QM none) (hRL : RL nr cw Q E Lt sa nw rc fc none F T QM none) (ho : σ out = some (gs_la X 1 f)) {i cells slots : Nat} (hi : i + 6 ≤ L) (hce : cells + 6 ≤ 601024) (hsl : slots + 64 ≤ 7293034) {kd : Nat} (e1 : xs (i + 1) = nI kd) (e2 : xs (i + 2) = nI 0) (hkd : kd = 2 ∨ kd = 3) (hok : wi3 72 2 (xs (i + 3)) (xs (i + 4)) (xs (i + 5)) = true) (kk : ∀ (σ' : gs_St) (H : Heap) (locs : List Loc), LI RL X σ' rr mo out A → gs_H X σ' H → va_S (gs_A X) s.heap H locs → ∀ ls, lv_has ls 7 [(4, .int (nI i)), (3, .ref out), (2, .ref mo), (1, .ref rr), (0, .ref sb)] → W p l e room_1 s m #[Value.ref sb] below meth c H locs (cells + 6) (slots + 64) (lw_Z below #[Value.ref sb] s) (F0 m 1085 ls [])) {H : Heap} {locs : List Loc} (hG : gs_H X σ H) (hS : va_S (gs_A X) s.heap H locs) {ls : Array Slot} (hl : lv_has ls 7 [(4, .int (nI i)), (3, .ref out), (2, .ref mo), (1, .ref rr), (0, .ref sb)]) : W p l e room_1 s m #[Value.ref sb] below meth c H locs cells slots (lw_Z below #[Value.ref sb] s) (F0 m 446 ls []) := by
  obtain ⟨hx, hb, hr, hml, hown, hts0, hX, hbl, hlocks, hgv⟩ := id C0
  have ht : ∀ w ∈ gs_w, w.before #[Value.ref sb] s = true := fun w h => hts0 w (List.mem_filter.mp h).1
  have hts : ∀ w ∈ (Cond.initialized "RuleRoundsLaw") :: gs_w, w.before #[Value.ref sb] s = true := fun w h => by
    rcases List.mem_cons.mp h with z | z
    · rw [z]; exact ht _ w_0
    · exact ht w z
  obtain ⟨gs, x0⟩ := hR.cell
  obtain ⟨Z, m0, z0⟩ := hM.cell
  have q0 := h0 _ _ _ _ _ _ _ _ _ _ _ _ _ _ hRL
  refine lv_aload_n hx hb d_LA_law_446 rfl (lv_at hl 3 rfl) ?_
  refine lv_aload_n hx hb d_LA_law_447 rfl (lv_at hl 4 rfl) ?_
  refine lv_iload hx hb d_LA_law_448 (lv_at hl 0 rfl) ?_
  refine lv_iconst (v := nI 1) hx hb d_LA_law_450 (by decide) ?_
  refine lv_iadd hx hb d_LA_law_451 ?_
  refine gs_top (nI_add i 1) ?_
  refine gs_sld hx hb hX hbl hbA hS (j := i + 1) (by omega) (by omega) d_LA_law_452 ?_
  refine gs_top (show xs (i + 1) = (nI kd) from e1) ?_
  refine lv_aload_n hx hb d_LA_law_453 rfl (lv_at hl 4 rfl) ?_
  refine lv_iload hx hb d_LA_law_454 (lv_at hl 0 rfl) ?_
  refine lv_iconst (v := nI 2) hx hb d_LA_law_456 (by decide) ?_
  refine lv_iadd hx hb d_LA_law_457 ?_
  refine gs_top (nI_add i 2) ?_
  refine gs_sld hx hb hX hbl hbA hS (j := i + 2) (by omega) (by omega) d_LA_law_458 ?_
  refine gs_top (show xs (i + 2) = (nI 0) from e2) ?_
  refine lv_aload_n hx hb d_LA_law_459 rfl (lv_at hl 4 rfl) ?_
  refine lv_iload hx hb d_LA_law_460 (lv_at hl 0 rfl) ?_
  refine lv_iconst (v := nI 3) hx hb d_LA_law_462 (by decide) ?_
  refine lv_iadd hx hb d_LA_law_463 ?_
  refine gs_top (nI_add i 3) ?_
  refine gs_sld hx hb hX hbl hbA hS (j := i + 3) (by omega) (by omega) d_LA_law_464 ?_
  refine lv_aload_n hx hb d_LA_law_465 rfl (lv_at hl 4 rfl) ?_
  refine lv_iload hx hb d_LA_law_466 (lv_at hl 0 rfl) ?_
  refine lv_iconst (v := nI 4) hx hb d_LA_law_468 (by decide) ?_
  refine lv_iadd hx hb d_LA_law_469 ?_
  refine gs_top (nI_add i 4) ?_
  refine gs_sld hx hb hX hbl hbA hS (j := i + 4) (by omega) (by omega) d_LA_law_470 ?_
  refine lv_aload_n hx hb d_LA_law_471 rfl (lv_at hl 4 rfl) ?_
  refine lv_iload hx hb d_LA_law_472 (lv_at hl 0 rfl) ?_
  refine lv_iconst (v := nI 5) hx hb d_LA_law_474 (by decide) ?_
  refine lv_iadd hx hb d_LA_law_475 ?_
  refine gs_top (nI_add i 5) ?_
  refine gs_sld hx hb hX hbl hbA hS (j := i + 5) (by omega) (by omega) d_LA_law_476 ?_
  refine lv_aload_n hx hb d_LA_law_477 rfl (lv_at hl 1 rfl) ?_
  refine gs_callSiH (As := [.ref rr, .int (nI kd), .int (nI 0), .int (xs (i + 3)), .int (xs (i + 4)), .int (xs (i + 5)), .ref out]) (rest := []) ⟨hx, hb, hml, hown, hts⟩ hK hE hz hG hS (c_LA_item_xS l X σ rr out gs _ (nI kd) (nI 0) (xs (i + 3)) (xs (i + 4)) (xs (i + 5)) x0 ⟨by decide, by decide, by decide, by decide⟩ (c_rr_item_cn l hR htr hkd hok)) mSH_LA_item w_524 rfl hl.1 rfl (Nat.le_of_ble_eq_true rfl) ⟨by decide, by decide⟩ ⟨(by first | (show cells + 6 ≤ 601024; omega) | (show cells ≤ 601024; omega)), (by first | (show slots + 64 ≤ 7293034; omega) | (show slots ≤ 7293034; omega))⟩ d_LA_law_478 (fun r_478 σ_478 H locs hp_478 hG hS => ?_)
  refine gs_top hp_478.1 ?_
  rw [hp_478.2] at hG
  refine lv_istore (lv' := [(5, .int (nI 2)), (4, .int (nI i)), (3, .ref out), (2, .ref mo), (1, .ref rr), (0, .ref sb)]) hx hb d_LA_law_481 hl (by decide) rfl (fun ls hl => ?_)
  refine lv_aload_n hx hb d_LA_law_483 rfl (lv_at hl 3 rfl) ?_
  refine lv_aload_n hx hb d_LA_law_484 rfl (lv_at hl 5 rfl) ?_
  refine lv_iload hx hb d_LA_law_485 (lv_at hl 1 rfl) ?_
  refine lv_iconst (v := nI 1) hx hb d_LA_law_487 (by decide) ?_
  refine lv_iadd hx hb d_LA_law_488 ?_
  refine gs_top (nI_add i 1) ?_
  refine gs_sld hx hb hX hbl hbA hS (j := i + 1) (by omega) (by omega) d_LA_law_489 ?_
  refine gs_top (show xs (i + 1) = (nI kd) from e1) ?_
  refine lv_aload_n hx hb d_LA_law_490 rfl (lv_at hl 5 rfl) ?_
  refine lv_iload hx hb d_LA_law_491 (lv_at hl 1 rfl) ?_
  refine lv_iconst (v := nI 2) hx hb d_LA_law_493 (by decide) ?_
  refine lv_iadd hx hb d_LA_law_494 ?_
  refine gs_top (nI_add i 2) ?_
  refine gs_sld hx hb hX hbl hbA hS (j := i + 2) (by omega) (by omega) d_LA_law_495 ?_
  refine gs_top (show xs (i + 2) = (nI 0) from e2) ?_
  refine lv_aload_n hx hb d_LA_law_496 rfl (lv_at hl 5 rfl) ?_
  refine lv_iload hx hb d_LA_law_497 (lv_at hl 1 rfl) ?_
  refine lv_iconst (v := nI 3) hx hb d_LA_law_499 (by decide) ?_
  refine lv_iadd hx hb d_LA_law_500 ?_
  refine gs_top (nI_add i 3) ?_
  refine gs_sld hx hb hX hbl hbA hS (j := i + 3) (by omega) (by omega) d_LA_law_501 ?_
  refine lv_aload_n hx hb d_LA_law_502 rfl (lv_at hl 5 rfl) ?_
  refine lv_iload hx hb d_LA_law_503 (lv_at hl 1 rfl) ?_
  refine lv_iconst (v := nI 4) hx hb d_LA_law_505 (by decide) ?_
  refine lv_iadd hx hb d_LA_law_506 ?_
  refine gs_top (nI_add i 4) ?_
  refine gs_sld hx hb hX hbl hbA hS (j := i + 4) (by omega) (by omega) d_LA_law_507 ?_
  refine lv_aload_n hx hb d_LA_law_508 rfl (lv_at hl 5 rfl) ?_
  refine lv_iload hx hb d_LA_law_509 (lv_at hl 1 rfl) ?_
  refine lv_iconst (v := nI 5) hx hb d_LA_law_511 (by decide) ?_
  refine lv_iadd hx hb d_LA_law_512 ?_
  refine gs_top (nI_add i 5) ?_
  refine gs_sld hx hb hX hbl hbA hS (j := i + 5) (by omega) (by omega) d_LA_law_513 ?_
  refine gs_callVi (As := [.int (nI kd), .int (nI 0), .int (xs (i + 3)), .int (xs (i + 4)), .int (xs (i + 5))]) (rest := []) ⟨hx, hb, hml, hown, hts⟩ hK hE hz hG hS (c_MO_item_n l X σ mo A cd nr cw F T sa rc QM (nI kd) (nI 0) (xs (i + 3)) (xs (i + 4)) (xs (i + 5)) hM (by rw [itR_c hkd, hok]; rfl)) mV_MO_item w_796 m0 rfl rfl hl.1 rfl (Nat.le_of_ble_eq_true rfl) ⟨by decide, by decide⟩ ⟨(by first | (show cells + 6 ≤ 601024; omega) | (show cells ≤ 601024; omega)), (by first | (show slots + 64 ≤ 7293034; omega) | (show slots ≤ 7293034; omega))⟩ d_LA_law_514 (fun r_514 σ_514 H locs hp_514 hG hS => ?_)
  obtain ⟨hM3, hf3, er3⟩ := hp_514
  have hR3 := hR.mdl (hM.gG ho) hf3
  have ho3 := hf3 _ _ (out_nin hM ho) ho
  obtain ⟨Z3, m03, z03⟩ := hM3.cell
  refine gs_top er3 ?_
  refine lv_istore (lv' := [(6, .int (nI 0)), (5, .int (nI 2)), (4, .int (nI i)), (3, .ref out), (2, .ref mo), (1, .ref rr), (0, .ref sb)]) hx hb d_LA_law_517 hl (by decide) rfl (fun ls hl => ?_)
  refine lv_aload_n hx hb d_LA_law_519 rfl (lv_at hl 4 rfl) ?_
  refine gs_callVp (As := []) (rest := []) ⟨hx, hb, hml, hown, hts⟩ hK hE hz hG hS (c_MO_thrown l X σ_514 mo A Z3 m03) ⟨rfl, rfl⟩ mV_MO_thrown w_757 m03 rfl rfl hl.1 rfl (Nat.le_of_ble_eq_true rfl) ⟨by decide, by decide⟩ ⟨(by first | (show cells + 6 ≤ 601024; omega) | (show cells ≤ 601024; omega)), (by first | (show slots + 64 ≤ 7293034; omega) | (show slots ≤ 7293034; omega))⟩ d_LA_law_520 (fun r_520 hp_520 => ?_)
  refine gs_top (show r_520 = nI 2 from by rw [hp_520, z03]) ?_
  refine lv_iload hx hb d_LA_law_523 (lv_at hl 1 rfl) ?_
  refine lv_icmp_eq (tgt := 530) hx hb d_LA_law_525 (by decide) (fun c_525 => ?_) (fun c_525 => ?_)
  · have c_525 : 2 = 2 :=  (nI_eq (by omega) (by omega)).mp c_525
    refine lv_iload hx hb d_LA_law_530 (lv_at hl 1 rfl) ?_
    refine lv_if_ne (tgt := 547) hx hb d_LA_law_532 (by decide) (fun c_532 => ?_) (fun c_532 => ?_)
    · have c_532 : ¬ 2 = 0 := gs_zn (by omega) c_532
      refine lv_goto (tgt := 1085) hx hb d_LA_law_547 (by decide) ?_
      refine W.widen (k := cells + 6) (n := slots + 64) (by first | exact Nat.le_refl _ | exact Nat.le_add_right _ _) (by first | exact Nat.le_refl _ | exact Nat.le_add_right _ _) ?_
      exact kk σ_514 H locs ⟨_, _, _, _, _, _, _, _, _, _, _, _, _, _, _, _, hR3, hM3, hRL, ho3⟩ hG hS ls (lv_sub hl [2, 3, 4, 5, 6] rfl)
    · exact absurd c_532 (by decide)
  · exact absurd c_525 (by decide)
set_option maxHeartbeats 4000000 in
set_option maxRecDepth 100000 in
theorem lb_item_tn {RL : RLT} (h0 : pe0 RL) {p : Program} {e : Env} {s : State} {m : MethodId} {below : List Frame} {meth : Method} {c : Code} (l : Launch) {sb L : Nat} {xs : Nat → Int32} {X : gs_X} (htr : l.stackTraces = false) (C0 : lw_At p s m meth c sb L xs) (hL : L ≤ 3072) (hXX : X.2.1 3 ≠ X.2.1 2) (hK : gs_T X s) (hE : gs_E X s) (hz : X.2.2 ≤ s.heap.size) (hbA : ¬ gs_A X sb) {rr mo out : Nat} {A : Nat → Nat} {σ : gs_St} {nr : Nat} {cw : Nat → Nat} {Q : List Rl} {E : List En} {Lt : List Nat} {sa : Nat} {nw : Bool} {rc fc : Nat} {F : List (Nat × Nat)} {T : List MT} {QM : List MR} {cd : Nat} {f : Nat → Int64} (hR : rrA X σ (out :: aM mo A) rr nr cw Q E Lt sa nw rc fc none) (hM : moA X σ mo A cd nr cw F T sa rc QM none) (hRL : RL nr cw Q E Lt sa nw rc fc none F T QM none) (ho : σ out = some (gs_la X 1 f)) {i cells slots : Nat} (hi : i + 6 ≤ L) (hce : cells + 6 ≤ 601024) (hsl : slots + 64 ≤ 7293034) {kd rl : Nat} (e1 : xs (i + 1) = nI kd) (e2 : xs (i + 2) = nI rl) (hkd : kd ≤ 1) (hrl : rl < nr) (hok : wi3 72 (cw rl) (xs (i + 3)) (xs (i + 4)) (xs (i + 5)) = true) (kk : ∀ (σ' : gs_St) (H : Heap) (locs : List Loc), LI RL X σ' rr mo out A → gs_H X σ' H → va_S (gs_A X) s.heap H locs → ∀ ls, lv_has ls 7 [(4, .int (nI i)), (3, .ref out), (2, .ref mo), (1, .ref rr), (0, .ref sb)] → W p l e room_1 s m #[Value.ref sb] below meth c H locs (cells + 6) (slots + 64) (lw_Z below #[Value.ref sb] s) (F0 m 1085 ls [])) {H : Heap} {locs : List Loc} (hG : gs_H X σ H) (hS : va_S (gs_A X) s.heap H locs) {ls : Array Slot} (hl : lv_has ls 7 [(4, .int (nI i)), (3, .ref out), (2, .ref mo), (1, .ref rr), (0, .ref sb)]) : W p l e room_1 s m #[Value.ref sb] below meth c H locs cells slots (lw_Z below #[Value.ref sb] s) (F0 m 446 ls []) := by
  obtain ⟨hx, hb, hr, hml, hown, hts0, hX, hbl, hlocks, hgv⟩ := id C0
  have ht : ∀ w ∈ gs_w, w.before #[Value.ref sb] s = true := fun w h => hts0 w (List.mem_filter.mp h).1
  have hts : ∀ w ∈ (Cond.initialized "RuleRoundsLaw") :: gs_w, w.before #[Value.ref sb] s = true := fun w h => by
    rcases List.mem_cons.mp h with z | z
    · rw [z]; exact ht _ w_0
    · exact ht w z
  obtain ⟨gs, x0⟩ := hR.cell
  obtain ⟨Z, m0, z0⟩ := hM.cell
  have q0 := h0 _ _ _ _ _ _ _ _ _ _ _ _ _ _ hRL
  refine lv_aload_n hx hb d_LA_law_446 rfl (lv_at hl 3 rfl) ?_
  refine lv_aload_n hx hb d_LA_law_447 rfl (lv_at hl 4 rfl) ?_
  refine lv_iload hx hb d_LA_law_448 (lv_at hl 0 rfl) ?_
  refine lv_iconst (v := nI 1) hx hb d_LA_law_450 (by decide) ?_
  refine lv_iadd hx hb d_LA_law_451 ?_
  refine gs_top (nI_add i 1) ?_
  refine gs_sld hx hb hX hbl hbA hS (j := i + 1) (by omega) (by omega) d_LA_law_452 ?_
  refine gs_top (show xs (i + 1) = (nI kd) from e1) ?_
  refine lv_aload_n hx hb d_LA_law_453 rfl (lv_at hl 4 rfl) ?_
  refine lv_iload hx hb d_LA_law_454 (lv_at hl 0 rfl) ?_
  refine lv_iconst (v := nI 2) hx hb d_LA_law_456 (by decide) ?_
  refine lv_iadd hx hb d_LA_law_457 ?_
  refine gs_top (nI_add i 2) ?_
  refine gs_sld hx hb hX hbl hbA hS (j := i + 2) (by omega) (by omega) d_LA_law_458 ?_
  refine gs_top (show xs (i + 2) = (nI rl) from e2) ?_
  refine lv_aload_n hx hb d_LA_law_459 rfl (lv_at hl 4 rfl) ?_
  refine lv_iload hx hb d_LA_law_460 (lv_at hl 0 rfl) ?_
  refine lv_iconst (v := nI 3) hx hb d_LA_law_462 (by decide) ?_
  refine lv_iadd hx hb d_LA_law_463 ?_
  refine gs_top (nI_add i 3) ?_
  refine gs_sld hx hb hX hbl hbA hS (j := i + 3) (by omega) (by omega) d_LA_law_464 ?_
  refine lv_aload_n hx hb d_LA_law_465 rfl (lv_at hl 4 rfl) ?_
  refine lv_iload hx hb d_LA_law_466 (lv_at hl 0 rfl) ?_
  refine lv_iconst (v := nI 4) hx hb d_LA_law_468 (by decide) ?_
  refine lv_iadd hx hb d_LA_law_469 ?_
  refine gs_top (nI_add i 4) ?_
  refine gs_sld hx hb hX hbl hbA hS (j := i + 4) (by omega) (by omega) d_LA_law_470 ?_
  refine lv_aload_n hx hb d_LA_law_471 rfl (lv_at hl 4 rfl) ?_
  refine lv_iload hx hb d_LA_law_472 (lv_at hl 0 rfl) ?_
  refine lv_iconst (v := nI 5) hx hb d_LA_law_474 (by decide) ?_
  refine lv_iadd hx hb d_LA_law_475 ?_
  refine gs_top (nI_add i 5) ?_
  refine gs_sld hx hb hX hbl hbA hS (j := i + 5) (by omega) (by omega) d_LA_law_476 ?_
  refine lv_aload_n hx hb d_LA_law_477 rfl (lv_at hl 1 rfl) ?_
  refine gs_callSiH (As := [.ref rr, .int (nI kd), .int (nI rl), .int (xs (i + 3)), .int (xs (i + 4)), .int (xs (i + 5)), .ref out]) (rest := []) ⟨hx, hb, hml, hown, hts⟩ hK hE hz hG hS (c_LA_item_xS l X σ rr out gs _ (nI kd) (nI rl) (xs (i + 3)) (xs (i + 4)) (xs (i + 5)) x0 ⟨by decide, by decide, by decide, by decide⟩ (c_rr_item_tn l hR htr hrl hkd hok)) mSH_LA_item w_524 rfl hl.1 rfl (Nat.le_of_ble_eq_true rfl) ⟨by decide, by decide⟩ ⟨(by first | (show cells + 6 ≤ 601024; omega) | (show cells ≤ 601024; omega)), (by first | (show slots + 64 ≤ 7293034; omega) | (show slots ≤ 7293034; omega))⟩ d_LA_law_478 (fun r_478 σ_478 H locs hp_478 hG hS => ?_)
  refine gs_top hp_478.1 ?_
  rw [hp_478.2] at hG
  refine lv_istore (lv' := [(5, .int (nI 2)), (4, .int (nI i)), (3, .ref out), (2, .ref mo), (1, .ref rr), (0, .ref sb)]) hx hb d_LA_law_481 hl (by decide) rfl (fun ls hl => ?_)
  refine lv_aload_n hx hb d_LA_law_483 rfl (lv_at hl 3 rfl) ?_
  refine lv_aload_n hx hb d_LA_law_484 rfl (lv_at hl 5 rfl) ?_
  refine lv_iload hx hb d_LA_law_485 (lv_at hl 1 rfl) ?_
  refine lv_iconst (v := nI 1) hx hb d_LA_law_487 (by decide) ?_
  refine lv_iadd hx hb d_LA_law_488 ?_
  refine gs_top (nI_add i 1) ?_
  refine gs_sld hx hb hX hbl hbA hS (j := i + 1) (by omega) (by omega) d_LA_law_489 ?_
  refine gs_top (show xs (i + 1) = (nI kd) from e1) ?_
  refine lv_aload_n hx hb d_LA_law_490 rfl (lv_at hl 5 rfl) ?_
  refine lv_iload hx hb d_LA_law_491 (lv_at hl 1 rfl) ?_
  refine lv_iconst (v := nI 2) hx hb d_LA_law_493 (by decide) ?_
  refine lv_iadd hx hb d_LA_law_494 ?_
  refine gs_top (nI_add i 2) ?_
  refine gs_sld hx hb hX hbl hbA hS (j := i + 2) (by omega) (by omega) d_LA_law_495 ?_
  refine gs_top (show xs (i + 2) = (nI rl) from e2) ?_
  refine lv_aload_n hx hb d_LA_law_496 rfl (lv_at hl 5 rfl) ?_
  refine lv_iload hx hb d_LA_law_497 (lv_at hl 1 rfl) ?_
  refine lv_iconst (v := nI 3) hx hb d_LA_law_499 (by decide) ?_
  refine lv_iadd hx hb d_LA_law_500 ?_
  refine gs_top (nI_add i 3) ?_
  refine gs_sld hx hb hX hbl hbA hS (j := i + 3) (by omega) (by omega) d_LA_law_501 ?_
  refine lv_aload_n hx hb d_LA_law_502 rfl (lv_at hl 5 rfl) ?_
  refine lv_iload hx hb d_LA_law_503 (lv_at hl 1 rfl) ?_
  refine lv_iconst (v := nI 4) hx hb d_LA_law_505 (by decide) ?_
  refine lv_iadd hx hb d_LA_law_506 ?_
  refine gs_top (nI_add i 4) ?_
  refine gs_sld hx hb hX hbl hbA hS (j := i + 4) (by omega) (by omega) d_LA_law_507 ?_
  refine lv_aload_n hx hb d_LA_law_508 rfl (lv_at hl 5 rfl) ?_
  refine lv_iload hx hb d_LA_law_509 (lv_at hl 1 rfl) ?_
  refine lv_iconst (v := nI 5) hx hb d_LA_law_511 (by decide) ?_
  refine lv_iadd hx hb d_LA_law_512 ?_
  refine gs_top (nI_add i 5) ?_
  refine gs_sld hx hb hX hbl hbA hS (j := i + 5) (by omega) (by omega) d_LA_law_513 ?_
  refine gs_callVi (As := [.int (nI kd), .int (nI rl), .int (xs (i + 3)), .int (xs (i + 4)), .int (xs (i + 5))]) (rest := []) ⟨hx, hb, hml, hown, hts⟩ hK hE hz hG hS (c_MO_item_n l X σ mo A cd nr cw F T sa rc QM (nI kd) (nI rl) (xs (i + 3)) (xs (i + 4)) (xs (i + 5)) hM (by rw [itR_f hkd, fitR_n hrl hM.2.1]; exact hok)) mV_MO_item w_796 m0 rfl rfl hl.1 rfl (Nat.le_of_ble_eq_true rfl) ⟨by decide, by decide⟩ ⟨(by first | (show cells + 6 ≤ 601024; omega) | (show cells ≤ 601024; omega)), (by first | (show slots + 64 ≤ 7293034; omega) | (show slots ≤ 7293034; omega))⟩ d_LA_law_514 (fun r_514 σ_514 H locs hp_514 hG hS => ?_)
  obtain ⟨hM3, hf3, er3⟩ := hp_514
  have hR3 := hR.mdl (hM.gG ho) hf3
  have ho3 := hf3 _ _ (out_nin hM ho) ho
  obtain ⟨Z3, m03, z03⟩ := hM3.cell
  refine gs_top er3 ?_
  refine lv_istore (lv' := [(6, .int (nI 0)), (5, .int (nI 2)), (4, .int (nI i)), (3, .ref out), (2, .ref mo), (1, .ref rr), (0, .ref sb)]) hx hb d_LA_law_517 hl (by decide) rfl (fun ls hl => ?_)
  refine lv_aload_n hx hb d_LA_law_519 rfl (lv_at hl 4 rfl) ?_
  refine gs_callVp (As := []) (rest := []) ⟨hx, hb, hml, hown, hts⟩ hK hE hz hG hS (c_MO_thrown l X σ_514 mo A Z3 m03) ⟨rfl, rfl⟩ mV_MO_thrown w_757 m03 rfl rfl hl.1 rfl (Nat.le_of_ble_eq_true rfl) ⟨by decide, by decide⟩ ⟨(by first | (show cells + 6 ≤ 601024; omega) | (show cells ≤ 601024; omega)), (by first | (show slots + 64 ≤ 7293034; omega) | (show slots ≤ 7293034; omega))⟩ d_LA_law_520 (fun r_520 hp_520 => ?_)
  refine gs_top (show r_520 = nI 2 from by rw [hp_520, z03]) ?_
  refine lv_iload hx hb d_LA_law_523 (lv_at hl 1 rfl) ?_
  refine lv_icmp_eq (tgt := 530) hx hb d_LA_law_525 (by decide) (fun c_525 => ?_) (fun c_525 => ?_)
  · have c_525 : 2 = 2 :=  (nI_eq (by omega) (by omega)).mp c_525
    refine lv_iload hx hb d_LA_law_530 (lv_at hl 1 rfl) ?_
    refine lv_if_ne (tgt := 547) hx hb d_LA_law_532 (by decide) (fun c_532 => ?_) (fun c_532 => ?_)
    · have c_532 : ¬ 2 = 0 := gs_zn (by omega) c_532
      refine lv_goto (tgt := 1085) hx hb d_LA_law_547 (by decide) ?_
      refine W.widen (k := cells + 6) (n := slots + 64) (by first | exact Nat.le_refl _ | exact Nat.le_add_right _ _) (by first | exact Nat.le_refl _ | exact Nat.le_add_right _ _) ?_
      exact kk σ_514 H locs ⟨_, _, _, _, _, _, _, _, _, _, _, _, _, _, _, _, hR3, hM3, hRL, ho3⟩ hG hS ls (lv_sub hl [2, 3, 4, 5, 6] rfl)
    · exact absurd c_532 (by decide)
  · exact absurd c_525 (by decide)
set_option maxHeartbeats 4000000 in
set_option maxRecDepth 100000 in
theorem lb_item_cf {RL : RLT} (h0 : pe0 RL) (h_pe_len : pe_len RL) {p : Program} {e : Env} {s : State} {m : MethodId} {below : List Frame} {meth : Method} {c : Code} (l : Launch) {sb L : Nat} {xs : Nat → Int32} {X : gs_X} (htr : l.stackTraces = false) (C0 : lw_At p s m meth c sb L xs) (hL : L ≤ 3072) (hXX : X.2.1 3 ≠ X.2.1 2) (hK : gs_T X s) (hE : gs_E X s) (hz : X.2.2 ≤ s.heap.size) (hbA : ¬ gs_A X sb) {rr mo out : Nat} {A : Nat → Nat} {σ : gs_St} {nr : Nat} {cw : Nat → Nat} {Q : List Rl} {E : List En} {Lt : List Nat} {sa : Nat} {nw : Bool} {rc fc : Nat} {th : It} {hs ks : List It} {kn : Nat → Nat} {F : List (Nat × Nat)} {T : List MT} {QM : List MR} {R : MR} {cd : Nat} {f : Nat → Int64} (hR : rrA X σ (out :: aM mo A) rr nr cw Q E Lt sa nw rc fc (some (th, hs, ks, kn))) (hM : moA X σ mo A cd nr cw F T sa rc QM (some R)) (hRL : RL nr cw Q E Lt sa nw rc fc (some (th, hs, ks, kn)) F T QM (some R)) (ho : σ out = some (gs_la X 1 f)) {i cells slots : Nat} (hi : i + 6 ≤ L) (hce : cells + 6 ≤ 601024) (hsl : slots + 64 ≤ 7293034) {kd : Nat} (e1 : xs (i + 1) = nI kd) (e2 : xs (i + 2) = nI 0) (hkd : kd = 2 ∨ kd = 3) (hok : wi3 72 2 (xs (i + 3)) (xs (i + 4)) (xs (i + 5)) = true) (hfu : R.2.length = 6 ∨ (kd = 0 ∧ hl0 R = 3)) (kk : ∀ (σ' : gs_St) (H : Heap) (locs : List Loc), LI RL X σ' rr mo out A → gs_H X σ' H → va_S (gs_A X) s.heap H locs → ∀ ls, lv_has ls 7 [(4, .int (nI i)), (3, .ref out), (2, .ref mo), (1, .ref rr), (0, .ref sb)] → W p l e room_1 s m #[Value.ref sb] below meth c H locs (cells + 6) (slots + 64) (lw_Z below #[Value.ref sb] s) (F0 m 1085 ls [])) {H : Heap} {locs : List Loc} (hG : gs_H X σ H) (hS : va_S (gs_A X) s.heap H locs) {ls : Array Slot} (hl : lv_has ls 7 [(4, .int (nI i)), (3, .ref out), (2, .ref mo), (1, .ref rr), (0, .ref sb)]) : W p l e room_1 s m #[Value.ref sb] below meth c H locs cells slots (lw_Z below #[Value.ref sb] s) (F0 m 446 ls []) := by
  obtain ⟨hx, hb, hr, hml, hown, hts0, hX, hbl, hlocks, hgv⟩ := id C0
  have ht : ∀ w ∈ gs_w, w.before #[Value.ref sb] s = true := fun w h => hts0 w (List.mem_filter.mp h).1
  have hts : ∀ w ∈ (Cond.initialized "RuleRoundsLaw") :: gs_w, w.before #[Value.ref sb] s = true := fun w h => by
    rcases List.mem_cons.mp h with z | z
    · rw [z]; exact ht _ w_0
    · exact ht w z
  obtain ⟨gs, x0⟩ := hR.cell
  obtain ⟨Z, m0, z0⟩ := hM.cell
  have q0 := h0 _ _ _ _ _ _ _ _ _ _ _ _ _ _ hRL
  obtain ⟨hl1, hl2⟩ := (h_pe_len _ _ _ _ _ _ _ _ _ _ _ _ _ _ _ _ _ hRL)
  refine lv_aload_n hx hb d_LA_law_446 rfl (lv_at hl 3 rfl) ?_
  refine lv_aload_n hx hb d_LA_law_447 rfl (lv_at hl 4 rfl) ?_
  refine lv_iload hx hb d_LA_law_448 (lv_at hl 0 rfl) ?_
  refine lv_iconst (v := nI 1) hx hb d_LA_law_450 (by decide) ?_
  refine lv_iadd hx hb d_LA_law_451 ?_
  refine gs_top (nI_add i 1) ?_
  refine gs_sld hx hb hX hbl hbA hS (j := i + 1) (by omega) (by omega) d_LA_law_452 ?_
  refine gs_top (show xs (i + 1) = (nI kd) from e1) ?_
  refine lv_aload_n hx hb d_LA_law_453 rfl (lv_at hl 4 rfl) ?_
  refine lv_iload hx hb d_LA_law_454 (lv_at hl 0 rfl) ?_
  refine lv_iconst (v := nI 2) hx hb d_LA_law_456 (by decide) ?_
  refine lv_iadd hx hb d_LA_law_457 ?_
  refine gs_top (nI_add i 2) ?_
  refine gs_sld hx hb hX hbl hbA hS (j := i + 2) (by omega) (by omega) d_LA_law_458 ?_
  refine gs_top (show xs (i + 2) = (nI 0) from e2) ?_
  refine lv_aload_n hx hb d_LA_law_459 rfl (lv_at hl 4 rfl) ?_
  refine lv_iload hx hb d_LA_law_460 (lv_at hl 0 rfl) ?_
  refine lv_iconst (v := nI 3) hx hb d_LA_law_462 (by decide) ?_
  refine lv_iadd hx hb d_LA_law_463 ?_
  refine gs_top (nI_add i 3) ?_
  refine gs_sld hx hb hX hbl hbA hS (j := i + 3) (by omega) (by omega) d_LA_law_464 ?_
  refine lv_aload_n hx hb d_LA_law_465 rfl (lv_at hl 4 rfl) ?_
  refine lv_iload hx hb d_LA_law_466 (lv_at hl 0 rfl) ?_
  refine lv_iconst (v := nI 4) hx hb d_LA_law_468 (by decide) ?_
  refine lv_iadd hx hb d_LA_law_469 ?_
  refine gs_top (nI_add i 4) ?_
  refine gs_sld hx hb hX hbl hbA hS (j := i + 4) (by omega) (by omega) d_LA_law_470 ?_
  refine lv_aload_n hx hb d_LA_law_471 rfl (lv_at hl 4 rfl) ?_
  refine lv_iload hx hb d_LA_law_472 (lv_at hl 0 rfl) ?_
  refine lv_iconst (v := nI 5) hx hb d_LA_law_474 (by decide) ?_
  refine lv_iadd hx hb d_LA_law_475 ?_
  refine gs_top (nI_add i 5) ?_
  refine gs_sld hx hb hX hbl hbA hS (j := i + 5) (by omega) (by omega) d_LA_law_476 ?_
  refine lv_aload_n hx hb d_LA_law_477 rfl (lv_at hl 1 rfl) ?_
  refine gs_callSiH (As := [.ref rr, .int (nI kd), .int (nI 0), .int (xs (i + 3)), .int (xs (i + 4)), .int (xs (i + 5)), .ref out]) (rest := []) ⟨hx, hb, hml, hown, hts⟩ hK hE hz hG hS (c_LA_item_xS l X σ rr out gs _ (nI kd) (nI 0) (xs (i + 3)) (xs (i + 4)) (xs (i + 5)) x0 ⟨by decide, by decide, by decide, by decide⟩ (c_rr_item_cf l hR htr hkd hok (fun z => by rcases hfu with q | q; omega; rcases z.2 with w | w; exact w q.1; omega))) mSH_LA_item w_524 rfl hl.1 rfl (Nat.le_of_ble_eq_true rfl) ⟨by decide, by decide⟩ ⟨(by first | (show cells + 6 ≤ 601024; omega) | (show cells ≤ 601024; omega)), (by first | (show slots + 64 ≤ 7293034; omega) | (show slots ≤ 7293034; omega))⟩ d_LA_law_478 (fun r_478 σ_478 H locs hp_478 hG hS => ?_)
  refine gs_top hp_478.1 ?_
  rw [hp_478.2] at hG
  refine lv_istore (lv' := [(5, .int (nI 2)), (4, .int (nI i)), (3, .ref out), (2, .ref mo), (1, .ref rr), (0, .ref sb)]) hx hb d_LA_law_481 hl (by decide) rfl (fun ls hl => ?_)
  refine lv_aload_n hx hb d_LA_law_483 rfl (lv_at hl 3 rfl) ?_
  refine lv_aload_n hx hb d_LA_law_484 rfl (lv_at hl 5 rfl) ?_
  refine lv_iload hx hb d_LA_law_485 (lv_at hl 1 rfl) ?_
  refine lv_iconst (v := nI 1) hx hb d_LA_law_487 (by decide) ?_
  refine lv_iadd hx hb d_LA_law_488 ?_
  refine gs_top (nI_add i 1) ?_
  refine gs_sld hx hb hX hbl hbA hS (j := i + 1) (by omega) (by omega) d_LA_law_489 ?_
  refine gs_top (show xs (i + 1) = (nI kd) from e1) ?_
  refine lv_aload_n hx hb d_LA_law_490 rfl (lv_at hl 5 rfl) ?_
  refine lv_iload hx hb d_LA_law_491 (lv_at hl 1 rfl) ?_
  refine lv_iconst (v := nI 2) hx hb d_LA_law_493 (by decide) ?_
  refine lv_iadd hx hb d_LA_law_494 ?_
  refine gs_top (nI_add i 2) ?_
  refine gs_sld hx hb hX hbl hbA hS (j := i + 2) (by omega) (by omega) d_LA_law_495 ?_
  refine gs_top (show xs (i + 2) = (nI 0) from e2) ?_
  refine lv_aload_n hx hb d_LA_law_496 rfl (lv_at hl 5 rfl) ?_
  refine lv_iload hx hb d_LA_law_497 (lv_at hl 1 rfl) ?_
  refine lv_iconst (v := nI 3) hx hb d_LA_law_499 (by decide) ?_
  refine lv_iadd hx hb d_LA_law_500 ?_
  refine gs_top (nI_add i 3) ?_
  refine gs_sld hx hb hX hbl hbA hS (j := i + 3) (by omega) (by omega) d_LA_law_501 ?_
  refine lv_aload_n hx hb d_LA_law_502 rfl (lv_at hl 5 rfl) ?_
  refine lv_iload hx hb d_LA_law_503 (lv_at hl 1 rfl) ?_
  refine lv_iconst (v := nI 4) hx hb d_LA_law_505 (by decide) ?_
  refine lv_iadd hx hb d_LA_law_506 ?_
  refine gs_top (nI_add i 4) ?_
  refine gs_sld hx hb hX hbl hbA hS (j := i + 4) (by omega) (by omega) d_LA_law_507 ?_
  refine lv_aload_n hx hb d_LA_law_508 rfl (lv_at hl 5 rfl) ?_
  refine lv_iload hx hb d_LA_law_509 (lv_at hl 1 rfl) ?_
  refine lv_iconst (v := nI 5) hx hb d_LA_law_511 (by decide) ?_
  refine lv_iadd hx hb d_LA_law_512 ?_
  refine gs_top (nI_add i 5) ?_
  refine gs_sld hx hb hX hbl hbA hS (j := i + 5) (by omega) (by omega) d_LA_law_513 ?_
  refine gs_callVi (As := [.int (nI kd), .int (nI 0), .int (xs (i + 3)), .int (xs (i + 4)), .int (xs (i + 5))]) (rest := []) ⟨hx, hb, hml, hown, hts⟩ hK hE hz hG hS (c_MO_item_f l X σ mo A cd nr cw F T sa rc QM (nI kd) (nI 0) (xs (i + 3)) (xs (i + 4)) (xs (i + 5)) R hM (by rw [itR_c hkd, hok]; rfl) (by rcases hfu with q | q; exact Or.inl q; exact Or.inr ⟨by rw [q.1]; rfl, q.2⟩)) mV_MO_item w_796 m0 rfl rfl hl.1 rfl (Nat.le_of_ble_eq_true rfl) ⟨by decide, by decide⟩ ⟨(by first | (show cells + 6 ≤ 601024; omega) | (show cells ≤ 601024; omega)), (by first | (show slots + 64 ≤ 7293034; omega) | (show slots ≤ 7293034; omega))⟩ d_LA_law_514 (fun r_514 σ_514 H locs hp_514 hG hS => ?_)
  obtain ⟨hM3, hf3, er3⟩ := hp_514
  have hR3 := hR.mdl (hM.gG ho) hf3
  have ho3 := hf3 _ _ (out_nin hM ho) ho
  obtain ⟨Z3, m03, z03⟩ := hM3.cell
  refine gs_top er3 ?_
  refine lv_istore (lv' := [(6, .int (nI 0)), (5, .int (nI 2)), (4, .int (nI i)), (3, .ref out), (2, .ref mo), (1, .ref rr), (0, .ref sb)]) hx hb d_LA_law_517 hl (by decide) rfl (fun ls hl => ?_)
  refine lv_aload_n hx hb d_LA_law_519 rfl (lv_at hl 4 rfl) ?_
  refine gs_callVp (As := []) (rest := []) ⟨hx, hb, hml, hown, hts⟩ hK hE hz hG hS (c_MO_thrown l X σ_514 mo A Z3 m03) ⟨rfl, rfl⟩ mV_MO_thrown w_757 m03 rfl rfl hl.1 rfl (Nat.le_of_ble_eq_true rfl) ⟨by decide, by decide⟩ ⟨(by first | (show cells + 6 ≤ 601024; omega) | (show cells ≤ 601024; omega)), (by first | (show slots + 64 ≤ 7293034; omega) | (show slots ≤ 7293034; omega))⟩ d_LA_law_520 (fun r_520 hp_520 => ?_)
  refine gs_top (show r_520 = nI 2 from by rw [hp_520, z03]) ?_
  refine lv_iload hx hb d_LA_law_523 (lv_at hl 1 rfl) ?_
  refine lv_icmp_eq (tgt := 530) hx hb d_LA_law_525 (by decide) (fun c_525 => ?_) (fun c_525 => ?_)
  · have c_525 : 2 = 2 :=  (nI_eq (by omega) (by omega)).mp c_525
    refine lv_iload hx hb d_LA_law_530 (lv_at hl 1 rfl) ?_
    refine lv_if_ne (tgt := 547) hx hb d_LA_law_532 (by decide) (fun c_532 => ?_) (fun c_532 => ?_)
    · have c_532 : ¬ 2 = 0 := gs_zn (by omega) c_532
      refine lv_goto (tgt := 1085) hx hb d_LA_law_547 (by decide) ?_
      refine W.widen (k := cells + 6) (n := slots + 64) (by first | exact Nat.le_refl _ | exact Nat.le_add_right _ _) (by first | exact Nat.le_refl _ | exact Nat.le_add_right _ _) ?_
      exact kk σ_514 H locs ⟨_, _, _, _, _, _, _, _, _, _, _, _, _, _, _, _, hR3, hM3, hRL, ho3⟩ hG hS ls (lv_sub hl [2, 3, 4, 5, 6] rfl)
    · exact absurd c_532 (by decide)
  · exact absurd c_525 (by decide)
set_option maxHeartbeats 4000000 in
set_option maxRecDepth 100000 in
theorem lb_item_tf {RL : RLT} (h0 : pe0 RL) (h_pe_len : pe_len RL) {p : Program} {e : Env} {s : State} {m : MethodId} {below : List Frame} {meth : Method} {c : Code} (l : Launch) {sb L : Nat} {xs : Nat → Int32} {X : gs_X} (htr : l.stackTraces = false) (C0 : lw_At p s m meth c sb L xs) (hL : L ≤ 3072) (hXX : X.2.1 3 ≠ X.2.1 2) (hK : gs_T X s) (hE : gs_E X s) (hz : X.2.2 ≤ s.heap.size) (hbA : ¬ gs_A X sb) {rr mo out : Nat} {A : Nat → Nat} {σ : gs_St} {nr : Nat} {cw : Nat → Nat} {Q : List Rl} {E : List En} {Lt : List Nat} {sa : Nat} {nw : Bool} {rc fc : Nat} {th : It} {hs ks : List It} {kn : Nat → Nat} {F : List (Nat × Nat)} {T : List MT} {QM : List MR} {R : MR} {cd : Nat} {f : Nat → Int64} (hR : rrA X σ (out :: aM mo A) rr nr cw Q E Lt sa nw rc fc (some (th, hs, ks, kn))) (hM : moA X σ mo A cd nr cw F T sa rc QM (some R)) (hRL : RL nr cw Q E Lt sa nw rc fc (some (th, hs, ks, kn)) F T QM (some R)) (ho : σ out = some (gs_la X 1 f)) {i cells slots : Nat} (hi : i + 6 ≤ L) (hce : cells + 6 ≤ 601024) (hsl : slots + 64 ≤ 7293034) {kd rl : Nat} (e1 : xs (i + 1) = nI kd) (e2 : xs (i + 2) = nI rl) (hkd : kd ≤ 1) (hrl : rl < nr) (hok : wi3 72 (cw rl) (xs (i + 3)) (xs (i + 4)) (xs (i + 5)) = true) (hfu : R.2.length = 6 ∨ (kd = 0 ∧ hl0 R = 3)) (kk : ∀ (σ' : gs_St) (H : Heap) (locs : List Loc), LI RL X σ' rr mo out A → gs_H X σ' H → va_S (gs_A X) s.heap H locs → ∀ ls, lv_has ls 7 [(4, .int (nI i)), (3, .ref out), (2, .ref mo), (1, .ref rr), (0, .ref sb)] → W p l e room_1 s m #[Value.ref sb] below meth c H locs (cells + 6) (slots + 64) (lw_Z below #[Value.ref sb] s) (F0 m 1085 ls [])) {H : Heap} {locs : List Loc} (hG : gs_H X σ H) (hS : va_S (gs_A X) s.heap H locs) {ls : Array Slot} (hl : lv_has ls 7 [(4, .int (nI i)), (3, .ref out), (2, .ref mo), (1, .ref rr), (0, .ref sb)]) : W p l e room_1 s m #[Value.ref sb] below meth c H locs cells slots (lw_Z below #[Value.ref sb] s) (F0 m 446 ls []) := by
  obtain ⟨hx, hb, hr, hml, hown, hts0, hX, hbl, hlocks, hgv⟩ := id C0
  have ht : ∀ w ∈ gs_w, w.before #[Value.ref sb] s = true := fun w h => hts0 w (List.mem_filter.mp h).1
  have hts : ∀ w ∈ (Cond.initialized "RuleRoundsLaw") :: gs_w, w.before #[Value.ref sb] s = true := fun w h => by
    rcases List.mem_cons.mp h with z | z
    · rw [z]; exact ht _ w_0
    · exact ht w z
  obtain ⟨gs, x0⟩ := hR.cell
  obtain ⟨Z, m0, z0⟩ := hM.cell
  have q0 := h0 _ _ _ _ _ _ _ _ _ _ _ _ _ _ hRL
  obtain ⟨hl1, hl2⟩ := (h_pe_len _ _ _ _ _ _ _ _ _ _ _ _ _ _ _ _ _ hRL)
  refine lv_aload_n hx hb d_LA_law_446 rfl (lv_at hl 3 rfl) ?_
  refine lv_aload_n hx hb d_LA_law_447 rfl (lv_at hl 4 rfl) ?_
  refine lv_iload hx hb d_LA_law_448 (lv_at hl 0 rfl) ?_
  refine lv_iconst (v := nI 1) hx hb d_LA_law_450 (by decide) ?_
  refine lv_iadd hx hb d_LA_law_451 ?_
  refine gs_top (nI_add i 1) ?_
  refine gs_sld hx hb hX hbl hbA hS (j := i + 1) (by omega) (by omega) d_LA_law_452 ?_
  refine gs_top (show xs (i + 1) = (nI kd) from e1) ?_
  refine lv_aload_n hx hb d_LA_law_453 rfl (lv_at hl 4 rfl) ?_
  refine lv_iload hx hb d_LA_law_454 (lv_at hl 0 rfl) ?_
  refine lv_iconst (v := nI 2) hx hb d_LA_law_456 (by decide) ?_
  refine lv_iadd hx hb d_LA_law_457 ?_
  refine gs_top (nI_add i 2) ?_
  refine gs_sld hx hb hX hbl hbA hS (j := i + 2) (by omega) (by omega) d_LA_law_458 ?_
  refine gs_top (show xs (i + 2) = (nI rl) from e2) ?_
  refine lv_aload_n hx hb d_LA_law_459 rfl (lv_at hl 4 rfl) ?_
  refine lv_iload hx hb d_LA_law_460 (lv_at hl 0 rfl) ?_
  refine lv_iconst (v := nI 3) hx hb d_LA_law_462 (by decide) ?_
  refine lv_iadd hx hb d_LA_law_463 ?_
  refine gs_top (nI_add i 3) ?_
  refine gs_sld hx hb hX hbl hbA hS (j := i + 3) (by omega) (by omega) d_LA_law_464 ?_
  refine lv_aload_n hx hb d_LA_law_465 rfl (lv_at hl 4 rfl) ?_
  refine lv_iload hx hb d_LA_law_466 (lv_at hl 0 rfl) ?_
  refine lv_iconst (v := nI 4) hx hb d_LA_law_468 (by decide) ?_
  refine lv_iadd hx hb d_LA_law_469 ?_
  refine gs_top (nI_add i 4) ?_
  refine gs_sld hx hb hX hbl hbA hS (j := i + 4) (by omega) (by omega) d_LA_law_470 ?_
  refine lv_aload_n hx hb d_LA_law_471 rfl (lv_at hl 4 rfl) ?_
  refine lv_iload hx hb d_LA_law_472 (lv_at hl 0 rfl) ?_
  refine lv_iconst (v := nI 5) hx hb d_LA_law_474 (by decide) ?_
  refine lv_iadd hx hb d_LA_law_475 ?_
  refine gs_top (nI_add i 5) ?_
  refine gs_sld hx hb hX hbl hbA hS (j := i + 5) (by omega) (by omega) d_LA_law_476 ?_
  refine lv_aload_n hx hb d_LA_law_477 rfl (lv_at hl 1 rfl) ?_
  refine gs_callSiH (As := [.ref rr, .int (nI kd), .int (nI rl), .int (xs (i + 3)), .int (xs (i + 4)), .int (xs (i + 5)), .ref out]) (rest := []) ⟨hx, hb, hml, hown, hts⟩ hK hE hz hG hS (c_LA_item_xS l X σ rr out gs _ (nI kd) (nI rl) (xs (i + 3)) (xs (i + 4)) (xs (i + 5)) x0 ⟨by decide, by decide, by decide, by decide⟩ (c_rr_item_tf l hR htr hrl hkd hok (fun z => by rcases hfu with q | q; omega; rcases z.2 with w | w; exact w q.1; omega))) mSH_LA_item w_524 rfl hl.1 rfl (Nat.le_of_ble_eq_true rfl) ⟨by decide, by decide⟩ ⟨(by first | (show cells + 6 ≤ 601024; omega) | (show cells ≤ 601024; omega)), (by first | (show slots + 64 ≤ 7293034; omega) | (show slots ≤ 7293034; omega))⟩ d_LA_law_478 (fun r_478 σ_478 H locs hp_478 hG hS => ?_)
  refine gs_top hp_478.1 ?_
  rw [hp_478.2] at hG
  refine lv_istore (lv' := [(5, .int (nI 2)), (4, .int (nI i)), (3, .ref out), (2, .ref mo), (1, .ref rr), (0, .ref sb)]) hx hb d_LA_law_481 hl (by decide) rfl (fun ls hl => ?_)
  refine lv_aload_n hx hb d_LA_law_483 rfl (lv_at hl 3 rfl) ?_
  refine lv_aload_n hx hb d_LA_law_484 rfl (lv_at hl 5 rfl) ?_
  refine lv_iload hx hb d_LA_law_485 (lv_at hl 1 rfl) ?_
  refine lv_iconst (v := nI 1) hx hb d_LA_law_487 (by decide) ?_
  refine lv_iadd hx hb d_LA_law_488 ?_
  refine gs_top (nI_add i 1) ?_
  refine gs_sld hx hb hX hbl hbA hS (j := i + 1) (by omega) (by omega) d_LA_law_489 ?_
  refine gs_top (show xs (i + 1) = (nI kd) from e1) ?_
  refine lv_aload_n hx hb d_LA_law_490 rfl (lv_at hl 5 rfl) ?_
  refine lv_iload hx hb d_LA_law_491 (lv_at hl 1 rfl) ?_
  refine lv_iconst (v := nI 2) hx hb d_LA_law_493 (by decide) ?_
  refine lv_iadd hx hb d_LA_law_494 ?_
  refine gs_top (nI_add i 2) ?_
  refine gs_sld hx hb hX hbl hbA hS (j := i + 2) (by omega) (by omega) d_LA_law_495 ?_
  refine gs_top (show xs (i + 2) = (nI rl) from e2) ?_
  refine lv_aload_n hx hb d_LA_law_496 rfl (lv_at hl 5 rfl) ?_
  refine lv_iload hx hb d_LA_law_497 (lv_at hl 1 rfl) ?_
  refine lv_iconst (v := nI 3) hx hb d_LA_law_499 (by decide) ?_
  refine lv_iadd hx hb d_LA_law_500 ?_
  refine gs_top (nI_add i 3) ?_
  refine gs_sld hx hb hX hbl hbA hS (j := i + 3) (by omega) (by omega) d_LA_law_501 ?_
  refine lv_aload_n hx hb d_LA_law_502 rfl (lv_at hl 5 rfl) ?_
  refine lv_iload hx hb d_LA_law_503 (lv_at hl 1 rfl) ?_
  refine lv_iconst (v := nI 4) hx hb d_LA_law_505 (by decide) ?_
  refine lv_iadd hx hb d_LA_law_506 ?_
  refine gs_top (nI_add i 4) ?_
  refine gs_sld hx hb hX hbl hbA hS (j := i + 4) (by omega) (by omega) d_LA_law_507 ?_
  refine lv_aload_n hx hb d_LA_law_508 rfl (lv_at hl 5 rfl) ?_
  refine lv_iload hx hb d_LA_law_509 (lv_at hl 1 rfl) ?_
  refine lv_iconst (v := nI 5) hx hb d_LA_law_511 (by decide) ?_
  refine lv_iadd hx hb d_LA_law_512 ?_
  refine gs_top (nI_add i 5) ?_
  refine gs_sld hx hb hX hbl hbA hS (j := i + 5) (by omega) (by omega) d_LA_law_513 ?_
  refine gs_callVi (As := [.int (nI kd), .int (nI rl), .int (xs (i + 3)), .int (xs (i + 4)), .int (xs (i + 5))]) (rest := []) ⟨hx, hb, hml, hown, hts⟩ hK hE hz hG hS (c_MO_item_f l X σ mo A cd nr cw F T sa rc QM (nI kd) (nI rl) (xs (i + 3)) (xs (i + 4)) (xs (i + 5)) R hM (by rw [itR_f hkd, fitR_n hrl hM.2.1]; exact hok) (by rcases hfu with q | q; exact Or.inl q; exact Or.inr ⟨by rw [q.1]; rfl, q.2⟩)) mV_MO_item w_796 m0 rfl rfl hl.1 rfl (Nat.le_of_ble_eq_true rfl) ⟨by decide, by decide⟩ ⟨(by first | (show cells + 6 ≤ 601024; omega) | (show cells ≤ 601024; omega)), (by first | (show slots + 64 ≤ 7293034; omega) | (show slots ≤ 7293034; omega))⟩ d_LA_law_514 (fun r_514 σ_514 H locs hp_514 hG hS => ?_)
  obtain ⟨hM3, hf3, er3⟩ := hp_514
  have hR3 := hR.mdl (hM.gG ho) hf3
  have ho3 := hf3 _ _ (out_nin hM ho) ho
  obtain ⟨Z3, m03, z03⟩ := hM3.cell
  refine gs_top er3 ?_
  refine lv_istore (lv' := [(6, .int (nI 0)), (5, .int (nI 2)), (4, .int (nI i)), (3, .ref out), (2, .ref mo), (1, .ref rr), (0, .ref sb)]) hx hb d_LA_law_517 hl (by decide) rfl (fun ls hl => ?_)
  refine lv_aload_n hx hb d_LA_law_519 rfl (lv_at hl 4 rfl) ?_
  refine gs_callVp (As := []) (rest := []) ⟨hx, hb, hml, hown, hts⟩ hK hE hz hG hS (c_MO_thrown l X σ_514 mo A Z3 m03) ⟨rfl, rfl⟩ mV_MO_thrown w_757 m03 rfl rfl hl.1 rfl (Nat.le_of_ble_eq_true rfl) ⟨by decide, by decide⟩ ⟨(by first | (show cells + 6 ≤ 601024; omega) | (show cells ≤ 601024; omega)), (by first | (show slots + 64 ≤ 7293034; omega) | (show slots ≤ 7293034; omega))⟩ d_LA_law_520 (fun r_520 hp_520 => ?_)
  refine gs_top (show r_520 = nI 2 from by rw [hp_520, z03]) ?_
  refine lv_iload hx hb d_LA_law_523 (lv_at hl 1 rfl) ?_
  refine lv_icmp_eq (tgt := 530) hx hb d_LA_law_525 (by decide) (fun c_525 => ?_) (fun c_525 => ?_)
  · have c_525 : 2 = 2 :=  (nI_eq (by omega) (by omega)).mp c_525
    refine lv_iload hx hb d_LA_law_530 (lv_at hl 1 rfl) ?_
    refine lv_if_ne (tgt := 547) hx hb d_LA_law_532 (by decide) (fun c_532 => ?_) (fun c_532 => ?_)
    · have c_532 : ¬ 2 = 0 := gs_zn (by omega) c_532
      refine lv_goto (tgt := 1085) hx hb d_LA_law_547 (by decide) ?_
      refine W.widen (k := cells + 6) (n := slots + 64) (by first | exact Nat.le_refl _ | exact Nat.le_add_right _ _) (by first | exact Nat.le_refl _ | exact Nat.le_add_right _ _) ?_
      exact kk σ_514 H locs ⟨_, _, _, _, _, _, _, _, _, _, _, _, _, _, _, _, hR3, hM3, hRL, ho3⟩ hG hS ls (lv_sub hl [2, 3, 4, 5, 6] rfl)
    · exact absurd c_532 (by decide)
  · exact absurd c_525 (by decide)
set_option maxHeartbeats 4000000 in
set_option maxRecDepth 100000 in
theorem lb_item_h {RL : RLT} (h0 : pe0 RL) (h_pe_len : pe_len RL) (h_pe_item_h : pe_item_h RL) {p : Program} {e : Env} {s : State} {m : MethodId} {below : List Frame} {meth : Method} {c : Code} (l : Launch) {sb L : Nat} {xs : Nat → Int32} {X : gs_X} (htr : l.stackTraces = false) (C0 : lw_At p s m meth c sb L xs) (hL : L ≤ 3072) (hXX : X.2.1 3 ≠ X.2.1 2) (hK : gs_T X s) (hE : gs_E X s) (hz : X.2.2 ≤ s.heap.size) (hbA : ¬ gs_A X sb) {rr mo out : Nat} {A : Nat → Nat} {σ : gs_St} {nr : Nat} {cw : Nat → Nat} {Q : List Rl} {E : List En} {Lt : List Nat} {sa : Nat} {nw : Bool} {rc fc : Nat} {th : It} {hs ks : List It} {kn : Nat → Nat} {F : List (Nat × Nat)} {T : List MT} {QM : List MR} {R : MR} {cd : Nat} {f : Nat → Int64} (hR : rrA X σ (out :: aM mo A) rr nr cw Q E Lt sa nw rc fc (some (th, hs, ks, kn))) (hM : moA X σ mo A cd nr cw F T sa rc QM (some R)) (hRL : RL nr cw Q E Lt sa nw rc fc (some (th, hs, ks, kn)) F T QM (some R)) (ho : σ out = some (gs_la X 1 f)) {i cells slots : Nat} (hi : i + 6 ≤ L) (hce : cells + 6 ≤ 601024) (hsl : slots + 64 ≤ 7293034) {rl a b cz : Nat} (e0 : xs (i + 1) = nI 0) (e1 : xs (i + 2) = nI rl) (e2 : xs (i + 3) = nI a) (e3 : xs (i + 4) = nI b) (e4 : xs (i + 5) = nI cz) (hrl : rl < nr) (ha : a < 72) (hb9 : b < 72) (hc9 : cz < 72) (hok : wi3 72 (cw rl) (nI a) (nI b) (nI cz) = true) (hr6 : R.2.length < 6) (hr3 : hl0 R < 3) (kk : ∀ (σ' : gs_St) (H : Heap) (locs : List Loc), LI RL X σ' rr mo out A → gs_H X σ' H → va_S (gs_A X) s.heap H locs → ∀ ls, lv_has ls 7 [(4, .int (nI i)), (3, .ref out), (2, .ref mo), (1, .ref rr), (0, .ref sb)] → W p l e room_1 s m #[Value.ref sb] below meth c H locs (cells + 6) (slots + 64) (lw_Z below #[Value.ref sb] s) (F0 m 1085 ls [])) {H : Heap} {locs : List Loc} (hG : gs_H X σ H) (hS : va_S (gs_A X) s.heap H locs) {ls : Array Slot} (hl : lv_has ls 7 [(4, .int (nI i)), (3, .ref out), (2, .ref mo), (1, .ref rr), (0, .ref sb)]) : W p l e room_1 s m #[Value.ref sb] below meth c H locs cells slots (lw_Z below #[Value.ref sb] s) (F0 m 446 ls []) := by
  obtain ⟨hx, hb, hr, hml, hown, hts0, hX, hbl, hlocks, hgv⟩ := id C0
  have ht : ∀ w ∈ gs_w, w.before #[Value.ref sb] s = true := fun w h => hts0 w (List.mem_filter.mp h).1
  have hts : ∀ w ∈ (Cond.initialized "RuleRoundsLaw") :: gs_w, w.before #[Value.ref sb] s = true := fun w h => by
    rcases List.mem_cons.mp h with z | z
    · rw [z]; exact ht _ w_0
    · exact ht w z
  obtain ⟨gs, x0⟩ := hR.cell
  obtain ⟨Z, m0, z0⟩ := hM.cell
  have q0 := h0 _ _ _ _ _ _ _ _ _ _ _ _ _ _ hRL
  obtain ⟨hl1, hl2⟩ := (h_pe_len _ _ _ _ _ _ _ _ _ _ _ _ _ _ _ _ _ hRL)
  refine lv_aload_n hx hb d_LA_law_446 rfl (lv_at hl 3 rfl) ?_
  refine lv_aload_n hx hb d_LA_law_447 rfl (lv_at hl 4 rfl) ?_
  refine lv_iload hx hb d_LA_law_448 (lv_at hl 0 rfl) ?_
  refine lv_iconst (v := nI 1) hx hb d_LA_law_450 (by decide) ?_
  refine lv_iadd hx hb d_LA_law_451 ?_
  refine gs_top (nI_add i 1) ?_
  refine gs_sld hx hb hX hbl hbA hS (j := i + 1) (by omega) (by omega) d_LA_law_452 ?_
  refine gs_top (show xs (i + 1) = (nI 0) from e0) ?_
  refine lv_aload_n hx hb d_LA_law_453 rfl (lv_at hl 4 rfl) ?_
  refine lv_iload hx hb d_LA_law_454 (lv_at hl 0 rfl) ?_
  refine lv_iconst (v := nI 2) hx hb d_LA_law_456 (by decide) ?_
  refine lv_iadd hx hb d_LA_law_457 ?_
  refine gs_top (nI_add i 2) ?_
  refine gs_sld hx hb hX hbl hbA hS (j := i + 2) (by omega) (by omega) d_LA_law_458 ?_
  refine gs_top (show xs (i + 2) = (nI rl) from e1) ?_
  refine lv_aload_n hx hb d_LA_law_459 rfl (lv_at hl 4 rfl) ?_
  refine lv_iload hx hb d_LA_law_460 (lv_at hl 0 rfl) ?_
  refine lv_iconst (v := nI 3) hx hb d_LA_law_462 (by decide) ?_
  refine lv_iadd hx hb d_LA_law_463 ?_
  refine gs_top (nI_add i 3) ?_
  refine gs_sld hx hb hX hbl hbA hS (j := i + 3) (by omega) (by omega) d_LA_law_464 ?_
  refine gs_top (show xs (i + 3) = (nI a) from e2) ?_
  refine lv_aload_n hx hb d_LA_law_465 rfl (lv_at hl 4 rfl) ?_
  refine lv_iload hx hb d_LA_law_466 (lv_at hl 0 rfl) ?_
  refine lv_iconst (v := nI 4) hx hb d_LA_law_468 (by decide) ?_
  refine lv_iadd hx hb d_LA_law_469 ?_
  refine gs_top (nI_add i 4) ?_
  refine gs_sld hx hb hX hbl hbA hS (j := i + 4) (by omega) (by omega) d_LA_law_470 ?_
  refine gs_top (show xs (i + 4) = (nI b) from e3) ?_
  refine lv_aload_n hx hb d_LA_law_471 rfl (lv_at hl 4 rfl) ?_
  refine lv_iload hx hb d_LA_law_472 (lv_at hl 0 rfl) ?_
  refine lv_iconst (v := nI 5) hx hb d_LA_law_474 (by decide) ?_
  refine lv_iadd hx hb d_LA_law_475 ?_
  refine gs_top (nI_add i 5) ?_
  refine gs_sld hx hb hX hbl hbA hS (j := i + 5) (by omega) (by omega) d_LA_law_476 ?_
  refine gs_top (show xs (i + 5) = (nI cz) from e4) ?_
  refine lv_aload_n hx hb d_LA_law_477 rfl (lv_at hl 1 rfl) ?_
  refine gs_callSiH (As := [.ref rr, .int (nI 0), .int (nI rl), .int (nI a), .int (nI b), .int (nI cz), .ref out]) (rest := []) ⟨hx, hb, hml, hown, hts⟩ hK hE hz hG hS (c_LA_item l X σ rr out gs _ f (nI 0) (nI rl) (nI a) (nI b) (nI cz) _ x0 ⟨by decide, by decide, by decide, by decide⟩ (c_rr_item_h l hR hXX (hM.gG ho) hrl ha hb9 hc9 hok ⟨by omega, by omega⟩) (fun r9 σ9 z => z.2.1 out List.mem_cons_self _ ho)) mSH_LA_item w_524 rfl hl.1 rfl (Nat.le_of_ble_eq_true rfl) ⟨by decide, by decide⟩ ⟨(by first | (show cells + 6 ≤ 601024; omega) | (show cells ≤ 601024; omega)), (by first | (show slots + 64 ≤ 7293034; omega) | (show slots ≤ 7293034; omega))⟩ d_LA_law_478 (fun r_478 σ_478 H locs hp_478 hG hS => ?_)
  obtain ⟨ek, r9, σ9, ⟨hR9, hk9, hans9⟩, ev⟩ := hp_478
  refine gs_top ek ?_
  rw [ev] at hG
  obtain ⟨hR2, hM2⟩ := ans_put (f' := vp_updL f 0 r9.toInt64) hR9 hk9 hM ho
  obtain ⟨σ1, eσ1⟩ : ∃ z, z = gs_up σ9 out (gs_la X 1 (vp_updL f 0 r9.toInt64)) := ⟨_, rfl⟩
  rw [← eσ1] at hG hR2 hM2
  have ho2 : σ1 out = some (gs_la X 1 (vp_updL f 0 r9.toInt64)) := by rw [eσ1]; exact gs_us
  obtain ⟨Z2, m02, z02⟩ := hM2.cell
  refine lv_istore (lv' := [(5, .int (nI 0)), (4, .int (nI i)), (3, .ref out), (2, .ref mo), (1, .ref rr), (0, .ref sb)]) hx hb d_LA_law_481 hl (by decide) rfl (fun ls hl => ?_)
  refine lv_aload_n hx hb d_LA_law_483 rfl (lv_at hl 3 rfl) ?_
  refine lv_aload_n hx hb d_LA_law_484 rfl (lv_at hl 5 rfl) ?_
  refine lv_iload hx hb d_LA_law_485 (lv_at hl 1 rfl) ?_
  refine lv_iconst (v := nI 1) hx hb d_LA_law_487 (by decide) ?_
  refine lv_iadd hx hb d_LA_law_488 ?_
  refine gs_top (nI_add i 1) ?_
  refine gs_sld hx hb hX hbl hbA hS (j := i + 1) (by omega) (by omega) d_LA_law_489 ?_
  refine gs_top (show xs (i + 1) = (nI 0) from e0) ?_
  refine lv_aload_n hx hb d_LA_law_490 rfl (lv_at hl 5 rfl) ?_
  refine lv_iload hx hb d_LA_law_491 (lv_at hl 1 rfl) ?_
  refine lv_iconst (v := nI 2) hx hb d_LA_law_493 (by decide) ?_
  refine lv_iadd hx hb d_LA_law_494 ?_
  refine gs_top (nI_add i 2) ?_
  refine gs_sld hx hb hX hbl hbA hS (j := i + 2) (by omega) (by omega) d_LA_law_495 ?_
  refine gs_top (show xs (i + 2) = (nI rl) from e1) ?_
  refine lv_aload_n hx hb d_LA_law_496 rfl (lv_at hl 5 rfl) ?_
  refine lv_iload hx hb d_LA_law_497 (lv_at hl 1 rfl) ?_
  refine lv_iconst (v := nI 3) hx hb d_LA_law_499 (by decide) ?_
  refine lv_iadd hx hb d_LA_law_500 ?_
  refine gs_top (nI_add i 3) ?_
  refine gs_sld hx hb hX hbl hbA hS (j := i + 3) (by omega) (by omega) d_LA_law_501 ?_
  refine gs_top (show xs (i + 3) = (nI a) from e2) ?_
  refine lv_aload_n hx hb d_LA_law_502 rfl (lv_at hl 5 rfl) ?_
  refine lv_iload hx hb d_LA_law_503 (lv_at hl 1 rfl) ?_
  refine lv_iconst (v := nI 4) hx hb d_LA_law_505 (by decide) ?_
  refine lv_iadd hx hb d_LA_law_506 ?_
  refine gs_top (nI_add i 4) ?_
  refine gs_sld hx hb hX hbl hbA hS (j := i + 4) (by omega) (by omega) d_LA_law_507 ?_
  refine gs_top (show xs (i + 4) = (nI b) from e3) ?_
  refine lv_aload_n hx hb d_LA_law_508 rfl (lv_at hl 5 rfl) ?_
  refine lv_iload hx hb d_LA_law_509 (lv_at hl 1 rfl) ?_
  refine lv_iconst (v := nI 5) hx hb d_LA_law_511 (by decide) ?_
  refine lv_iadd hx hb d_LA_law_512 ?_
  refine gs_top (nI_add i 5) ?_
  refine gs_sld hx hb hX hbl hbA hS (j := i + 5) (by omega) (by omega) d_LA_law_513 ?_
  refine gs_top (show xs (i + 5) = (nI cz) from e4) ?_
  refine gs_callVi (As := [.int (nI 0), .int (nI rl), .int (nI a), .int (nI b), .int (nI cz)]) (rest := []) ⟨hx, hb, hml, hown, hts⟩ hK hE hz hG hS (c_MO_item l X σ1 mo A cd nr cw F T sa rc QM (nI 0) (nI rl) (nI a) (nI b) (nI cz) R 0 rl a b cz hM2 (by rw [itR_f (by decide), fitR_n hrl hM.2.1]; exact hok) rfl rfl rfl rfl rfl (by decide) (fun _ => hrl) (by have := hM.2.1; omega) ha hb9 hc9 ⟨hr6, Or.inr hr3⟩) mV_MO_item w_796 m02 rfl rfl hl.1 rfl (Nat.le_of_ble_eq_true rfl) ⟨by decide, by decide⟩ ⟨(by first | (show cells + 6 ≤ 601024; omega) | (show cells ≤ 601024; omega)), (by first | (show slots + 64 ≤ 7293034; omega) | (show slots ≤ 7293034; omega))⟩ d_LA_law_514 (fun r_514 σ_514 H locs hp_514 hG hS => ?_)
  obtain ⟨hM3, hf3, er3⟩ := hp_514
  have hR3 := hR2.mdl (hM2.gG ho2) hf3
  have ho3 := hf3 _ _ (out_nin hM2 ho2) ho2
  obtain ⟨Z3, m03, z03⟩ := hM3.cell
  refine gs_top er3 ?_
  refine lv_istore (lv' := [(6, .int (nI (R.2.length + 1))), (5, .int (nI 0)), (4, .int (nI i)), (3, .ref out), (2, .ref mo), (1, .ref rr), (0, .ref sb)]) hx hb d_LA_law_517 hl (by decide) rfl (fun ls hl => ?_)
  refine lv_aload_n hx hb d_LA_law_519 rfl (lv_at hl 4 rfl) ?_
  refine gs_callVp (As := []) (rest := []) ⟨hx, hb, hml, hown, hts⟩ hK hE hz hG hS (c_MO_thrown l X σ_514 mo A Z3 m03) ⟨rfl, rfl⟩ mV_MO_thrown w_757 m03 rfl rfl hl.1 rfl (Nat.le_of_ble_eq_true rfl) ⟨by decide, by decide⟩ ⟨(by first | (show cells + 6 ≤ 601024; omega) | (show cells ≤ 601024; omega)), (by first | (show slots + 64 ≤ 7293034; omega) | (show slots ≤ 7293034; omega))⟩ d_LA_law_520 (fun r_520 hp_520 => ?_)
  refine gs_top (show r_520 = nI 0 from by rw [hp_520, z03]) ?_
  refine lv_iload hx hb d_LA_law_523 (lv_at hl 1 rfl) ?_
  refine lv_icmp_eq (tgt := 530) hx hb d_LA_law_525 (by decide) (fun c_525 => ?_) (fun c_525 => ?_)
  · have c_525 : 0 = 0 :=  (nI_eq (by omega) (by omega)).mp c_525
    refine lv_iload hx hb d_LA_law_530 (lv_at hl 1 rfl) ?_
    refine lv_if_ne (tgt := 547) hx hb d_LA_law_532 (by decide) (fun c_532 => ?_) (fun c_532 => ?_)
    · exact absurd c_532 (by decide)
    · have c_532 : 0 = 0 := gs_z (by omega) c_532
      refine lv_aload_n hx hb d_LA_law_535 rfl (lv_at hl 3 rfl) ?_
      refine lv_iconst (v := nI 0) hx hb d_LA_law_536 (by decide) ?_
      refine gs_lald hx hb hK hG ho3 (j := 0) (by omega) (by omega) d_LA_law_537 ?_
      refine lv_iload hx hb d_LA_law_538 (lv_at hl 0 rfl) ?_
      refine lv_i2l hx hb d_LA_law_540 rfl ?_
      refine W.lcmp hx hb d_LA_law_541 ?_
      refine lv_if_eq (tgt := 547) hx hb d_LA_law_542 (by decide) (fun c_542 => ?_) (fun c_542 => ?_)
      · refine lv_goto (tgt := 1085) hx hb d_LA_law_547 (by decide) ?_
        refine W.widen (k := cells + 6) (n := slots + 64) (by first | exact Nat.le_refl _ | exact Nat.le_add_right _ _) (by first | exact Nat.le_refl _ | exact Nat.le_add_right _ _) ?_
        exact kk σ_514 H locs ⟨_, _, _, _, _, _, _, _, _, _, _, _, _, _, _, _, hR3, hM3, (h_pe_item_h _ _ _ _ _ _ _ _ _ _ _ _ _ _ _ _ _ hRL rl a b cz hrl ha hb9 hc9 hok hr6 hr3), ho3⟩ hG hS ls (lv_sub hl [2, 3, 4, 5, 6] rfl)
      · exact absurd (cmp_0.mpr (show vp_updL f 0 r9.toInt64 0 = _ from by unfold vp_updL; rw [if_pos rfl, hans9.trans (congrArg nI (show _ = R.2.length + 1 by omega))])) c_542
  · exact absurd c_525 (by decide)
set_option maxHeartbeats 4000000 in
set_option maxRecDepth 100000 in
theorem lb_item_n {RL : RLT} (h0 : pe0 RL) (h_pe_len : pe_len RL) (h_pe_item_n : pe_item_n RL) {p : Program} {e : Env} {s : State} {m : MethodId} {below : List Frame} {meth : Method} {c : Code} (l : Launch) {sb L : Nat} {xs : Nat → Int32} {X : gs_X} (htr : l.stackTraces = false) (C0 : lw_At p s m meth c sb L xs) (hL : L ≤ 3072) (hXX : X.2.1 3 ≠ X.2.1 2) (hK : gs_T X s) (hE : gs_E X s) (hz : X.2.2 ≤ s.heap.size) (hbA : ¬ gs_A X sb) {rr mo out : Nat} {A : Nat → Nat} {σ : gs_St} {nr : Nat} {cw : Nat → Nat} {Q : List Rl} {E : List En} {Lt : List Nat} {sa : Nat} {nw : Bool} {rc fc : Nat} {th : It} {hs ks : List It} {kn : Nat → Nat} {F : List (Nat × Nat)} {T : List MT} {QM : List MR} {R : MR} {cd : Nat} {f : Nat → Int64} (hR : rrA X σ (out :: aM mo A) rr nr cw Q E Lt sa nw rc fc (some (th, hs, ks, kn))) (hM : moA X σ mo A cd nr cw F T sa rc QM (some R)) (hRL : RL nr cw Q E Lt sa nw rc fc (some (th, hs, ks, kn)) F T QM (some R)) (ho : σ out = some (gs_la X 1 f)) {i cells slots : Nat} (hi : i + 6 ≤ L) (hce : cells + 6 ≤ 601024) (hsl : slots + 64 ≤ 7293034) {rl a b cz : Nat} (e0 : xs (i + 1) = nI 1) (e1 : xs (i + 2) = nI rl) (e2 : xs (i + 3) = nI a) (e3 : xs (i + 4) = nI b) (e4 : xs (i + 5) = nI cz) (hrl : rl < nr) (ha : a < 72) (hb9 : b < 72) (hc9 : cz < 72) (hok : wi3 72 (cw rl) (nI a) (nI b) (nI cz) = true) (hr6 : R.2.length < 6) (kk : ∀ (σ' : gs_St) (H : Heap) (locs : List Loc), LI RL X σ' rr mo out A → gs_H X σ' H → va_S (gs_A X) s.heap H locs → ∀ ls, lv_has ls 7 [(4, .int (nI i)), (3, .ref out), (2, .ref mo), (1, .ref rr), (0, .ref sb)] → W p l e room_1 s m #[Value.ref sb] below meth c H locs (cells + 6) (slots + 64) (lw_Z below #[Value.ref sb] s) (F0 m 1085 ls [])) {H : Heap} {locs : List Loc} (hG : gs_H X σ H) (hS : va_S (gs_A X) s.heap H locs) {ls : Array Slot} (hl : lv_has ls 7 [(4, .int (nI i)), (3, .ref out), (2, .ref mo), (1, .ref rr), (0, .ref sb)]) : W p l e room_1 s m #[Value.ref sb] below meth c H locs cells slots (lw_Z below #[Value.ref sb] s) (F0 m 446 ls []) := by
  obtain ⟨hx, hb, hr, hml, hown, hts0, hX, hbl, hlocks, hgv⟩ := id C0
  have ht : ∀ w ∈ gs_w, w.before #[Value.ref sb] s = true := fun w h => hts0 w (List.mem_filter.mp h).1
  have hts : ∀ w ∈ (Cond.initialized "RuleRoundsLaw") :: gs_w, w.before #[Value.ref sb] s = true := fun w h => by
    rcases List.mem_cons.mp h with z | z
    · rw [z]; exact ht _ w_0
    · exact ht w z
  obtain ⟨gs, x0⟩ := hR.cell
  obtain ⟨Z, m0, z0⟩ := hM.cell
  have q0 := h0 _ _ _ _ _ _ _ _ _ _ _ _ _ _ hRL
  obtain ⟨hl1, hl2⟩ := (h_pe_len _ _ _ _ _ _ _ _ _ _ _ _ _ _ _ _ _ hRL)
  refine lv_aload_n hx hb d_LA_law_446 rfl (lv_at hl 3 rfl) ?_
  refine lv_aload_n hx hb d_LA_law_447 rfl (lv_at hl 4 rfl) ?_
  refine lv_iload hx hb d_LA_law_448 (lv_at hl 0 rfl) ?_
  refine lv_iconst (v := nI 1) hx hb d_LA_law_450 (by decide) ?_
  refine lv_iadd hx hb d_LA_law_451 ?_
  refine gs_top (nI_add i 1) ?_
  refine gs_sld hx hb hX hbl hbA hS (j := i + 1) (by omega) (by omega) d_LA_law_452 ?_
  refine gs_top (show xs (i + 1) = (nI 1) from e0) ?_
  refine lv_aload_n hx hb d_LA_law_453 rfl (lv_at hl 4 rfl) ?_
  refine lv_iload hx hb d_LA_law_454 (lv_at hl 0 rfl) ?_
  refine lv_iconst (v := nI 2) hx hb d_LA_law_456 (by decide) ?_
  refine lv_iadd hx hb d_LA_law_457 ?_
  refine gs_top (nI_add i 2) ?_
  refine gs_sld hx hb hX hbl hbA hS (j := i + 2) (by omega) (by omega) d_LA_law_458 ?_
  refine gs_top (show xs (i + 2) = (nI rl) from e1) ?_
  refine lv_aload_n hx hb d_LA_law_459 rfl (lv_at hl 4 rfl) ?_
  refine lv_iload hx hb d_LA_law_460 (lv_at hl 0 rfl) ?_
  refine lv_iconst (v := nI 3) hx hb d_LA_law_462 (by decide) ?_
  refine lv_iadd hx hb d_LA_law_463 ?_
  refine gs_top (nI_add i 3) ?_
  refine gs_sld hx hb hX hbl hbA hS (j := i + 3) (by omega) (by omega) d_LA_law_464 ?_
  refine gs_top (show xs (i + 3) = (nI a) from e2) ?_
  refine lv_aload_n hx hb d_LA_law_465 rfl (lv_at hl 4 rfl) ?_
  refine lv_iload hx hb d_LA_law_466 (lv_at hl 0 rfl) ?_
  refine lv_iconst (v := nI 4) hx hb d_LA_law_468 (by decide) ?_
  refine lv_iadd hx hb d_LA_law_469 ?_
  refine gs_top (nI_add i 4) ?_
  refine gs_sld hx hb hX hbl hbA hS (j := i + 4) (by omega) (by omega) d_LA_law_470 ?_
  refine gs_top (show xs (i + 4) = (nI b) from e3) ?_
  refine lv_aload_n hx hb d_LA_law_471 rfl (lv_at hl 4 rfl) ?_
  refine lv_iload hx hb d_LA_law_472 (lv_at hl 0 rfl) ?_
  refine lv_iconst (v := nI 5) hx hb d_LA_law_474 (by decide) ?_
  refine lv_iadd hx hb d_LA_law_475 ?_
  refine gs_top (nI_add i 5) ?_
  refine gs_sld hx hb hX hbl hbA hS (j := i + 5) (by omega) (by omega) d_LA_law_476 ?_
  refine gs_top (show xs (i + 5) = (nI cz) from e4) ?_
  refine lv_aload_n hx hb d_LA_law_477 rfl (lv_at hl 1 rfl) ?_
  refine gs_callSiH (As := [.ref rr, .int (nI 1), .int (nI rl), .int (nI a), .int (nI b), .int (nI cz), .ref out]) (rest := []) ⟨hx, hb, hml, hown, hts⟩ hK hE hz hG hS (c_LA_item l X σ rr out gs _ f (nI 1) (nI rl) (nI a) (nI b) (nI cz) _ x0 ⟨by decide, by decide, by decide, by decide⟩ (c_rr_item_n l hR hXX (hM.gG ho) hrl ha hb9 hc9 hok (by omega)) (fun r9 σ9 z => z.2.1 out List.mem_cons_self _ ho)) mSH_LA_item w_524 rfl hl.1 rfl (Nat.le_of_ble_eq_true rfl) ⟨by decide, by decide⟩ ⟨(by first | (show cells + 6 ≤ 601024; omega) | (show cells ≤ 601024; omega)), (by first | (show slots + 64 ≤ 7293034; omega) | (show slots ≤ 7293034; omega))⟩ d_LA_law_478 (fun r_478 σ_478 H locs hp_478 hG hS => ?_)
  obtain ⟨ek, r9, σ9, ⟨hR9, hk9, hans9⟩, ev⟩ := hp_478
  refine gs_top ek ?_
  rw [ev] at hG
  obtain ⟨hR2, hM2⟩ := ans_put (f' := vp_updL f 0 r9.toInt64) hR9 hk9 hM ho
  obtain ⟨σ1, eσ1⟩ : ∃ z, z = gs_up σ9 out (gs_la X 1 (vp_updL f 0 r9.toInt64)) := ⟨_, rfl⟩
  rw [← eσ1] at hG hR2 hM2
  have ho2 : σ1 out = some (gs_la X 1 (vp_updL f 0 r9.toInt64)) := by rw [eσ1]; exact gs_us
  obtain ⟨Z2, m02, z02⟩ := hM2.cell
  refine lv_istore (lv' := [(5, .int (nI 0)), (4, .int (nI i)), (3, .ref out), (2, .ref mo), (1, .ref rr), (0, .ref sb)]) hx hb d_LA_law_481 hl (by decide) rfl (fun ls hl => ?_)
  refine lv_aload_n hx hb d_LA_law_483 rfl (lv_at hl 3 rfl) ?_
  refine lv_aload_n hx hb d_LA_law_484 rfl (lv_at hl 5 rfl) ?_
  refine lv_iload hx hb d_LA_law_485 (lv_at hl 1 rfl) ?_
  refine lv_iconst (v := nI 1) hx hb d_LA_law_487 (by decide) ?_
  refine lv_iadd hx hb d_LA_law_488 ?_
  refine gs_top (nI_add i 1) ?_
  refine gs_sld hx hb hX hbl hbA hS (j := i + 1) (by omega) (by omega) d_LA_law_489 ?_
  refine gs_top (show xs (i + 1) = (nI 1) from e0) ?_
  refine lv_aload_n hx hb d_LA_law_490 rfl (lv_at hl 5 rfl) ?_
  refine lv_iload hx hb d_LA_law_491 (lv_at hl 1 rfl) ?_
  refine lv_iconst (v := nI 2) hx hb d_LA_law_493 (by decide) ?_
  refine lv_iadd hx hb d_LA_law_494 ?_
  refine gs_top (nI_add i 2) ?_
  refine gs_sld hx hb hX hbl hbA hS (j := i + 2) (by omega) (by omega) d_LA_law_495 ?_
  refine gs_top (show xs (i + 2) = (nI rl) from e1) ?_
  refine lv_aload_n hx hb d_LA_law_496 rfl (lv_at hl 5 rfl) ?_
  refine lv_iload hx hb d_LA_law_497 (lv_at hl 1 rfl) ?_
  refine lv_iconst (v := nI 3) hx hb d_LA_law_499 (by decide) ?_
  refine lv_iadd hx hb d_LA_law_500 ?_
  refine gs_top (nI_add i 3) ?_
  refine gs_sld hx hb hX hbl hbA hS (j := i + 3) (by omega) (by omega) d_LA_law_501 ?_
  refine gs_top (show xs (i + 3) = (nI a) from e2) ?_
  refine lv_aload_n hx hb d_LA_law_502 rfl (lv_at hl 5 rfl) ?_
  refine lv_iload hx hb d_LA_law_503 (lv_at hl 1 rfl) ?_
  refine lv_iconst (v := nI 4) hx hb d_LA_law_505 (by decide) ?_
  refine lv_iadd hx hb d_LA_law_506 ?_
  refine gs_top (nI_add i 4) ?_
  refine gs_sld hx hb hX hbl hbA hS (j := i + 4) (by omega) (by omega) d_LA_law_507 ?_
  refine gs_top (show xs (i + 4) = (nI b) from e3) ?_
  refine lv_aload_n hx hb d_LA_law_508 rfl (lv_at hl 5 rfl) ?_
  refine lv_iload hx hb d_LA_law_509 (lv_at hl 1 rfl) ?_
  refine lv_iconst (v := nI 5) hx hb d_LA_law_511 (by decide) ?_
  refine lv_iadd hx hb d_LA_law_512 ?_
  refine gs_top (nI_add i 5) ?_
  refine gs_sld hx hb hX hbl hbA hS (j := i + 5) (by omega) (by omega) d_LA_law_513 ?_
  refine gs_top (show xs (i + 5) = (nI cz) from e4) ?_
  refine gs_callVi (As := [.int (nI 1), .int (nI rl), .int (nI a), .int (nI b), .int (nI cz)]) (rest := []) ⟨hx, hb, hml, hown, hts⟩ hK hE hz hG hS (c_MO_item l X σ1 mo A cd nr cw F T sa rc QM (nI 1) (nI rl) (nI a) (nI b) (nI cz) R 1 rl a b cz hM2 (by rw [itR_f (by decide), fitR_n hrl hM.2.1]; exact hok) rfl rfl rfl rfl rfl (by decide) (fun _ => hrl) (by have := hM.2.1; omega) ha hb9 hc9 ⟨hr6, Or.inl (by decide)⟩) mV_MO_item w_796 m02 rfl rfl hl.1 rfl (Nat.le_of_ble_eq_true rfl) ⟨by decide, by decide⟩ ⟨(by first | (show cells + 6 ≤ 601024; omega) | (show cells ≤ 601024; omega)), (by first | (show slots + 64 ≤ 7293034; omega) | (show slots ≤ 7293034; omega))⟩ d_LA_law_514 (fun r_514 σ_514 H locs hp_514 hG hS => ?_)
  obtain ⟨hM3, hf3, er3⟩ := hp_514
  have hR3 := hR2.mdl (hM2.gG ho2) hf3
  have ho3 := hf3 _ _ (out_nin hM2 ho2) ho2
  obtain ⟨Z3, m03, z03⟩ := hM3.cell
  refine gs_top er3 ?_
  refine lv_istore (lv' := [(6, .int (nI (R.2.length + 1))), (5, .int (nI 0)), (4, .int (nI i)), (3, .ref out), (2, .ref mo), (1, .ref rr), (0, .ref sb)]) hx hb d_LA_law_517 hl (by decide) rfl (fun ls hl => ?_)
  refine lv_aload_n hx hb d_LA_law_519 rfl (lv_at hl 4 rfl) ?_
  refine gs_callVp (As := []) (rest := []) ⟨hx, hb, hml, hown, hts⟩ hK hE hz hG hS (c_MO_thrown l X σ_514 mo A Z3 m03) ⟨rfl, rfl⟩ mV_MO_thrown w_757 m03 rfl rfl hl.1 rfl (Nat.le_of_ble_eq_true rfl) ⟨by decide, by decide⟩ ⟨(by first | (show cells + 6 ≤ 601024; omega) | (show cells ≤ 601024; omega)), (by first | (show slots + 64 ≤ 7293034; omega) | (show slots ≤ 7293034; omega))⟩ d_LA_law_520 (fun r_520 hp_520 => ?_)
  refine gs_top (show r_520 = nI 0 from by rw [hp_520, z03]) ?_
  refine lv_iload hx hb d_LA_law_523 (lv_at hl 1 rfl) ?_
  refine lv_icmp_eq (tgt := 530) hx hb d_LA_law_525 (by decide) (fun c_525 => ?_) (fun c_525 => ?_)
  · have c_525 : 0 = 0 :=  (nI_eq (by omega) (by omega)).mp c_525
    refine lv_iload hx hb d_LA_law_530 (lv_at hl 1 rfl) ?_
    refine lv_if_ne (tgt := 547) hx hb d_LA_law_532 (by decide) (fun c_532 => ?_) (fun c_532 => ?_)
    · exact absurd c_532 (by decide)
    · have c_532 : 0 = 0 := gs_z (by omega) c_532
      refine lv_aload_n hx hb d_LA_law_535 rfl (lv_at hl 3 rfl) ?_
      refine lv_iconst (v := nI 0) hx hb d_LA_law_536 (by decide) ?_
      refine gs_lald hx hb hK hG ho3 (j := 0) (by omega) (by omega) d_LA_law_537 ?_
      refine lv_iload hx hb d_LA_law_538 (lv_at hl 0 rfl) ?_
      refine lv_i2l hx hb d_LA_law_540 rfl ?_
      refine W.lcmp hx hb d_LA_law_541 ?_
      refine lv_if_eq (tgt := 547) hx hb d_LA_law_542 (by decide) (fun c_542 => ?_) (fun c_542 => ?_)
      · refine lv_goto (tgt := 1085) hx hb d_LA_law_547 (by decide) ?_
        refine W.widen (k := cells + 6) (n := slots + 64) (by first | exact Nat.le_refl _ | exact Nat.le_add_right _ _) (by first | exact Nat.le_refl _ | exact Nat.le_add_right _ _) ?_
        exact kk σ_514 H locs ⟨_, _, _, _, _, _, _, _, _, _, _, _, _, _, _, _, hR3, hM3, (h_pe_item_n _ _ _ _ _ _ _ _ _ _ _ _ _ _ _ _ _ hRL rl a b cz hrl ha hb9 hc9 hok hr6), ho3⟩ hG hS ls (lv_sub hl [2, 3, 4, 5, 6] rfl)
      · exact absurd (cmp_0.mpr (show vp_updL f 0 r9.toInt64 0 = _ from by unfold vp_updL; rw [if_pos rfl, hans9.trans (congrArg nI (show _ = R.2.length + 1 by omega))])) c_542
  · exact absurd c_525 (by decide)
set_option maxHeartbeats 4000000 in
set_option maxRecDepth 100000 in
theorem lb_item_cok {RL : RLT} (h0 : pe0 RL) (h_pe_len : pe_len RL) (h_pe_item_c : pe_item_c RL) {p : Program} {e : Env} {s : State} {m : MethodId} {below : List Frame} {meth : Method} {c : Code} (l : Launch) {sb L : Nat} {xs : Nat → Int32} {X : gs_X} (htr : l.stackTraces = false) (C0 : lw_At p s m meth c sb L xs) (hL : L ≤ 3072) (hXX : X.2.1 3 ≠ X.2.1 2) (hK : gs_T X s) (hE : gs_E X s) (hz : X.2.2 ≤ s.heap.size) (hbA : ¬ gs_A X sb) {rr mo out : Nat} {A : Nat → Nat} {σ : gs_St} {nr : Nat} {cw : Nat → Nat} {Q : List Rl} {E : List En} {Lt : List Nat} {sa : Nat} {nw : Bool} {rc fc : Nat} {th : It} {hs ks : List It} {kn : Nat → Nat} {F : List (Nat × Nat)} {T : List MT} {QM : List MR} {R : MR} {cd : Nat} {f : Nat → Int64} (hR : rrA X σ (out :: aM mo A) rr nr cw Q E Lt sa nw rc fc (some (th, hs, ks, kn))) (hM : moA X σ mo A cd nr cw F T sa rc QM (some R)) (hRL : RL nr cw Q E Lt sa nw rc fc (some (th, hs, ks, kn)) F T QM (some R)) (ho : σ out = some (gs_la X 1 f)) {i cells slots : Nat} (hi : i + 6 ≤ L) (hce : cells + 6 ≤ 601024) (hsl : slots + 64 ≤ 7293034) {kd a b cz : Nat} (e0 : xs (i + 1) = nI kd) (e1 : xs (i + 2) = nI 0) (e2 : xs (i + 3) = nI a) (e3 : xs (i + 4) = nI b) (e4 : xs (i + 5) = nI cz) (hkd : kd = 2 ∨ kd = 3) (ha : a < 72) (hb9 : b < 72) (hc9 : cz < 72) (hok : wi3 72 2 (nI a) (nI b) (nI cz) = true) (hr6 : R.2.length < 6) (kk : ∀ (σ' : gs_St) (H : Heap) (locs : List Loc), LI RL X σ' rr mo out A → gs_H X σ' H → va_S (gs_A X) s.heap H locs → ∀ ls, lv_has ls 7 [(4, .int (nI i)), (3, .ref out), (2, .ref mo), (1, .ref rr), (0, .ref sb)] → W p l e room_1 s m #[Value.ref sb] below meth c H locs (cells + 6) (slots + 64) (lw_Z below #[Value.ref sb] s) (F0 m 1085 ls [])) {H : Heap} {locs : List Loc} (hG : gs_H X σ H) (hS : va_S (gs_A X) s.heap H locs) {ls : Array Slot} (hl : lv_has ls 7 [(4, .int (nI i)), (3, .ref out), (2, .ref mo), (1, .ref rr), (0, .ref sb)]) : W p l e room_1 s m #[Value.ref sb] below meth c H locs cells slots (lw_Z below #[Value.ref sb] s) (F0 m 446 ls []) := by
  obtain ⟨hx, hb, hr, hml, hown, hts0, hX, hbl, hlocks, hgv⟩ := id C0
  have ht : ∀ w ∈ gs_w, w.before #[Value.ref sb] s = true := fun w h => hts0 w (List.mem_filter.mp h).1
  have hts : ∀ w ∈ (Cond.initialized "RuleRoundsLaw") :: gs_w, w.before #[Value.ref sb] s = true := fun w h => by
    rcases List.mem_cons.mp h with z | z
    · rw [z]; exact ht _ w_0
    · exact ht w z
  obtain ⟨gs, x0⟩ := hR.cell
  obtain ⟨Z, m0, z0⟩ := hM.cell
  have q0 := h0 _ _ _ _ _ _ _ _ _ _ _ _ _ _ hRL
  obtain ⟨hl1, hl2⟩ := (h_pe_len _ _ _ _ _ _ _ _ _ _ _ _ _ _ _ _ _ hRL)
  refine lv_aload_n hx hb d_LA_law_446 rfl (lv_at hl 3 rfl) ?_
  refine lv_aload_n hx hb d_LA_law_447 rfl (lv_at hl 4 rfl) ?_
  refine lv_iload hx hb d_LA_law_448 (lv_at hl 0 rfl) ?_
  refine lv_iconst (v := nI 1) hx hb d_LA_law_450 (by decide) ?_
  refine lv_iadd hx hb d_LA_law_451 ?_
  refine gs_top (nI_add i 1) ?_
  refine gs_sld hx hb hX hbl hbA hS (j := i + 1) (by omega) (by omega) d_LA_law_452 ?_
  refine gs_top (show xs (i + 1) = (nI kd) from e0) ?_
  refine lv_aload_n hx hb d_LA_law_453 rfl (lv_at hl 4 rfl) ?_
  refine lv_iload hx hb d_LA_law_454 (lv_at hl 0 rfl) ?_
  refine lv_iconst (v := nI 2) hx hb d_LA_law_456 (by decide) ?_
  refine lv_iadd hx hb d_LA_law_457 ?_
  refine gs_top (nI_add i 2) ?_
  refine gs_sld hx hb hX hbl hbA hS (j := i + 2) (by omega) (by omega) d_LA_law_458 ?_
  refine gs_top (show xs (i + 2) = (nI 0) from e1) ?_
  refine lv_aload_n hx hb d_LA_law_459 rfl (lv_at hl 4 rfl) ?_
  refine lv_iload hx hb d_LA_law_460 (lv_at hl 0 rfl) ?_
  refine lv_iconst (v := nI 3) hx hb d_LA_law_462 (by decide) ?_
  refine lv_iadd hx hb d_LA_law_463 ?_
  refine gs_top (nI_add i 3) ?_
  refine gs_sld hx hb hX hbl hbA hS (j := i + 3) (by omega) (by omega) d_LA_law_464 ?_
  refine gs_top (show xs (i + 3) = (nI a) from e2) ?_
  refine lv_aload_n hx hb d_LA_law_465 rfl (lv_at hl 4 rfl) ?_
  refine lv_iload hx hb d_LA_law_466 (lv_at hl 0 rfl) ?_
  refine lv_iconst (v := nI 4) hx hb d_LA_law_468 (by decide) ?_
  refine lv_iadd hx hb d_LA_law_469 ?_
  refine gs_top (nI_add i 4) ?_
  refine gs_sld hx hb hX hbl hbA hS (j := i + 4) (by omega) (by omega) d_LA_law_470 ?_
  refine gs_top (show xs (i + 4) = (nI b) from e3) ?_
  refine lv_aload_n hx hb d_LA_law_471 rfl (lv_at hl 4 rfl) ?_
  refine lv_iload hx hb d_LA_law_472 (lv_at hl 0 rfl) ?_
  refine lv_iconst (v := nI 5) hx hb d_LA_law_474 (by decide) ?_
  refine lv_iadd hx hb d_LA_law_475 ?_
  refine gs_top (nI_add i 5) ?_
  refine gs_sld hx hb hX hbl hbA hS (j := i + 5) (by omega) (by omega) d_LA_law_476 ?_
  refine gs_top (show xs (i + 5) = (nI cz) from e4) ?_
  refine lv_aload_n hx hb d_LA_law_477 rfl (lv_at hl 1 rfl) ?_
  refine gs_callSiH (As := [.ref rr, .int (nI kd), .int (nI 0), .int (nI a), .int (nI b), .int (nI cz), .ref out]) (rest := []) ⟨hx, hb, hml, hown, hts⟩ hK hE hz hG hS (c_LA_item l X σ rr out gs _ f (nI kd) (nI 0) (nI a) (nI b) (nI cz) _ x0 ⟨by decide, by decide, by decide, by decide⟩ (c_rr_item_c l hR hXX (hM.gG ho) hkd ha hb9 hc9 hok (by omega)) (fun r9 σ9 z => z.2.1 out List.mem_cons_self _ ho)) mSH_LA_item w_524 rfl hl.1 rfl (Nat.le_of_ble_eq_true rfl) ⟨by decide, by decide⟩ ⟨(by first | (show cells + 6 ≤ 601024; omega) | (show cells ≤ 601024; omega)), (by first | (show slots + 64 ≤ 7293034; omega) | (show slots ≤ 7293034; omega))⟩ d_LA_law_478 (fun r_478 σ_478 H locs hp_478 hG hS => ?_)
  obtain ⟨ek, r9, σ9, ⟨hR9, hk9, hans9⟩, ev⟩ := hp_478
  refine gs_top ek ?_
  rw [ev] at hG
  obtain ⟨hR2, hM2⟩ := ans_put (f' := vp_updL f 0 r9.toInt64) hR9 hk9 hM ho
  obtain ⟨σ1, eσ1⟩ : ∃ z, z = gs_up σ9 out (gs_la X 1 (vp_updL f 0 r9.toInt64)) := ⟨_, rfl⟩
  rw [← eσ1] at hG hR2 hM2
  have ho2 : σ1 out = some (gs_la X 1 (vp_updL f 0 r9.toInt64)) := by rw [eσ1]; exact gs_us
  obtain ⟨Z2, m02, z02⟩ := hM2.cell
  refine lv_istore (lv' := [(5, .int (nI 0)), (4, .int (nI i)), (3, .ref out), (2, .ref mo), (1, .ref rr), (0, .ref sb)]) hx hb d_LA_law_481 hl (by decide) rfl (fun ls hl => ?_)
  refine lv_aload_n hx hb d_LA_law_483 rfl (lv_at hl 3 rfl) ?_
  refine lv_aload_n hx hb d_LA_law_484 rfl (lv_at hl 5 rfl) ?_
  refine lv_iload hx hb d_LA_law_485 (lv_at hl 1 rfl) ?_
  refine lv_iconst (v := nI 1) hx hb d_LA_law_487 (by decide) ?_
  refine lv_iadd hx hb d_LA_law_488 ?_
  refine gs_top (nI_add i 1) ?_
  refine gs_sld hx hb hX hbl hbA hS (j := i + 1) (by omega) (by omega) d_LA_law_489 ?_
  refine gs_top (show xs (i + 1) = (nI kd) from e0) ?_
  refine lv_aload_n hx hb d_LA_law_490 rfl (lv_at hl 5 rfl) ?_
  refine lv_iload hx hb d_LA_law_491 (lv_at hl 1 rfl) ?_
  refine lv_iconst (v := nI 2) hx hb d_LA_law_493 (by decide) ?_
  refine lv_iadd hx hb d_LA_law_494 ?_
  refine gs_top (nI_add i 2) ?_
  refine gs_sld hx hb hX hbl hbA hS (j := i + 2) (by omega) (by omega) d_LA_law_495 ?_
  refine gs_top (show xs (i + 2) = (nI 0) from e1) ?_
  refine lv_aload_n hx hb d_LA_law_496 rfl (lv_at hl 5 rfl) ?_
  refine lv_iload hx hb d_LA_law_497 (lv_at hl 1 rfl) ?_
  refine lv_iconst (v := nI 3) hx hb d_LA_law_499 (by decide) ?_
  refine lv_iadd hx hb d_LA_law_500 ?_
  refine gs_top (nI_add i 3) ?_
  refine gs_sld hx hb hX hbl hbA hS (j := i + 3) (by omega) (by omega) d_LA_law_501 ?_
  refine gs_top (show xs (i + 3) = (nI a) from e2) ?_
  refine lv_aload_n hx hb d_LA_law_502 rfl (lv_at hl 5 rfl) ?_
  refine lv_iload hx hb d_LA_law_503 (lv_at hl 1 rfl) ?_
  refine lv_iconst (v := nI 4) hx hb d_LA_law_505 (by decide) ?_
  refine lv_iadd hx hb d_LA_law_506 ?_
  refine gs_top (nI_add i 4) ?_
  refine gs_sld hx hb hX hbl hbA hS (j := i + 4) (by omega) (by omega) d_LA_law_507 ?_
  refine gs_top (show xs (i + 4) = (nI b) from e3) ?_
  refine lv_aload_n hx hb d_LA_law_508 rfl (lv_at hl 5 rfl) ?_
  refine lv_iload hx hb d_LA_law_509 (lv_at hl 1 rfl) ?_
  refine lv_iconst (v := nI 5) hx hb d_LA_law_511 (by decide) ?_
  refine lv_iadd hx hb d_LA_law_512 ?_
  refine gs_top (nI_add i 5) ?_
  refine gs_sld hx hb hX hbl hbA hS (j := i + 5) (by omega) (by omega) d_LA_law_513 ?_
  refine gs_top (show xs (i + 5) = (nI cz) from e4) ?_
  refine gs_callVi (As := [.int (nI kd), .int (nI 0), .int (nI a), .int (nI b), .int (nI cz)]) (rest := []) ⟨hx, hb, hml, hown, hts⟩ hK hE hz hG hS (c_MO_item l X σ1 mo A cd nr cw F T sa rc QM (nI kd) (nI 0) (nI a) (nI b) (nI cz) R kd 0 a b cz hM2 (by rw [itR_c hkd, hok]; rfl) rfl rfl rfl rfl rfl (by omega) (fun z => by omega) (by decide) ha hb9 hc9 ⟨hr6, Or.inl (by omega)⟩) mV_MO_item w_796 m02 rfl rfl hl.1 rfl (Nat.le_of_ble_eq_true rfl) ⟨by decide, by decide⟩ ⟨(by first | (show cells + 6 ≤ 601024; omega) | (show cells ≤ 601024; omega)), (by first | (show slots + 64 ≤ 7293034; omega) | (show slots ≤ 7293034; omega))⟩ d_LA_law_514 (fun r_514 σ_514 H locs hp_514 hG hS => ?_)
  obtain ⟨hM3, hf3, er3⟩ := hp_514
  have hR3 := hR2.mdl (hM2.gG ho2) hf3
  have ho3 := hf3 _ _ (out_nin hM2 ho2) ho2
  obtain ⟨Z3, m03, z03⟩ := hM3.cell
  refine gs_top er3 ?_
  refine lv_istore (lv' := [(6, .int (nI (R.2.length + 1))), (5, .int (nI 0)), (4, .int (nI i)), (3, .ref out), (2, .ref mo), (1, .ref rr), (0, .ref sb)]) hx hb d_LA_law_517 hl (by decide) rfl (fun ls hl => ?_)
  refine lv_aload_n hx hb d_LA_law_519 rfl (lv_at hl 4 rfl) ?_
  refine gs_callVp (As := []) (rest := []) ⟨hx, hb, hml, hown, hts⟩ hK hE hz hG hS (c_MO_thrown l X σ_514 mo A Z3 m03) ⟨rfl, rfl⟩ mV_MO_thrown w_757 m03 rfl rfl hl.1 rfl (Nat.le_of_ble_eq_true rfl) ⟨by decide, by decide⟩ ⟨(by first | (show cells + 6 ≤ 601024; omega) | (show cells ≤ 601024; omega)), (by first | (show slots + 64 ≤ 7293034; omega) | (show slots ≤ 7293034; omega))⟩ d_LA_law_520 (fun r_520 hp_520 => ?_)
  refine gs_top (show r_520 = nI 0 from by rw [hp_520, z03]) ?_
  refine lv_iload hx hb d_LA_law_523 (lv_at hl 1 rfl) ?_
  refine lv_icmp_eq (tgt := 530) hx hb d_LA_law_525 (by decide) (fun c_525 => ?_) (fun c_525 => ?_)
  · have c_525 : 0 = 0 :=  (nI_eq (by omega) (by omega)).mp c_525
    refine lv_iload hx hb d_LA_law_530 (lv_at hl 1 rfl) ?_
    refine lv_if_ne (tgt := 547) hx hb d_LA_law_532 (by decide) (fun c_532 => ?_) (fun c_532 => ?_)
    · exact absurd c_532 (by decide)
    · have c_532 : 0 = 0 := gs_z (by omega) c_532
      refine lv_aload_n hx hb d_LA_law_535 rfl (lv_at hl 3 rfl) ?_
      refine lv_iconst (v := nI 0) hx hb d_LA_law_536 (by decide) ?_
      refine gs_lald hx hb hK hG ho3 (j := 0) (by omega) (by omega) d_LA_law_537 ?_
      refine lv_iload hx hb d_LA_law_538 (lv_at hl 0 rfl) ?_
      refine lv_i2l hx hb d_LA_law_540 rfl ?_
      refine W.lcmp hx hb d_LA_law_541 ?_
      refine lv_if_eq (tgt := 547) hx hb d_LA_law_542 (by decide) (fun c_542 => ?_) (fun c_542 => ?_)
      · refine lv_goto (tgt := 1085) hx hb d_LA_law_547 (by decide) ?_
        refine W.widen (k := cells + 6) (n := slots + 64) (by first | exact Nat.le_refl _ | exact Nat.le_add_right _ _) (by first | exact Nat.le_refl _ | exact Nat.le_add_right _ _) ?_
        exact kk σ_514 H locs ⟨_, _, _, _, _, _, _, _, _, _, _, _, _, _, _, _, hR3, hM3, (h_pe_item_c _ _ _ _ _ _ _ _ _ _ _ _ _ _ _ _ _ hRL kd a b cz hkd ha hb9 hc9 hok hr6), ho3⟩ hG hS ls (lv_sub hl [2, 3, 4, 5, 6] rfl)
      · exact absurd (cmp_0.mpr (show vp_updL f 0 r9.toInt64 0 = _ from by unfold vp_updL; rw [if_pos rfl, hans9.trans (congrArg nI (show _ = R.2.length + 1 by omega))])) c_542
  · exact absurd c_525 (by decide)
