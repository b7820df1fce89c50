set_option maxHeartbeats 4000000 in
set_option maxRecDepth 100000 in
/-- RuleRounds.head -/
theorem c_RR_head (l : Launch) (X : gs_X) (σ : gs_St) (rr bk tu ma dv co ru sr nr nq fc : Nat) (sc : Int32) (dw : Value) (cf : Nat → Int32) (cw : Nat → Nat) (rl : Nat) (a b cz : Nat)
    (x0 : σ rr = some (gs_ob 0 [.ref bk, .ref tu, .ref ma, .ref dv, .int (nI fc), dw])) (x1 : σ bk = some (gs_ob 5 [.ref co, .ref ru, .ref sr, .int (nI nr), .int (nI nq), .int sc])) (hnr : nr ≤ 12) (x2 : σ co = some (gs_ia X 12 cf)) (hrl : rl < nr) (hcf : cf rl = nI (cw rl)) (hcw : cw rl ≤ 3) (ha : a < 72) (hb9 : b < 72) (hc9 : cz < 72) (hok : wi3 72 (cw rl) (nI a) (nI b) (nI cz) = true) : gs_Mv l X y_RR_head b_RR_head 5 ({ frames := 3, cells := 5, slots := 32, locals := 69 }) σ [.ref rr, .int (nI rl), .int (nI a), .int (nI b), .int (nI cz)] (fun σ' => ∃ d hd ho ck kf, σ d = none ∧ σ hd = none ∧ σ ho = none ∧ σ ck = none ∧ σ kf = none ∧ σ' rr = some (gs_ob 0 [.ref bk, .ref tu, .ref ma, .ref dv, .int (nI fc), .ref d]) ∧ σ' d = some (gs_ob 4 [.ref hd, .ref ho, .ref ck, .int (nI 0), .int (nI 0), .ref kf]) ∧ σ' hd = some (itE ((0, rl, cw rl), (a, b, cz), (0, cw rl, nI 0))) ∧ σ' ho = some (gs_qa X 3 3 (fun _ => none)) ∧ σ' ck = some (gs_qa X 3 6 (fun _ => none)) ∧ σ' kf = some (gs_ia X 8 (fun _ => 0)) ∧ frm [rr] σ σ') := by
  refine Met.ofW (cc := b_RR_head) (maxL := 5) (ret := none) (by decide) rfl ?_
  intro p e s m args below meth c s₁ B₀ hml hv
  obtain ⟨rfl, hK, hG, hz, hE⟩ := hv
  have hx := B₀.exec
  have hb := B₀.bytes
  have hr := B₀.returns
  have hts := atoms_spec (ws := gs_ws y_RR_head b_RR_head 5 none) B₀.pre
  have ht : ∀ w ∈ gs_w, w.before _ s = true := fun w h => hts w (List.mem_cons_of_mem _ h)
  have hown : s.vm.findClass R_RR = some m.cls := findClass_of_methodNamed B₀.named
  have hlocks := B₀.notSynchronized
  have hA : ∀ q : Nat, s.heap.size ≤ q → gs_A X q := fun q h => Nat.le_trans hz h
  have hS : va_S (gs_A X) s.heap s.heap [] := va_S.rf
  have hl := lv_entry ([.ref rr, .int (nI rl), .int (nI a), .int (nI b), .int (nI cz)]) (n := 5) (Nat.le_of_ble_eq_true rfl)
  rw [lg_entry_eq]
  generalize (lg_sl ([.ref rr, .int (nI rl), .int (nI a), .int (nI b), .int (nI cz)]) ++ List.replicate (5 - (lg_sl ([.ref rr, .int (nI rl), .int (nI a), .int (nI b), .int (nI cz)])).length) Slot.unset).toArray = ls at hl ⊢
  have hl : lv_has ls 5 [(0, .ref rr), (1, .int (nI rl)), (2, .int (nI a)), (3, .int (nI b)), (4, .int (nI cz))] := hl
  have fr0 : frm [rr] σ σ := frm.rf
  refine lv_aload_n hx hb d_RR_head_0 rfl (lv_at hl 0 rfl) ?_
  refine lv_iload_n hx hb d_RR_head_1 rfl (lv_at hl 1 rfl) ?_
  refine lv_iload_n hx hb d_RR_head_2 rfl (lv_at hl 2 rfl) ?_
  refine lv_iload_n hx hb d_RR_head_3 rfl (lv_at hl 3 rfl) ?_
  refine lv_iload hx hb d_RR_head_4 (lv_at hl 4 rfl) ?_
  refine gs_callVpv (As := [.int (nI rl), .int (nI a), .int (nI b), .int (nI cz)]) (rest := []) ⟨hx, hb, hml, hown, hts⟩ hK hE hz hG hS (c_RR_requireTerms l X σ rr bk tu ma dv co ru sr nr nq fc sc dw cf cw rl (nI a) (nI b) (nI cz) x0 x1 hnr x2 hrl hcf hcw hok) ⟨rfl, rfl⟩ mV_RR_requireTerms w_430 x0 rfl rfl hl.1 rfl (Nat.le_of_ble_eq_true rfl) ⟨(by first | decide | omega | (dsimp only [headSpec]; omega)), (by first | decide | omega | (dsimp only [headSpec]; omega))⟩ ⟨(by first | decide | omega | (dsimp only [headSpec]; omega)), (by first | decide | omega | (dsimp only [headSpec]; omega))⟩ d_RR_head_6 ?_
  refine lv_aload_n hx hb d_RR_head_9 rfl (lv_at hl 0 rfl) ?_
  refine gs_new (fs := [.null, .null, .null, .int 0, .int 0, .null]) hx hb ht hown hK hG hS hA k_RU w_435 w_436 w_14 (fun j hj => by (rcases (show j = 0 ∨ j = 1 ∨ j = 2 ∨ j = 3 ∨ j = 4 ∨ j = 5 by omega) with rfl | rfl | rfl | rfl | rfl | rfl <;> rfl)) (by first | decide | omega) (by first | decide | omega) d_RR_head_10 (fun q_1 H hq_1 hG hS => ?_)
  obtain ⟨σ_2, eσ_2⟩ : ∃ zq, zq = gs_up σ q_1 (gs_ob 4 [.null, .null, .null, .int 0, .int 0, .null]) := ⟨_, rfl⟩
  have hG : gs_H X (gs_up σ q_1 (gs_ob 4 [.null, .null, .null, .int 0, .int 0, .null])) H := hG
  rw [← eσ_2] at hG
  have hz_3 : σ q_1 = none := fr0.none_ (al_cons x0 al_nil) hq_1
  have hne_5 : rr ≠ q_1 := fun z => by rw [z, hq_1] at x0; cases x0
  have hc_4 : σ_2 rr = some (gs_ob 0 [.ref bk, .ref tu, .ref ma, .ref dv, .int (nI fc), dw]) := by rw [eσ_2]; exact gs_ku hne_5 x0
  have hne_7 : bk ≠ q_1 := fun z => by rw [z, hq_1] at x1; cases x1
  have hc_6 : σ_2 bk = some (gs_ob 5 [.ref co, .ref ru, .ref sr, .int (nI nr), .int (nI nq), .int sc]) := by rw [eσ_2]; exact gs_ku hne_7 x1
  have hne_9 : co ≠ q_1 := fun z => by rw [z, hq_1] at x2; cases x2
  have hc_8 : σ_2 co = some (gs_ia X 12 cf) := by rw [eσ_2]; exact gs_ku hne_9 x2
  have hc_10 : σ_2 q_1 = some (gs_ob 4 [.null, .null, .null, .int 0, .int 0, .null]) := by rw [eσ_2]; exact gs_us
  have fr_11 : frm [rr] σ σ_2 := by rw [eσ_2]; exact fr0.born hq_1
  refine lv_dup hx hb d_RR_head_13 rfl ?_
  refine gs_new (fs := [.int 0, .int 0, .int 0, .int 0, .int 0, .int 0, .int 0, .int 0, .int 0]) hx hb ht hown hK hG hS hA k_IT w_437 w_438 w_15 (fun j hj => by (rcases (show j = 0 ∨ j = 1 ∨ j = 2 ∨ j = 3 ∨ j = 4 ∨ j = 5 ∨ j = 6 ∨ j = 7 ∨ j = 8 by omega) with rfl | rfl | rfl | rfl | rfl | rfl | rfl | rfl | rfl <;> rfl)) (by first | decide | omega) (by first | decide | omega) d_RR_head_14 (fun q_12 H hq_12 hG hS => ?_)
  obtain ⟨σ_13, eσ_13⟩ : ∃ zq, zq = gs_up σ_2 q_12 (gs_ob 2 [.int 0, .int 0, .int 0, .int 0, .int 0, .int 0, .int 0, .int 0, .int 0]) := ⟨_, rfl⟩
  have hG : gs_H X (gs_up σ_2 q_12 (gs_ob 2 [.int 0, .int 0, .int 0, .int 0, .int 0, .int 0, .int 0, .int 0, .int 0])) H := hG
  rw [← eσ_13] at hG
  have hz_14 : σ q_12 = none := fr_11.none_ (al_cons hc_4 al_nil) hq_12
  have hne_16 : rr ≠ q_12 := fun z => by rw [z, hq_12] at hc_4; cases hc_4
  have hc_15 : σ_13 rr = some (gs_ob 0 [.ref bk, .ref tu, .ref ma, .ref dv, .int (nI fc), dw]) := by rw [eσ_13]; exact gs_ku hne_16 hc_4
  have hne_18 : bk ≠ q_12 := fun z => by rw [z, hq_12] at hc_6; cases hc_6
  have hc_17 : σ_13 bk = some (gs_ob 5 [.ref co, .ref ru, .ref sr, .int (nI nr), .int (nI nq), .int sc]) := by rw [eσ_13]; exact gs_ku hne_18 hc_6
  have hne_20 : co ≠ q_12 := fun z => by rw [z, hq_12] at hc_8; cases hc_8
  have hc_19 : σ_13 co = some (gs_ia X 12 cf) := by rw [eσ_13]; exact gs_ku hne_20 hc_8
  have hne_22 : q_1 ≠ q_12 := fun z => by rw [z, hq_12] at hc_10; cases hc_10
  have hc_21 : σ_13 q_1 = some (gs_ob 4 [.null, .null, .null, .int 0, .int 0, .null]) := by rw [eσ_13]; exact gs_ku hne_22 hc_10
  have hc_23 : σ_13 q_12 = some (gs_ob 2 [.int 0, .int 0, .int 0, .int 0, .int 0, .int 0, .int 0, .int 0, .int 0]) := by rw [eσ_13]; exact gs_us
  have fr_24 : frm [rr] σ σ_13 := by rw [eσ_13]; exact fr_11.born hq_12
  refine lv_dup hx hb d_RR_head_17 rfl ?_
  refine lv_iconst (v := nI 0) hx hb d_RR_head_18 (by decide) ?_
  refine lv_iload_n hx hb d_RR_head_19 rfl (lv_at hl 1 rfl) ?_
  refine lv_aload_n hx hb d_RR_head_20 rfl (lv_at hl 0 rfl) ?_
  refine gs_get hx hb ht hown hK hG k_RR hc_15 0 (by decide) w_137 rfl d_RR_head_21 ?_
  refine gs_get hx hb ht hown hK hG k_RB hc_17 0 (by decide) w_33 rfl d_RR_head_24 ?_
  refine lv_iload_n hx hb d_RR_head_27 rfl (lv_at hl 1 rfl) ?_
  refine gs_iald hx hb hK hG hc_19 (j := rl) (by omega) (by omega) d_RR_head_28 ?_
  refine gs_top (show (cf rl) = (nI (cw rl)) from hcf) ?_
  refine lv_iload_n hx hb d_RR_head_29 rfl (lv_at hl 2 rfl) ?_
  refine lv_iload_n hx hb d_RR_head_30 rfl (lv_at hl 3 rfl) ?_
  refine lv_iload hx hb d_RR_head_31 (lv_at hl 4 rfl) ?_
  refine gs_callIv (As := [.int (nI 0), .int (nI rl), .int (nI (cw rl)), .int (nI a), .int (nI b), .int (nI cz)]) (rest := [.ref q_12, .ref q_1, .ref q_1, .ref rr]) ⟨hx, hb, hml, hown, hts⟩ hK hE hz hG hS (c_IT_init l X σ_13 q_12 0 rl (cw rl) a b cz hc_23) mI_IT_init w_439 rfl hl.1 rfl (Nat.le_of_ble_eq_true rfl) ⟨(by first | decide | omega | (dsimp only [headSpec]; omega)), (by first | decide | omega | (dsimp only [headSpec]; omega))⟩ ⟨(by first | decide | omega | (dsimp only [headSpec]; omega)), (by first | decide | omega | (dsimp only [headSpec]; omega))⟩ d_RR_head_33 (fun σ_33 H locs hp_33 hG hS => ?_)
  rw [hp_33] at hG
  have hG : gs_H X (gs_up σ_13 q_12 (gs_ob 2 [.int (nI 0), .int (nI rl), .int (nI (cw rl)), .int (nI a), .int (nI b), .int (nI cz), .int (nI 0), .int (nI (cw rl)), .int (nI 0)])) H := hG
  obtain ⟨σ_25, eσ_25⟩ : ∃ zq, zq = gs_up σ_13 q_12 (gs_ob 2 [.int (nI 0), .int (nI rl), .int (nI (cw rl)), .int (nI a), .int (nI b), .int (nI cz), .int (nI 0), .int (nI (cw rl)), .int (nI 0)]) := ⟨_, rfl⟩
  rw [← eσ_25] at hG
  have hc_26 : σ_25 rr = some (gs_ob 0 [.ref bk, .ref tu, .ref ma, .ref dv, .int (nI fc), dw]) := by rw [eσ_25]; exact gs_ku hne_16 hc_15
  have hc_27 : σ_25 bk = some (gs_ob 5 [.ref co, .ref ru, .ref sr, .int (nI nr), .int (nI nq), .int sc]) := by rw [eσ_25]; exact gs_ku hne_18 hc_17
  have hc_28 : σ_25 co = some (gs_ia X 12 cf) := by rw [eσ_25]; exact gs_ku hne_20 hc_19
  have hc_29 : σ_25 q_1 = some (gs_ob 4 [.null, .null, .null, .int 0, .int 0, .null]) := by rw [eσ_25]; exact gs_ku hne_22 hc_21
  have hc_30 : σ_25 q_12 = some (gs_ob 2 [.int (nI 0), .int (nI rl), .int (nI (cw rl)), .int (nI a), .int (nI b), .int (nI cz), .int (nI 0), .int (nI (cw rl)), .int (nI 0)]) := by rw [eσ_25]; exact gs_us
  have fr_31 : frm [rr] σ σ_25 := by rw [eσ_25]; exact fr_24.upN hz_14
  refine gs_callIv (As := [.ref q_12]) (rest := [.ref q_1, .ref rr]) ⟨hx, hb, hml, hown, hts⟩ hK hE hz hG hS (c_RU_init l X σ_25 q_1 q_12 hc_29) mI_RU_init w_487 rfl hl.1 rfl (Nat.le_of_ble_eq_true rfl) ⟨(by first | decide | omega | (dsimp only [headSpec]; omega)), (by first | decide | omega | (dsimp only [headSpec]; omega))⟩ ⟨(by first | decide | omega | (dsimp only [headSpec]; omega)), (by first | decide | omega | (dsimp only [headSpec]; omega))⟩ d_RR_head_36 (fun σ_36 H locs hp_36 hG hS => ?_)
  obtain ⟨ho, ck, kf, z1, z2, z3, w1, w2, w3, ev⟩ := hp_36
  rw [ev] at hG
  unfold ru4 at hG
  have hb_32 : σ_25 ho = none := by exact z1
  obtain ⟨σ_33, eσ_33⟩ : ∃ zq, zq = gs_up σ_25 ho (gs_qa X 3 3 (fun _ => none)) := ⟨_, rfl⟩
  have hz_34 : σ ho = none := fr_31.none_ (al_cons hc_26 al_nil) hb_32
  have hne_36 : rr ≠ ho := fun z => by rw [z, hb_32] at hc_26; cases hc_26
  have hc_35 : σ_33 rr = some (gs_ob 0 [.ref bk, .ref tu, .ref ma, .ref dv, .int (nI fc), dw]) := by rw [eσ_33]; exact gs_ku hne_36 hc_26
  have hne_38 : bk ≠ ho := fun z => by rw [z, hb_32] at hc_27; cases hc_27
  have hc_37 : σ_33 bk = some (gs_ob 5 [.ref co, .ref ru, .ref sr, .int (nI nr), .int (nI nq), .int sc]) := by rw [eσ_33]; exact gs_ku hne_38 hc_27
  have hne_40 : co ≠ ho := fun z => by rw [z, hb_32] at hc_28; cases hc_28
  have hc_39 : σ_33 co = some (gs_ia X 12 cf) := by rw [eσ_33]; exact gs_ku hne_40 hc_28
  have hne_42 : q_1 ≠ ho := fun z => by rw [z, hb_32] at hc_29; cases hc_29
  have hc_41 : σ_33 q_1 = some (gs_ob 4 [.null, .null, .null, .int 0, .int 0, .null]) := by rw [eσ_33]; exact gs_ku hne_42 hc_29
  have hne_44 : q_12 ≠ ho := fun z => by rw [z, hb_32] at hc_30; cases hc_30
  have hc_43 : σ_33 q_12 = some (gs_ob 2 [.int (nI 0), .int (nI rl), .int (nI (cw rl)), .int (nI a), .int (nI b), .int (nI cz), .int (nI 0), .int (nI (cw rl)), .int (nI 0)]) := by rw [eσ_33]; exact gs_ku hne_44 hc_30
  have hc_45 : σ_33 ho = some (gs_qa X 3 3 (fun _ => none)) := by rw [eσ_33]; exact gs_us
  have fr_46 : frm [rr] σ σ_33 := by rw [eσ_33]; exact fr_31.born hb_32
  have hb_47 : σ_33 ck = none := by rw [eσ_33, gs_un (Ne.symm w1)]; exact z2
  obtain ⟨σ_48, eσ_48⟩ : ∃ zq, zq = gs_up σ_33 ck (gs_qa X 3 6 (fun _ => none)) := ⟨_, rfl⟩
  have hz_49 : σ ck = none := fr_46.none_ (al_cons hc_35 al_nil) hb_47
  have hne_51 : rr ≠ ck := fun z => by rw [z, hb_47] at hc_35; cases hc_35
  have hc_50 : σ_48 rr = some (gs_ob 0 [.ref bk, .ref tu, .ref ma, .ref dv, .int (nI fc), dw]) := by rw [eσ_48]; exact gs_ku hne_51 hc_35
  have hne_53 : bk ≠ ck := fun z => by rw [z, hb_47] at hc_37; cases hc_37
  have hc_52 : σ_48 bk = some (gs_ob 5 [.ref co, .ref ru, .ref sr, .int (nI nr), .int (nI nq), .int sc]) := by rw [eσ_48]; exact gs_ku hne_53 hc_37
  have hne_55 : co ≠ ck := fun z => by rw [z, hb_47] at hc_39; cases hc_39
  have hc_54 : σ_48 co = some (gs_ia X 12 cf) := by rw [eσ_48]; exact gs_ku hne_55 hc_39
  have hne_57 : q_1 ≠ ck := fun z => by rw [z, hb_47] at hc_41; cases hc_41
  have hc_56 : σ_48 q_1 = some (gs_ob 4 [.null, .null, .null, .int 0, .int 0, .null]) := by rw [eσ_48]; exact gs_ku hne_57 hc_41
  have hne_59 : q_12 ≠ ck := fun z => by rw [z, hb_47] at hc_43; cases hc_43
  have hc_58 : σ_48 q_12 = some (gs_ob 2 [.int (nI 0), .int (nI rl), .int (nI (cw rl)), .int (nI a), .int (nI b), .int (nI cz), .int (nI 0), .int (nI (cw rl)), .int (nI 0)]) := by rw [eσ_48]; exact gs_ku hne_59 hc_43
  have hne_61 : ho ≠ ck := fun z => by rw [z, hb_47] at hc_45; cases hc_45
  have hc_60 : σ_48 ho = some (gs_qa X 3 3 (fun _ => none)) := by rw [eσ_48]; exact gs_ku hne_61 hc_45
  have hc_62 : σ_48 ck = some (gs_qa X 3 6 (fun _ => none)) := by rw [eσ_48]; exact gs_us
  have fr_63 : frm [rr] σ σ_48 := by rw [eσ_48]; exact fr_46.born hb_47
  have hb_64 : σ_48 kf = none := by rw [eσ_48, gs_un (Ne.symm w3)]; rw [eσ_33, gs_un (Ne.symm w2)]; exact z3
  obtain ⟨σ_65, eσ_65⟩ : ∃ zq, zq = gs_up σ_48 kf (gs_ia X 8 (fun _ => 0)) := ⟨_, rfl⟩
  have hz_66 : σ kf = none := fr_63.none_ (al_cons hc_50 al_nil) hb_64
  have hne_68 : rr ≠ kf := fun z => by rw [z, hb_64] at hc_50; cases hc_50
  have hc_67 : σ_65 rr = some (gs_ob 0 [.ref bk, .ref tu, .ref ma, .ref dv, .int (nI fc), dw]) := by rw [eσ_65]; exact gs_ku hne_68 hc_50
  have hne_70 : bk ≠ kf := fun z => by rw [z, hb_64] at hc_52; cases hc_52
  have hc_69 : σ_65 bk = some (gs_ob 5 [.ref co, .ref ru, .ref sr, .int (nI nr), .int (nI nq), .int sc]) := by rw [eσ_65]; exact gs_ku hne_70 hc_52
  have hne_72 : co ≠ kf := fun z => by rw [z, hb_64] at hc_54; cases hc_54
  have hc_71 : σ_65 co = some (gs_ia X 12 cf) := by rw [eσ_65]; exact gs_ku hne_72 hc_54
  have hne_74 : q_1 ≠ kf := fun z => by rw [z, hb_64] at hc_56; cases hc_56
  have hc_73 : σ_65 q_1 = some (gs_ob 4 [.null, .null, .null, .int 0, .int 0, .null]) := by rw [eσ_65]; exact gs_ku hne_74 hc_56
  have hne_76 : q_12 ≠ kf := fun z => by rw [z, hb_64] at hc_58; cases hc_58
  have hc_75 : σ_65 q_12 = some (gs_ob 2 [.int (nI 0), .int (nI rl), .int (nI (cw rl)), .int (nI a), .int (nI b), .int (nI cz), .int (nI 0), .int (nI (cw rl)), .int (nI 0)]) := by rw [eσ_65]; exact gs_ku hne_76 hc_58
  have hne_78 : ho ≠ kf := fun z => by rw [z, hb_64] at hc_60; cases hc_60
  have hc_77 : σ_65 ho = some (gs_qa X 3 3 (fun _ => none)) := by rw [eσ_65]; exact gs_ku hne_78 hc_60
  have hne_80 : ck ≠ kf := fun z => by rw [z, hb_64] at hc_62; cases hc_62
  have hc_79 : σ_65 ck = some (gs_qa X 3 6 (fun _ => none)) := by rw [eσ_65]; exact gs_ku hne_80 hc_62
  have hc_81 : σ_65 kf = some (gs_ia X 8 (fun _ => 0)) := by rw [eσ_65]; exact gs_us
  have fr_82 : frm [rr] σ σ_65 := by rw [eσ_65]; exact fr_63.born hb_64
  obtain ⟨σ_83, eσ_83⟩ : ∃ zq, zq = gs_up σ_65 q_1 (gs_ob 4 [.ref q_12, .ref ho, .ref ck, .int (nI 0), .int (nI 0), .ref kf]) := ⟨_, rfl⟩
  have hc_84 : σ_83 rr = some (gs_ob 0 [.ref bk, .ref tu, .ref ma, .ref dv, .int (nI fc), dw]) := by rw [eσ_83]; exact gs_ku hne_5 hc_67
  have hc_85 : σ_83 bk = some (gs_ob 5 [.ref co, .ref ru, .ref sr, .int (nI nr), .int (nI nq), .int sc]) := by rw [eσ_83]; exact gs_ku hne_7 hc_69
  have hc_86 : σ_83 co = some (gs_ia X 12 cf) := by rw [eσ_83]; exact gs_ku hne_9 hc_71
  have hc_87 : σ_83 q_12 = some (gs_ob 2 [.int (nI 0), .int (nI rl), .int (nI (cw rl)), .int (nI a), .int (nI b), .int (nI cz), .int (nI 0), .int (nI (cw rl)), .int (nI 0)]) := by rw [eσ_83]; exact gs_ku (Ne.symm hne_22) hc_75
  have hc_88 : σ_83 ho = some (gs_qa X 3 3 (fun _ => none)) := by rw [eσ_83]; exact gs_ku (Ne.symm hne_42) hc_77
  have hc_89 : σ_83 ck = some (gs_qa X 3 6 (fun _ => none)) := by rw [eσ_83]; exact gs_ku (Ne.symm hne_57) hc_79
  have hc_90 : σ_83 kf = some (gs_ia X 8 (fun _ => 0)) := by rw [eσ_83]; exact gs_ku (Ne.symm hne_74) hc_81
  have hc_91 : σ_83 q_1 = some (gs_ob 4 [.ref q_12, .ref ho, .ref ck, .int (nI 0), .int (nI 0), .ref kf]) := by rw [eσ_83]; exact gs_us
  have fr_92 : frm [rr] σ σ_83 := by rw [eσ_83]; exact fr_82.upN hz_3
  rw [← eσ_33, ← eσ_48, ← eσ_65, ← eσ_83] at hG
  refine gs_put hx hb ht hown hK hG hS k_RR hc_84 5 (by decide) w_142 rfl rfl rfl (Nat.le_of_ble_eq_true rfl) d_RR_head_39 (fun H locs hG hS => ?_)
  have hG : gs_H X (gs_up σ_83 rr (gs_ob 0 [.ref bk, .ref tu, .ref ma, .ref dv, .int (nI fc), .ref q_1])) H := hG
  obtain ⟨σ_93, eσ_93⟩ : ∃ zq, zq = gs_up σ_83 rr (gs_ob 0 [.ref bk, .ref tu, .ref ma, .ref dv, .int (nI fc), .ref q_1]) := ⟨_, rfl⟩
  rw [← eσ_93] at hG
  have hc_94 : σ_93 bk = some (gs_ob 5 [.ref co, .ref ru, .ref sr, .int (nI nr), .int (nI nq), .int sc]) := by rw [eσ_93]; exact gs_ku (gs_ne hc_85 hc_84 (by simp)) hc_85
  have hc_95 : σ_93 co = some (gs_ia X 12 cf) := by rw [eσ_93]; exact gs_ku (gs_ne hc_86 hc_84 (by simp)) hc_86
  have hc_96 : σ_93 q_12 = some (gs_ob 2 [.int (nI 0), .int (nI rl), .int (nI (cw rl)), .int (nI a), .int (nI b), .int (nI cz), .int (nI 0), .int (nI (cw rl)), .int (nI 0)]) := by rw [eσ_93]; exact gs_ku (Ne.symm hne_16) hc_87
  have hc_97 : σ_93 ho = some (gs_qa X 3 3 (fun _ => none)) := by rw [eσ_93]; exact gs_ku (Ne.symm hne_36) hc_88
  have hc_98 : σ_93 ck = some (gs_qa X 3 6 (fun _ => none)) := by rw [eσ_93]; exact gs_ku (Ne.symm hne_51) hc_89
  have hc_99 : σ_93 kf = some (gs_ia X 8 (fun _ => 0)) := by rw [eσ_93]; exact gs_ku (Ne.symm hne_68) hc_90
  have hc_100 : σ_93 q_1 = some (gs_ob 4 [.ref q_12, .ref ho, .ref ck, .int (nI 0), .int (nI 0), .ref kf]) := by rw [eσ_93]; exact gs_ku (Ne.symm hne_5) hc_91
  have hc_101 : σ_93 rr = some (gs_ob 0 [.ref bk, .ref tu, .ref ma, .ref dv, .int (nI fc), .ref q_1]) := by rw [eσ_93]; exact gs_us
  have fr_102 : frm [rr] σ σ_93 := by rw [eσ_93]; exact fr_92.up (by simp)
  exact gs_vret hx hb hr hK hE hz hG hS hlocks (by first | decide | omega | (dsimp only [headSpec]; omega)) (by first | decide | omega | (dsimp only [headSpec]; omega)) (⟨q_1, q_12, ho, ck, kf, hz_3, hz_14, hz_34, hz_49, hz_66, hc_101, hc_100, hc_96, hc_97, hc_98, hc_99, fr_102⟩) d_RR_head_42
set_option maxHeartbeats 4000000 in
set_option maxRecDepth 100000 in
/-- RR_head of no terms -/
theorem c_RR_head_t (l : Launch) (X : gs_X) (σ : gs_St) (rr bk tu ma dv co ru sr nr nq fc : Nat) (sc : Int32) (dw : Value) (cf : Nat → Int32) (cw : Nat → Nat) (rl : Nat) (x y z : Int32)
    (htr : l.stackTraces = false) (x0 : σ rr = some (gs_ob 0 [.ref bk, .ref tu, .ref ma, .ref dv, .int (nI fc), dw])) (x1 : σ bk = some (gs_ob 5 [.ref co, .ref ru, .ref sr, .int (nI nr), .int (nI nq), .int sc])) (hnr : nr ≤ 12) (x2 : σ co = some (gs_ia X 12 cf)) (hrl : rl < nr) (hcf : cf rl = nI (cw rl)) (hcw : cw rl ≤ 3) (hok : wi3 72 (cw rl) x y z = false) : gs_Mt l X y_RR_head b_RR_head 5 none ({ frames := 7, cells := 1, slots := 6, locals := 114 }) σ [.ref rr, .int (nI rl), .int x, .int y, .int z] xI := by
  refine gs_MetT.ofW (cc := b_RR_head) (maxL := 5) (ret := none) (by decide) rfl ?_
  intro p e s m args below meth c s₁ B₀ hml hv
  obtain ⟨rfl, hK, hG, hz, hE⟩ := hv
  have hx := B₀.exec
  have hb := B₀.bytes
  have hr := B₀.returns
  have hts := atoms_spec (ws := gs_ws y_RR_head b_RR_head 5 none) B₀.pre
  have ht : ∀ w ∈ gs_w, w.before _ s = true := fun w h => hts w (List.mem_cons_of_mem _ h)
  have hown : s.vm.findClass R_RR = some m.cls := findClass_of_methodNamed B₀.named
  have hlocks := B₀.notSynchronized
  have hout9 : ∀ pc, ∀ x ∈ c.exceptionTable.toList, covers x pc = false := covers_of_empty (B₀.noHandlers (hts _ List.mem_cons_self))
  have hA : ∀ q : Nat, s.heap.size ≤ q → gs_A X q := fun q h => Nat.le_trans hz h
  have hS : va_S (gs_A X) s.heap s.heap [] := va_S.rf
  have hl := lv_entry ([.ref rr, .int (nI rl), .int x, .int y, .int z]) (n := 5) (Nat.le_of_ble_eq_true rfl)
  rw [lg_entry_eq]
  generalize (lg_sl ([.ref rr, .int (nI rl), .int x, .int y, .int z]) ++ List.replicate (5 - (lg_sl ([.ref rr, .int (nI rl), .int x, .int y, .int z])).length) Slot.unset).toArray = ls at hl ⊢
  have hl : lv_has ls 5 [(0, .ref rr), (1, .int (nI rl)), (2, .int x), (3, .int y), (4, .int z)] := hl
  refine lv_aload_n hx hb d_RR_head_0 rfl (lv_at hl 0 rfl) ?_
  refine lv_iload_n hx hb d_RR_head_1 rfl (lv_at hl 1 rfl) ?_
  refine lv_iload_n hx hb d_RR_head_2 rfl (lv_at hl 2 rfl) ?_
  refine lv_iload_n hx hb d_RR_head_3 rfl (lv_at hl 3 rfl) ?_
  refine lv_iload hx hb d_RR_head_4 (lv_at hl 4 rfl) ?_
  exact gs_callVt (As := [.int (nI rl), .int x, .int y, .int z]) (rest := []) ⟨hx, hb, hml, hown, hts⟩ hK hE hz hG (c_RR_requireTerms_t l X σ rr bk tu ma dv co ru sr nr nq fc sc dw cf cw rl x y z htr x0 x1 hnr x2 hrl hcf hcw hok) mV_RR_requireTerms w_430 x0 rfl rfl hl.1 rfl (Nat.le_of_ble_eq_true rfl) ⟨(by first | decide | omega | (dsimp only [headSpec]; omega)), (by first | decide | omega | (dsimp only [headSpec]; omega))⟩ ⟨(by first | decide | omega | (dsimp only [headSpec]; omega)), (by first | decide | omega | (dsimp only [headSpec]; omega))⟩ d_RR_head_6 ⟨(by first | decide | omega | (dsimp only [headSpec]; omega)), (by first | decide | omega | (dsimp only [headSpec]; omega))⟩ (hout9 _) hlocks
set_option maxHeartbeats 4000000 in
set_option maxRecDepth 100000 in
/-- RR_head of no relation -/
theorem c_RR_head_r (l : Launch) (X : gs_X) (σ : gs_St) (rr bk tu ma dv co ru sr nr nq fc : Nat) (sc : Int32) (dw : Value) (x x2 y z : Int32)
    (htr : l.stackTraces = false) (x0 : σ rr = some (gs_ob 0 [.ref bk, .ref tu, .ref ma, .ref dv, .int (nI fc), dw])) (x1 : σ bk = some (gs_ob 5 [.ref co, .ref ru, .ref sr, .int (nI nr), .int (nI nq), .int sc])) (hnr : nr ≤ 12) (hok : wi nr x = false) : gs_Mt l X y_RR_head b_RR_head 5 none ({ frames := 8, cells := 1, slots := 6, locals := 135 }) σ [.ref rr, .int x, .int x2, .int y, .int z] xI := by
  refine gs_MetT.ofW (cc := b_RR_head) (maxL := 5) (ret := none) (by decide) rfl ?_
  intro p e s m args below meth c s₁ B₀ hml hv
  obtain ⟨rfl, hK, hG, hz, hE⟩ := hv
  have hx := B₀.exec
  have hb := B₀.bytes
  have hr := B₀.returns
  have hts := atoms_spec (ws := gs_ws y_RR_head b_RR_head 5 none) B₀.pre
  have ht : ∀ w ∈ gs_w, w.before _ s = true := fun w h => hts w (List.mem_cons_of_mem _ h)
  have hown : s.vm.findClass R_RR = some m.cls := findClass_of_methodNamed B₀.named
  have hlocks := B₀.notSynchronized
  have hout9 : ∀ pc, ∀ x ∈ c.exceptionTable.toList, covers x pc = false := covers_of_empty (B₀.noHandlers (hts _ List.mem_cons_self))
  have hA : ∀ q : Nat, s.heap.size ≤ q → gs_A X q := fun q h => Nat.le_trans hz h
  have hS : va_S (gs_A X) s.heap s.heap [] := va_S.rf
  have hl := lv_entry ([.ref rr, .int x, .int x2, .int y, .int z]) (n := 5) (Nat.le_of_ble_eq_true rfl)
  rw [lg_entry_eq]
  generalize (lg_sl ([.ref rr, .int x, .int x2, .int y, .int z]) ++ List.replicate (5 - (lg_sl ([.ref rr, .int x, .int x2, .int y, .int z])).length) Slot.unset).toArray = ls at hl ⊢
  have hl : lv_has ls 5 [(0, .ref rr), (1, .int x), (2, .int x2), (3, .int y), (4, .int z)] := hl
  refine lv_aload_n hx hb d_RR_head_0 rfl (lv_at hl 0 rfl) ?_
  refine lv_iload_n hx hb d_RR_head_1 rfl (lv_at hl 1 rfl) ?_
  refine lv_iload_n hx hb d_RR_head_2 rfl (lv_at hl 2 rfl) ?_
  refine lv_iload_n hx hb d_RR_head_3 rfl (lv_at hl 3 rfl) ?_
  refine lv_iload hx hb d_RR_head_4 (lv_at hl 4 rfl) ?_
  exact gs_callVt (As := [.int x, .int x2, .int y, .int z]) (rest := []) ⟨hx, hb, hml, hown, hts⟩ hK hE hz hG (c_RR_requireTerms_r l X σ rr bk tu ma dv co ru sr nr nq fc sc dw x x2 y z htr x0 x1 hnr hok) mV_RR_requireTerms w_430 x0 rfl rfl hl.1 rfl (Nat.le_of_ble_eq_true rfl) ⟨(by first | decide | omega | (dsimp only [headSpec]; omega)), (by first | decide | omega | (dsimp only [headSpec]; omega))⟩ ⟨(by first | decide | omega | (dsimp only [headSpec]; omega)), (by first | decide | omega | (dsimp only [headSpec]; omega))⟩ d_RR_head_6 ⟨(by first | decide | omega | (dsimp only [headSpec]; omega)), (by first | decide | omega | (dsimp only [headSpec]; omega))⟩ (hout9 _) hlocks
set_option maxHeartbeats 4000000 in
set_option maxRecDepth 100000 in
/-- RR_like of no terms -/
theorem c_RR_like_t (l : Launch) (X : gs_X) (σ : gs_St) (rr bk tu ma dv co ru sr nr nq fc : Nat) (sc : Int32) (dw : Value) (cf : Nat → Int32) (cw : Nat → Nat) (rl : Nat) (x y z : Int32)
    (htr : l.stackTraces = false) (x0 : σ rr = some (gs_ob 0 [.ref bk, .ref tu, .ref ma, .ref dv, .int (nI fc), dw])) (x1 : σ bk = some (gs_ob 5 [.ref co, .ref ru, .ref sr, .int (nI nr), .int (nI nq), .int sc])) (hnr : nr ≤ 12) (x2 : σ co = some (gs_ia X 12 cf)) (hrl : rl < nr) (hcf : cf rl = nI (cw rl)) (hcw : cw rl ≤ 3) (hok : wi3 72 (cw rl) x y z = false) : gs_Mt l X y_RR_like b_RR_like 7 (some .int) ({ frames := 7, cells := 1, slots := 6, locals := 114 }) σ [.ref rr, .int (nI rl), .int x, .int y, .int z] xI := by
  refine gs_MetT.ofW (cc := b_RR_like) (maxL := 7) (ret := (some .int)) (by decide) rfl ?_
  intro p e s m args below meth c s₁ B₀ hml hv
  obtain ⟨rfl, hK, hG, hz, hE⟩ := hv
  have hx := B₀.exec
  have hb := B₀.bytes
  have hr := B₀.returns
  have hts := atoms_spec (ws := gs_ws y_RR_like b_RR_like 7 (some .int)) B₀.pre
  have ht : ∀ w ∈ gs_w, w.before _ s = true := fun w h => hts w (List.mem_cons_of_mem _ h)
  have hown : s.vm.findClass R_RR = some m.cls := findClass_of_methodNamed B₀.named
  have hlocks := B₀.notSynchronized
  have hout9 : ∀ pc, ∀ x ∈ c.exceptionTable.toList, covers x pc = false := covers_of_empty (B₀.noHandlers (hts _ List.mem_cons_self))
  have hA : ∀ q : Nat, s.heap.size ≤ q → gs_A X q := fun q h => Nat.le_trans hz h
  have hS : va_S (gs_A X) s.heap s.heap [] := va_S.rf
  have hl := lv_entry ([.ref rr, .int (nI rl), .int x, .int y, .int z]) (n := 7) (Nat.le_of_ble_eq_true rfl)
  rw [lg_entry_eq]
  generalize (lg_sl ([.ref rr, .int (nI rl), .int x, .int y, .int z]) ++ List.replicate (7 - (lg_sl ([.ref rr, .int (nI rl), .int x, .int y, .int z])).length) Slot.unset).toArray = ls at hl ⊢
  have hl : lv_has ls 7 [(0, .ref rr), (1, .int (nI rl)), (2, .int x), (3, .int y), (4, .int z)] := hl
  refine lv_aload_n hx hb d_RR_like_0 rfl (lv_at hl 0 rfl) ?_
  refine lv_iload_n hx hb d_RR_like_1 rfl (lv_at hl 1 rfl) ?_
  refine lv_iload_n hx hb d_RR_like_2 rfl (lv_at hl 2 rfl) ?_
  refine lv_iload_n hx hb d_RR_like_3 rfl (lv_at hl 3 rfl) ?_
  refine lv_iload hx hb d_RR_like_4 (lv_at hl 4 rfl) ?_
  exact gs_callVt (As := [.int (nI rl), .int x, .int y, .int z]) (rest := []) ⟨hx, hb, hml, hown, hts⟩ hK hE hz hG (c_RR_requireTerms_t l X σ rr bk tu ma dv co ru sr nr nq fc sc dw cf cw rl x y z htr x0 x1 hnr x2 hrl hcf hcw hok) mV_RR_requireTerms w_430 x0 rfl rfl hl.1 rfl (Nat.le_of_ble_eq_true rfl) ⟨(by first | decide | omega | (dsimp only [headSpec]; omega)), (by first | decide | omega | (dsimp only [headSpec]; omega))⟩ ⟨(by first | decide | omega | (dsimp only [headSpec]; omega)), (by first | decide | omega | (dsimp only [headSpec]; omega))⟩ d_RR_like_6 ⟨(by first | decide | omega | (dsimp only [headSpec]; omega)), (by first | decide | omega | (dsimp only [headSpec]; omega))⟩ (hout9 _) hlocks
set_option maxHeartbeats 4000000 in
set_option maxRecDepth 100000 in
/-- RR_like of no relation -/
theorem c_RR_like_r (l : Launch) (X : gs_X) (σ : gs_St) (rr bk tu ma dv co ru sr nr nq fc : Nat) (sc : Int32) (dw : Value) (x x2 y z : Int32)
    (htr : l.stackTraces = false) (x0 : σ rr = some (gs_ob 0 [.ref bk, .ref tu, .ref ma, .ref dv, .int (nI fc), dw])) (x1 : σ bk = some (gs_ob 5 [.ref co, .ref ru, .ref sr, .int (nI nr), .int (nI nq), .int sc])) (hnr : nr ≤ 12) (hok : wi nr x = false) : gs_Mt l X y_RR_like b_RR_like 7 (some .int) ({ frames := 8, cells := 1, slots := 6, locals := 135 }) σ [.ref rr, .int x, .int x2, .int y, .int z] xI := by
  refine gs_MetT.ofW (cc := b_RR_like) (maxL := 7) (ret := (some .int)) (by decide) rfl ?_
  intro p e s m args below meth c s₁ B₀ hml hv
  obtain ⟨rfl, hK, hG, hz, hE⟩ := hv
  have hx := B₀.exec
  have hb := B₀.bytes
  have hr := B₀.returns
  have hts := atoms_spec (ws := gs_ws y_RR_like b_RR_like 7 (some .int)) B₀.pre
  have ht : ∀ w ∈ gs_w, w.before _ s = true := fun w h => hts w (List.mem_cons_of_mem _ h)
  have hown : s.vm.findClass R_RR = some m.cls := findClass_of_methodNamed B₀.named
  have hlocks := B₀.notSynchronized
  have hout9 : ∀ pc, ∀ x ∈ c.exceptionTable.toList, covers x pc = false := covers_of_empty (B₀.noHandlers (hts _ List.mem_cons_self))
  have hA : ∀ q : Nat, s.heap.size ≤ q → gs_A X q := fun q h => Nat.le_trans hz h
  have hS : va_S (gs_A X) s.heap s.heap [] := va_S.rf
  have hl := lv_entry ([.ref rr, .int x, .int x2, .int y, .int z]) (n := 7) (Nat.le_of_ble_eq_true rfl)
  rw [lg_entry_eq]
  generalize (lg_sl ([.ref rr, .int x, .int x2, .int y, .int z]) ++ List.replicate (7 - (lg_sl ([.ref rr, .int x, .int x2, .int y, .int z])).length) Slot.unset).toArray = ls at hl ⊢
  have hl : lv_has ls 7 [(0, .ref rr), (1, .int x), (2, .int x2), (3, .int y), (4, .int z)] := hl
  refine lv_aload_n hx hb d_RR_like_0 rfl (lv_at hl 0 rfl) ?_
  refine lv_iload_n hx hb d_RR_like_1 rfl (lv_at hl 1 rfl) ?_
  refine lv_iload_n hx hb d_RR_like_2 rfl (lv_at hl 2 rfl) ?_
  refine lv_iload_n hx hb d_RR_like_3 rfl (lv_at hl 3 rfl) ?_
  refine lv_iload hx hb d_RR_like_4 (lv_at hl 4 rfl) ?_
  exact gs_callVt (As := [.int x, .int x2, .int y, .int z]) (rest := []) ⟨hx, hb, hml, hown, hts⟩ hK hE hz hG (c_RR_requireTerms_r l X σ rr bk tu ma dv co ru sr nr nq fc sc dw x x2 y z htr x0 x1 hnr hok) mV_RR_requireTerms w_430 x0 rfl rfl hl.1 rfl (Nat.le_of_ble_eq_true rfl) ⟨(by first | decide | omega | (dsimp only [headSpec]; omega)), (by first | decide | omega | (dsimp only [headSpec]; omega))⟩ ⟨(by first | decide | omega | (dsimp only [headSpec]; omega)), (by first | decide | omega | (dsimp only [headSpec]; omega))⟩ d_RR_like_6 ⟨(by first | decide | omega | (dsimp only [headSpec]; omega)), (by first | decide | omega | (dsimp only [headSpec]; omega))⟩ (hout9 _) hlocks
