set_option maxHeartbeats 4000000 in
set_option maxRecDepth 100000 in
/-- RuleRounds.like -/
theorem c_RR_like (l : Launch) (X : gs_X) (σ : gs_St) (rr dv bk tu ma la cm ac ai ab lc li lb mc mi mb va co ru sr nr sa rc fc : Nat) (dw : Value) (nw : Bool) (sc : Int32) (E : List En) (Lt : List Nat) (v : Nat → Nat) (nq : Nat) (cf : Nat → Int32) (cw : Nat → Nat) (rl a b cz : Nat)
    (x0 : σ rr = some (gs_ob 0 [.ref bk, .ref tu, .ref ma, .ref dv, .int (nI fc), dw])) (hdv : dvA X σ dv bk tu ma la cm ac ai ab lc li lb mc mi mb va E Lt v sa nw rc) (k0 : σ bk = some (gs_ob 5 [.ref co, .ref ru, .ref sr, .int (nI nr), .int (nI nq), .int sc])) (x2 : σ co = some (gs_ia X 12 cf)) (hnr : nr ≤ 12) (hrl : rl < nr) (hcf : cf rl = nI (cw rl)) (hcw : cw rl ≤ 3) (hcw1 : 1 ≤ cw rl) (ha : a < 72) (hb9 : b < 72) (hc9 : cz < 72) (hok : wi3 72 (cw rl) (nI a) (nI b) (nI cz) = true) : gs_Mi l X y_RR_like b_RR_like 7 (some .int) ({ frames := 10, cells := 5, slots := 32, locals := 421 }) σ [.ref rr, .int (nI rl), .int (nI a), .int (nI b), .int (nI cz)] (fun r σ' => (∃ v', dvA X σ' dv bk tu ma la cm ac ai ab lc li lb mc mi mb va E Lt v' sa nw rc) ∧ frm [va] σ σ' ∧ r = nI (if safeB (lkK rl (cw rl) a b cz) (lkI rl (cw rl) a b cz) [] = true then (cnt (cds E) [lkT rl (cw rl) a b cz] [] 1 0 v).1 else 0)) := by
  refine Met.ofW (cc := b_RR_like) (maxL := 7) (ret := (some .int)) (by decide) rfl ?_
  intro p e s m args below meth c s₁ B₀ hml hv
  obtain ⟨rfl, hK, hG, hz, hE⟩ := hv
  have hx := B₀.exec
  have hb := B₀.bytes
  have hr := B₀.returns
  have hts := atoms_spec (ws := gs_ws y_RR_like b_RR_like 7 (some .int)) B₀.pre
  have ht : ∀ w ∈ gs_w, w.before _ s = true := fun w h => hts w (List.mem_cons_of_mem _ h)
  have hown : s.vm.findClass R_RR = some m.cls := findClass_of_methodNamed B₀.named
  have hlocks := B₀.notSynchronized
  have hA : ∀ q : Nat, s.heap.size ≤ q → gs_A X q := fun q h => Nat.le_trans hz h
  have hS : va_S (gs_A X) s.heap s.heap [] := va_S.rf
  have hl := lv_entry ([.ref rr, .int (nI rl), .int (nI a), .int (nI b), .int (nI cz)]) (n := 7) (Nat.le_of_ble_eq_true rfl)
  rw [lg_entry_eq]
  generalize (lg_sl ([.ref rr, .int (nI rl), .int (nI a), .int (nI b), .int (nI cz)]) ++ List.replicate (7 - (lg_sl ([.ref rr, .int (nI rl), .int (nI a), .int (nI b), .int (nI cz)])).length) Slot.unset).toArray = ls at hl ⊢
  have hl : lv_has ls 7 [(0, .ref rr), (1, .int (nI rl)), (2, .int (nI a)), (3, .int (nI b)), (4, .int (nI cz))] := hl
  obtain ⟨cs, ci, cr, ds, vs, a9, b9, c9, z9, d0, t0, t1, t2, t3, l0, l1, m0, m1, m2, m3, q0, q1, hB, hR, hl3, hs2, hn2, hds, hv⟩ := id hdv
  have fr0 : frm [va] σ σ := frm.rf
  refine lv_aload_n hx hb d_RR_like_0 rfl (lv_at hl 0 rfl) ?_
  refine lv_iload_n hx hb d_RR_like_1 rfl (lv_at hl 1 rfl) ?_
  refine lv_iload_n hx hb d_RR_like_2 rfl (lv_at hl 2 rfl) ?_
  refine lv_iload_n hx hb d_RR_like_3 rfl (lv_at hl 3 rfl) ?_
  refine lv_iload hx hb d_RR_like_4 (lv_at hl 4 rfl) ?_
  refine gs_callVpv (As := [.int (nI rl), .int (nI a), .int (nI b), .int (nI cz)]) (rest := []) ⟨hx, hb, hml, hown, hts⟩ hK hE hz hG hS (c_RR_requireTerms l X σ rr bk tu ma dv co ru sr nr nq fc sc dw cf cw rl (nI a) (nI b) (nI cz) x0 k0 hnr x2 hrl hcf hcw hok) ⟨rfl, rfl⟩ mV_RR_requireTerms w_430 x0 rfl rfl hl.1 rfl (Nat.le_of_ble_eq_true rfl) ⟨(by first | decide | omega | (dsimp only [headSpec]; omega)), (by first | decide | omega | (dsimp only [headSpec]; omega))⟩ ⟨(by first | decide | omega | (dsimp only [headSpec]; omega)), (by first | decide | omega | (dsimp only [headSpec]; omega))⟩ d_RR_like_6 ?_
  refine gs_new (fs := [.int 0, .int 0, .int 0, .int 0, .int 0, .int 0, .int 0, .int 0, .int 0]) hx hb ht hown hK hG hS hA k_IT w_437 w_438 w_15 (fun j hj => by (rcases (show j = 0 ∨ j = 1 ∨ j = 2 ∨ j = 3 ∨ j = 4 ∨ j = 5 ∨ j = 6 ∨ j = 7 ∨ j = 8 by omega) with rfl | rfl | rfl | rfl | rfl | rfl | rfl | rfl | rfl <;> rfl)) (by first | decide | omega) (by first | decide | omega) d_RR_like_9 (fun q_1 H hq_1 hG hS => ?_)
  obtain ⟨σ_2, eσ_2⟩ : ∃ zq, zq = gs_up σ q_1 (gs_ob 2 [.int 0, .int 0, .int 0, .int 0, .int 0, .int 0, .int 0, .int 0, .int 0]) := ⟨_, rfl⟩
  have hG : gs_H X (gs_up σ q_1 (gs_ob 2 [.int 0, .int 0, .int 0, .int 0, .int 0, .int 0, .int 0, .int 0, .int 0])) H := hG
  rw [← eσ_2] at hG
  have hz_3 : σ q_1 = none := fr0.none_ (al_cons q1 al_nil) hq_1
  have hne_5 : rr ≠ q_1 := fun z => by rw [z, hq_1] at x0; cases x0
  have hc_4 : σ_2 rr = some (gs_ob 0 [.ref bk, .ref tu, .ref ma, .ref dv, .int (nI fc), dw]) := by rw [eσ_2]; exact gs_ku hne_5 x0
  have hne_7 : bk ≠ q_1 := fun z => by rw [z, hq_1] at k0; cases k0
  have hc_6 : σ_2 bk = some (gs_ob 5 [.ref co, .ref ru, .ref sr, .int (nI nr), .int (nI nq), .int sc]) := by rw [eσ_2]; exact gs_ku hne_7 k0
  have hne_9 : co ≠ q_1 := fun z => by rw [z, hq_1] at x2; cases x2
  have hc_8 : σ_2 co = some (gs_ia X 12 cf) := by rw [eσ_2]; exact gs_ku hne_9 x2
  have hne_11 : ma ≠ q_1 := fun z => by rw [z, hq_1] at q0; cases q0
  have hc_10 : σ_2 ma = some (gs_ob 3 [.ref tu, .ref va]) := by rw [eσ_2]; exact gs_ku hne_11 q0
  have hne_13 : va ≠ q_1 := fun z => by rw [z, hq_1] at q1; cases q1
  have hc_12 : σ_2 va = some (gs_ia X 8 vs) := by rw [eσ_2]; exact gs_ku hne_13 q1
  have hne_15 : tu ≠ q_1 := fun z => by rw [z, hq_1] at t0; cases t0
  have hc_14 : σ_2 tu = some (gs_ob 6 [.ref ac, .ref ai, .ref ab, .int (nI E.length)]) := by rw [eσ_2]; exact gs_ku hne_15 t0
  have hne_17 : ac ≠ q_1 := fun z => by rw [z, hq_1] at t1; cases t1
  have hc_16 : σ_2 ac = some (gs_ia X 301 cs) := by rw [eσ_2]; exact gs_ku hne_17 t1
  have hc_18 : σ_2 q_1 = some (gs_ob 2 [.int 0, .int 0, .int 0, .int 0, .int 0, .int 0, .int 0, .int 0, .int 0]) := by rw [eσ_2]; exact gs_us
  have fr_19 : frm [va] σ σ_2 := by rw [eσ_2]; exact fr0.born hq_1
  refine lv_dup hx hb d_RR_like_12 rfl ?_
  refine lv_iconst (v := nI 0) hx hb d_RR_like_13 (by decide) ?_
  refine lv_iload_n hx hb d_RR_like_14 rfl (lv_at hl 1 rfl) ?_
  refine lv_aload_n hx hb d_RR_like_15 rfl (lv_at hl 0 rfl) ?_
  refine gs_get hx hb ht hown hK hG k_RR hc_4 0 (by decide) w_137 rfl d_RR_like_16 ?_
  refine gs_get hx hb ht hown hK hG k_RB hc_6 0 (by decide) w_33 rfl d_RR_like_19 ?_
  refine lv_iload_n hx hb d_RR_like_22 rfl (lv_at hl 1 rfl) ?_
  refine gs_iald hx hb hK hG hc_8 (j := rl) (by omega) (by omega) d_RR_like_23 ?_
  refine gs_top (show (cf rl) = (nI (cw rl)) from hcf) ?_
  refine lv_iload_n hx hb d_RR_like_24 rfl (lv_at hl 2 rfl) ?_
  refine lv_iload_n hx hb d_RR_like_25 rfl (lv_at hl 3 rfl) ?_
  refine lv_iload hx hb d_RR_like_26 (lv_at hl 4 rfl) ?_
  refine gs_callIv (As := [.int (nI 0), .int (nI rl), .int (nI (cw rl)), .int (nI a), .int (nI b), .int (nI cz)]) (rest := [.ref q_1]) ⟨hx, hb, hml, hown, hts⟩ hK hE hz hG hS (c_IT_init l X σ_2 q_1 0 rl (cw rl) a b cz hc_18) mI_IT_init w_439 rfl hl.1 rfl (Nat.le_of_ble_eq_true rfl) ⟨(by first | decide | omega | (dsimp only [headSpec]; omega)), (by first | decide | omega | (dsimp only [headSpec]; omega))⟩ ⟨(by first | decide | omega | (dsimp only [headSpec]; omega)), (by first | decide | omega | (dsimp only [headSpec]; omega))⟩ d_RR_like_28 (fun σ_28 H locs hp_28 hG hS => ?_)
  rw [hp_28] at hG
  have hG : gs_H X (gs_up σ_2 q_1 (gs_ob 2 [.int (nI 0), .int (nI rl), .int (nI (cw rl)), .int (nI a), .int (nI b), .int (nI cz), .int (nI 0), .int (nI (cw rl)), .int (nI 0)])) H := hG
  obtain ⟨σ_20, eσ_20⟩ : ∃ zq, zq = gs_up σ_2 q_1 (gs_ob 2 [.int (nI 0), .int (nI rl), .int (nI (cw rl)), .int (nI a), .int (nI b), .int (nI cz), .int (nI 0), .int (nI (cw rl)), .int (nI 0)]) := ⟨_, rfl⟩
  rw [← eσ_20] at hG
  have hc_21 : σ_20 rr = some (gs_ob 0 [.ref bk, .ref tu, .ref ma, .ref dv, .int (nI fc), dw]) := by rw [eσ_20]; exact gs_ku hne_5 hc_4
  have hc_22 : σ_20 bk = some (gs_ob 5 [.ref co, .ref ru, .ref sr, .int (nI nr), .int (nI nq), .int sc]) := by rw [eσ_20]; exact gs_ku hne_7 hc_6
  have hc_23 : σ_20 co = some (gs_ia X 12 cf) := by rw [eσ_20]; exact gs_ku hne_9 hc_8
  have hc_24 : σ_20 ma = some (gs_ob 3 [.ref tu, .ref va]) := by rw [eσ_20]; exact gs_ku hne_11 hc_10
  have hc_25 : σ_20 va = some (gs_ia X 8 vs) := by rw [eσ_20]; exact gs_ku hne_13 hc_12
  have hc_26 : σ_20 tu = some (gs_ob 6 [.ref ac, .ref ai, .ref ab, .int (nI E.length)]) := by rw [eσ_20]; exact gs_ku hne_15 hc_14
  have hc_27 : σ_20 ac = some (gs_ia X 301 cs) := by rw [eσ_20]; exact gs_ku hne_17 hc_16
  have hc_28 : σ_20 q_1 = some (gs_ob 2 [.int (nI 0), .int (nI rl), .int (nI (cw rl)), .int (nI a), .int (nI b), .int (nI cz), .int (nI 0), .int (nI (cw rl)), .int (nI 0)]) := by rw [eσ_20]; exact gs_us
  have fr_29 : frm [va] σ σ_20 := by rw [eσ_20]; exact fr_19.upN hz_3
  refine lv_astore (lv' := [(5, .ref q_1), (0, .ref rr), (1, .int (nI rl)), (2, .int (nI a)), (3, .int (nI b)), (4, .int (nI cz))]) hx hb d_RR_like_31 hl (by decide) rfl (fun ls hl => ?_)
  refine gs_new (fs := [.null, .null, .null, .int 0, .int 0, .null]) hx hb ht hown hK hG hS hA k_RU w_435 w_436 w_14 (fun j hj => by (rcases (show j = 0 ∨ j = 1 ∨ j = 2 ∨ j = 3 ∨ j = 4 ∨ j = 5 by omega) with rfl | rfl | rfl | rfl | rfl | rfl <;> rfl)) (by first | decide | omega) (by first | decide | omega) d_RR_like_33 (fun q_30 H hq_30 hG hS => ?_)
  obtain ⟨σ_31, eσ_31⟩ : ∃ zq, zq = gs_up σ_20 q_30 (gs_ob 4 [.null, .null, .null, .int 0, .int 0, .null]) := ⟨_, rfl⟩
  have hG : gs_H X (gs_up σ_20 q_30 (gs_ob 4 [.null, .null, .null, .int 0, .int 0, .null])) H := hG
  rw [← eσ_31] at hG
  have hz_32 : σ q_30 = none := fr_29.none_ (al_cons hc_25 al_nil) hq_30
  have hne_34 : rr ≠ q_30 := fun z => by rw [z, hq_30] at hc_21; cases hc_21
  have hc_33 : σ_31 rr = some (gs_ob 0 [.ref bk, .ref tu, .ref ma, .ref dv, .int (nI fc), dw]) := by rw [eσ_31]; exact gs_ku hne_34 hc_21
  have hne_36 : bk ≠ q_30 := fun z => by rw [z, hq_30] at hc_22; cases hc_22
  have hc_35 : σ_31 bk = some (gs_ob 5 [.ref co, .ref ru, .ref sr, .int (nI nr), .int (nI nq), .int sc]) := by rw [eσ_31]; exact gs_ku hne_36 hc_22
  have hne_38 : co ≠ q_30 := fun z => by rw [z, hq_30] at hc_23; cases hc_23
  have hc_37 : σ_31 co = some (gs_ia X 12 cf) := by rw [eσ_31]; exact gs_ku hne_38 hc_23
  have hne_40 : ma ≠ q_30 := fun z => by rw [z, hq_30] at hc_24; cases hc_24
  have hc_39 : σ_31 ma = some (gs_ob 3 [.ref tu, .ref va]) := by rw [eσ_31]; exact gs_ku hne_40 hc_24
  have hne_42 : va ≠ q_30 := fun z => by rw [z, hq_30] at hc_25; cases hc_25
  have hc_41 : σ_31 va = some (gs_ia X 8 vs) := by rw [eσ_31]; exact gs_ku hne_42 hc_25
  have hne_44 : tu ≠ q_30 := fun z => by rw [z, hq_30] at hc_26; cases hc_26
  have hc_43 : σ_31 tu = some (gs_ob 6 [.ref ac, .ref ai, .ref ab, .int (nI E.length)]) := by rw [eσ_31]; exact gs_ku hne_44 hc_26
  have hne_46 : ac ≠ q_30 := fun z => by rw [z, hq_30] at hc_27; cases hc_27
  have hc_45 : σ_31 ac = some (gs_ia X 301 cs) := by rw [eσ_31]; exact gs_ku hne_46 hc_27
  have hne_48 : q_1 ≠ q_30 := fun z => by rw [z, hq_30] at hc_28; cases hc_28
  have hc_47 : σ_31 q_1 = some (gs_ob 2 [.int (nI 0), .int (nI rl), .int (nI (cw rl)), .int (nI a), .int (nI b), .int (nI cz), .int (nI 0), .int (nI (cw rl)), .int (nI 0)]) := by rw [eσ_31]; exact gs_ku hne_48 hc_28
  have hc_49 : σ_31 q_30 = some (gs_ob 4 [.null, .null, .null, .int 0, .int 0, .null]) := by rw [eσ_31]; exact gs_us
  have fr_50 : frm [va] σ σ_31 := by rw [eσ_31]; exact fr_29.born hq_30
  refine lv_dup hx hb d_RR_like_36 rfl ?_
  refine lv_aload hx hb d_RR_like_37 (lv_at hl 0 rfl) ?_
  refine gs_callIv (As := [.ref q_1]) (rest := [.ref q_30]) ⟨hx, hb, hml, hown, hts⟩ hK hE hz hG hS (c_RU_init l X σ_31 q_30 q_1 hc_49) mI_RU_init w_487 rfl hl.1 rfl (Nat.le_of_ble_eq_true rfl) ⟨(by first | decide | omega | (dsimp only [headSpec]; omega)), (by first | decide | omega | (dsimp only [headSpec]; omega))⟩ ⟨(by first | decide | omega | (dsimp only [headSpec]; omega)), (by first | decide | omega | (dsimp only [headSpec]; omega))⟩ d_RR_like_39 (fun σ_39 H locs hp_39 hG hS => ?_)
  obtain ⟨ho, ck, kf, z1, z2, z3, w1, w2, w3, ev⟩ := hp_39
  rw [ev] at hG
  unfold ru4 at hG
  have hb_51 : σ_31 ho = none := by exact z1
  obtain ⟨σ_52, eσ_52⟩ : ∃ zq, zq = gs_up σ_31 ho (gs_qa X 3 3 (fun _ => none)) := ⟨_, rfl⟩
  have hz_53 : σ ho = none := fr_50.none_ (al_cons hc_41 al_nil) hb_51
  have hne_55 : rr ≠ ho := fun z => by rw [z, hb_51] at hc_33; cases hc_33
  have hc_54 : σ_52 rr = some (gs_ob 0 [.ref bk, .ref tu, .ref ma, .ref dv, .int (nI fc), dw]) := by rw [eσ_52]; exact gs_ku hne_55 hc_33
  have hne_57 : bk ≠ ho := fun z => by rw [z, hb_51] at hc_35; cases hc_35
  have hc_56 : σ_52 bk = some (gs_ob 5 [.ref co, .ref ru, .ref sr, .int (nI nr), .int (nI nq), .int sc]) := by rw [eσ_52]; exact gs_ku hne_57 hc_35
  have hne_59 : co ≠ ho := fun z => by rw [z, hb_51] at hc_37; cases hc_37
  have hc_58 : σ_52 co = some (gs_ia X 12 cf) := by rw [eσ_52]; exact gs_ku hne_59 hc_37
  have hne_61 : ma ≠ ho := fun z => by rw [z, hb_51] at hc_39; cases hc_39
  have hc_60 : σ_52 ma = some (gs_ob 3 [.ref tu, .ref va]) := by rw [eσ_52]; exact gs_ku hne_61 hc_39
  have hne_63 : va ≠ ho := fun z => by rw [z, hb_51] at hc_41; cases hc_41
  have hc_62 : σ_52 va = some (gs_ia X 8 vs) := by rw [eσ_52]; exact gs_ku hne_63 hc_41
  have hne_65 : tu ≠ ho := fun z => by rw [z, hb_51] at hc_43; cases hc_43
  have hc_64 : σ_52 tu = some (gs_ob 6 [.ref ac, .ref ai, .ref ab, .int (nI E.length)]) := by rw [eσ_52]; exact gs_ku hne_65 hc_43
  have hne_67 : ac ≠ ho := fun z => by rw [z, hb_51] at hc_45; cases hc_45
  have hc_66 : σ_52 ac = some (gs_ia X 301 cs) := by rw [eσ_52]; exact gs_ku hne_67 hc_45
  have hne_69 : q_1 ≠ ho := fun z => by rw [z, hb_51] at hc_47; cases hc_47
  have hc_68 : σ_52 q_1 = some (gs_ob 2 [.int (nI 0), .int (nI rl), .int (nI (cw rl)), .int (nI a), .int (nI b), .int (nI cz), .int (nI 0), .int (nI (cw rl)), .int (nI 0)]) := by rw [eσ_52]; exact gs_ku hne_69 hc_47
  have hne_71 : q_30 ≠ ho := fun z => by rw [z, hb_51] at hc_49; cases hc_49
  have hc_70 : σ_52 q_30 = some (gs_ob 4 [.null, .null, .null, .int 0, .int 0, .null]) := by rw [eσ_52]; exact gs_ku hne_71 hc_49
  have hc_72 : σ_52 ho = some (gs_qa X 3 3 (fun _ => none)) := by rw [eσ_52]; exact gs_us
  have fr_73 : frm [va] σ σ_52 := by rw [eσ_52]; exact fr_50.born hb_51
  have hb_74 : σ_52 ck = none := by rw [eσ_52, gs_un (Ne.symm w1)]; exact z2
  obtain ⟨σ_75, eσ_75⟩ : ∃ zq, zq = gs_up σ_52 ck (gs_qa X 3 6 (fun _ => none)) := ⟨_, rfl⟩
  have hz_76 : σ ck = none := fr_73.none_ (al_cons hc_62 al_nil) hb_74
  have hne_78 : rr ≠ ck := fun z => by rw [z, hb_74] at hc_54; cases hc_54
  have hc_77 : σ_75 rr = some (gs_ob 0 [.ref bk, .ref tu, .ref ma, .ref dv, .int (nI fc), dw]) := by rw [eσ_75]; exact gs_ku hne_78 hc_54
  have hne_80 : bk ≠ ck := fun z => by rw [z, hb_74] at hc_56; cases hc_56
  have hc_79 : σ_75 bk = some (gs_ob 5 [.ref co, .ref ru, .ref sr, .int (nI nr), .int (nI nq), .int sc]) := by rw [eσ_75]; exact gs_ku hne_80 hc_56
  have hne_82 : co ≠ ck := fun z => by rw [z, hb_74] at hc_58; cases hc_58
  have hc_81 : σ_75 co = some (gs_ia X 12 cf) := by rw [eσ_75]; exact gs_ku hne_82 hc_58
  have hne_84 : ma ≠ ck := fun z => by rw [z, hb_74] at hc_60; cases hc_60
  have hc_83 : σ_75 ma = some (gs_ob 3 [.ref tu, .ref va]) := by rw [eσ_75]; exact gs_ku hne_84 hc_60
  have hne_86 : va ≠ ck := fun z => by rw [z, hb_74] at hc_62; cases hc_62
  have hc_85 : σ_75 va = some (gs_ia X 8 vs) := by rw [eσ_75]; exact gs_ku hne_86 hc_62
  have hne_88 : tu ≠ ck := fun z => by rw [z, hb_74] at hc_64; cases hc_64
  have hc_87 : σ_75 tu = some (gs_ob 6 [.ref ac, .ref ai, .ref ab, .int (nI E.length)]) := by rw [eσ_75]; exact gs_ku hne_88 hc_64
  have hne_90 : ac ≠ ck := fun z => by rw [z, hb_74] at hc_66; cases hc_66
  have hc_89 : σ_75 ac = some (gs_ia X 301 cs) := by rw [eσ_75]; exact gs_ku hne_90 hc_66
  have hne_92 : q_1 ≠ ck := fun z => by rw [z, hb_74] at hc_68; cases hc_68
  have hc_91 : σ_75 q_1 = some (gs_ob 2 [.int (nI 0), .int (nI rl), .int (nI (cw rl)), .int (nI a), .int (nI b), .int (nI cz), .int (nI 0), .int (nI (cw rl)), .int (nI 0)]) := by rw [eσ_75]; exact gs_ku hne_92 hc_68
  have hne_94 : q_30 ≠ ck := fun z => by rw [z, hb_74] at hc_70; cases hc_70
  have hc_93 : σ_75 q_30 = some (gs_ob 4 [.null, .null, .null, .int 0, .int 0, .null]) := by rw [eσ_75]; exact gs_ku hne_94 hc_70
  have hne_96 : ho ≠ ck := fun z => by rw [z, hb_74] at hc_72; cases hc_72
  have hc_95 : σ_75 ho = some (gs_qa X 3 3 (fun _ => none)) := by rw [eσ_75]; exact gs_ku hne_96 hc_72
  have hc_97 : σ_75 ck = some (gs_qa X 3 6 (fun _ => none)) := by rw [eσ_75]; exact gs_us
  have fr_98 : frm [va] σ σ_75 := by rw [eσ_75]; exact fr_73.born hb_74
  have hb_99 : σ_75 kf = none := by rw [eσ_75, gs_un (Ne.symm w3)]; rw [eσ_52, gs_un (Ne.symm w2)]; exact z3
  obtain ⟨σ_100, eσ_100⟩ : ∃ zq, zq = gs_up σ_75 kf (gs_ia X 8 (fun _ => 0)) := ⟨_, rfl⟩
  have hz_101 : σ kf = none := fr_98.none_ (al_cons hc_85 al_nil) hb_99
  have hne_103 : rr ≠ kf := fun z => by rw [z, hb_99] at hc_77; cases hc_77
  have hc_102 : σ_100 rr = some (gs_ob 0 [.ref bk, .ref tu, .ref ma, .ref dv, .int (nI fc), dw]) := by rw [eσ_100]; exact gs_ku hne_103 hc_77
  have hne_105 : bk ≠ kf := fun z => by rw [z, hb_99] at hc_79; cases hc_79
  have hc_104 : σ_100 bk = some (gs_ob 5 [.ref co, .ref ru, .ref sr, .int (nI nr), .int (nI nq), .int sc]) := by rw [eσ_100]; exact gs_ku hne_105 hc_79
  have hne_107 : co ≠ kf := fun z => by rw [z, hb_99] at hc_81; cases hc_81
  have hc_106 : σ_100 co = some (gs_ia X 12 cf) := by rw [eσ_100]; exact gs_ku hne_107 hc_81
  have hne_109 : ma ≠ kf := fun z => by rw [z, hb_99] at hc_83; cases hc_83
  have hc_108 : σ_100 ma = some (gs_ob 3 [.ref tu, .ref va]) := by rw [eσ_100]; exact gs_ku hne_109 hc_83
  have hne_111 : va ≠ kf := fun z => by rw [z, hb_99] at hc_85; cases hc_85
  have hc_110 : σ_100 va = some (gs_ia X 8 vs) := by rw [eσ_100]; exact gs_ku hne_111 hc_85
  have hne_113 : tu ≠ kf := fun z => by rw [z, hb_99] at hc_87; cases hc_87
  have hc_112 : σ_100 tu = some (gs_ob 6 [.ref ac, .ref ai, .ref ab, .int (nI E.length)]) := by rw [eσ_100]; exact gs_ku hne_113 hc_87
  have hne_115 : ac ≠ kf := fun z => by rw [z, hb_99] at hc_89; cases hc_89
  have hc_114 : σ_100 ac = some (gs_ia X 301 cs) := by rw [eσ_100]; exact gs_ku hne_115 hc_89
  have hne_117 : q_1 ≠ kf := fun z => by rw [z, hb_99] at hc_91; cases hc_91
  have hc_116 : σ_100 q_1 = some (gs_ob 2 [.int (nI 0), .int (nI rl), .int (nI (cw rl)), .int (nI a), .int (nI b), .int (nI cz), .int (nI 0), .int (nI (cw rl)), .int (nI 0)]) := by rw [eσ_100]; exact gs_ku hne_117 hc_91
  have hne_119 : q_30 ≠ kf := fun z => by rw [z, hb_99] at hc_93; cases hc_93
  have hc_118 : σ_100 q_30 = some (gs_ob 4 [.null, .null, .null, .int 0, .int 0, .null]) := by rw [eσ_100]; exact gs_ku hne_119 hc_93
  have hne_121 : ho ≠ kf := fun z => by rw [z, hb_99] at hc_95; cases hc_95
  have hc_120 : σ_100 ho = some (gs_qa X 3 3 (fun _ => none)) := by rw [eσ_100]; exact gs_ku hne_121 hc_95
  have hne_123 : ck ≠ kf := fun z => by rw [z, hb_99] at hc_97; cases hc_97
  have hc_122 : σ_100 ck = some (gs_qa X 3 6 (fun _ => none)) := by rw [eσ_100]; exact gs_ku hne_123 hc_97
  have hc_124 : σ_100 kf = some (gs_ia X 8 (fun _ => 0)) := by rw [eσ_100]; exact gs_us
  have fr_125 : frm [va] σ σ_100 := by rw [eσ_100]; exact fr_98.born hb_99
  obtain ⟨σ_126, eσ_126⟩ : ∃ zq, zq = gs_up σ_100 q_30 (gs_ob 4 [.ref q_1, .ref ho, .ref ck, .int (nI 0), .int (nI 0), .ref kf]) := ⟨_, rfl⟩
  have hc_127 : σ_126 rr = some (gs_ob 0 [.ref bk, .ref tu, .ref ma, .ref dv, .int (nI fc), dw]) := by rw [eσ_126]; exact gs_ku hne_34 hc_102
  have hc_128 : σ_126 bk = some (gs_ob 5 [.ref co, .ref ru, .ref sr, .int (nI nr), .int (nI nq), .int sc]) := by rw [eσ_126]; exact gs_ku hne_36 hc_104
  have hc_129 : σ_126 co = some (gs_ia X 12 cf) := by rw [eσ_126]; exact gs_ku hne_38 hc_106
  have hc_130 : σ_126 ma = some (gs_ob 3 [.ref tu, .ref va]) := by rw [eσ_126]; exact gs_ku hne_40 hc_108
  have hc_131 : σ_126 va = some (gs_ia X 8 vs) := by rw [eσ_126]; exact gs_ku hne_42 hc_110
  have hc_132 : σ_126 tu = some (gs_ob 6 [.ref ac, .ref ai, .ref ab, .int (nI E.length)]) := by rw [eσ_126]; exact gs_ku hne_44 hc_112
  have hc_133 : σ_126 ac = some (gs_ia X 301 cs) := by rw [eσ_126]; exact gs_ku hne_46 hc_114
  have hc_134 : σ_126 q_1 = some (gs_ob 2 [.int (nI 0), .int (nI rl), .int (nI (cw rl)), .int (nI a), .int (nI b), .int (nI cz), .int (nI 0), .int (nI (cw rl)), .int (nI 0)]) := by rw [eσ_126]; exact gs_ku hne_48 hc_116
  have hc_135 : σ_126 ho = some (gs_qa X 3 3 (fun _ => none)) := by rw [eσ_126]; exact gs_ku (Ne.symm hne_71) hc_120
  have hc_136 : σ_126 ck = some (gs_qa X 3 6 (fun _ => none)) := by rw [eσ_126]; exact gs_ku (Ne.symm hne_94) hc_122
  have hc_137 : σ_126 kf = some (gs_ia X 8 (fun _ => 0)) := by rw [eσ_126]; exact gs_ku (Ne.symm hne_119) hc_124
  have hc_138 : σ_126 q_30 = some (gs_ob 4 [.ref q_1, .ref ho, .ref ck, .int (nI 0), .int (nI 0), .ref kf]) := by rw [eσ_126]; exact gs_us
  have fr_139 : frm [va] σ σ_126 := by rw [eσ_126]; exact fr_125.upN hz_32
  rw [← eσ_52, ← eσ_75, ← eσ_100, ← eσ_126] at hG
  refine lv_astore (lv' := [(6, .ref q_30), (5, .ref q_1), (0, .ref rr), (1, .int (nI rl)), (2, .int (nI a)), (3, .int (nI b)), (4, .int (nI cz))]) hx hb d_RR_like_42 hl (by decide) rfl (fun ls hl => ?_)
  refine lv_aload hx hb d_RR_like_44 (lv_at hl 0 rfl) ?_
  refine lv_aload hx hb d_RR_like_46 (lv_at hl 1 rfl) ?_
  have htm : ∀ j, tm (((0, rl, cw rl), (a, b, cz), (0, cw rl, nI 0)) : It) j < 72 := fun j => by unfold tm; dsimp only; split; exact ha; split; exact hb9; exact hc9
  refine gs_callVv (As := [.ref q_1]) (rest := []) ⟨hx, hb, hml, hown, hts⟩ hK hE hz hG hS (c_RU_add l X σ_126 q_30 q_1 ho ck kf 0 0 q_1 (fun _ => none) (fun _ => none) (fun _ => 0) (fun _ => 0) ((0, rl, cw rl), (a, b, cz), (0, cw rl, nI 0)) hc_138 hc_135 hc_136 hc_137 (fun j _ => ⟨rfl, Nat.zero_le 3⟩) hc_134 (show 0 ≤ 3 by decide) hcw hcw1 htm (show (0 : Nat) < 8 by decide) (bindI_64 rfl) ⟨by decide, Or.inr (by decide)⟩) mV_RU_add w_546 hc_138 rfl rfl hl.1 rfl (Nat.le_of_ble_eq_true rfl) ⟨(by first | decide | omega | (dsimp only [headSpec]; omega)), (by first | decide | omega | (dsimp only [headSpec]; omega))⟩ ⟨(by first | decide | omega | (dsimp only [headSpec]; omega)), (by first | decide | omega | (dsimp only [headSpec]; omega))⟩ d_RR_like_48 (fun σ_48 H locs hp_48 hG hS => ?_)
  obtain ⟨kv2, ev2, hk2⟩ := hp_48.2 rfl
  rw [ev2, show bindI (fun _ => 0) (((0, rl, cw rl), (a, b, cz), (0, cw rl, nI 0)) : It) = lkI rl (cw rl) a b cz from rfl] at hG
  obtain ⟨σ_140, eσ_140⟩ : ∃ zq, zq = gs_up σ_126 ho (gs_qa X 3 3 (va_up (fun _ => none) 0 (some q_1))) := ⟨_, rfl⟩
  have hc_141 : σ_140 rr = some (gs_ob 0 [.ref bk, .ref tu, .ref ma, .ref dv, .int (nI fc), dw]) := by rw [eσ_140]; exact gs_ku hne_55 hc_127
  have hc_142 : σ_140 bk = some (gs_ob 5 [.ref co, .ref ru, .ref sr, .int (nI nr), .int (nI nq), .int sc]) := by rw [eσ_140]; exact gs_ku hne_57 hc_128
  have hc_143 : σ_140 co = some (gs_ia X 12 cf) := by rw [eσ_140]; exact gs_ku hne_59 hc_129
  have hc_144 : σ_140 ma = some (gs_ob 3 [.ref tu, .ref va]) := by rw [eσ_140]; exact gs_ku hne_61 hc_130
  have hc_145 : σ_140 va = some (gs_ia X 8 vs) := by rw [eσ_140]; exact gs_ku hne_63 hc_131
  have hc_146 : σ_140 tu = some (gs_ob 6 [.ref ac, .ref ai, .ref ab, .int (nI E.length)]) := by rw [eσ_140]; exact gs_ku hne_65 hc_132
  have hc_147 : σ_140 ac = some (gs_ia X 301 cs) := by rw [eσ_140]; exact gs_ku hne_67 hc_133
  have hc_148 : σ_140 q_1 = some (gs_ob 2 [.int (nI 0), .int (nI rl), .int (nI (cw rl)), .int (nI a), .int (nI b), .int (nI cz), .int (nI 0), .int (nI (cw rl)), .int (nI 0)]) := by rw [eσ_140]; exact gs_ku hne_69 hc_134
  have hc_149 : σ_140 ck = some (gs_qa X 3 6 (fun _ => none)) := by rw [eσ_140]; exact gs_ku (Ne.symm hne_96) hc_136
  have hc_150 : σ_140 kf = some (gs_ia X 8 (fun _ => 0)) := by rw [eσ_140]; exact gs_ku (Ne.symm hne_121) hc_137
  have hc_151 : σ_140 q_30 = some (gs_ob 4 [.ref q_1, .ref ho, .ref ck, .int (nI 0), .int (nI 0), .ref kf]) := by rw [eσ_140]; exact gs_ku hne_71 hc_138
  have hc_152 : σ_140 ho = some (gs_qa X 3 3 (va_up (fun _ => none) 0 (some q_1))) := by rw [eσ_140]; exact gs_us
  have fr_153 : frm [va] σ σ_140 := by rw [eσ_140]; exact fr_139.upN hz_53
  obtain ⟨σ_154, eσ_154⟩ : ∃ zq, zq = gs_up σ_140 q_30 (gs_ob 4 [.ref q_1, .ref ho, .ref ck, .int (nI (0 + 1)), .int (nI 0), .ref kf]) := ⟨_, rfl⟩
  have hc_155 : σ_154 rr = some (gs_ob 0 [.ref bk, .ref tu, .ref ma, .ref dv, .int (nI fc), dw]) := by rw [eσ_154]; exact gs_ku hne_34 hc_141
  have hc_156 : σ_154 bk = some (gs_ob 5 [.ref co, .ref ru, .ref sr, .int (nI nr), .int (nI nq), .int sc]) := by rw [eσ_154]; exact gs_ku hne_36 hc_142
  have hc_157 : σ_154 co = some (gs_ia X 12 cf) := by rw [eσ_154]; exact gs_ku hne_38 hc_143
  have hc_158 : σ_154 ma = some (gs_ob 3 [.ref tu, .ref va]) := by rw [eσ_154]; exact gs_ku hne_40 hc_144
  have hc_159 : σ_154 va = some (gs_ia X 8 vs) := by rw [eσ_154]; exact gs_ku hne_42 hc_145
  have hc_160 : σ_154 tu = some (gs_ob 6 [.ref ac, .ref ai, .ref ab, .int (nI E.length)]) := by rw [eσ_154]; exact gs_ku hne_44 hc_146
  have hc_161 : σ_154 ac = some (gs_ia X 301 cs) := by rw [eσ_154]; exact gs_ku hne_46 hc_147
  have hc_162 : σ_154 q_1 = some (gs_ob 2 [.int (nI 0), .int (nI rl), .int (nI (cw rl)), .int (nI a), .int (nI b), .int (nI cz), .int (nI 0), .int (nI (cw rl)), .int (nI 0)]) := by rw [eσ_154]; exact gs_ku hne_48 hc_148
  have hc_163 : σ_154 ck = some (gs_qa X 3 6 (fun _ => none)) := by rw [eσ_154]; exact gs_ku (Ne.symm hne_94) hc_149
  have hc_164 : σ_154 kf = some (gs_ia X 8 (fun _ => 0)) := by rw [eσ_154]; exact gs_ku (Ne.symm hne_119) hc_150
  have hc_165 : σ_154 ho = some (gs_qa X 3 3 (va_up (fun _ => none) 0 (some q_1))) := by rw [eσ_154]; exact gs_ku (Ne.symm hne_71) hc_152
  have hc_166 : σ_154 q_30 = some (gs_ob 4 [.ref q_1, .ref ho, .ref ck, .int (nI (0 + 1)), .int (nI 0), .ref kf]) := by rw [eσ_154]; exact gs_us
  have fr_167 : frm [va] σ σ_154 := by rw [eσ_154]; exact fr_153.upN hz_32
  obtain ⟨σ_168, eσ_168⟩ : ∃ zq, zq = gs_up σ_154 q_1 (itE (lkI rl (cw rl) a b cz)) := ⟨_, rfl⟩
  have hc_169 : σ_168 rr = some (gs_ob 0 [.ref bk, .ref tu, .ref ma, .ref dv, .int (nI fc), dw]) := by rw [eσ_168]; exact gs_ku hne_5 hc_155
  have hc_170 : σ_168 bk = some (gs_ob 5 [.ref co, .ref ru, .ref sr, .int (nI nr), .int (nI nq), .int sc]) := by rw [eσ_168]; exact gs_ku hne_7 hc_156
  have hc_171 : σ_168 co = some (gs_ia X 12 cf) := by rw [eσ_168]; exact gs_ku hne_9 hc_157
  have hc_172 : σ_168 ma = some (gs_ob 3 [.ref tu, .ref va]) := by rw [eσ_168]; exact gs_ku hne_11 hc_158
  have hc_173 : σ_168 va = some (gs_ia X 8 vs) := by rw [eσ_168]; exact gs_ku hne_13 hc_159
  have hc_174 : σ_168 tu = some (gs_ob 6 [.ref ac, .ref ai, .ref ab, .int (nI E.length)]) := by rw [eσ_168]; exact gs_ku hne_15 hc_160
  have hc_175 : σ_168 ac = some (gs_ia X 301 cs) := by rw [eσ_168]; exact gs_ku hne_17 hc_161
  have hc_176 : σ_168 ck = some (gs_qa X 3 6 (fun _ => none)) := by rw [eσ_168]; exact gs_ku (Ne.symm hne_92) hc_163
  have hc_177 : σ_168 kf = some (gs_ia X 8 (fun _ => 0)) := by rw [eσ_168]; exact gs_ku (Ne.symm hne_117) hc_164
  have hc_178 : σ_168 ho = some (gs_qa X 3 3 (va_up (fun _ => none) 0 (some q_1))) := by rw [eσ_168]; exact gs_ku (Ne.symm hne_69) hc_165
  have hc_179 : σ_168 q_30 = some (gs_ob 4 [.ref q_1, .ref ho, .ref ck, .int (nI (0 + 1)), .int (nI 0), .ref kf]) := by rw [eσ_168]; exact gs_ku (Ne.symm hne_48) hc_166
  have hc_180 : σ_168 q_1 = some (itE (lkI rl (cw rl) a b cz)) := by rw [eσ_168]; exact gs_us
  have fr_181 : frm [va] σ σ_168 := by rw [eσ_168]; exact fr_167.upN hz_3
  obtain ⟨σ_182, eσ_182⟩ : ∃ zq, zq = gs_up σ_168 kf (gs_ia X 8 kv2) := ⟨_, rfl⟩
  have hc_183 : σ_182 rr = some (gs_ob 0 [.ref bk, .ref tu, .ref ma, .ref dv, .int (nI fc), dw]) := by rw [eσ_182]; exact gs_ku hne_103 hc_169
  have hc_184 : σ_182 bk = some (gs_ob 5 [.ref co, .ref ru, .ref sr, .int (nI nr), .int (nI nq), .int sc]) := by rw [eσ_182]; exact gs_ku hne_105 hc_170
  have hc_185 : σ_182 co = some (gs_ia X 12 cf) := by rw [eσ_182]; exact gs_ku hne_107 hc_171
  have hc_186 : σ_182 ma = some (gs_ob 3 [.ref tu, .ref va]) := by rw [eσ_182]; exact gs_ku hne_109 hc_172
  have hc_187 : σ_182 va = some (gs_ia X 8 vs) := by rw [eσ_182]; exact gs_ku hne_111 hc_173
  have hc_188 : σ_182 tu = some (gs_ob 6 [.ref ac, .ref ai, .ref ab, .int (nI E.length)]) := by rw [eσ_182]; exact gs_ku hne_113 hc_174
  have hc_189 : σ_182 ac = some (gs_ia X 301 cs) := by rw [eσ_182]; exact gs_ku hne_115 hc_175
  have hc_190 : σ_182 ck = some (gs_qa X 3 6 (fun _ => none)) := by rw [eσ_182]; exact gs_ku hne_123 hc_176
  have hc_191 : σ_182 ho = some (gs_qa X 3 3 (va_up (fun _ => none) 0 (some q_1))) := by rw [eσ_182]; exact gs_ku hne_121 hc_178
  have hc_192 : σ_182 q_30 = some (gs_ob 4 [.ref q_1, .ref ho, .ref ck, .int (nI (0 + 1)), .int (nI 0), .ref kf]) := by rw [eσ_182]; exact gs_ku hne_119 hc_179
  have hc_193 : σ_182 q_1 = some (itE (lkI rl (cw rl) a b cz)) := by rw [eσ_182]; exact gs_ku hne_117 hc_180
  have hc_194 : σ_182 kf = some (gs_ia X 8 kv2) := by rw [eσ_182]; exact gs_us
  have fr_195 : frm [va] σ σ_182 := by rw [eσ_182]; exact fr_181.upN hz_101
  rw [← eσ_140, ← eσ_154, ← eσ_168, ← eσ_182] at hG
  refine lv_aload hx hb d_RR_like_51 (lv_at hl 0 rfl) ?_
  have hIB : itB (lkI rl (cw rl) a b cz) := bindI_B (by decide) (by omega) hcw ha hb9 hc9
  refine gs_callVi (As := []) (rest := []) ⟨hx, hb, hml, hown, hts⟩ hK hE hz hG hS (c_RU_settle l X σ_182 q_30 q_1 ho ck kf (0 + 1) (fun _ => none) (fun _ => 0) kv2 (lkK rl (cw rl) a b cz) (lkI rl (cw rl) a b cz) [] hc_192 hc_190 hc_194 hk2 hc_193 hIB.2.2.1 hIB.2.2.2.1 (by simp) (fun i t z => by simp at z) (fun i j hi => absurd hi (by simp))) mV_RU_settle w_569 hc_192 rfl rfl hl.1 rfl (Nat.le_of_ble_eq_true rfl) ⟨(by first | decide | omega | (dsimp only [headSpec]; omega)), (by first | decide | omega | (dsimp only [headSpec]; omega))⟩ ⟨(by first | decide | omega | (dsimp only [headSpec]; omega)), (by first | decide | omega | (dsimp only [headSpec]; omega))⟩ d_RR_like_53 (fun r_53 σ_53 H locs hp_53 hG hS => ?_)
  refine gs_top hp_53.1 ?_
  have hkp := settle_items hp_53.2.2.2 hc_193 (fun i hi => absurd hi (by simp))
  have hc_196 : σ_53 rr = some (gs_ob 0 [.ref bk, .ref tu, .ref ma, .ref dv, .int (nI fc), dw]) := hkp _ _ hc_183 (by simp)
  have hc_197 : σ_53 bk = some (gs_ob 5 [.ref co, .ref ru, .ref sr, .int (nI nr), .int (nI nq), .int sc]) := hkp _ _ hc_184 (by simp)
  have hc_198 : σ_53 co = some (gs_ia X 12 cf) := hkp _ _ hc_185 (by simp)
  have hc_199 : σ_53 ma = some (gs_ob 3 [.ref tu, .ref va]) := hkp _ _ hc_186 (by simp)
  have hc_200 : σ_53 va = some (gs_ia X 8 vs) := hkp _ _ hc_187 (by simp)
  have hc_201 : σ_53 tu = some (gs_ob 6 [.ref ac, .ref ai, .ref ab, .int (nI E.length)]) := hkp _ _ hc_188 (by simp)
  have hc_202 : σ_53 ac = some (gs_ia X 301 cs) := hkp _ _ hc_189 (by simp)
  have hc_203 : σ_53 ck = some (gs_qa X 3 6 (fun _ => none)) := hkp _ _ hc_190 (by simp)
  have hc_204 : σ_53 ho = some (gs_qa X 3 3 (va_up (fun _ => none) 0 (some q_1))) := hkp _ _ hc_191 (by simp)
  have hc_205 : σ_53 q_30 = some (gs_ob 4 [.ref q_1, .ref ho, .ref ck, .int (nI (0 + 1)), .int (nI 0), .ref kf]) := hkp _ _ hc_192 (by simp)
  have hc_206 : σ_53 kf = some (gs_ia X 8 kv2) := hkp _ _ hc_194 (by simp)
  have fr9 : frm [va] σ σ_53 := fun q e n1 z => by
    rw [hp_53.2.2.2 q (fun w => by rw [w, hz_3] at z; cases z) (fun i hi => absurd hi (by simp))]
    exact fr_195 q e n1 z
  refine lv_if_eq (tgt := 71) hx hb d_RR_like_56 (by decide) (fun c_56 => ?_) (fun c_56 => ?_)
  · refine lv_iconst (v := nI 0) hx hb d_RR_like_71 (by decide) ?_
    exact gs_iret (v := (nI 0)) hx hb hr rfl hK hE hz hG hS hlocks (by first | decide | omega | (dsimp only [headSpec]; omega)) (by first | decide | omega | (dsimp only [headSpec]; omega)) (⟨⟨v, hdv.frva fr9 hc_200 hv⟩, fr9, by rw [if_neg (by rw [bI_0 c_56]; simp)]⟩) d_RR_like_72
  · refine lv_aload_n hx hb d_RR_like_59 rfl (lv_at hl 2 rfl) ?_
    refine gs_get hx hb ht hown hK hG k_RR hc_196 2 (by decide) w_139 rfl d_RR_like_60 ?_
    refine lv_aload hx hb d_RR_like_63 (lv_at hl 0 rfl) ?_
    refine gs_callVi (As := [.ref q_30]) (rest := []) ⟨hx, hb, hml, hown, hts⟩ hK hE hz hG hS (c_MA_countMatches l X σ_53 ma tu va q_30 ac ai ab q_1 ho ck kf (cds E) cs [lkT rl (cw rl) a b cz] [] (va_up (fun _ => none) 0 (some q_1)) (fun _ => none) vs v hB.1 (by rw [cds_len]; exact hB.2.1) (hR.cds hB.2.2) (by simp) (by simp) (fun t ht => by rw [List.mem_singleton.mp ht]; exact hIB) (fun t ht => by cases ht) hv hc_199 hc_200 (by rw [cds_len]; exact hc_201) hc_202 hc_205 hc_204 hc_203 (fun i t z => by
        rcases i with _ | i
        · cases z; exact ⟨_, by simp [va_up], hp_53.2.1⟩
        · cases z) (fun i t z => by simp at z)) mV_MA_countMatches w_627 hc_199 rfl rfl hl.1 rfl (Nat.le_of_ble_eq_true rfl) ⟨(by first | decide | omega | (dsimp only [headSpec]; omega)), (by first | decide | omega | (dsimp only [headSpec]; omega))⟩ ⟨(by first | decide | omega | (dsimp only [headSpec]; omega)), (by first | decide | omega | (dsimp only [headSpec]; omega))⟩ d_RR_like_65 (fun r_65 σ_65 H locs hp_65 hG hS => ?_)
    obtain ⟨vs2, ev2, hv2, er2⟩ := hp_65
    rw [ev2] at hG
    refine gs_top er2 ?_
    have hG : gs_H X (gs_up σ_53 va (gs_ia X 8 vs2)) H := hG
    obtain ⟨σ_207, eσ_207⟩ : ∃ zq, zq = gs_up σ_53 va (gs_ia X 8 vs2) := ⟨_, rfl⟩
    rw [← eσ_207] at hG
    have hc_208 : σ_207 rr = some (gs_ob 0 [.ref bk, .ref tu, .ref ma, .ref dv, .int (nI fc), dw]) := by rw [eσ_207]; exact gs_ku (gs_ne hc_196 hc_200 (by simp)) hc_196
    have hc_209 : σ_207 bk = some (gs_ob 5 [.ref co, .ref ru, .ref sr, .int (nI nr), .int (nI nq), .int sc]) := by rw [eσ_207]; exact gs_ku (gs_ne hc_197 hc_200 (by simp)) hc_197
    have hc_210 : σ_207 co = some (gs_ia X 12 cf) := by rw [eσ_207]; exact gs_ku (gs_ne hc_198 hc_200 (by simp)) hc_198
    have hc_211 : σ_207 ma = some (gs_ob 3 [.ref tu, .ref va]) := by rw [eσ_207]; exact gs_ku (gs_ne hc_199 hc_200 (by simp)) hc_199
    have hc_212 : σ_207 tu = some (gs_ob 6 [.ref ac, .ref ai, .ref ab, .int (nI E.length)]) := by rw [eσ_207]; exact gs_ku (gs_ne hc_201 hc_200 (by simp)) hc_201
    have hc_213 : σ_207 ac = some (gs_ia X 301 cs) := by rw [eσ_207]; exact gs_ku (gs_ne hc_202 hc_200 (by simp)) hc_202
    have hc_214 : σ_207 ck = some (gs_qa X 3 6 (fun _ => none)) := by rw [eσ_207]; exact gs_ku (Ne.symm hne_86) hc_203
    have hc_215 : σ_207 ho = some (gs_qa X 3 3 (va_up (fun _ => none) 0 (some q_1))) := by rw [eσ_207]; exact gs_ku (Ne.symm hne_63) hc_204
    have hc_216 : σ_207 q_30 = some (gs_ob 4 [.ref q_1, .ref ho, .ref ck, .int (nI (0 + 1)), .int (nI 0), .ref kf]) := by rw [eσ_207]; exact gs_ku (Ne.symm hne_42) hc_205
    have hc_217 : σ_207 kf = some (gs_ia X 8 kv2) := by rw [eσ_207]; exact gs_ku (Ne.symm hne_111) hc_206
    have hc_218 : σ_207 va = some (gs_ia X 8 vs2) := by rw [eσ_207]; exact gs_us
    have fr_219 : frm [va] σ σ_207 := by rw [eσ_207]; exact fr9.up (by simp)
    refine lv_goto (tgt := 72) hx hb d_RR_like_68 (by decide) ?_
    exact gs_iret (v := (nI ((cnt (cds E) [lkT rl (cw rl) a b cz] [] 1 0 v).1))) hx hb hr rfl hK hE hz hG hS hlocks (by first | decide | omega | (dsimp only [headSpec]; omega)) (by first | decide | omega | (dsimp only [headSpec]; omega)) (⟨⟨_, hdv.frva fr_219 hc_218 hv2⟩, fr_219, by rw [if_pos (bI_n0 c_56)]⟩) d_RR_like_72
