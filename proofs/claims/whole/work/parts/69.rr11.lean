set_option maxHeartbeats 4000000 in
set_option maxRecDepth 100000 in
/-- RuleRounds.item (h) -/
theorem c_RR_item_ih (l : Launch) (X : gs_X) (σ : gs_St) (rr bk tu ma dv co ru sr nr nq fc : Nat) (sc : Int32) (cf : Nat → Int32) (cw : Nat → Nat) (rl : Nat) (d hd ho ck kf n k : Nat) (fH fC : Nat → Option Nat) (kv : Nat → Int32) (kn : Nat → Nat) (kd a b cz : Nat)
    (x0 : σ rr = some (gs_ob 0 [.ref bk, .ref tu, .ref ma, .ref dv, .int (nI fc), .ref d])) (x1 : σ bk = some (gs_ob 5 [.ref co, .ref ru, .ref sr, .int (nI nr), .int (nI nq), .int sc])) (hnr : nr ≤ 12) (x2 : σ co = some (gs_ia X 12 cf)) (hrl : rl < nr) (hcf : cf rl = nI (cw rl)) (hcw : cw rl ≤ 3) (r0 : σ d = some (gs_ob 4 [.ref hd, .ref ho, .ref ck, .int (nI n), .int (nI k), .ref kf])) (hn : n ≤ 3) (hk : k ≤ 6) (r1 : σ ho = some (gs_qa X 3 3 fH)) (r2 : σ ck = some (gs_qa X 3 6 fC)) (r3 : σ kf = some (gs_ia X 8 kv)) (hkn : kOK kv kn) (hkd : kd = 0) (ha : a < 72) (hb9 : b < 72) (hc9 : cz < 72) (hok : wi3 72 (cw rl) (nI a) (nI b) (nI cz) = true) (hrm : n + k < 6 ∧ (kd ≠ 0 ∨ n < 3)) (hcw1 : 1 ≤ cw rl) : gs_Mi l X y_RR_item b_RR_item 7 (some .int) ({ frames := 4, cells := 1, slots := 9, locals := 106 }) σ [.ref rr, .int (nI kd), .int (nI rl), .int (nI a), .int (nI b), .int (nI cz)] (fun r σ' => ∃ kv', kOK kv' (knP kn (bindI kn ((kd, rl, cw rl), (a, b, cz), (0, cw rl, nI 0))) (n + 1) (cw rl)) ∧ ∃ b9, σ b9 = none ∧ σ' d = some (gs_ob 4 [.ref hd, .ref ho, .ref ck, .int (nI (n + 1)), .int (nI k), .ref kf]) ∧ σ' b9 = some (itE (bindI kn ((kd, rl, cw rl), (a, b, cz), (0, cw rl, nI 0)))) ∧ σ' ho = some (gs_qa X 3 3 (va_up fH n (some b9))) ∧ σ' kf = some (gs_ia X 8 kv') ∧ frm [d, ho, kf] σ σ' ∧ r = nI (n + k + 1)) := by
  refine Met.ofW (cc := b_RR_item) (maxL := 7) (ret := (some .int)) (by decide) rfl ?_
  intro p e s m args below meth c s₁ B₀ hml hv
  obtain ⟨rfl, hK, hG, hz, hE⟩ := hv
  have hx := B₀.exec
  have hb := B₀.bytes
  have hr := B₀.returns
  have hts := atoms_spec (ws := gs_ws y_RR_item b_RR_item 7 (some .int)) B₀.pre
  have ht : ∀ w ∈ gs_w, w.before _ s = true := fun w h => hts w (List.mem_cons_of_mem _ h)
  have hown : s.vm.findClass R_RR = some m.cls := findClass_of_methodNamed B₀.named
  have hlocks := B₀.notSynchronized
  have hA : ∀ q : Nat, s.heap.size ≤ q → gs_A X q := fun q h => Nat.le_trans hz h
  have hS : va_S (gs_A X) s.heap s.heap [] := va_S.rf
  have hl := lv_entry ([.ref rr, .int (nI kd), .int (nI rl), .int (nI a), .int (nI b), .int (nI cz)]) (n := 7) (Nat.le_of_ble_eq_true rfl)
  rw [lg_entry_eq]
  generalize (lg_sl ([.ref rr, .int (nI kd), .int (nI rl), .int (nI a), .int (nI b), .int (nI cz)]) ++ List.replicate (7 - (lg_sl ([.ref rr, .int (nI kd), .int (nI rl), .int (nI a), .int (nI b), .int (nI cz)])).length) Slot.unset).toArray = ls at hl ⊢
  have hl : lv_has ls 7 [(0, .ref rr), (1, .int (nI kd)), (2, .int (nI rl)), (3, .int (nI a)), (4, .int (nI b)), (5, .int (nI cz))] := hl
  have fr0 : frm [d, ho, kf] σ σ := frm.rf
  refine lv_iload_n hx hb d_RR_item_0 rfl (lv_at hl 1 rfl) ?_
  refine lv_if_lt (tgt := 9) hx hb d_RR_item_1 (by decide) (fun c_1 => ?_) (fun c_1 => ?_)
  · exact absurd c_1 (nI_pos (by omega))
    
  · refine lv_iload_n hx hb d_RR_item_4 rfl (lv_at hl 1 rfl) ?_
    refine lv_iconst (v := nI 3) hx hb d_RR_item_5 (by decide) ?_
    refine lv_icmp_le (tgt := 19) hx hb d_RR_item_6 (by decide) (fun c_6 => ?_) (fun c_6 => ?_)
    · have c_6 : kd ≤ 3 := (nI_leI (by omega) (by omega)).mp c_6
      refine lv_iload_n hx hb d_RR_item_19 rfl (lv_at hl 1 rfl) ?_
      refine lv_iconst (v := nI 2) hx hb d_RR_item_20 (by decide) ?_
      refine lv_icmp_eq (tgt := 29) hx hb d_RR_item_21 (by decide) (fun c_21 => ?_) (fun c_21 => ?_)
      · have c_21 : kd = 2 :=  (nI_eq (by omega) (by omega)).mp c_21
        omega
      · have c_21 : ¬ kd = 2 := mt (nI_eq (by omega) (by omega)).mpr c_21
        refine lv_iload_n hx hb d_RR_item_24 rfl (lv_at hl 1 rfl) ?_
        refine lv_iconst (v := nI 3) hx hb d_RR_item_25 (by decide) ?_
        refine lv_icmp_ne (tgt := 33) hx hb d_RR_item_26 (by decide) (fun c_26 => ?_) (fun c_26 => ?_)
        · have c_26 : ¬ kd = 3 := mt (nI_eq (by omega) (by omega)).mpr c_26
          refine lv_iconst (v := nI 0) hx hb d_RR_item_33 (by decide) ?_
          refine lv_istore (lv' := [(6, .int (nI 0)), (0, .ref rr), (1, .int (nI kd)), (2, .int (nI rl)), (3, .int (nI a)), (4, .int (nI b)), (5, .int (nI cz))]) hx hb d_RR_item_34 hl (by decide) rfl (fun ls hl => ?_)
          refine lv_iload hx hb d_RR_item_36 (lv_at hl 0 rfl) ?_
          refine lv_if_eq (tgt := 53) hx hb d_RR_item_38 (by decide) (fun c_38 => ?_) (fun c_38 => ?_)
          · have c_38 : 0 = 0 := gs_z (by omega) c_38
            refine lv_aload_n hx hb d_RR_item_53 rfl (lv_at hl 1 rfl) ?_
            refine lv_iload_n hx hb d_RR_item_54 rfl (lv_at hl 3 rfl) ?_
            refine lv_iload_n hx hb d_RR_item_55 rfl (lv_at hl 4 rfl) ?_
            refine lv_iload hx hb d_RR_item_56 (lv_at hl 5 rfl) ?_
            refine lv_iload hx hb d_RR_item_58 (lv_at hl 6 rfl) ?_
            refine gs_callVpv (As := [.int (nI rl), .int (nI a), .int (nI b), .int (nI cz)]) (rest := []) ⟨hx, hb, hml, hown, hts⟩ hK hE hz hG hS (c_RR_requireTerms l X σ rr bk tu ma dv co ru sr nr nq fc sc (.ref d) cf cw rl ((nI a)) ((nI b)) ((nI cz)) x0 x1 hnr x2 hrl hcf hcw hok) ⟨rfl, rfl⟩ mV_RR_requireTerms w_430 x0 rfl rfl hl.1 rfl (Nat.le_of_ble_eq_true rfl) ⟨(by first | decide | omega | (dsimp only [headSpec]; omega)), (by first | decide | omega | (dsimp only [headSpec]; omega))⟩ ⟨(by first | decide | omega | (dsimp only [headSpec]; omega)), (by first | decide | omega | (dsimp only [headSpec]; omega))⟩ d_RR_item_60 ?_
            refine lv_aload_n hx hb d_RR_item_63 rfl (lv_at hl 1 rfl) ?_
            refine gs_get hx hb ht hown hK hG k_RR x0 5 (by decide) w_142 rfl d_RR_item_64 ?_
            refine lv_ifnonnull (tgt := 80) hx hb d_RR_item_67 (by decide) ?_
            refine lv_aload_n hx hb d_RR_item_80 rfl (lv_at hl 1 rfl) ?_
            refine gs_get hx hb ht hown hK hG k_RR x0 5 (by decide) w_142 rfl d_RR_item_81 ?_
            refine lv_iload_n hx hb d_RR_item_84 rfl (lv_at hl 2 rfl) ?_
            refine gs_callVp (As := [.int (nI kd)]) (rest := []) ⟨hx, hb, hml, hown, hts⟩ hK hE hz hG hS (c_RU_hasRoomFor_p l X σ d hd ho ck kf n k kd r0 (by omega) (by omega) (by omega)) ⟨rfl, rfl⟩ mV_RU_hasRoomFor w_537 r0 rfl rfl hl.1 rfl (Nat.le_of_ble_eq_true rfl) ⟨(by first | decide | omega | (dsimp only [headSpec]; omega)), (by first | decide | omega | (dsimp only [headSpec]; omega))⟩ ⟨(by first | decide | omega | (dsimp only [headSpec]; omega)), (by first | decide | omega | (dsimp only [headSpec]; omega))⟩ d_RR_item_85 (fun r_85 hp_85 => ?_)
            refine gs_top (show r_85 = (bI (decide (n + k < 6 ∧ (kd ≠ 0 ∨ n < 3)))) from hp_85) ?_
            refine lv_if_ne (tgt := 101) hx hb d_RR_item_88 (by decide) (fun c_88 => ?_) (fun c_88 => ?_)
            · refine lv_aload_n hx hb d_RR_item_101 rfl (lv_at hl 1 rfl) ?_
              refine gs_get hx hb ht hown hK hG k_RR x0 5 (by decide) w_142 rfl d_RR_item_102 ?_
              refine gs_new (fs := [.int 0, .int 0, .int 0, .int 0, .int 0, .int 0, .int 0, .int 0, .int 0]) hx hb ht hown hK hG hS hA k_IT w_437 w_438 w_15 (fun j hj => by (rcases (show j = 0 ∨ j = 1 ∨ j = 2 ∨ j = 3 ∨ j = 4 ∨ j = 5 ∨ j = 6 ∨ j = 7 ∨ j = 8 by omega) with rfl | rfl | rfl | rfl | rfl | rfl | rfl | rfl | rfl <;> rfl)) (by first | decide | omega) (by first | decide | omega) d_RR_item_105 (fun q_1 H hq_1 hG hS => ?_)
              obtain ⟨σ_2, eσ_2⟩ : ∃ zq, zq = gs_up σ q_1 (gs_ob 2 [.int 0, .int 0, .int 0, .int 0, .int 0, .int 0, .int 0, .int 0, .int 0]) := ⟨_, rfl⟩
              have hG : gs_H X (gs_up σ q_1 (gs_ob 2 [.int 0, .int 0, .int 0, .int 0, .int 0, .int 0, .int 0, .int 0, .int 0])) H := hG
              rw [← eσ_2] at hG
              have hz_3 : σ q_1 = none := fr0.none_ (al_cons r0 (al_cons r1 (al_cons r3 al_nil))) hq_1
              have hne_5 : rr ≠ q_1 := fun z => by rw [z, hq_1] at x0; cases x0
              have hc_4 : σ_2 rr = some (gs_ob 0 [.ref bk, .ref tu, .ref ma, .ref dv, .int (nI fc), .ref d]) := by rw [eσ_2]; exact gs_ku hne_5 x0
              have hne_7 : bk ≠ q_1 := fun z => by rw [z, hq_1] at x1; cases x1
              have hc_6 : σ_2 bk = some (gs_ob 5 [.ref co, .ref ru, .ref sr, .int (nI nr), .int (nI nq), .int sc]) := by rw [eσ_2]; exact gs_ku hne_7 x1
              have hne_9 : co ≠ q_1 := fun z => by rw [z, hq_1] at x2; cases x2
              have hc_8 : σ_2 co = some (gs_ia X 12 cf) := by rw [eσ_2]; exact gs_ku hne_9 x2
              have hne_11 : d ≠ q_1 := fun z => by rw [z, hq_1] at r0; cases r0
              have hc_10 : σ_2 d = some (gs_ob 4 [.ref hd, .ref ho, .ref ck, .int (nI n), .int (nI k), .ref kf]) := by rw [eσ_2]; exact gs_ku hne_11 r0
              have hne_13 : ho ≠ q_1 := fun z => by rw [z, hq_1] at r1; cases r1
              have hc_12 : σ_2 ho = some (gs_qa X 3 3 fH) := by rw [eσ_2]; exact gs_ku hne_13 r1
              have hne_15 : ck ≠ q_1 := fun z => by rw [z, hq_1] at r2; cases r2
              have hc_14 : σ_2 ck = some (gs_qa X 3 6 fC) := by rw [eσ_2]; exact gs_ku hne_15 r2
              have hne_17 : kf ≠ q_1 := fun z => by rw [z, hq_1] at r3; cases r3
              have hc_16 : σ_2 kf = some (gs_ia X 8 kv) := by rw [eσ_2]; exact gs_ku hne_17 r3
              have hc_18 : σ_2 q_1 = some (gs_ob 2 [.int 0, .int 0, .int 0, .int 0, .int 0, .int 0, .int 0, .int 0, .int 0]) := by rw [eσ_2]; exact gs_us
              have fr_19 : frm [d, ho, kf] σ σ_2 := by rw [eσ_2]; exact fr0.born hq_1
              refine lv_dup hx hb d_RR_item_108 rfl ?_
              refine lv_iload_n hx hb d_RR_item_109 rfl (lv_at hl 2 rfl) ?_
              refine lv_iload_n hx hb d_RR_item_110 rfl (lv_at hl 3 rfl) ?_
              refine lv_iload hx hb d_RR_item_111 (lv_at hl 0 rfl) ?_
              refine lv_if_eq (tgt := 120) hx hb d_RR_item_113 (by decide) (fun c_113 => ?_) (fun c_113 => ?_)
              · have c_113 : 0 = 0 := gs_z (by omega) c_113
                refine lv_aload_n hx hb d_RR_item_120 rfl (lv_at hl 1 rfl) ?_
                refine gs_get hx hb ht hown hK hG k_RR hc_4 0 (by decide) w_137 rfl d_RR_item_121 ?_
                refine gs_get hx hb ht hown hK hG k_RB hc_6 0 (by decide) w_33 rfl d_RR_item_124 ?_
                refine lv_iload_n hx hb d_RR_item_127 rfl (lv_at hl 3 rfl) ?_
                refine gs_iald hx hb hK hG hc_8 (j := rl) (by omega) (by omega) d_RR_item_128 ?_
                refine gs_top (show (cf rl) = (nI (cw rl)) from hcf) ?_
                refine lv_iload_n hx hb d_RR_item_129 rfl (lv_at hl 4 rfl) ?_
                refine lv_iload hx hb d_RR_item_130 (lv_at hl 5 rfl) ?_
                refine lv_iload hx hb d_RR_item_132 (lv_at hl 6 rfl) ?_
                refine gs_callIv (As := [.int (nI kd), .int (nI rl), .int (nI (cw rl)), .int (nI a), .int (nI b), .int (nI cz)]) (rest := [.ref q_1, .ref d]) ⟨hx, hb, hml, hown, hts⟩ hK hE hz hG hS (c_IT_init l X σ_2 q_1 kd rl (cw rl) a b cz hc_18) mI_IT_init w_439 rfl hl.1 rfl (Nat.le_of_ble_eq_true rfl) ⟨(by first | decide | omega | (dsimp only [headSpec]; omega)), (by first | decide | omega | (dsimp only [headSpec]; omega))⟩ ⟨(by first | decide | omega | (dsimp only [headSpec]; omega)), (by first | decide | omega | (dsimp only [headSpec]; omega))⟩ d_RR_item_134 (fun σ_134 H locs hp_134 hG hS => ?_)
                rw [hp_134] at hG
                have hG : gs_H X (gs_up σ_2 q_1 (gs_ob 2 [.int (nI kd), .int (nI rl), .int (nI (cw rl)), .int (nI a), .int (nI b), .int (nI cz), .int (nI 0), .int (nI (cw rl)), .int (nI 0)])) H := hG
                obtain ⟨σ_20, eσ_20⟩ : ∃ zq, zq = gs_up σ_2 q_1 (gs_ob 2 [.int (nI kd), .int (nI rl), .int (nI (cw rl)), .int (nI a), .int (nI b), .int (nI cz), .int (nI 0), .int (nI (cw rl)), .int (nI 0)]) := ⟨_, rfl⟩
                rw [← eσ_20] at hG
                have hc_21 : σ_20 rr = some (gs_ob 0 [.ref bk, .ref tu, .ref ma, .ref dv, .int (nI fc), .ref d]) := by rw [eσ_20]; exact gs_ku hne_5 hc_4
                have hc_22 : σ_20 bk = some (gs_ob 5 [.ref co, .ref ru, .ref sr, .int (nI nr), .int (nI nq), .int sc]) := by rw [eσ_20]; exact gs_ku hne_7 hc_6
                have hc_23 : σ_20 co = some (gs_ia X 12 cf) := by rw [eσ_20]; exact gs_ku hne_9 hc_8
                have hc_24 : σ_20 d = some (gs_ob 4 [.ref hd, .ref ho, .ref ck, .int (nI n), .int (nI k), .ref kf]) := by rw [eσ_20]; exact gs_ku hne_11 hc_10
                have hc_25 : σ_20 ho = some (gs_qa X 3 3 fH) := by rw [eσ_20]; exact gs_ku hne_13 hc_12
                have hc_26 : σ_20 ck = some (gs_qa X 3 6 fC) := by rw [eσ_20]; exact gs_ku hne_15 hc_14
                have hc_27 : σ_20 kf = some (gs_ia X 8 kv) := by rw [eσ_20]; exact gs_ku hne_17 hc_16
                have hc_28 : σ_20 q_1 = some (gs_ob 2 [.int (nI kd), .int (nI rl), .int (nI (cw rl)), .int (nI a), .int (nI b), .int (nI cz), .int (nI 0), .int (nI (cw rl)), .int (nI 0)]) := by rw [eσ_20]; exact gs_us
                have fr_29 : frm [d, ho, kf] σ σ_20 := by rw [eσ_20]; exact fr_19.upN hz_3
                have htm : ∀ j, tm (((kd, rl, cw rl), (a, b, cz), (0, cw rl, nI 0)) : It) j < 72 := fun j => by unfold tm; dsimp only; split; exact ha; split; exact hb9; exact hc9
                refine gs_callVv (As := [.ref q_1]) (rest := []) ⟨hx, hb, hml, hown, hts⟩ hK hE hz hG hS (c_RU_add l X σ_20 d hd ho ck kf n k q_1 fH fC kv kn ((kd, rl, cw rl), (a, b, cz), (0, cw rl, nI 0)) hc_24 hc_25 hc_26 hc_27 hkn hc_28 (by show kd ≤ 3; omega) (by show cw rl ≤ 3; omega) (by show 1 ≤ cw rl; omega) htm (show (0 : Nat) < 8 by decide) (bindI_64 rfl) hrm) mV_RU_add w_546 hc_24 rfl rfl hl.1 rfl (Nat.le_of_ble_eq_true rfl) ⟨(by first | decide | omega | (dsimp only [headSpec]; omega)), (by first | decide | omega | (dsimp only [headSpec]; omega))⟩ ⟨(by first | decide | omega | (dsimp only [headSpec]; omega)), (by first | decide | omega | (dsimp only [headSpec]; omega))⟩ d_RR_item_137 (fun σ_137 H locs hp_137 hG hS => ?_)
                obtain ⟨kv2, ev2, hk2⟩ := hp_137.2 (show kd = 0 by omega)
                rw [ev2] at hG
                obtain ⟨σ_30, eσ_30⟩ : ∃ zq, zq = gs_up σ_20 ho (gs_qa X 3 3 (va_up fH n (some q_1))) := ⟨_, rfl⟩
                have hc_31 : σ_30 rr = some (gs_ob 0 [.ref bk, .ref tu, .ref ma, .ref dv, .int (nI fc), .ref d]) := by rw [eσ_30]; exact gs_ku (gs_ne hc_21 hc_25 (by simp)) hc_21
                have hc_32 : σ_30 bk = some (gs_ob 5 [.ref co, .ref ru, .ref sr, .int (nI nr), .int (nI nq), .int sc]) := by rw [eσ_30]; exact gs_ku (gs_ne hc_22 hc_25 (by simp)) hc_22
                have hc_33 : σ_30 co = some (gs_ia X 12 cf) := by rw [eσ_30]; exact gs_ku (gs_ne hc_23 hc_25 (by simp)) hc_23
                have hc_34 : σ_30 d = some (gs_ob 4 [.ref hd, .ref ho, .ref ck, .int (nI n), .int (nI k), .ref kf]) := by rw [eσ_30]; exact gs_ku (gs_ne hc_24 hc_25 (by simp)) hc_24
                have hc_35 : σ_30 ck = some (gs_qa X 3 6 fC) := by rw [eσ_30]; exact gs_ku (gs_ne hc_26 hc_25 (by simp)) hc_26
                have hc_36 : σ_30 kf = some (gs_ia X 8 kv) := by rw [eσ_30]; exact gs_ku (gs_ne hc_27 hc_25 (by simp)) hc_27
                have hc_37 : σ_30 q_1 = some (gs_ob 2 [.int (nI kd), .int (nI rl), .int (nI (cw rl)), .int (nI a), .int (nI b), .int (nI cz), .int (nI 0), .int (nI (cw rl)), .int (nI 0)]) := by rw [eσ_30]; exact gs_ku (Ne.symm hne_13) hc_28
                have hc_38 : σ_30 ho = some (gs_qa X 3 3 (va_up fH n (some q_1))) := by rw [eσ_30]; exact gs_us
                have fr_39 : frm [d, ho, kf] σ σ_30 := by rw [eσ_30]; exact fr_29.up (by simp)
                obtain ⟨σ_40, eσ_40⟩ : ∃ zq, zq = gs_up σ_30 d (gs_ob 4 [.ref hd, .ref ho, .ref ck, .int (nI (n + 1)), .int (nI k), .ref kf]) := ⟨_, rfl⟩
                have hc_41 : σ_40 rr = some (gs_ob 0 [.ref bk, .ref tu, .ref ma, .ref dv, .int (nI fc), .ref d]) := by rw [eσ_40]; exact gs_ku (gs_ne hc_31 hc_34 (by simp)) hc_31
                have hc_42 : σ_40 bk = some (gs_ob 5 [.ref co, .ref ru, .ref sr, .int (nI nr), .int (nI nq), .int sc]) := by rw [eσ_40]; exact gs_ku (gs_ne hc_32 hc_34 (by simp)) hc_32
                have hc_43 : σ_40 co = some (gs_ia X 12 cf) := by rw [eσ_40]; exact gs_ku (gs_ne hc_33 hc_34 (by simp)) hc_33
                have hc_44 : σ_40 ck = some (gs_qa X 3 6 fC) := by rw [eσ_40]; exact gs_ku (gs_ne hc_35 hc_34 (by simp)) hc_35
                have hc_45 : σ_40 kf = some (gs_ia X 8 kv) := by rw [eσ_40]; exact gs_ku (gs_ne hc_36 hc_34 (by simp)) hc_36
                have hc_46 : σ_40 q_1 = some (gs_ob 2 [.int (nI kd), .int (nI rl), .int (nI (cw rl)), .int (nI a), .int (nI b), .int (nI cz), .int (nI 0), .int (nI (cw rl)), .int (nI 0)]) := by rw [eσ_40]; exact gs_ku (Ne.symm hne_11) hc_37
                have hc_47 : σ_40 ho = some (gs_qa X 3 3 (va_up fH n (some q_1))) := by rw [eσ_40]; exact gs_ku (gs_ne hc_38 hc_34 (by simp)) hc_38
                have hc_48 : σ_40 d = some (gs_ob 4 [.ref hd, .ref ho, .ref ck, .int (nI (n + 1)), .int (nI k), .ref kf]) := by rw [eσ_40]; exact gs_us
                have fr_49 : frm [d, ho, kf] σ σ_40 := by rw [eσ_40]; exact fr_39.up (by simp)
                obtain ⟨σ_50, eσ_50⟩ : ∃ zq, zq = gs_up σ_40 q_1 (itE (bindI kn ((kd, rl, cw rl), (a, b, cz), (0, cw rl, nI 0)))) := ⟨_, rfl⟩
                have hc_51 : σ_50 rr = some (gs_ob 0 [.ref bk, .ref tu, .ref ma, .ref dv, .int (nI fc), .ref d]) := by rw [eσ_50]; exact gs_ku hne_5 hc_41
                have hc_52 : σ_50 bk = some (gs_ob 5 [.ref co, .ref ru, .ref sr, .int (nI nr), .int (nI nq), .int sc]) := by rw [eσ_50]; exact gs_ku hne_7 hc_42
                have hc_53 : σ_50 co = some (gs_ia X 12 cf) := by rw [eσ_50]; exact gs_ku hne_9 hc_43
                have hc_54 : σ_50 ck = some (gs_qa X 3 6 fC) := by rw [eσ_50]; exact gs_ku hne_15 hc_44
                have hc_55 : σ_50 kf = some (gs_ia X 8 kv) := by rw [eσ_50]; exact gs_ku hne_17 hc_45
                have hc_56 : σ_50 ho = some (gs_qa X 3 3 (va_up fH n (some q_1))) := by rw [eσ_50]; exact gs_ku hne_13 hc_47
                have hc_57 : σ_50 d = some (gs_ob 4 [.ref hd, .ref ho, .ref ck, .int (nI (n + 1)), .int (nI k), .ref kf]) := by rw [eσ_50]; exact gs_ku hne_11 hc_48
                have hc_58 : σ_50 q_1 = some (itE (bindI kn ((kd, rl, cw rl), (a, b, cz), (0, cw rl, nI 0)))) := by rw [eσ_50]; exact gs_us
                have fr_59 : frm [d, ho, kf] σ σ_50 := by rw [eσ_50]; exact fr_49.upN hz_3
                obtain ⟨σ_60, eσ_60⟩ : ∃ zq, zq = gs_up σ_50 kf (gs_ia X 8 kv2) := ⟨_, rfl⟩
                have hc_61 : σ_60 rr = some (gs_ob 0 [.ref bk, .ref tu, .ref ma, .ref dv, .int (nI fc), .ref d]) := by rw [eσ_60]; exact gs_ku (gs_ne hc_51 hc_55 (by simp)) hc_51
                have hc_62 : σ_60 bk = some (gs_ob 5 [.ref co, .ref ru, .ref sr, .int (nI nr), .int (nI nq), .int sc]) := by rw [eσ_60]; exact gs_ku (gs_ne hc_52 hc_55 (by simp)) hc_52
                have hc_63 : σ_60 co = some (gs_ia X 12 cf) := by rw [eσ_60]; exact gs_ku (gs_ne hc_53 hc_55 (by simp)) hc_53
                have hc_64 : σ_60 ck = some (gs_qa X 3 6 fC) := by rw [eσ_60]; exact gs_ku (gs_ne hc_54 hc_55 (by simp)) hc_54
                have hc_65 : σ_60 ho = some (gs_qa X 3 3 (va_up fH n (some q_1))) := by rw [eσ_60]; exact gs_ku (gs_ne hc_56 hc_55 (by simp)) hc_56
                have hc_66 : σ_60 d = some (gs_ob 4 [.ref hd, .ref ho, .ref ck, .int (nI (n + 1)), .int (nI k), .ref kf]) := by rw [eσ_60]; exact gs_ku (gs_ne hc_57 hc_55 (by simp)) hc_57
                have hc_67 : σ_60 q_1 = some (itE (bindI kn ((kd, rl, cw rl), (a, b, cz), (0, cw rl, nI 0)))) := by rw [eσ_60]; exact gs_ku (Ne.symm hne_17) hc_58
                have hc_68 : σ_60 kf = some (gs_ia X 8 kv2) := by rw [eσ_60]; exact gs_us
                have fr_69 : frm [d, ho, kf] σ σ_60 := by rw [eσ_60]; exact fr_59.up (by simp)
                rw [← eσ_30, ← eσ_40, ← eσ_50, ← eσ_60] at hG
                refine lv_aload_n hx hb d_RR_item_140 rfl (lv_at hl 1 rfl) ?_
                refine gs_get hx hb ht hown hK hG k_RR hc_61 5 (by decide) w_142 rfl d_RR_item_141 ?_
                refine gs_callVp (As := []) (rest := []) ⟨hx, hb, hml, hown, hts⟩ hK hE hz hG hS (c_RU_itemCount_p l X σ_60 d hd ho ck kf (n + 1) (k) hc_66) ⟨rfl, rfl⟩ mV_RU_itemCount w_560 hc_66 rfl rfl hl.1 rfl (Nat.le_of_ble_eq_true rfl) ⟨(by first | decide | omega | (dsimp only [headSpec]; omega)), (by first | decide | omega | (dsimp only [headSpec]; omega))⟩ ⟨(by first | decide | omega | (dsimp only [headSpec]; omega)), (by first | decide | omega | (dsimp only [headSpec]; omega))⟩ d_RR_item_144 (fun r_144 hp_144 => ?_)
                refine gs_top (show r_144 = (nI ((n + 1) + k)) from hp_144) ?_
                exact gs_iret (v := (nI ((n + 1) + k))) hx hb hr rfl hK hE hz hG hS hlocks (by first | decide | omega | (dsimp only [headSpec]; omega)) (by first | decide | omega | (dsimp only [headSpec]; omega)) (⟨kv2, hk2, q_1, hz_3, hc_66, hc_67, hc_65, hc_68, fr_69, congrArg nI (by omega)⟩) d_RR_item_147
              · exact absurd c_113 (by decide)
            · exact absurd hrm (of_decide_eq_false (bI_0 c_88))
          · exact absurd c_38 (by decide)
        · have c_26 : kd = 3 :=  (nI_eq (by omega) (by omega)).mp c_26
          omega
    · have c_6 : ¬ kd ≤ 3 := mt (nI_leI (by omega) (by omega)).mpr c_6
      omega
set_option maxHeartbeats 4000000 in
set_option maxRecDepth 100000 in
/-- RuleRounds.item (n) -/
theorem c_RR_item_in (l : Launch) (X : gs_X) (σ : gs_St) (rr bk tu ma dv co ru sr nr nq fc : Nat) (sc : Int32) (cf : Nat → Int32) (cw : Nat → Nat) (rl : Nat) (d hd ho ck kf n k : Nat) (fH fC : Nat → Option Nat) (kv : Nat → Int32) (kn : Nat → Nat) (kd a b cz : Nat)
    (x0 : σ rr = some (gs_ob 0 [.ref bk, .ref tu, .ref ma, .ref dv, .int (nI fc), .ref d])) (x1 : σ bk = some (gs_ob 5 [.ref co, .ref ru, .ref sr, .int (nI nr), .int (nI nq), .int sc])) (hnr : nr ≤ 12) (x2 : σ co = some (gs_ia X 12 cf)) (hrl : rl < nr) (hcf : cf rl = nI (cw rl)) (hcw : cw rl ≤ 3) (r0 : σ d = some (gs_ob 4 [.ref hd, .ref ho, .ref ck, .int (nI n), .int (nI k), .ref kf])) (hn : n ≤ 3) (hk : k ≤ 6) (r1 : σ ho = some (gs_qa X 3 3 fH)) (r2 : σ ck = some (gs_qa X 3 6 fC)) (r3 : σ kf = some (gs_ia X 8 kv)) (hkn : kOK kv kn) (hkd : kd = 1) (ha : a < 72) (hb9 : b < 72) (hc9 : cz < 72) (hok : wi3 72 (cw rl) (nI a) (nI b) (nI cz) = true) (hrm : n + k < 6 ∧ (kd ≠ 0 ∨ n < 3)) (hcw1 : 1 ≤ cw rl) : gs_Mi l X y_RR_item b_RR_item 7 (some .int) ({ frames := 4, cells := 1, slots := 9, locals := 106 }) σ [.ref rr, .int (nI kd), .int (nI rl), .int (nI a), .int (nI b), .int (nI cz)] (fun r σ' => ∃ b9, σ b9 = none ∧ σ' d = some (gs_ob 4 [.ref hd, .ref ho, .ref ck, .int (nI n), .int (nI (k + 1)), .ref kf]) ∧ σ' b9 = some (itE ((kd, rl, cw rl), (a, b, cz), (0, cw rl, nI 0))) ∧ σ' ck = some (gs_qa X 3 6 (va_up fC k (some b9))) ∧ frm [d, ck] σ σ' ∧ r = nI (n + k + 1)) := by
  refine Met.ofW (cc := b_RR_item) (maxL := 7) (ret := (some .int)) (by decide) rfl ?_
  intro p e s m args below meth c s₁ B₀ hml hv
  obtain ⟨rfl, hK, hG, hz, hE⟩ := hv
  have hx := B₀.exec
  have hb := B₀.bytes
  have hr := B₀.returns
  have hts := atoms_spec (ws := gs_ws y_RR_item b_RR_item 7 (some .int)) B₀.pre
  have ht : ∀ w ∈ gs_w, w.before _ s = true := fun w h => hts w (List.mem_cons_of_mem _ h)
  have hown : s.vm.findClass R_RR = some m.cls := findClass_of_methodNamed B₀.named
  have hlocks := B₀.notSynchronized
  have hA : ∀ q : Nat, s.heap.size ≤ q → gs_A X q := fun q h => Nat.le_trans hz h
  have hS : va_S (gs_A X) s.heap s.heap [] := va_S.rf
  have hl := lv_entry ([.ref rr, .int (nI kd), .int (nI rl), .int (nI a), .int (nI b), .int (nI cz)]) (n := 7) (Nat.le_of_ble_eq_true rfl)
  rw [lg_entry_eq]
  generalize (lg_sl ([.ref rr, .int (nI kd), .int (nI rl), .int (nI a), .int (nI b), .int (nI cz)]) ++ List.replicate (7 - (lg_sl ([.ref rr, .int (nI kd), .int (nI rl), .int (nI a), .int (nI b), .int (nI cz)])).length) Slot.unset).toArray = ls at hl ⊢
  have hl : lv_has ls 7 [(0, .ref rr), (1, .int (nI kd)), (2, .int (nI rl)), (3, .int (nI a)), (4, .int (nI b)), (5, .int (nI cz))] := hl
  have fr0 : frm [d, ck] σ σ := frm.rf
  refine lv_iload_n hx hb d_RR_item_0 rfl (lv_at hl 1 rfl) ?_
  refine lv_if_lt (tgt := 9) hx hb d_RR_item_1 (by decide) (fun c_1 => ?_) (fun c_1 => ?_)
  · exact absurd c_1 (nI_pos (by omega))
    
  · refine lv_iload_n hx hb d_RR_item_4 rfl (lv_at hl 1 rfl) ?_
    refine lv_iconst (v := nI 3) hx hb d_RR_item_5 (by decide) ?_
    refine lv_icmp_le (tgt := 19) hx hb d_RR_item_6 (by decide) (fun c_6 => ?_) (fun c_6 => ?_)
    · have c_6 : kd ≤ 3 := (nI_leI (by omega) (by omega)).mp c_6
      refine lv_iload_n hx hb d_RR_item_19 rfl (lv_at hl 1 rfl) ?_
      refine lv_iconst (v := nI 2) hx hb d_RR_item_20 (by decide) ?_
      refine lv_icmp_eq (tgt := 29) hx hb d_RR_item_21 (by decide) (fun c_21 => ?_) (fun c_21 => ?_)
      · have c_21 : kd = 2 :=  (nI_eq (by omega) (by omega)).mp c_21
        omega
      · have c_21 : ¬ kd = 2 := mt (nI_eq (by omega) (by omega)).mpr c_21
        refine lv_iload_n hx hb d_RR_item_24 rfl (lv_at hl 1 rfl) ?_
        refine lv_iconst (v := nI 3) hx hb d_RR_item_25 (by decide) ?_
        refine lv_icmp_ne (tgt := 33) hx hb d_RR_item_26 (by decide) (fun c_26 => ?_) (fun c_26 => ?_)
        · have c_26 : ¬ kd = 3 := mt (nI_eq (by omega) (by omega)).mpr c_26
          refine lv_iconst (v := nI 0) hx hb d_RR_item_33 (by decide) ?_
          refine lv_istore (lv' := [(6, .int (nI 0)), (0, .ref rr), (1, .int (nI kd)), (2, .int (nI rl)), (3, .int (nI a)), (4, .int (nI b)), (5, .int (nI cz))]) hx hb d_RR_item_34 hl (by decide) rfl (fun ls hl => ?_)
          refine lv_iload hx hb d_RR_item_36 (lv_at hl 0 rfl) ?_
          refine lv_if_eq (tgt := 53) hx hb d_RR_item_38 (by decide) (fun c_38 => ?_) (fun c_38 => ?_)
          · have c_38 : 0 = 0 := gs_z (by omega) c_38
            refine lv_aload_n hx hb d_RR_item_53 rfl (lv_at hl 1 rfl) ?_
            refine lv_iload_n hx hb d_RR_item_54 rfl (lv_at hl 3 rfl) ?_
            refine lv_iload_n hx hb d_RR_item_55 rfl (lv_at hl 4 rfl) ?_
            refine lv_iload hx hb d_RR_item_56 (lv_at hl 5 rfl) ?_
            refine lv_iload hx hb d_RR_item_58 (lv_at hl 6 rfl) ?_
            refine gs_callVpv (As := [.int (nI rl), .int (nI a), .int (nI b), .int (nI cz)]) (rest := []) ⟨hx, hb, hml, hown, hts⟩ hK hE hz hG hS (c_RR_requireTerms l X σ rr bk tu ma dv co ru sr nr nq fc sc (.ref d) cf cw rl ((nI a)) ((nI b)) ((nI cz)) x0 x1 hnr x2 hrl hcf hcw hok) ⟨rfl, rfl⟩ mV_RR_requireTerms w_430 x0 rfl rfl hl.1 rfl (Nat.le_of_ble_eq_true rfl) ⟨(by first | decide | omega | (dsimp only [headSpec]; omega)), (by first | decide | omega | (dsimp only [headSpec]; omega))⟩ ⟨(by first | decide | omega | (dsimp only [headSpec]; omega)), (by first | decide | omega | (dsimp only [headSpec]; omega))⟩ d_RR_item_60 ?_
            refine lv_aload_n hx hb d_RR_item_63 rfl (lv_at hl 1 rfl) ?_
            refine gs_get hx hb ht hown hK hG k_RR x0 5 (by decide) w_142 rfl d_RR_item_64 ?_
            refine lv_ifnonnull (tgt := 80) hx hb d_RR_item_67 (by decide) ?_
            refine lv_aload_n hx hb d_RR_item_80 rfl (lv_at hl 1 rfl) ?_
            refine gs_get hx hb ht hown hK hG k_RR x0 5 (by decide) w_142 rfl d_RR_item_81 ?_
            refine lv_iload_n hx hb d_RR_item_84 rfl (lv_at hl 2 rfl) ?_
            refine gs_callVp (As := [.int (nI kd)]) (rest := []) ⟨hx, hb, hml, hown, hts⟩ hK hE hz hG hS (c_RU_hasRoomFor_p l X σ d hd ho ck kf n k kd r0 (by omega) (by omega) (by omega)) ⟨rfl, rfl⟩ mV_RU_hasRoomFor w_537 r0 rfl rfl hl.1 rfl (Nat.le_of_ble_eq_true rfl) ⟨(by first | decide | omega | (dsimp only [headSpec]; omega)), (by first | decide | omega | (dsimp only [headSpec]; omega))⟩ ⟨(by first | decide | omega | (dsimp only [headSpec]; omega)), (by first | decide | omega | (dsimp only [headSpec]; omega))⟩ d_RR_item_85 (fun r_85 hp_85 => ?_)
            refine gs_top (show r_85 = (bI (decide (n + k < 6 ∧ (kd ≠ 0 ∨ n < 3)))) from hp_85) ?_
            refine lv_if_ne (tgt := 101) hx hb d_RR_item_88 (by decide) (fun c_88 => ?_) (fun c_88 => ?_)
            · refine lv_aload_n hx hb d_RR_item_101 rfl (lv_at hl 1 rfl) ?_
              refine gs_get hx hb ht hown hK hG k_RR x0 5 (by decide) w_142 rfl d_RR_item_102 ?_
              refine gs_new (fs := [.int 0, .int 0, .int 0, .int 0, .int 0, .int 0, .int 0, .int 0, .int 0]) hx hb ht hown hK hG hS hA k_IT w_437 w_438 w_15 (fun j hj => by (rcases (show j = 0 ∨ j = 1 ∨ j = 2 ∨ j = 3 ∨ j = 4 ∨ j = 5 ∨ j = 6 ∨ j = 7 ∨ j = 8 by omega) with rfl | rfl | rfl | rfl | rfl | rfl | rfl | rfl | rfl <;> rfl)) (by first | decide | omega) (by first | decide | omega) d_RR_item_105 (fun q_1 H hq_1 hG hS => ?_)
              obtain ⟨σ_2, eσ_2⟩ : ∃ zq, zq = gs_up σ q_1 (gs_ob 2 [.int 0, .int 0, .int 0, .int 0, .int 0, .int 0, .int 0, .int 0, .int 0]) := ⟨_, rfl⟩
              have hG : gs_H X (gs_up σ q_1 (gs_ob 2 [.int 0, .int 0, .int 0, .int 0, .int 0, .int 0, .int 0, .int 0, .int 0])) H := hG
              rw [← eσ_2] at hG
              have hz_3 : σ q_1 = none := fr0.none_ (al_cons r0 (al_cons r2 al_nil)) hq_1
              have hne_5 : rr ≠ q_1 := fun z => by rw [z, hq_1] at x0; cases x0
              have hc_4 : σ_2 rr = some (gs_ob 0 [.ref bk, .ref tu, .ref ma, .ref dv, .int (nI fc), .ref d]) := by rw [eσ_2]; exact gs_ku hne_5 x0
              have hne_7 : bk ≠ q_1 := fun z => by rw [z, hq_1] at x1; cases x1
              have hc_6 : σ_2 bk = some (gs_ob 5 [.ref co, .ref ru, .ref sr, .int (nI nr), .int (nI nq), .int sc]) := by rw [eσ_2]; exact gs_ku hne_7 x1
              have hne_9 : co ≠ q_1 := fun z => by rw [z, hq_1] at x2; cases x2
              have hc_8 : σ_2 co = some (gs_ia X 12 cf) := by rw [eσ_2]; exact gs_ku hne_9 x2
              have hne_11 : d ≠ q_1 := fun z => by rw [z, hq_1] at r0; cases r0
              have hc_10 : σ_2 d = some (gs_ob 4 [.ref hd, .ref ho, .ref ck, .int (nI n), .int (nI k), .ref kf]) := by rw [eσ_2]; exact gs_ku hne_11 r0
              have hne_13 : ho ≠ q_1 := fun z => by rw [z, hq_1] at r1; cases r1
              have hc_12 : σ_2 ho = some (gs_qa X 3 3 fH) := by rw [eσ_2]; exact gs_ku hne_13 r1
              have hne_15 : ck ≠ q_1 := fun z => by rw [z, hq_1] at r2; cases r2
              have hc_14 : σ_2 ck = some (gs_qa X 3 6 fC) := by rw [eσ_2]; exact gs_ku hne_15 r2
              have hne_17 : kf ≠ q_1 := fun z => by rw [z, hq_1] at r3; cases r3
              have hc_16 : σ_2 kf = some (gs_ia X 8 kv) := by rw [eσ_2]; exact gs_ku hne_17 r3
              have hc_18 : σ_2 q_1 = some (gs_ob 2 [.int 0, .int 0, .int 0, .int 0, .int 0, .int 0, .int 0, .int 0, .int 0]) := by rw [eσ_2]; exact gs_us
              have fr_19 : frm [d, ck] σ σ_2 := by rw [eσ_2]; exact fr0.born hq_1
              refine lv_dup hx hb d_RR_item_108 rfl ?_
              refine lv_iload_n hx hb d_RR_item_109 rfl (lv_at hl 2 rfl) ?_
              refine lv_iload_n hx hb d_RR_item_110 rfl (lv_at hl 3 rfl) ?_
              refine lv_iload hx hb d_RR_item_111 (lv_at hl 0 rfl) ?_
              refine lv_if_eq (tgt := 120) hx hb d_RR_item_113 (by decide) (fun c_113 => ?_) (fun c_113 => ?_)
              · have c_113 : 0 = 0 := gs_z (by omega) c_113
                refine lv_aload_n hx hb d_RR_item_120 rfl (lv_at hl 1 rfl) ?_
                refine gs_get hx hb ht hown hK hG k_RR hc_4 0 (by decide) w_137 rfl d_RR_item_121 ?_
                refine gs_get hx hb ht hown hK hG k_RB hc_6 0 (by decide) w_33 rfl d_RR_item_124 ?_
                refine lv_iload_n hx hb d_RR_item_127 rfl (lv_at hl 3 rfl) ?_
                refine gs_iald hx hb hK hG hc_8 (j := rl) (by omega) (by omega) d_RR_item_128 ?_
                refine gs_top (show (cf rl) = (nI (cw rl)) from hcf) ?_
                refine lv_iload_n hx hb d_RR_item_129 rfl (lv_at hl 4 rfl) ?_
                refine lv_iload hx hb d_RR_item_130 (lv_at hl 5 rfl) ?_
                refine lv_iload hx hb d_RR_item_132 (lv_at hl 6 rfl) ?_
                refine gs_callIv (As := [.int (nI kd), .int (nI rl), .int (nI (cw rl)), .int (nI a), .int (nI b), .int (nI cz)]) (rest := [.ref q_1, .ref d]) ⟨hx, hb, hml, hown, hts⟩ hK hE hz hG hS (c_IT_init l X σ_2 q_1 kd rl (cw rl) a b cz hc_18) mI_IT_init w_439 rfl hl.1 rfl (Nat.le_of_ble_eq_true rfl) ⟨(by first | decide | omega | (dsimp only [headSpec]; omega)), (by first | decide | omega | (dsimp only [headSpec]; omega))⟩ ⟨(by first | decide | omega | (dsimp only [headSpec]; omega)), (by first | decide | omega | (dsimp only [headSpec]; omega))⟩ d_RR_item_134 (fun σ_134 H locs hp_134 hG hS => ?_)
                rw [hp_134] at hG
                have hG : gs_H X (gs_up σ_2 q_1 (gs_ob 2 [.int (nI kd), .int (nI rl), .int (nI (cw rl)), .int (nI a), .int (nI b), .int (nI cz), .int (nI 0), .int (nI (cw rl)), .int (nI 0)])) H := hG
                obtain ⟨σ_20, eσ_20⟩ : ∃ zq, zq = gs_up σ_2 q_1 (gs_ob 2 [.int (nI kd), .int (nI rl), .int (nI (cw rl)), .int (nI a), .int (nI b), .int (nI cz), .int (nI 0), .int (nI (cw rl)), .int (nI 0)]) := ⟨_, rfl⟩
                rw [← eσ_20] at hG
                have hc_21 : σ_20 rr = some (gs_ob 0 [.ref bk, .ref tu, .ref ma, .ref dv, .int (nI fc), .ref d]) := by rw [eσ_20]; exact gs_ku hne_5 hc_4
                have hc_22 : σ_20 bk = some (gs_ob 5 [.ref co, .ref ru, .ref sr, .int (nI nr), .int (nI nq), .int sc]) := by rw [eσ_20]; exact gs_ku hne_7 hc_6
                have hc_23 : σ_20 co = some (gs_ia X 12 cf) := by rw [eσ_20]; exact gs_ku hne_9 hc_8
                have hc_24 : σ_20 d = some (gs_ob 4 [.ref hd, .ref ho, .ref ck, .int (nI n), .int (nI k), .ref kf]) := by rw [eσ_20]; exact gs_ku hne_11 hc_10
                have hc_25 : σ_20 ho = some (gs_qa X 3 3 fH) := by rw [eσ_20]; exact gs_ku hne_13 hc_12
                have hc_26 : σ_20 ck = some (gs_qa X 3 6 fC) := by rw [eσ_20]; exact gs_ku hne_15 hc_14
                have hc_27 : σ_20 kf = some (gs_ia X 8 kv) := by rw [eσ_20]; exact gs_ku hne_17 hc_16
                have hc_28 : σ_20 q_1 = some (gs_ob 2 [.int (nI kd), .int (nI rl), .int (nI (cw rl)), .int (nI a), .int (nI b), .int (nI cz), .int (nI 0), .int (nI (cw rl)), .int (nI 0)]) := by rw [eσ_20]; exact gs_us
                have fr_29 : frm [d, ck] σ σ_20 := by rw [eσ_20]; exact fr_19.upN hz_3
                have htm : ∀ j, tm (((kd, rl, cw rl), (a, b, cz), (0, cw rl, nI 0)) : It) j < 72 := fun j => by unfold tm; dsimp only; split; exact ha; split; exact hb9; exact hc9
                refine gs_callVv (As := [.ref q_1]) (rest := []) ⟨hx, hb, hml, hown, hts⟩ hK hE hz hG hS (c_RU_add l X σ_20 d hd ho ck kf n k q_1 fH fC kv kn ((kd, rl, cw rl), (a, b, cz), (0, cw rl, nI 0)) hc_24 hc_25 hc_26 hc_27 hkn hc_28 (by show kd ≤ 3; omega) (by show cw rl ≤ 3; omega) (by show 1 ≤ cw rl; omega) htm (show (0 : Nat) < 8 by decide) (bindI_64 rfl) hrm) mV_RU_add w_546 hc_24 rfl rfl hl.1 rfl (Nat.le_of_ble_eq_true rfl) ⟨(by first | decide | omega | (dsimp only [headSpec]; omega)), (by first | decide | omega | (dsimp only [headSpec]; omega))⟩ ⟨(by first | decide | omega | (dsimp only [headSpec]; omega)), (by first | decide | omega | (dsimp only [headSpec]; omega))⟩ d_RR_item_137 (fun σ_137 H locs hp_137 hG hS => ?_)
                rw [hp_137.1 (show kd ≠ 0 by omega)] at hG
                obtain ⟨σ_30, eσ_30⟩ : ∃ zq, zq = gs_up σ_20 ck (gs_qa X 3 6 (va_up fC k (some q_1))) := ⟨_, rfl⟩
                have hc_31 : σ_30 rr = some (gs_ob 0 [.ref bk, .ref tu, .ref ma, .ref dv, .int (nI fc), .ref d]) := by rw [eσ_30]; exact gs_ku (gs_ne hc_21 hc_26 (by simp)) hc_21
                have hc_32 : σ_30 bk = some (gs_ob 5 [.ref co, .ref ru, .ref sr, .int (nI nr), .int (nI nq), .int sc]) := by rw [eσ_30]; exact gs_ku (gs_ne hc_22 hc_26 (by simp)) hc_22
                have hc_33 : σ_30 co = some (gs_ia X 12 cf) := by rw [eσ_30]; exact gs_ku (gs_ne hc_23 hc_26 (by simp)) hc_23
                have hc_34 : σ_30 d = some (gs_ob 4 [.ref hd, .ref ho, .ref ck, .int (nI n), .int (nI k), .ref kf]) := by rw [eσ_30]; exact gs_ku (gs_ne hc_24 hc_26 (by simp)) hc_24
                have hc_35 : σ_30 ho = some (gs_qa X 3 3 fH) := by rw [eσ_30]; exact gs_ku (gs_ne hc_25 hc_26 (by simp)) hc_25
                have hc_36 : σ_30 kf = some (gs_ia X 8 kv) := by rw [eσ_30]; exact gs_ku (gs_ne hc_27 hc_26 (by simp)) hc_27
                have hc_37 : σ_30 q_1 = some (gs_ob 2 [.int (nI kd), .int (nI rl), .int (nI (cw rl)), .int (nI a), .int (nI b), .int (nI cz), .int (nI 0), .int (nI (cw rl)), .int (nI 0)]) := by rw [eσ_30]; exact gs_ku (Ne.symm hne_15) hc_28
                have hc_38 : σ_30 ck = some (gs_qa X 3 6 (va_up fC k (some q_1))) := by rw [eσ_30]; exact gs_us
                have fr_39 : frm [d, ck] σ σ_30 := by rw [eσ_30]; exact fr_29.up (by simp)
                obtain ⟨σ_40, eσ_40⟩ : ∃ zq, zq = gs_up σ_30 d (gs_ob 4 [.ref hd, .ref ho, .ref ck, .int (nI n), .int (nI (k + 1)), .ref kf]) := ⟨_, rfl⟩
                have hc_41 : σ_40 rr = some (gs_ob 0 [.ref bk, .ref tu, .ref ma, .ref dv, .int (nI fc), .ref d]) := by rw [eσ_40]; exact gs_ku (gs_ne hc_31 hc_34 (by simp)) hc_31
                have hc_42 : σ_40 bk = some (gs_ob 5 [.ref co, .ref ru, .ref sr, .int (nI nr), .int (nI nq), .int sc]) := by rw [eσ_40]; exact gs_ku (gs_ne hc_32 hc_34 (by simp)) hc_32
                have hc_43 : σ_40 co = some (gs_ia X 12 cf) := by rw [eσ_40]; exact gs_ku (gs_ne hc_33 hc_34 (by simp)) hc_33
                have hc_44 : σ_40 ho = some (gs_qa X 3 3 fH) := by rw [eσ_40]; exact gs_ku (gs_ne hc_35 hc_34 (by simp)) hc_35
                have hc_45 : σ_40 kf = some (gs_ia X 8 kv) := by rw [eσ_40]; exact gs_ku (gs_ne hc_36 hc_34 (by simp)) hc_36
                have hc_46 : σ_40 q_1 = some (gs_ob 2 [.int (nI kd), .int (nI rl), .int (nI (cw rl)), .int (nI a), .int (nI b), .int (nI cz), .int (nI 0), .int (nI (cw rl)), .int (nI 0)]) := by rw [eσ_40]; exact gs_ku (Ne.symm hne_11) hc_37
                have hc_47 : σ_40 ck = some (gs_qa X 3 6 (va_up fC k (some q_1))) := by rw [eσ_40]; exact gs_ku (gs_ne hc_38 hc_34 (by simp)) hc_38
                have hc_48 : σ_40 d = some (gs_ob 4 [.ref hd, .ref ho, .ref ck, .int (nI n), .int (nI (k + 1)), .ref kf]) := by rw [eσ_40]; exact gs_us
                have fr_49 : frm [d, ck] σ σ_40 := by rw [eσ_40]; exact fr_39.up (by simp)
                rw [← eσ_30, ← eσ_40] at hG
                refine lv_aload_n hx hb d_RR_item_140 rfl (lv_at hl 1 rfl) ?_
                refine gs_get hx hb ht hown hK hG k_RR hc_41 5 (by decide) w_142 rfl d_RR_item_141 ?_
                refine gs_callVp (As := []) (rest := []) ⟨hx, hb, hml, hown, hts⟩ hK hE hz hG hS (c_RU_itemCount_p l X σ_40 d hd ho ck kf (n) (k + 1) hc_48) ⟨rfl, rfl⟩ mV_RU_itemCount w_560 hc_48 rfl rfl hl.1 rfl (Nat.le_of_ble_eq_true rfl) ⟨(by first | decide | omega | (dsimp only [headSpec]; omega)), (by first | decide | omega | (dsimp only [headSpec]; omega))⟩ ⟨(by first | decide | omega | (dsimp only [headSpec]; omega)), (by first | decide | omega | (dsimp only [headSpec]; omega))⟩ d_RR_item_144 (fun r_144 hp_144 => ?_)
                refine gs_top (show r_144 = (nI (n + (k + 1))) from hp_144) ?_
                exact gs_iret (v := (nI (n + (k + 1)))) hx hb hr rfl hK hE hz hG hS hlocks (by first | decide | omega | (dsimp only [headSpec]; omega)) (by first | decide | omega | (dsimp only [headSpec]; omega)) (⟨q_1, hz_3, hc_48, hc_46, hc_47, fr_49, congrArg nI (by omega)⟩) d_RR_item_147
              · exact absurd c_113 (by decide)
            · exact absurd hrm (of_decide_eq_false (bI_0 c_88))
          · exact absurd c_38 (by decide)
        · have c_26 : kd = 3 :=  (nI_eq (by omega) (by omega)).mp c_26
          omega
    · have c_6 : ¬ kd ≤ 3 := mt (nI_leI (by omega) (by omega)).mpr c_6
      omega
set_option maxHeartbeats 4000000 in
set_option maxRecDepth 100000 in
/-- RuleRounds.item (c) -/
theorem c_RR_item_ic (l : Launch) (X : gs_X) (σ : gs_St) (rr bk tu ma dv co ru sr nr nq fc : Nat) (sc : Int32) (d hd ho ck kf n k : Nat) (fH fC : Nat → Option Nat) (kv : Nat → Int32) (kn : Nat → Nat) (kd a b cz : Nat)
    (x0 : σ rr = some (gs_ob 0 [.ref bk, .ref tu, .ref ma, .ref dv, .int (nI fc), .ref d])) (x1 : σ bk = some (gs_ob 5 [.ref co, .ref ru, .ref sr, .int (nI nr), .int (nI nq), .int sc])) (hnr : nr ≤ 12) (r0 : σ d = some (gs_ob 4 [.ref hd, .ref ho, .ref ck, .int (nI n), .int (nI k), .ref kf])) (hn : n ≤ 3) (hk : k ≤ 6) (r1 : σ ho = some (gs_qa X 3 3 fH)) (r2 : σ ck = some (gs_qa X 3 6 fC)) (r3 : σ kf = some (gs_ia X 8 kv)) (hkn : kOK kv kn) (hkd : kd = 2 ∨ kd = 3) (ha : a < 72) (hb9 : b < 72) (hc9 : cz < 72) (hok : wi3 72 2 (nI a) (nI b) (nI cz) = true) (hrm : n + k < 6 ∧ (kd ≠ 0 ∨ n < 3)) : gs_Mi l X y_RR_item b_RR_item 7 (some .int) ({ frames := 4, cells := 1, slots := 9, locals := 106 }) σ [.ref rr, .int (nI kd), .int (nI 0), .int (nI a), .int (nI b), .int (nI cz)] (fun r σ' => ∃ b9, σ b9 = none ∧ σ' d = some (gs_ob 4 [.ref hd, .ref ho, .ref ck, .int (nI n), .int (nI (k + 1)), .ref kf]) ∧ σ' b9 = some (itE ((kd, 0, 2), (a, b, cz), (0, 2, nI 0))) ∧ σ' ck = some (gs_qa X 3 6 (va_up fC k (some b9))) ∧ frm [d, ck] σ σ' ∧ r = nI (n + k + 1)) := by
  refine Met.ofW (cc := b_RR_item) (maxL := 7) (ret := (some .int)) (by decide) rfl ?_
  intro p e s m args below meth c s₁ B₀ hml hv
  obtain ⟨rfl, hK, hG, hz, hE⟩ := hv
  have hx := B₀.exec
  have hb := B₀.bytes
  have hr := B₀.returns
  have hts := atoms_spec (ws := gs_ws y_RR_item b_RR_item 7 (some .int)) B₀.pre
  have ht : ∀ w ∈ gs_w, w.before _ s = true := fun w h => hts w (List.mem_cons_of_mem _ h)
  have hown : s.vm.findClass R_RR = some m.cls := findClass_of_methodNamed B₀.named
  have hlocks := B₀.notSynchronized
  have hA : ∀ q : Nat, s.heap.size ≤ q → gs_A X q := fun q h => Nat.le_trans hz h
  have hS : va_S (gs_A X) s.heap s.heap [] := va_S.rf
  have hl := lv_entry ([.ref rr, .int (nI kd), .int (nI 0), .int (nI a), .int (nI b), .int (nI cz)]) (n := 7) (Nat.le_of_ble_eq_true rfl)
  rw [lg_entry_eq]
  generalize (lg_sl ([.ref rr, .int (nI kd), .int (nI 0), .int (nI a), .int (nI b), .int (nI cz)]) ++ List.replicate (7 - (lg_sl ([.ref rr, .int (nI kd), .int (nI 0), .int (nI a), .int (nI b), .int (nI cz)])).length) Slot.unset).toArray = ls at hl ⊢
  have hl : lv_has ls 7 [(0, .ref rr), (1, .int (nI kd)), (2, .int (nI 0)), (3, .int (nI a)), (4, .int (nI b)), (5, .int (nI cz))] := hl
  have fr0 : frm [d, ck] σ σ := frm.rf
  refine lv_iload_n hx hb d_RR_item_0 rfl (lv_at hl 1 rfl) ?_
  refine lv_if_lt (tgt := 9) hx hb d_RR_item_1 (by decide) (fun c_1 => ?_) (fun c_1 => ?_)
  · exact absurd c_1 (nI_pos (by omega))
    
  · refine lv_iload_n hx hb d_RR_item_4 rfl (lv_at hl 1 rfl) ?_
    refine lv_iconst (v := nI 3) hx hb d_RR_item_5 (by decide) ?_
    refine lv_icmp_le (tgt := 19) hx hb d_RR_item_6 (by decide) (fun c_6 => ?_) (fun c_6 => ?_)
    · have c_6 : kd ≤ 3 := (nI_leI (by omega) (by omega)).mp c_6
      refine lv_iload_n hx hb d_RR_item_19 rfl (lv_at hl 1 rfl) ?_
      refine lv_iconst (v := nI 2) hx hb d_RR_item_20 (by decide) ?_
      refine lv_icmp_eq (tgt := 29) hx hb d_RR_item_21 (by decide) (fun c_21 => ?_) (fun c_21 => ?_)
      · have c_21 : kd = 2 :=  (nI_eq (by omega) (by omega)).mp c_21
        refine lv_iconst (v := nI 1) hx hb d_RR_item_29 (by decide) ?_
        refine lv_goto (tgt := 34) hx hb d_RR_item_30 (by decide) ?_
        refine lv_istore (lv' := [(6, .int (nI 1)), (0, .ref rr), (1, .int (nI kd)), (2, .int (nI 0)), (3, .int (nI a)), (4, .int (nI b)), (5, .int (nI cz))]) hx hb d_RR_item_34 hl (by decide) rfl (fun ls hl => ?_)
        refine lv_iload hx hb d_RR_item_36 (lv_at hl 0 rfl) ?_
        refine lv_if_eq (tgt := 53) hx hb d_RR_item_38 (by decide) (fun c_38 => ?_) (fun c_38 => ?_)
        · exact absurd c_38 (by decide)
        · have c_38 : ¬ 1 = 0 := gs_zn (by omega) c_38
          refine lv_iload_n hx hb d_RR_item_41 rfl (lv_at hl 3 rfl) ?_
          refine lv_iload_n hx hb d_RR_item_42 rfl (lv_at hl 4 rfl) ?_
          refine lv_iload hx hb d_RR_item_43 (lv_at hl 5 rfl) ?_
          refine lv_iload hx hb d_RR_item_45 (lv_at hl 6 rfl) ?_
          refine gs_callSpv (As := [.int (nI 0), .int (nI a), .int (nI b), .int (nI cz)]) (rest := []) ⟨hx, hb, hml, hown, hts⟩ hK hE hz hG hS (c_RR_requireComparison l X σ ((nI 0)) ((nI a)) ((nI b)) ((nI cz)) rfl hok) ⟨rfl, rfl⟩ mS_RR_requireComparison w_532 rfl hl.1 rfl (Nat.le_of_ble_eq_true rfl) ⟨(by first | decide | omega | (dsimp only [headSpec]; omega)), (by first | decide | omega | (dsimp only [headSpec]; omega))⟩ ⟨(by first | decide | omega | (dsimp only [headSpec]; omega)), (by first | decide | omega | (dsimp only [headSpec]; omega))⟩ d_RR_item_47 ?_
          refine lv_goto (tgt := 63) hx hb d_RR_item_50 (by decide) ?_
          refine lv_aload_n hx hb d_RR_item_63 rfl (lv_at hl 1 rfl) ?_
          refine gs_get hx hb ht hown hK hG k_RR x0 5 (by decide) w_142 rfl d_RR_item_64 ?_
          refine lv_ifnonnull (tgt := 80) hx hb d_RR_item_67 (by decide) ?_
          refine lv_aload_n hx hb d_RR_item_80 rfl (lv_at hl 1 rfl) ?_
          refine gs_get hx hb ht hown hK hG k_RR x0 5 (by decide) w_142 rfl d_RR_item_81 ?_
          refine lv_iload_n hx hb d_RR_item_84 rfl (lv_at hl 2 rfl) ?_
          refine gs_callVp (As := [.int (nI kd)]) (rest := []) ⟨hx, hb, hml, hown, hts⟩ hK hE hz hG hS (c_RU_hasRoomFor_p l X σ d hd ho ck kf n k kd r0 (by omega) (by omega) (by omega)) ⟨rfl, rfl⟩ mV_RU_hasRoomFor w_537 r0 rfl rfl hl.1 rfl (Nat.le_of_ble_eq_true rfl) ⟨(by first | decide | omega | (dsimp only [headSpec]; omega)), (by first | decide | omega | (dsimp only [headSpec]; omega))⟩ ⟨(by first | decide | omega | (dsimp only [headSpec]; omega)), (by first | decide | omega | (dsimp only [headSpec]; omega))⟩ d_RR_item_85 (fun r_85 hp_85 => ?_)
          refine gs_top (show r_85 = (bI (decide (n + k < 6 ∧ (kd ≠ 0 ∨ n < 3)))) from hp_85) ?_
          refine lv_if_ne (tgt := 101) hx hb d_RR_item_88 (by decide) (fun c_88 => ?_) (fun c_88 => ?_)
          · refine lv_aload_n hx hb d_RR_item_101 rfl (lv_at hl 1 rfl) ?_
            refine gs_get hx hb ht hown hK hG k_RR x0 5 (by decide) w_142 rfl d_RR_item_102 ?_
            refine gs_new (fs := [.int 0, .int 0, .int 0, .int 0, .int 0, .int 0, .int 0, .int 0, .int 0]) hx hb ht hown hK hG hS hA k_IT w_437 w_438 w_15 (fun j hj => by (rcases (show j = 0 ∨ j = 1 ∨ j = 2 ∨ j = 3 ∨ j = 4 ∨ j = 5 ∨ j = 6 ∨ j = 7 ∨ j = 8 by omega) with rfl | rfl | rfl | rfl | rfl | rfl | rfl | rfl | rfl <;> rfl)) (by first | decide | omega) (by first | decide | omega) d_RR_item_105 (fun q_1 H hq_1 hG hS => ?_)
            obtain ⟨σ_2, eσ_2⟩ : ∃ zq, zq = gs_up σ q_1 (gs_ob 2 [.int 0, .int 0, .int 0, .int 0, .int 0, .int 0, .int 0, .int 0, .int 0]) := ⟨_, rfl⟩
            have hG : gs_H X (gs_up σ q_1 (gs_ob 2 [.int 0, .int 0, .int 0, .int 0, .int 0, .int 0, .int 0, .int 0, .int 0])) H := hG
            rw [← eσ_2] at hG
            have hz_3 : σ q_1 = none := fr0.none_ (al_cons r0 (al_cons r2 al_nil)) hq_1
            have hne_5 : rr ≠ q_1 := fun z => by rw [z, hq_1] at x0; cases x0
            have hc_4 : σ_2 rr = some (gs_ob 0 [.ref bk, .ref tu, .ref ma, .ref dv, .int (nI fc), .ref d]) := by rw [eσ_2]; exact gs_ku hne_5 x0
            have hne_7 : bk ≠ q_1 := fun z => by rw [z, hq_1] at x1; cases x1
            have hc_6 : σ_2 bk = some (gs_ob 5 [.ref co, .ref ru, .ref sr, .int (nI nr), .int (nI nq), .int sc]) := by rw [eσ_2]; exact gs_ku hne_7 x1
            have hne_9 : d ≠ q_1 := fun z => by rw [z, hq_1] at r0; cases r0
            have hc_8 : σ_2 d = some (gs_ob 4 [.ref hd, .ref ho, .ref ck, .int (nI n), .int (nI k), .ref kf]) := by rw [eσ_2]; exact gs_ku hne_9 r0
            have hne_11 : ho ≠ q_1 := fun z => by rw [z, hq_1] at r1; cases r1
            have hc_10 : σ_2 ho = some (gs_qa X 3 3 fH) := by rw [eσ_2]; exact gs_ku hne_11 r1
            have hne_13 : ck ≠ q_1 := fun z => by rw [z, hq_1] at r2; cases r2
            have hc_12 : σ_2 ck = some (gs_qa X 3 6 fC) := by rw [eσ_2]; exact gs_ku hne_13 r2
            have hne_15 : kf ≠ q_1 := fun z => by rw [z, hq_1] at r3; cases r3
            have hc_14 : σ_2 kf = some (gs_ia X 8 kv) := by rw [eσ_2]; exact gs_ku hne_15 r3
            have hc_16 : σ_2 q_1 = some (gs_ob 2 [.int 0, .int 0, .int 0, .int 0, .int 0, .int 0, .int 0, .int 0, .int 0]) := by rw [eσ_2]; exact gs_us
            have fr_17 : frm [d, ck] σ σ_2 := by rw [eσ_2]; exact fr0.born hq_1
            refine lv_dup hx hb d_RR_item_108 rfl ?_
            refine lv_iload_n hx hb d_RR_item_109 rfl (lv_at hl 2 rfl) ?_
            refine lv_iload_n hx hb d_RR_item_110 rfl (lv_at hl 3 rfl) ?_
            refine lv_iload hx hb d_RR_item_111 (lv_at hl 0 rfl) ?_
            refine lv_if_eq (tgt := 120) hx hb d_RR_item_113 (by decide) (fun c_113 => ?_) (fun c_113 => ?_)
            · exact absurd c_113 (by decide)
            · have c_113 : ¬ 1 = 0 := gs_zn (by omega) c_113
              refine lv_iconst (v := nI 2) hx hb d_RR_item_116 (by decide) ?_
              refine lv_goto (tgt := 129) hx hb d_RR_item_117 (by decide) ?_
              refine lv_iload_n hx hb d_RR_item_129 rfl (lv_at hl 4 rfl) ?_
              refine lv_iload hx hb d_RR_item_130 (lv_at hl 5 rfl) ?_
              refine lv_iload hx hb d_RR_item_132 (lv_at hl 6 rfl) ?_
              refine gs_callIv (As := [.int (nI kd), .int (nI 0), .int (nI 2), .int (nI a), .int (nI b), .int (nI cz)]) (rest := [.ref q_1, .ref d]) ⟨hx, hb, hml, hown, hts⟩ hK hE hz hG hS (c_IT_init l X σ_2 q_1 kd 0 2 a b cz hc_16) mI_IT_init w_439 rfl hl.1 rfl (Nat.le_of_ble_eq_true rfl) ⟨(by first | decide | omega | (dsimp only [headSpec]; omega)), (by first | decide | omega | (dsimp only [headSpec]; omega))⟩ ⟨(by first | decide | omega | (dsimp only [headSpec]; omega)), (by first | decide | omega | (dsimp only [headSpec]; omega))⟩ d_RR_item_134 (fun σ_134 H locs hp_134 hG hS => ?_)
              rw [hp_134] at hG
              have hG : gs_H X (gs_up σ_2 q_1 (gs_ob 2 [.int (nI kd), .int (nI 0), .int (nI 2), .int (nI a), .int (nI b), .int (nI cz), .int (nI 0), .int (nI 2), .int (nI 0)])) H := hG
              obtain ⟨σ_18, eσ_18⟩ : ∃ zq, zq = gs_up σ_2 q_1 (gs_ob 2 [.int (nI kd), .int (nI 0), .int (nI 2), .int (nI a), .int (nI b), .int (nI cz), .int (nI 0), .int (nI 2), .int (nI 0)]) := ⟨_, rfl⟩
              rw [← eσ_18] at hG
              have hc_19 : σ_18 rr = some (gs_ob 0 [.ref bk, .ref tu, .ref ma, .ref dv, .int (nI fc), .ref d]) := by rw [eσ_18]; exact gs_ku hne_5 hc_4
              have hc_20 : σ_18 bk = some (gs_ob 5 [.ref co, .ref ru, .ref sr, .int (nI nr), .int (nI nq), .int sc]) := by rw [eσ_18]; exact gs_ku hne_7 hc_6
              have hc_21 : σ_18 d = some (gs_ob 4 [.ref hd, .ref ho, .ref ck, .int (nI n), .int (nI k), .ref kf]) := by rw [eσ_18]; exact gs_ku hne_9 hc_8
              have hc_22 : σ_18 ho = some (gs_qa X 3 3 fH) := by rw [eσ_18]; exact gs_ku hne_11 hc_10
              have hc_23 : σ_18 ck = some (gs_qa X 3 6 fC) := by rw [eσ_18]; exact gs_ku hne_13 hc_12
              have hc_24 : σ_18 kf = some (gs_ia X 8 kv) := by rw [eσ_18]; exact gs_ku hne_15 hc_14
              have hc_25 : σ_18 q_1 = some (gs_ob 2 [.int (nI kd), .int (nI 0), .int (nI 2), .int (nI a), .int (nI b), .int (nI cz), .int (nI 0), .int (nI 2), .int (nI 0)]) := by rw [eσ_18]; exact gs_us
              have fr_26 : frm [d, ck] σ σ_18 := by rw [eσ_18]; exact fr_17.upN hz_3
              have htm : ∀ j, tm (((kd, 0, 2), (a, b, cz), (0, 2, nI 0)) : It) j < 72 := fun j => by unfold tm; dsimp only; split; exact ha; split; exact hb9; exact hc9
              refine gs_callVv (As := [.ref q_1]) (rest := []) ⟨hx, hb, hml, hown, hts⟩ hK hE hz hG hS (c_RU_add l X σ_18 d hd ho ck kf n k q_1 fH fC kv kn ((kd, 0, 2), (a, b, cz), (0, 2, nI 0)) hc_21 hc_22 hc_23 hc_24 hkn hc_25 (by show kd ≤ 3; omega) (by show 2 ≤ 3; omega) (by show 1 ≤ 2; omega) htm (show (0 : Nat) < 8 by decide) (bindI_64 rfl) hrm) mV_RU_add w_546 hc_21 rfl rfl hl.1 rfl (Nat.le_of_ble_eq_true rfl) ⟨(by first | decide | omega | (dsimp only [headSpec]; omega)), (by first | decide | omega | (dsimp only [headSpec]; omega))⟩ ⟨(by first | decide | omega | (dsimp only [headSpec]; omega)), (by first | decide | omega | (dsimp only [headSpec]; omega))⟩ d_RR_item_137 (fun σ_137 H locs hp_137 hG hS => ?_)
              rw [hp_137.1 (show kd ≠ 0 by omega)] at hG
              obtain ⟨σ_27, eσ_27⟩ : ∃ zq, zq = gs_up σ_18 ck (gs_qa X 3 6 (va_up fC k (some q_1))) := ⟨_, rfl⟩
              have hc_28 : σ_27 rr = some (gs_ob 0 [.ref bk, .ref tu, .ref ma, .ref dv, .int (nI fc), .ref d]) := by rw [eσ_27]; exact gs_ku (gs_ne hc_19 hc_23 (by simp)) hc_19
              have hc_29 : σ_27 bk = some (gs_ob 5 [.ref co, .ref ru, .ref sr, .int (nI nr), .int (nI nq), .int sc]) := by rw [eσ_27]; exact gs_ku (gs_ne hc_20 hc_23 (by simp)) hc_20
              have hc_30 : σ_27 d = some (gs_ob 4 [.ref hd, .ref ho, .ref ck, .int (nI n), .int (nI k), .ref kf]) := by rw [eσ_27]; exact gs_ku (gs_ne hc_21 hc_23 (by simp)) hc_21
              have hc_31 : σ_27 ho = some (gs_qa X 3 3 fH) := by rw [eσ_27]; exact gs_ku (gs_ne hc_22 hc_23 (by simp)) hc_22
              have hc_32 : σ_27 kf = some (gs_ia X 8 kv) := by rw [eσ_27]; exact gs_ku (gs_ne hc_24 hc_23 (by simp)) hc_24
              have hc_33 : σ_27 q_1 = some (gs_ob 2 [.int (nI kd), .int (nI 0), .int (nI 2), .int (nI a), .int (nI b), .int (nI cz), .int (nI 0), .int (nI 2), .int (nI 0)]) := by rw [eσ_27]; exact gs_ku (Ne.symm hne_13) hc_25
              have hc_34 : σ_27 ck = some (gs_qa X 3 6 (va_up fC k (some q_1))) := by rw [eσ_27]; exact gs_us
              have fr_35 : frm [d, ck] σ σ_27 := by rw [eσ_27]; exact fr_26.up (by simp)
              obtain ⟨σ_36, eσ_36⟩ : ∃ zq, zq = gs_up σ_27 d (gs_ob 4 [.ref hd, .ref ho, .ref ck, .int (nI n), .int (nI (k + 1)), .ref kf]) := ⟨_, rfl⟩
              have hc_37 : σ_36 rr = some (gs_ob 0 [.ref bk, .ref tu, .ref ma, .ref dv, .int (nI fc), .ref d]) := by rw [eσ_36]; exact gs_ku (gs_ne hc_28 hc_30 (by simp)) hc_28
              have hc_38 : σ_36 bk = some (gs_ob 5 [.ref co, .ref ru, .ref sr, .int (nI nr), .int (nI nq), .int sc]) := by rw [eσ_36]; exact gs_ku (gs_ne hc_29 hc_30 (by simp)) hc_29
              have hc_39 : σ_36 ho = some (gs_qa X 3 3 fH) := by rw [eσ_36]; exact gs_ku (gs_ne hc_31 hc_30 (by simp)) hc_31
              have hc_40 : σ_36 kf = some (gs_ia X 8 kv) := by rw [eσ_36]; exact gs_ku (gs_ne hc_32 hc_30 (by simp)) hc_32
              have hc_41 : σ_36 q_1 = some (gs_ob 2 [.int (nI kd), .int (nI 0), .int (nI 2), .int (nI a), .int (nI b), .int (nI cz), .int (nI 0), .int (nI 2), .int (nI 0)]) := by rw [eσ_36]; exact gs_ku (Ne.symm hne_9) hc_33
              have hc_42 : σ_36 ck = some (gs_qa X 3 6 (va_up fC k (some q_1))) := by rw [eσ_36]; exact gs_ku (gs_ne hc_34 hc_30 (by simp)) hc_34
              have hc_43 : σ_36 d = some (gs_ob 4 [.ref hd, .ref ho, .ref ck, .int (nI n), .int (nI (k + 1)), .ref kf]) := by rw [eσ_36]; exact gs_us
              have fr_44 : frm [d, ck] σ σ_36 := by rw [eσ_36]; exact fr_35.up (by simp)
              rw [← eσ_27, ← eσ_36] at hG
              refine lv_aload_n hx hb d_RR_item_140 rfl (lv_at hl 1 rfl) ?_
              refine gs_get hx hb ht hown hK hG k_RR hc_37 5 (by decide) w_142 rfl d_RR_item_141 ?_
              refine gs_callVp (As := []) (rest := []) ⟨hx, hb, hml, hown, hts⟩ hK hE hz hG hS (c_RU_itemCount_p l X σ_36 d hd ho ck kf (n) (k + 1) hc_43) ⟨rfl, rfl⟩ mV_RU_itemCount w_560 hc_43 rfl rfl hl.1 rfl (Nat.le_of_ble_eq_true rfl) ⟨(by first | decide | omega | (dsimp only [headSpec]; omega)), (by first | decide | omega | (dsimp only [headSpec]; omega))⟩ ⟨(by first | decide | omega | (dsimp only [headSpec]; omega)), (by first | decide | omega | (dsimp only [headSpec]; omega))⟩ d_RR_item_144 (fun r_144 hp_144 => ?_)
              refine gs_top (show r_144 = (nI (n + (k + 1))) from hp_144) ?_
              exact gs_iret (v := (nI (n + (k + 1)))) hx hb hr rfl hK hE hz hG hS hlocks (by first | decide | omega | (dsimp only [headSpec]; omega)) (by first | decide | omega | (dsimp only [headSpec]; omega)) (⟨q_1, hz_3, hc_43, hc_41, hc_42, fr_44, congrArg nI (by omega)⟩) d_RR_item_147
          · exact absurd hrm (of_decide_eq_false (bI_0 c_88))
      · have c_21 : ¬ kd = 2 := mt (nI_eq (by omega) (by omega)).mpr c_21
        refine lv_iload_n hx hb d_RR_item_24 rfl (lv_at hl 1 rfl) ?_
        refine lv_iconst (v := nI 3) hx hb d_RR_item_25 (by decide) ?_
        refine lv_icmp_ne (tgt := 33) hx hb d_RR_item_26 (by decide) (fun c_26 => ?_) (fun c_26 => ?_)
        · have c_26 : ¬ kd = 3 := mt (nI_eq (by omega) (by omega)).mpr c_26
          omega
        · have c_26 : kd = 3 :=  (nI_eq (by omega) (by omega)).mp c_26
          refine lv_iconst (v := nI 1) hx hb d_RR_item_29 (by decide) ?_
          refine lv_goto (tgt := 34) hx hb d_RR_item_30 (by decide) ?_
          refine lv_istore (lv' := [(6, .int (nI 1)), (0, .ref rr), (1, .int (nI kd)), (2, .int (nI 0)), (3, .int (nI a)), (4, .int (nI b)), (5, .int (nI cz))]) hx hb d_RR_item_34 hl (by decide) rfl (fun ls hl => ?_)
          refine lv_iload hx hb d_RR_item_36 (lv_at hl 0 rfl) ?_
          refine lv_if_eq (tgt := 53) hx hb d_RR_item_38 (by decide) (fun c_38 => ?_) (fun c_38 => ?_)
          · exact absurd c_38 (by decide)
          · have c_38 : ¬ 1 = 0 := gs_zn (by omega) c_38
            refine lv_iload_n hx hb d_RR_item_41 rfl (lv_at hl 3 rfl) ?_
            refine lv_iload_n hx hb d_RR_item_42 rfl (lv_at hl 4 rfl) ?_
            refine lv_iload hx hb d_RR_item_43 (lv_at hl 5 rfl) ?_
            refine lv_iload hx hb d_RR_item_45 (lv_at hl 6 rfl) ?_
            refine gs_callSpv (As := [.int (nI 0), .int (nI a), .int (nI b), .int (nI cz)]) (rest := []) ⟨hx, hb, hml, hown, hts⟩ hK hE hz hG hS (c_RR_requireComparison l X σ ((nI 0)) ((nI a)) ((nI b)) ((nI cz)) rfl hok) ⟨rfl, rfl⟩ mS_RR_requireComparison w_532 rfl hl.1 rfl (Nat.le_of_ble_eq_true rfl) ⟨(by first | decide | omega | (dsimp only [headSpec]; omega)), (by first | decide | omega | (dsimp only [headSpec]; omega))⟩ ⟨(by first | decide | omega | (dsimp only [headSpec]; omega)), (by first | decide | omega | (dsimp only [headSpec]; omega))⟩ d_RR_item_47 ?_
            refine lv_goto (tgt := 63) hx hb d_RR_item_50 (by decide) ?_
            refine lv_aload_n hx hb d_RR_item_63 rfl (lv_at hl 1 rfl) ?_
            refine gs_get hx hb ht hown hK hG k_RR x0 5 (by decide) w_142 rfl d_RR_item_64 ?_
            refine lv_ifnonnull (tgt := 80) hx hb d_RR_item_67 (by decide) ?_
            refine lv_aload_n hx hb d_RR_item_80 rfl (lv_at hl 1 rfl) ?_
            refine gs_get hx hb ht hown hK hG k_RR x0 5 (by decide) w_142 rfl d_RR_item_81 ?_
            refine lv_iload_n hx hb d_RR_item_84 rfl (lv_at hl 2 rfl) ?_
            refine gs_callVp (As := [.int (nI kd)]) (rest := []) ⟨hx, hb, hml, hown, hts⟩ hK hE hz hG hS (c_RU_hasRoomFor_p l X σ d hd ho ck kf n k kd r0 (by omega) (by omega) (by omega)) ⟨rfl, rfl⟩ mV_RU_hasRoomFor w_537 r0 rfl rfl hl.1 rfl (Nat.le_of_ble_eq_true rfl) ⟨(by first | decide | omega | (dsimp only [headSpec]; omega)), (by first | decide | omega | (dsimp only [headSpec]; omega))⟩ ⟨(by first | decide | omega | (dsimp only [headSpec]; omega)), (by first | decide | omega | (dsimp only [headSpec]; omega))⟩ d_RR_item_85 (fun r_85 hp_85 => ?_)
            refine gs_top (show r_85 = (bI (decide (n + k < 6 ∧ (kd ≠ 0 ∨ n < 3)))) from hp_85) ?_
            refine lv_if_ne (tgt := 101) hx hb d_RR_item_88 (by decide) (fun c_88 => ?_) (fun c_88 => ?_)
            · refine lv_aload_n hx hb d_RR_item_101 rfl (lv_at hl 1 rfl) ?_
              refine gs_get hx hb ht hown hK hG k_RR x0 5 (by decide) w_142 rfl d_RR_item_102 ?_
              refine gs_new (fs := [.int 0, .int 0, .int 0, .int 0, .int 0, .int 0, .int 0, .int 0, .int 0]) hx hb ht hown hK hG hS hA k_IT w_437 w_438 w_15 (fun j hj => by (rcases (show j = 0 ∨ j = 1 ∨ j = 2 ∨ j = 3 ∨ j = 4 ∨ j = 5 ∨ j = 6 ∨ j = 7 ∨ j = 8 by omega) with rfl | rfl | rfl | rfl | rfl | rfl | rfl | rfl | rfl <;> rfl)) (by first | decide | omega) (by first | decide | omega) d_RR_item_105 (fun q_45 H hq_45 hG hS => ?_)
              obtain ⟨σ_46, eσ_46⟩ : ∃ zq, zq = gs_up σ q_45 (gs_ob 2 [.int 0, .int 0, .int 0, .int 0, .int 0, .int 0, .int 0, .int 0, .int 0]) := ⟨_, rfl⟩
              have hG : gs_H X (gs_up σ q_45 (gs_ob 2 [.int 0, .int 0, .int 0, .int 0, .int 0, .int 0, .int 0, .int 0, .int 0])) H := hG
              rw [← eσ_46] at hG
              have hz_47 : σ q_45 = none := fr0.none_ (al_cons r0 (al_cons r2 al_nil)) hq_45
              have hne_49 : rr ≠ q_45 := fun z => by rw [z, hq_45] at x0; cases x0
              have hc_48 : σ_46 rr = some (gs_ob 0 [.ref bk, .ref tu, .ref ma, .ref dv, .int (nI fc), .ref d]) := by rw [eσ_46]; exact gs_ku hne_49 x0
              have hne_51 : bk ≠ q_45 := fun z => by rw [z, hq_45] at x1; cases x1
              have hc_50 : σ_46 bk = some (gs_ob 5 [.ref co, .ref ru, .ref sr, .int (nI nr), .int (nI nq), .int sc]) := by rw [eσ_46]; exact gs_ku hne_51 x1
              have hne_53 : d ≠ q_45 := fun z => by rw [z, hq_45] at r0; cases r0
              have hc_52 : σ_46 d = some (gs_ob 4 [.ref hd, .ref ho, .ref ck, .int (nI n), .int (nI k), .ref kf]) := by rw [eσ_46]; exact gs_ku hne_53 r0
              have hne_55 : ho ≠ q_45 := fun z => by rw [z, hq_45] at r1; cases r1
              have hc_54 : σ_46 ho = some (gs_qa X 3 3 fH) := by rw [eσ_46]; exact gs_ku hne_55 r1
              have hne_57 : ck ≠ q_45 := fun z => by rw [z, hq_45] at r2; cases r2
              have hc_56 : σ_46 ck = some (gs_qa X 3 6 fC) := by rw [eσ_46]; exact gs_ku hne_57 r2
              have hne_59 : kf ≠ q_45 := fun z => by rw [z, hq_45] at r3; cases r3
              have hc_58 : σ_46 kf = some (gs_ia X 8 kv) := by rw [eσ_46]; exact gs_ku hne_59 r3
              have hc_60 : σ_46 q_45 = some (gs_ob 2 [.int 0, .int 0, .int 0, .int 0, .int 0, .int 0, .int 0, .int 0, .int 0]) := by rw [eσ_46]; exact gs_us
              have fr_61 : frm [d, ck] σ σ_46 := by rw [eσ_46]; exact fr0.born hq_45
              refine lv_dup hx hb d_RR_item_108 rfl ?_
              refine lv_iload_n hx hb d_RR_item_109 rfl (lv_at hl 2 rfl) ?_
              refine lv_iload_n hx hb d_RR_item_110 rfl (lv_at hl 3 rfl) ?_
              refine lv_iload hx hb d_RR_item_111 (lv_at hl 0 rfl) ?_
              refine lv_if_eq (tgt := 120) hx hb d_RR_item_113 (by decide) (fun c_113 => ?_) (fun c_113 => ?_)
              · exact absurd c_113 (by decide)
              · have c_113 : ¬ 1 = 0 := gs_zn (by omega) c_113
                refine lv_iconst (v := nI 2) hx hb d_RR_item_116 (by decide) ?_
                refine lv_goto (tgt := 129) hx hb d_RR_item_117 (by decide) ?_
                refine lv_iload_n hx hb d_RR_item_129 rfl (lv_at hl 4 rfl) ?_
                refine lv_iload hx hb d_RR_item_130 (lv_at hl 5 rfl) ?_
                refine lv_iload hx hb d_RR_item_132 (lv_at hl 6 rfl) ?_
                refine gs_callIv (As := [.int (nI kd), .int (nI 0), .int (nI 2), .int (nI a), .int (nI b), .int (nI cz)]) (rest := [.ref q_45, .ref d]) ⟨hx, hb, hml, hown, hts⟩ hK hE hz hG hS (c_IT_init l X σ_46 q_45 kd 0 2 a b cz hc_60) mI_IT_init w_439 rfl hl.1 rfl (Nat.le_of_ble_eq_true rfl) ⟨(by first | decide | omega | (dsimp only [headSpec]; omega)), (by first | decide | omega | (dsimp only [headSpec]; omega))⟩ ⟨(by first | decide | omega | (dsimp only [headSpec]; omega)), (by first | decide | omega | (dsimp only [headSpec]; omega))⟩ d_RR_item_134 (fun σ_134 H locs hp_134 hG hS => ?_)
                rw [hp_134] at hG
                have hG : gs_H X (gs_up σ_46 q_45 (gs_ob 2 [.int (nI kd), .int (nI 0), .int (nI 2), .int (nI a), .int (nI b), .int (nI cz), .int (nI 0), .int (nI 2), .int (nI 0)])) H := hG
                obtain ⟨σ_62, eσ_62⟩ : ∃ zq, zq = gs_up σ_46 q_45 (gs_ob 2 [.int (nI kd), .int (nI 0), .int (nI 2), .int (nI a), .int (nI b), .int (nI cz), .int (nI 0), .int (nI 2), .int (nI 0)]) := ⟨_, rfl⟩
                rw [← eσ_62] at hG
                have hc_63 : σ_62 rr = some (gs_ob 0 [.ref bk, .ref tu, .ref ma, .ref dv, .int (nI fc), .ref d]) := by rw [eσ_62]; exact gs_ku hne_49 hc_48
                have hc_64 : σ_62 bk = some (gs_ob 5 [.ref co, .ref ru, .ref sr, .int (nI nr), .int (nI nq), .int sc]) := by rw [eσ_62]; exact gs_ku hne_51 hc_50
                have hc_65 : σ_62 d = some (gs_ob 4 [.ref hd, .ref ho, .ref ck, .int (nI n), .int (nI k), .ref kf]) := by rw [eσ_62]; exact gs_ku hne_53 hc_52
                have hc_66 : σ_62 ho = some (gs_qa X 3 3 fH) := by rw [eσ_62]; exact gs_ku hne_55 hc_54
                have hc_67 : σ_62 ck = some (gs_qa X 3 6 fC) := by rw [eσ_62]; exact gs_ku hne_57 hc_56
                have hc_68 : σ_62 kf = some (gs_ia X 8 kv) := by rw [eσ_62]; exact gs_ku hne_59 hc_58
                have hc_69 : σ_62 q_45 = some (gs_ob 2 [.int (nI kd), .int (nI 0), .int (nI 2), .int (nI a), .int (nI b), .int (nI cz), .int (nI 0), .int (nI 2), .int (nI 0)]) := by rw [eσ_62]; exact gs_us
                have fr_70 : frm [d, ck] σ σ_62 := by rw [eσ_62]; exact fr_61.upN hz_47
                have htm : ∀ j, tm (((kd, 0, 2), (a, b, cz), (0, 2, nI 0)) : It) j < 72 := fun j => by unfold tm; dsimp only; split; exact ha; split; exact hb9; exact hc9
                refine gs_callVv (As := [.ref q_45]) (rest := []) ⟨hx, hb, hml, hown, hts⟩ hK hE hz hG hS (c_RU_add l X σ_62 d hd ho ck kf n k q_45 fH fC kv kn ((kd, 0, 2), (a, b, cz), (0, 2, nI 0)) hc_65 hc_66 hc_67 hc_68 hkn hc_69 (by show kd ≤ 3; omega) (by show 2 ≤ 3; omega) (by show 1 ≤ 2; omega) htm (show (0 : Nat) < 8 by decide) (bindI_64 rfl) hrm) mV_RU_add w_546 hc_65 rfl rfl hl.1 rfl (Nat.le_of_ble_eq_true rfl) ⟨(by first | decide | omega | (dsimp only [headSpec]; omega)), (by first | decide | omega | (dsimp only [headSpec]; omega))⟩ ⟨(by first | decide | omega | (dsimp only [headSpec]; omega)), (by first | decide | omega | (dsimp only [headSpec]; omega))⟩ d_RR_item_137 (fun σ_137 H locs hp_137 hG hS => ?_)
                rw [hp_137.1 (show kd ≠ 0 by omega)] at hG
                obtain ⟨σ_71, eσ_71⟩ : ∃ zq, zq = gs_up σ_62 ck (gs_qa X 3 6 (va_up fC k (some q_45))) := ⟨_, rfl⟩
                have hc_72 : σ_71 rr = some (gs_ob 0 [.ref bk, .ref tu, .ref ma, .ref dv, .int (nI fc), .ref d]) := by rw [eσ_71]; exact gs_ku (gs_ne hc_63 hc_67 (by simp)) hc_63
                have hc_73 : σ_71 bk = some (gs_ob 5 [.ref co, .ref ru, .ref sr, .int (nI nr), .int (nI nq), .int sc]) := by rw [eσ_71]; exact gs_ku (gs_ne hc_64 hc_67 (by simp)) hc_64
                have hc_74 : σ_71 d = some (gs_ob 4 [.ref hd, .ref ho, .ref ck, .int (nI n), .int (nI k), .ref kf]) := by rw [eσ_71]; exact gs_ku (gs_ne hc_65 hc_67 (by simp)) hc_65
                have hc_75 : σ_71 ho = some (gs_qa X 3 3 fH) := by rw [eσ_71]; exact gs_ku (gs_ne hc_66 hc_67 (by simp)) hc_66
                have hc_76 : σ_71 kf = some (gs_ia X 8 kv) := by rw [eσ_71]; exact gs_ku (gs_ne hc_68 hc_67 (by simp)) hc_68
                have hc_77 : σ_71 q_45 = some (gs_ob 2 [.int (nI kd), .int (nI 0), .int (nI 2), .int (nI a), .int (nI b), .int (nI cz), .int (nI 0), .int (nI 2), .int (nI 0)]) := by rw [eσ_71]; exact gs_ku (Ne.symm hne_57) hc_69
                have hc_78 : σ_71 ck = some (gs_qa X 3 6 (va_up fC k (some q_45))) := by rw [eσ_71]; exact gs_us
                have fr_79 : frm [d, ck] σ σ_71 := by rw [eσ_71]; exact fr_70.up (by simp)
                obtain ⟨σ_80, eσ_80⟩ : ∃ zq, zq = gs_up σ_71 d (gs_ob 4 [.ref hd, .ref ho, .ref ck, .int (nI n), .int (nI (k + 1)), .ref kf]) := ⟨_, rfl⟩
                have hc_81 : σ_80 rr = some (gs_ob 0 [.ref bk, .ref tu, .ref ma, .ref dv, .int (nI fc), .ref d]) := by rw [eσ_80]; exact gs_ku (gs_ne hc_72 hc_74 (by simp)) hc_72
                have hc_82 : σ_80 bk = some (gs_ob 5 [.ref co, .ref ru, .ref sr, .int (nI nr), .int (nI nq), .int sc]) := by rw [eσ_80]; exact gs_ku (gs_ne hc_73 hc_74 (by simp)) hc_73
                have hc_83 : σ_80 ho = some (gs_qa X 3 3 fH) := by rw [eσ_80]; exact gs_ku (gs_ne hc_75 hc_74 (by simp)) hc_75
                have hc_84 : σ_80 kf = some (gs_ia X 8 kv) := by rw [eσ_80]; exact gs_ku (gs_ne hc_76 hc_74 (by simp)) hc_76
                have hc_85 : σ_80 q_45 = some (gs_ob 2 [.int (nI kd), .int (nI 0), .int (nI 2), .int (nI a), .int (nI b), .int (nI cz), .int (nI 0), .int (nI 2), .int (nI 0)]) := by rw [eσ_80]; exact gs_ku (Ne.symm hne_53) hc_77
                have hc_86 : σ_80 ck = some (gs_qa X 3 6 (va_up fC k (some q_45))) := by rw [eσ_80]; exact gs_ku (gs_ne hc_78 hc_74 (by simp)) hc_78
                have hc_87 : σ_80 d = some (gs_ob 4 [.ref hd, .ref ho, .ref ck, .int (nI n), .int (nI (k + 1)), .ref kf]) := by rw [eσ_80]; exact gs_us
                have fr_88 : frm [d, ck] σ σ_80 := by rw [eσ_80]; exact fr_79.up (by simp)
                rw [← eσ_71, ← eσ_80] at hG
                refine lv_aload_n hx hb d_RR_item_140 rfl (lv_at hl 1 rfl) ?_
                refine gs_get hx hb ht hown hK hG k_RR hc_81 5 (by decide) w_142 rfl d_RR_item_141 ?_
                refine gs_callVp (As := []) (rest := []) ⟨hx, hb, hml, hown, hts⟩ hK hE hz hG hS (c_RU_itemCount_p l X σ_80 d hd ho ck kf (n) (k + 1) hc_87) ⟨rfl, rfl⟩ mV_RU_itemCount w_560 hc_87 rfl rfl hl.1 rfl (Nat.le_of_ble_eq_true rfl) ⟨(by first | decide | omega | (dsimp only [headSpec]; omega)), (by first | decide | omega | (dsimp only [headSpec]; omega))⟩ ⟨(by first | decide | omega | (dsimp only [headSpec]; omega)), (by first | decide | omega | (dsimp only [headSpec]; omega))⟩ d_RR_item_144 (fun r_144 hp_144 => ?_)
                refine gs_top (show r_144 = (nI (n + (k + 1))) from hp_144) ?_
                exact gs_iret (v := (nI (n + (k + 1)))) hx hb hr rfl hK hE hz hG hS hlocks (by first | decide | omega | (dsimp only [headSpec]; omega)) (by first | decide | omega | (dsimp only [headSpec]; omega)) (⟨q_45, hz_47, hc_87, hc_85, hc_86, fr_88, congrArg nI (by omega)⟩) d_RR_item_147
            · exact absurd hrm (of_decide_eq_false (bI_0 c_88))
    · have c_6 : ¬ kd ≤ 3 := mt (nI_leI (by omega) (by omega)).mpr c_6
      omega
