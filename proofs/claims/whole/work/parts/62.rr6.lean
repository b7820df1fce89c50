set_option maxHeartbeats 4000000 in
set_option maxRecDepth 100000 in
/-- RuleRounds.relation -/
theorem c_RR_relation (l : Launch) (X : gs_X) (σ : gs_St) (rr dv bk tu ma la cm ac ai ab lc li lb mc mi mb va co ru sr nr sa rc fc : Nat) (dw : Value) (nw : Bool) (sc : Int32) (E : List En) (Lt : List Nat) (v S : Nat → Nat) (Q : List Rl) (cf : Nat → Int32) (wd : Nat)
    (hnd : [ac, ai, ab, lc, mc, mi, mb].Nodup) (hnd2 : [tu, la, cm].Nodup) (ncs : co ≠ sr) (x0 : σ rr = some (gs_ob 0 [.ref bk, .ref tu, .ref ma, .ref dv, .int (nI fc), dw])) (hdv : dvA X σ dv bk tu ma la cm ac ai ab lc li lb mc mi mb va E Lt v sa nw rc) (hbk : bkA X σ bk co ru sr nr sc Q S) (x2 : σ co = some (gs_ia X 12 cf)) (hnr : nr ≤ 12) (hlt : nr < 12) (hS0 : ∀ j, nr ≤ j → S j = 0) (hw1 : 1 ≤ wd) (hw3 : wd ≤ 3) : gs_Mi l X y_RR_relation b_RR_relation 2 (some .int) ({ frames := 5, cells := 0, slots := 0, locals := 130 }) σ [.ref rr, .int (nI wd)] (fun r σ' => dvA X σ' dv bk tu ma la cm ac ai ab lc li lb mc mi mb va (keepE E) Lt v 0 true 0 ∧ bkA X σ' bk co ru sr (nr + 1) (scI Q (nr + 1)) Q (fst Q (nr + 1)).1 ∧ σ' co = some (gs_ia X 12 (upd cf nr (nI wd))) ∧ frm [bk, co, sr, dv, tu, ac, ai, ab] σ σ' ∧ r = nI nr) := by
  refine Met.ofW (cc := b_RR_relation) (maxL := 2) (ret := (some .int)) (by decide) rfl ?_
  intro p e s m args below meth c s₁ B₀ hml hv
  obtain ⟨rfl, hK, hG, hz, hE⟩ := hv
  have hx := B₀.exec
  have hb := B₀.bytes
  have hr := B₀.returns
  have hts := atoms_spec (ws := gs_ws y_RR_relation b_RR_relation 2 (some .int)) B₀.pre
  have ht : ∀ w ∈ gs_w, w.before _ s = true := fun w h => hts w (List.mem_cons_of_mem _ h)
  have hown : s.vm.findClass R_RR = some m.cls := findClass_of_methodNamed B₀.named
  have hlocks := B₀.notSynchronized
  have hA : ∀ q : Nat, s.heap.size ≤ q → gs_A X q := fun q h => Nat.le_trans hz h
  have hS : va_S (gs_A X) s.heap s.heap [] := va_S.rf
  have hl := lv_entry ([.ref rr, .int (nI wd)]) (n := 2) (Nat.le_of_ble_eq_true rfl)
  rw [lg_entry_eq]
  generalize (lg_sl ([.ref rr, .int (nI wd)]) ++ List.replicate (2 - (lg_sl ([.ref rr, .int (nI wd)])).length) Slot.unset).toArray = ls at hl ⊢
  have hl : lv_has ls 2 [(0, .ref rr), (1, .int (nI wd))] := hl
  obtain ⟨cs, ci, cr, ds, vs, a9, b9, c9, z9, d0, t0, t1, t2, t3, l0, l1, m0, m1, m2, m3, q0, q1, hB, hR, hl3, hs2, hn2, hds, hv⟩ := id hdv
  obtain ⟨fR, sf, k0, k2, k3, hQl, hsO, hQ⟩ := id hbk
  have fr0 : frm [bk, co, sr, dv, tu, ac, ai, ab] σ σ := frm.rf
  refine lv_iload_n hx hb d_RR_relation_0 rfl (lv_at hl 1 rfl) ?_
  refine lv_iconst (v := nI 1) hx hb d_RR_relation_1 (by decide) ?_
  refine lv_icmp_lt (tgt := 10) hx hb d_RR_relation_2 (by decide) (fun c_2 => ?_) (fun c_2 => ?_)
  · have c_2 : wd < 1 := (nI_ltI (by omega) (by omega)).mp c_2
    omega
  · have c_2 : ¬ wd < 1 := mt (nI_ltI (by omega) (by omega)).mpr c_2
    refine lv_iload_n hx hb d_RR_relation_5 rfl (lv_at hl 1 rfl) ?_
    refine lv_iconst (v := nI 3) hx hb d_RR_relation_6 (by decide) ?_
    refine lv_icmp_le (tgt := 20) hx hb d_RR_relation_7 (by decide) (fun c_7 => ?_) (fun c_7 => ?_)
    · have c_7 : wd ≤ 3 := (nI_leI (by omega) (by omega)).mp c_7
      refine lv_aload_n hx hb d_RR_relation_20 rfl (lv_at hl 0 rfl) ?_
      refine gs_get hx hb ht hown hK hG k_RR x0 0 (by decide) w_137 rfl d_RR_relation_21 ?_
      refine gs_get hx hb ht hown hK hG k_RB k0 3 (by decide) w_41 rfl d_RR_relation_24 ?_
      refine lv_bipush (v := nI 12) hx hb d_RR_relation_27 (by decide) ?_
      refine lv_icmp_lt (tgt := 42) hx hb d_RR_relation_29 (by decide) (fun c_29 => ?_) (fun c_29 => ?_)
      · have c_29 : nr < 12 := (nI_ltI (by omega) (by omega)).mp c_29
        refine lv_aload_n hx hb d_RR_relation_42 rfl (lv_at hl 0 rfl) ?_
        refine gs_get hx hb ht hown hK hG k_RR x0 0 (by decide) w_137 rfl d_RR_relation_43 ?_
        refine lv_iload_n hx hb d_RR_relation_46 rfl (lv_at hl 1 rfl) ?_
        refine gs_callVv (As := [.int (nI wd)]) (rest := []) ⟨hx, hb, hml, hown, hts⟩ hK hE hz hG hS (c_RB_addRelation l X σ bk co ru sr nr sc sf S 288 fR Q cf wd k0 k3 hsO (by decide) k2 hQl (fun i R h => by obtain ⟨g1, _, a, g3, g4⟩ := hQ i R h; exact ⟨g1, a, g3, g4⟩) x2 ncs hlt hS0) mV_RB_addRelation w_349 k0 rfl rfl hl.1 rfl (Nat.le_of_ble_eq_true rfl) ⟨(by first | decide | omega | (dsimp only [headSpec]; omega)), (by first | decide | omega | (dsimp only [headSpec]; omega))⟩ ⟨(by first | decide | omega | (dsimp only [headSpec]; omega)), (by first | decide | omega | (dsimp only [headSpec]; omega))⟩ d_RR_relation_47 (fun σ_47 H locs hp_47 hG hS => ?_)
        obtain ⟨sf2, ev2, hs3⟩ := hp_47
        rw [ev2] at hG
        have hdv1 := ((hdv.up12 x2 (e' := gs_ia X 12 (upd cf nr (nI wd)))).up12 (a := sr) (e' := gs_ia X 12 sf2) (gs_ku (Ne.symm ncs) k3)).up5 (a := bk) (e' := gs_ob 5 [.ref co, .ref ru, .ref sr, .int (nI (nr + 1)), .int (nI Q.length), .int (scI Q (nr + 1))]) (gs_ku (gs_ne k0 k3 (by simp)) (gs_ku (gs_ne k0 x2 (by simp)) k0))
        obtain ⟨σ_1, eσ_1⟩ : ∃ zq, zq = gs_up σ co (gs_ia X 12 (upd cf nr (nI wd))) := ⟨_, rfl⟩
        have hc_2 : σ_1 rr = some (gs_ob 0 [.ref bk, .ref tu, .ref ma, .ref dv, .int (nI fc), dw]) := by rw [eσ_1]; exact gs_ku (gs_ne x0 x2 (by simp)) x0
        have hc_3 : σ_1 bk = some (gs_ob 5 [.ref co, .ref ru, .ref sr, .int (nI nr), .int (nI Q.length), .int sc]) := by rw [eσ_1]; exact gs_ku (gs_ne k0 x2 (by simp)) k0
        have hc_4 : σ_1 ru = some (gs_qa X 2 24 fR) := by rw [eσ_1]; exact gs_ku (gs_ne k2 x2 (by simp)) k2
        have hc_5 : σ_1 sr = some (gs_ia X 12 sf) := by rw [eσ_1]; exact gs_ku (Ne.symm ncs) k3
        have hc_6 : σ_1 dv = some (gs_ob 1 [.ref bk, .ref tu, .ref ma, .ref la, .ref cm, .int (nI sa), .int (bI nw), .int (nI rc)]) := by rw [eσ_1]; exact gs_ku (gs_ne d0 x2 (by simp)) d0
        have hc_7 : σ_1 tu = some (gs_ob 6 [.ref ac, .ref ai, .ref ab, .int (nI E.length)]) := by rw [eσ_1]; exact gs_ku (gs_ne t0 x2 (by simp)) t0
        have hc_8 : σ_1 ac = some (gs_ia X 301 cs) := by rw [eσ_1]; exact gs_ku (gs_ne t1 x2 (by simp)) t1
        have hc_9 : σ_1 ai = some (gs_ia X 301 ci) := by rw [eσ_1]; exact gs_ku (gs_ne t2 x2 (by simp)) t2
        have hc_10 : σ_1 ab = some (gs_ia X 301 cr) := by rw [eσ_1]; exact gs_ku (gs_ne t3 x2 (by simp)) t3
        have hc_11 : σ_1 co = some (gs_ia X 12 (upd cf nr (nI wd))) := by rw [eσ_1]; exact gs_us
        have fr_12 : frm [bk, co, sr, dv, tu, ac, ai, ab] σ σ_1 := by rw [eσ_1]; exact fr0.up (by simp)
        obtain ⟨σ_13, eσ_13⟩ : ∃ zq, zq = gs_up σ_1 sr (gs_ia X 12 sf2) := ⟨_, rfl⟩
        have hc_14 : σ_13 rr = some (gs_ob 0 [.ref bk, .ref tu, .ref ma, .ref dv, .int (nI fc), dw]) := by rw [eσ_13]; exact gs_ku (gs_ne hc_2 hc_5 (by simp)) hc_2
        have hc_15 : σ_13 bk = some (gs_ob 5 [.ref co, .ref ru, .ref sr, .int (nI nr), .int (nI Q.length), .int sc]) := by rw [eσ_13]; exact gs_ku (gs_ne hc_3 hc_5 (by simp)) hc_3
        have hc_16 : σ_13 ru = some (gs_qa X 2 24 fR) := by rw [eσ_13]; exact gs_ku (gs_ne hc_4 hc_5 (by simp)) hc_4
        have hc_17 : σ_13 dv = some (gs_ob 1 [.ref bk, .ref tu, .ref ma, .ref la, .ref cm, .int (nI sa), .int (bI nw), .int (nI rc)]) := by rw [eσ_13]; exact gs_ku (gs_ne hc_6 hc_5 (by simp)) hc_6
        have hc_18 : σ_13 tu = some (gs_ob 6 [.ref ac, .ref ai, .ref ab, .int (nI E.length)]) := by rw [eσ_13]; exact gs_ku (gs_ne hc_7 hc_5 (by simp)) hc_7
        have hc_19 : σ_13 ac = some (gs_ia X 301 cs) := by rw [eσ_13]; exact gs_ku (gs_ne hc_8 hc_5 (by simp)) hc_8
        have hc_20 : σ_13 ai = some (gs_ia X 301 ci) := by rw [eσ_13]; exact gs_ku (gs_ne hc_9 hc_5 (by simp)) hc_9
        have hc_21 : σ_13 ab = some (gs_ia X 301 cr) := by rw [eσ_13]; exact gs_ku (gs_ne hc_10 hc_5 (by simp)) hc_10
        have hc_22 : σ_13 co = some (gs_ia X 12 (upd cf nr (nI wd))) := by rw [eσ_13]; exact gs_ku ncs hc_11
        have hc_23 : σ_13 sr = some (gs_ia X 12 sf2) := by rw [eσ_13]; exact gs_us
        have fr_24 : frm [bk, co, sr, dv, tu, ac, ai, ab] σ σ_13 := by rw [eσ_13]; exact fr_12.up (by simp)
        obtain ⟨σ_25, eσ_25⟩ : ∃ zq, zq = gs_up σ_13 bk (gs_ob 5 [.ref co, .ref ru, .ref sr, .int (nI (nr + 1)), .int (nI Q.length), .int (scI Q (nr + 1))]) := ⟨_, rfl⟩
        have hc_26 : σ_25 rr = some (gs_ob 0 [.ref bk, .ref tu, .ref ma, .ref dv, .int (nI fc), dw]) := by rw [eσ_25]; exact gs_ku (gs_ne hc_14 hc_15 (by simp)) hc_14
        have hc_27 : σ_25 ru = some (gs_qa X 2 24 fR) := by rw [eσ_25]; exact gs_ku (gs_ne hc_16 hc_15 (by simp)) hc_16
        have hc_28 : σ_25 dv = some (gs_ob 1 [.ref bk, .ref tu, .ref ma, .ref la, .ref cm, .int (nI sa), .int (bI nw), .int (nI rc)]) := by rw [eσ_25]; exact gs_ku (gs_ne hc_17 hc_15 (by simp)) hc_17
        have hc_29 : σ_25 tu = some (gs_ob 6 [.ref ac, .ref ai, .ref ab, .int (nI E.length)]) := by rw [eσ_25]; exact gs_ku (gs_ne hc_18 hc_15 (by simp)) hc_18
        have hc_30 : σ_25 ac = some (gs_ia X 301 cs) := by rw [eσ_25]; exact gs_ku (gs_ne hc_19 hc_15 (by simp)) hc_19
        have hc_31 : σ_25 ai = some (gs_ia X 301 ci) := by rw [eσ_25]; exact gs_ku (gs_ne hc_20 hc_15 (by simp)) hc_20
        have hc_32 : σ_25 ab = some (gs_ia X 301 cr) := by rw [eσ_25]; exact gs_ku (gs_ne hc_21 hc_15 (by simp)) hc_21
        have hc_33 : σ_25 co = some (gs_ia X 12 (upd cf nr (nI wd))) := by rw [eσ_25]; exact gs_ku (gs_ne hc_22 hc_15 (by simp)) hc_22
        have hc_34 : σ_25 sr = some (gs_ia X 12 sf2) := by rw [eσ_25]; exact gs_ku (gs_ne hc_23 hc_15 (by simp)) hc_23
        have hc_35 : σ_25 bk = some (gs_ob 5 [.ref co, .ref ru, .ref sr, .int (nI (nr + 1)), .int (nI Q.length), .int (scI Q (nr + 1))]) := by rw [eσ_25]; exact gs_us
        have fr_36 : frm [bk, co, sr, dv, tu, ac, ai, ab] σ σ_25 := by rw [eσ_25]; exact fr_24.up (by simp)
        rw [← eσ_1, ← eσ_13, ← eσ_25] at hG hdv1
        refine lv_aload_n hx hb d_RR_relation_50 rfl (lv_at hl 0 rfl) ?_
        refine gs_get hx hb ht hown hK hG k_RR hc_26 3 (by decide) w_140 rfl d_RR_relation_51 ?_
        refine gs_callVv (As := []) (rest := []) ⟨hx, hb, hml, hown, hts⟩ hK hE hz hG hS (c_DE_beginAnew l X σ_25 dv bk tu ma la cm ac ai ab lc li lb mc mi mb va sa rc nw E Lt v hnd hnd2 hdv1) mV_DE_beginAnew w_372 hc_28 rfl rfl hl.1 rfl (Nat.le_of_ble_eq_true rfl) ⟨(by first | decide | omega | (dsimp only [headSpec]; omega)), (by first | decide | omega | (dsimp only [headSpec]; omega))⟩ ⟨(by first | decide | omega | (dsimp only [headSpec]; omega)), (by first | decide | omega | (dsimp only [headSpec]; omega))⟩ d_RR_relation_54 (fun σ_54 H locs hp_54 hG hS => ?_)
        obtain ⟨hd2, hf2⟩ := hp_54
        have hc_37 : σ_54 rr = some (gs_ob 0 [.ref bk, .ref tu, .ref ma, .ref dv, .int (nI fc), dw]) := hf2 _ _ (nin_cons (gs_ne hc_26 hc_28 (by simp)) (nin_cons (gs_ne hc_26 hc_29 (by simp)) (nin_cons (gs_ne hc_26 hc_30 (by simp)) (nin_cons (gs_ne hc_26 hc_31 (by simp)) (nin_cons (gs_ne hc_26 hc_32 (by simp)) nin_nil))))) hc_26
        have hc_38 : σ_54 ru = some (gs_qa X 2 24 fR) := hf2 _ _ (nin_cons (gs_ne hc_27 hc_28 (by simp)) (nin_cons (gs_ne hc_27 hc_29 (by simp)) (nin_cons (gs_ne hc_27 hc_30 (by simp)) (nin_cons (gs_ne hc_27 hc_31 (by simp)) (nin_cons (gs_ne hc_27 hc_32 (by simp)) nin_nil))))) hc_27
        have hc_39 : σ_54 co = some (gs_ia X 12 (upd cf nr (nI wd))) := hf2 _ _ (nin_cons (gs_ne hc_33 hc_28 (by simp)) (nin_cons (gs_ne hc_33 hc_29 (by simp)) (nin_cons (gs_ne hc_33 hc_30 (by simp)) (nin_cons (gs_ne hc_33 hc_31 (by simp)) (nin_cons (gs_ne hc_33 hc_32 (by simp)) nin_nil))))) hc_33
        have hc_40 : σ_54 sr = some (gs_ia X 12 sf2) := hf2 _ _ (nin_cons (gs_ne hc_34 hc_28 (by simp)) (nin_cons (gs_ne hc_34 hc_29 (by simp)) (nin_cons (gs_ne hc_34 hc_30 (by simp)) (nin_cons (gs_ne hc_34 hc_31 (by simp)) (nin_cons (gs_ne hc_34 hc_32 (by simp)) nin_nil))))) hc_34
        have hc_41 : σ_54 bk = some (gs_ob 5 [.ref co, .ref ru, .ref sr, .int (nI (nr + 1)), .int (nI Q.length), .int (scI Q (nr + 1))]) := hf2 _ _ (nin_cons (gs_ne hc_35 hc_28 (by simp)) (nin_cons (gs_ne hc_35 hc_29 (by simp)) (nin_cons (gs_ne hc_35 hc_30 (by simp)) (nin_cons (gs_ne hc_35 hc_31 (by simp)) (nin_cons (gs_ne hc_35 hc_32 (by simp)) nin_nil))))) hc_35
        have fr_42 : frm [bk, co, sr, dv, tu, ac, ai, ab] σ σ_54 := fr_36.trans hf2 (by simp)
        refine lv_aload_n hx hb d_RR_relation_57 rfl (lv_at hl 0 rfl) ?_
        refine gs_get hx hb ht hown hK hG k_RR hc_37 0 (by decide) w_137 rfl d_RR_relation_58 ?_
        refine gs_get hx hb ht hown hK hG k_RB hc_41 3 (by decide) w_41 rfl d_RR_relation_61 ?_
        refine lv_iconst (v := nI 1) hx hb d_RR_relation_64 (by decide) ?_
        refine lv_isub hx hb d_RR_relation_65 ?_
        refine gs_top (pk_sub (a := (nr + 1)) (b := 1) (by omega)) ?_
        exact gs_iret (v := (nI ((nr + 1) - 1))) hx hb hr rfl hK hE hz hG hS hlocks (by first | decide | omega | (dsimp only [headSpec]; omega)) (by first | decide | omega | (dsimp only [headSpec]; omega)) (⟨hd2, ⟨fR, sf2, hc_41, hc_38, hc_40, hQl, hs3, fun i R h => by obtain ⟨g1, g2, a, g3, g4⟩ := hQ i R h; exact ⟨g1, g2, a, g3, ruAt_frmN g4 fr_42 (nr_cons k0 (noR_ob (by decide) (by decide)) (nr_cons x2 noR_ia (nr_cons k3 noR_ia (nr_cons d0 (noR_ob (by decide) (by decide)) (nr_cons t0 (noR_ob (by decide) (by decide)) (nr_cons t1 noR_ia (nr_cons t2 noR_ia (nr_cons t3 noR_ia nr_nil))))))))⟩⟩, hc_39, fr_42, rfl⟩) d_RR_relation_66
      · have c_29 : ¬ nr < 12 := mt (nI_ltI (by omega) (by omega)).mpr c_29
        omega
    · have c_7 : ¬ wd ≤ 3 := mt (nI_leI (by omega) (by omega)).mpr c_7
      omega
