set_option maxHeartbeats 4000000 in
set_option maxRecDepth 100000 in
/-- RuleRounds.rule of one that is taken -/
theorem c_RR_rule (l : Launch) (X : gs_X) (σ : gs_St) (ρ : gs_St) (rr dv bk tu ma la cm ac ai ab lc li lb mc mi mb va co ru sr nr sa rc fc : Nat) (nw : Bool) (sc : Int32) (E : List En) (Lt : List Nat) (v S : Nat → Nat) (Q : List Rl) (sf : Nat → Int32) (fR : Nat → Option Nat) (d hd ho ck kf : Nat) (fH fC : Nat → Option Nat) (ca : Nat → Nat) (kv : Nat → Int32) (kn : Nat → Nat) (th : It) (hs9 ks : List It)
    (hnd : [ac, ai, ab, lc, mc, mi, mb].Nodup) (hnd2 : [tu, la, cm].Nodup) (x0 : σ rr = some (gs_ob 0 [.ref bk, .ref tu, .ref ma, .ref dv, .int (nI fc), .ref d])) (hdv : dvA X σ dv bk tu ma la cm ac ai ab lc li lb mc mi mb va E Lt v sa nw rc) (k0 : σ bk = some (gs_ob 5 [.ref co, .ref ru, .ref sr, .int (nI nr), .int (nI Q.length), .int sc])) (k2 : σ ru = some (gs_qa X 2 24 fR)) (k3 : σ sr = some (gs_ia X 12 sf)) (hQl : Q.length < 24) (hsO : sOK sf S 288) (hρ : ∀ q e, ρ q = some e → σ q = some e) (hQ : ∀ i R, Q[i]? = some R → ruB R ∧ rsv R ∧ ∃ a, fR i = some a ∧ ruAt X ρ a R) (hρd : ρ hd = none) (hρc : ∀ i, i < ks.length → ρ (ca i) = none) (hnr : nr ≤ 12) (hS0 : ∀ j, nr ≤ j → S j = 0) (hX : X.2.1 3 ≠ X.2.1 2) (r0 : σ d = some (gs_ob 4 [.ref hd, .ref ho, .ref ck, .int (nI hs9.length), .int (nI ks.length), .ref kf])) (r1 : σ ho = some (gs_qa X 3 3 fH)) (r2 : σ ck = some (gs_qa X 3 6 fC)) (r3 : σ kf = some (gs_ia X 8 kv)) (hkn : kOK kv kn) (h0 : σ hd = some (itE th)) (hRB : ruB (th, hs9, ks)) (rh : ∀ i t, hs9[i]? = some t → ∃ b, fH i = some b ∧ σ b = some (itE t) ∧ b ≠ hd ∧ ∀ j, j < ks.length → b ≠ ca j) (rk : ∀ i t, ks[i]? = some t → fC i = some (ca i) ∧ σ (ca i) = some (itE t) ∧ ca i ≠ hd ∧ t.1.2.2 ≤ 3 ∧ ∀ j, tm t j < 72) (hinj : ∀ i j, i < ks.length → j < ks.length → ca i = ca j → i = j) (hsf : safeB kn th ks = true) : gs_Mi l X y_RR_rule b_RR_rule 1 (some .int) ({ frames := 5, cells := 0, slots := 0, locals := 130 }) σ [.ref rr] (fun r σ' => dvA X σ' dv bk tu ma la cm ac ai ab lc li lb mc mi mb va (keepE E) Lt v 0 true 0 ∧ bkA X σ' bk co ru sr nr (scI (Q ++ [(stl kn th hs9 ks)]) nr) (Q ++ [(stl kn th hs9 ks)]) (fst (Q ++ [(stl kn th hs9 ks)]) nr).1 ∧ σ' rr = some (gs_ob 0 [.ref bk, .ref tu, .ref ma, .ref dv, .int (nI fc), .null]) ∧ (∀ q9 e9, q9 ∉ [rr, bk, ru, sr, dv, tu, ac, ai, ab] → q9 ≠ hd → (∀ i9, i9 < ks.length → q9 ≠ ca i9) → σ q9 = some e9 → σ' q9 = some e9) ∧ r = nI Q.length) := by
  refine Met.ofW (cc := b_RR_rule) (maxL := 1) (ret := (some .int)) (by decide) rfl ?_
  intro p e s m args below meth c s₁ B₀ hml hv
  obtain ⟨rfl, hK, hG, hz, hE⟩ := hv
  have hx := B₀.exec
  have hb := B₀.bytes
  have hr := B₀.returns
  have hts := atoms_spec (ws := gs_ws y_RR_rule b_RR_rule 1 (some .int)) B₀.pre
  have ht : ∀ w ∈ gs_w, w.before _ s = true := fun w h => hts w (List.mem_cons_of_mem _ h)
  have hown : s.vm.findClass R_RR = some m.cls := findClass_of_methodNamed B₀.named
  have hlocks := B₀.notSynchronized
  have hA : ∀ q : Nat, s.heap.size ≤ q → gs_A X q := fun q h => Nat.le_trans hz h
  have hS : va_S (gs_A X) s.heap s.heap [] := va_S.rf
  have hl := lv_entry ([.ref rr]) (n := 1) (Nat.le_of_ble_eq_true rfl)
  rw [lg_entry_eq]
  generalize (lg_sl ([.ref rr]) ++ List.replicate (1 - (lg_sl ([.ref rr])).length) Slot.unset).toArray = ls at hl ⊢
  have hl : lv_has ls 1 [(0, .ref rr)] := hl
  obtain ⟨cs, ci, cr, ds, vs, a9, b9, c9, z9, d0, t0, t1, t2, t3, l0, l1, m0, m1, m2, m3, q0, q1, hB, hR, hl3, hs2, hn2, hds, hv⟩ := id hdv
  have hlen : (Q ++ [(stl kn th hs9 ks)]).length = Q.length + 1 := by simp
  refine lv_aload_n hx hb d_RR_rule_0 rfl (lv_at hl 0 rfl) ?_
  refine gs_get hx hb ht hown hK hG k_RR x0 5 (by decide) w_142 rfl d_RR_rule_1 ?_
  refine lv_ifnonnull (tgt := 17) hx hb d_RR_rule_4 (by decide) ?_
  refine lv_aload_n hx hb d_RR_rule_17 rfl (lv_at hl 0 rfl) ?_
  refine gs_get hx hb ht hown hK hG k_RR x0 0 (by decide) w_137 rfl d_RR_rule_18 ?_
  refine gs_get hx hb ht hown hK hG k_RB k0 4 (by decide) w_44 rfl d_RR_rule_21 ?_
  refine lv_bipush (v := nI 24) hx hb d_RR_rule_24 (by decide) ?_
  refine lv_icmp_lt (tgt := 39) hx hb d_RR_rule_26 (by decide) (fun c_26 => ?_) (fun c_26 => ?_)
  · have c_26 : Q.length < 24 := (nI_ltI (by omega) (by omega)).mp c_26
    refine lv_aload_n hx hb d_RR_rule_39 rfl (lv_at hl 0 rfl) ?_
    refine gs_get hx hb ht hown hK hG k_RR x0 5 (by decide) w_142 rfl d_RR_rule_40 ?_
    refine gs_callVi (As := []) (rest := []) ⟨hx, hb, hml, hown, hts⟩ hK hE hz hG hS (c_RU_settle l X σ d hd ho ck kf hs9.length fC ca kv kn th ks r0 r2 r3 hkn h0 hRB.1.2.2.1 hRB.1.2.2.2.1 hRB.2.2.1 rk hinj) mV_RU_settle w_569 r0 rfl rfl hl.1 rfl (Nat.le_of_ble_eq_true rfl) ⟨(by first | decide | omega | (dsimp only [headSpec]; omega)), (by first | decide | omega | (dsimp only [headSpec]; omega))⟩ ⟨(by first | decide | omega | (dsimp only [headSpec]; omega)), (by first | decide | omega | (dsimp only [headSpec]; omega))⟩ d_RR_rule_43 (fun r_43 σ_43 H locs hp_43 hG hS => ?_)
    refine gs_top (show r_43 = 1 from by rw [hp_43.1, hsf]; rfl) ?_
    have hkp := settle_items hp_43.2.2.2 h0 (fun i hi => ⟨_, (rk i _ (List.getElem?_eq_getElem hi)).2.1⟩)
    have hc_1 : σ_43 rr = some (gs_ob 0 [.ref bk, .ref tu, .ref ma, .ref dv, .int (nI fc), .ref d]) := hkp _ _ x0 (by simp)
    have hc_2 : σ_43 bk = some (gs_ob 5 [.ref co, .ref ru, .ref sr, .int (nI nr), .int (nI Q.length), .int sc]) := hkp _ _ k0 (by simp)
    have hc_3 : σ_43 ru = some (gs_qa X 2 24 fR) := hkp _ _ k2 (by simp)
    have hc_4 : σ_43 sr = some (gs_ia X 12 sf) := hkp _ _ k3 (by simp)
    have hc_5 : σ_43 d = some (gs_ob 4 [.ref hd, .ref ho, .ref ck, .int (nI hs9.length), .int (nI ks.length), .ref kf]) := hkp _ _ r0 (by simp)
    have hc_6 : σ_43 dv = some (gs_ob 1 [.ref bk, .ref tu, .ref ma, .ref la, .ref cm, .int (nI sa), .int (bI nw), .int (nI rc)]) := hkp _ _ d0 (by simp)
    have hc_7 : σ_43 tu = some (gs_ob 6 [.ref ac, .ref ai, .ref ab, .int (nI E.length)]) := hkp _ _ t0 (by simp)
    have hc_8 : σ_43 ac = some (gs_ia X 301 cs) := hkp _ _ t1 (by simp)
    have hc_9 : σ_43 ai = some (gs_ia X 301 ci) := hkp _ _ t2 (by simp)
    have hc_10 : σ_43 ab = some (gs_ia X 301 cr) := hkp _ _ t3 (by simp)
    have hdv0 := hdv.kept hkp
    have hQ1 : ∀ i R, Q[i]? = some R → ruB R ∧ ∃ a, fR i = some a ∧ ruAt X σ_43 a R := fun i R z => by
      obtain ⟨g1, _, a, g3, g4⟩ := hQ i R z
      exact ⟨g1, a, g3, g4.sub (settle_keeps hp_43.2.2.2 hρ hρd hρc)⟩
    have hR9 : ruAt X σ_43 d (stl kn th hs9 ks) := stl_at hkp hp_43.2.1 hp_43.2.2.1 hp_43.2.2.2 r0 r1 r2 rh (fun i t z => (rk i t z).1)
    have fr0 : frm [rr, bk, ru, sr, dv, tu, ac, ai, ab] σ_43 σ_43 := frm.rf
    refine lv_if_ne (tgt := 52) hx hb d_RR_rule_46 (by decide) (fun c_46 => ?_) (fun c_46 => ?_)
    · have c_46 : ¬ 1 = 0 := gs_zn (by omega) c_46
      refine lv_aload_n hx hb d_RR_rule_52 rfl (lv_at hl 0 rfl) ?_
      refine gs_get hx hb ht hown hK hG k_RR hc_1 0 (by decide) w_137 rfl d_RR_rule_53 ?_
      refine lv_aload_n hx hb d_RR_rule_56 rfl (lv_at hl 0 rfl) ?_
      refine gs_get hx hb ht hown hK hG k_RR hc_1 5 (by decide) w_142 rfl d_RR_rule_57 ?_
      refine gs_callVv (As := [.ref d]) (rest := []) ⟨hx, hb, hml, hown, hts⟩ hK hE hz hG hS (c_RB_addRule l X σ_43 bk co ru sr nr sc sf S 288 fR Q d (stl kn th hs9 ks) hc_2 hc_4 hsO (by decide) hc_3 hQl hQ1 hnr hS0 hX hR9 (stl_B hRB)) mV_RB_addRule w_578 hc_2 rfl rfl hl.1 rfl (Nat.le_of_ble_eq_true rfl) ⟨(by first | decide | omega | (dsimp only [headSpec]; omega)), (by first | decide | omega | (dsimp only [headSpec]; omega))⟩ ⟨(by first | decide | omega | (dsimp only [headSpec]; omega)), (by first | decide | omega | (dsimp only [headSpec]; omega))⟩ d_RR_rule_60 (fun σ_60 H locs hp_60 hG hS => ?_)
      obtain ⟨sf2, ev2, hs3⟩ := hp_60
      rw [ev2] at hG
      have hdv1 := ((hdv0.upQ hc_3 (e' := gs_qa X 2 24 (va_up fR Q.length (some d)))).up12 (a := sr) (e' := gs_ia X 12 sf2) (gs_ku (gs_ne hc_4 hc_3 (by simp)) hc_4)).up5 (a := bk) (e' := gs_ob 5 [.ref co, .ref ru, .ref sr, .int (nI nr), .int (nI (Q ++ [(stl kn th hs9 ks)]).length), .int (scI (Q ++ [(stl kn th hs9 ks)]) nr)]) (gs_ku (gs_ne hc_2 hc_4 (by simp)) (gs_ku (gs_ne hc_2 hc_3 (by simp)) hc_2))
      obtain ⟨σ_11, eσ_11⟩ : ∃ zq, zq = gs_up σ_43 ru (gs_qa X 2 24 (va_up fR Q.length (some d))) := ⟨_, rfl⟩
      have hc_12 : σ_11 rr = some (gs_ob 0 [.ref bk, .ref tu, .ref ma, .ref dv, .int (nI fc), .ref d]) := by rw [eσ_11]; exact gs_ku (gs_ne hc_1 hc_3 (by simp)) hc_1
      have hc_13 : σ_11 bk = some (gs_ob 5 [.ref co, .ref ru, .ref sr, .int (nI nr), .int (nI Q.length), .int sc]) := by rw [eσ_11]; exact gs_ku (gs_ne hc_2 hc_3 (by simp)) hc_2
      have hc_14 : σ_11 sr = some (gs_ia X 12 sf) := by rw [eσ_11]; exact gs_ku (gs_ne hc_4 hc_3 (by simp)) hc_4
      have hc_15 : σ_11 d = some (gs_ob 4 [.ref hd, .ref ho, .ref ck, .int (nI hs9.length), .int (nI ks.length), .ref kf]) := by rw [eσ_11]; exact gs_ku (gs_ne hc_5 hc_3 (by simp)) hc_5
      have hc_16 : σ_11 dv = some (gs_ob 1 [.ref bk, .ref tu, .ref ma, .ref la, .ref cm, .int (nI sa), .int (bI nw), .int (nI rc)]) := by rw [eσ_11]; exact gs_ku (gs_ne hc_6 hc_3 (by simp)) hc_6
      have hc_17 : σ_11 tu = some (gs_ob 6 [.ref ac, .ref ai, .ref ab, .int (nI E.length)]) := by rw [eσ_11]; exact gs_ku (gs_ne hc_7 hc_3 (by simp)) hc_7
      have hc_18 : σ_11 ac = some (gs_ia X 301 cs) := by rw [eσ_11]; exact gs_ku (gs_ne hc_8 hc_3 (by simp)) hc_8
      have hc_19 : σ_11 ai = some (gs_ia X 301 ci) := by rw [eσ_11]; exact gs_ku (gs_ne hc_9 hc_3 (by simp)) hc_9
      have hc_20 : σ_11 ab = some (gs_ia X 301 cr) := by rw [eσ_11]; exact gs_ku (gs_ne hc_10 hc_3 (by simp)) hc_10
      have hc_21 : σ_11 ru = some (gs_qa X 2 24 (va_up fR Q.length (some d))) := by rw [eσ_11]; exact gs_us
      have fr_22 : frm [rr, bk, ru, sr, dv, tu, ac, ai, ab] σ_43 σ_11 := by rw [eσ_11]; exact fr0.up (by simp)
      obtain ⟨σ_23, eσ_23⟩ : ∃ zq, zq = gs_up σ_11 sr (gs_ia X 12 sf2) := ⟨_, rfl⟩
      have hc_24 : σ_23 rr = some (gs_ob 0 [.ref bk, .ref tu, .ref ma, .ref dv, .int (nI fc), .ref d]) := by rw [eσ_23]; exact gs_ku (gs_ne hc_12 hc_14 (by simp)) hc_12
      have hc_25 : σ_23 bk = some (gs_ob 5 [.ref co, .ref ru, .ref sr, .int (nI nr), .int (nI Q.length), .int sc]) := by rw [eσ_23]; exact gs_ku (gs_ne hc_13 hc_14 (by simp)) hc_13
      have hc_26 : σ_23 d = some (gs_ob 4 [.ref hd, .ref ho, .ref ck, .int (nI hs9.length), .int (nI ks.length), .ref kf]) := by rw [eσ_23]; exact gs_ku (gs_ne hc_15 hc_14 (by simp)) hc_15
      have hc_27 : σ_23 dv = some (gs_ob 1 [.ref bk, .ref tu, .ref ma, .ref la, .ref cm, .int (nI sa), .int (bI nw), .int (nI rc)]) := by rw [eσ_23]; exact gs_ku (gs_ne hc_16 hc_14 (by simp)) hc_16
      have hc_28 : σ_23 tu = some (gs_ob 6 [.ref ac, .ref ai, .ref ab, .int (nI E.length)]) := by rw [eσ_23]; exact gs_ku (gs_ne hc_17 hc_14 (by simp)) hc_17
      have hc_29 : σ_23 ac = some (gs_ia X 301 cs) := by rw [eσ_23]; exact gs_ku (gs_ne hc_18 hc_14 (by simp)) hc_18
      have hc_30 : σ_23 ai = some (gs_ia X 301 ci) := by rw [eσ_23]; exact gs_ku (gs_ne hc_19 hc_14 (by simp)) hc_19
      have hc_31 : σ_23 ab = some (gs_ia X 301 cr) := by rw [eσ_23]; exact gs_ku (gs_ne hc_20 hc_14 (by simp)) hc_20
      have hc_32 : σ_23 ru = some (gs_qa X 2 24 (va_up fR Q.length (some d))) := by rw [eσ_23]; exact gs_ku (gs_ne hc_21 hc_14 (by simp)) hc_21
      have hc_33 : σ_23 sr = some (gs_ia X 12 sf2) := by rw [eσ_23]; exact gs_us
      have fr_34 : frm [rr, bk, ru, sr, dv, tu, ac, ai, ab] σ_43 σ_23 := by rw [eσ_23]; exact fr_22.up (by simp)
      obtain ⟨σ_35, eσ_35⟩ : ∃ zq, zq = gs_up σ_23 bk (gs_ob 5 [.ref co, .ref ru, .ref sr, .int (nI nr), .int (nI ((Q ++ [(stl kn th hs9 ks)]).length)), .int (scI (Q ++ [(stl kn th hs9 ks)]) nr)]) := ⟨_, rfl⟩
      have hc_36 : σ_35 rr = some (gs_ob 0 [.ref bk, .ref tu, .ref ma, .ref dv, .int (nI fc), .ref d]) := by rw [eσ_35]; exact gs_ku (gs_ne hc_24 hc_25 (by simp)) hc_24
      have hc_37 : σ_35 d = some (gs_ob 4 [.ref hd, .ref ho, .ref ck, .int (nI hs9.length), .int (nI ks.length), .ref kf]) := by rw [eσ_35]; exact gs_ku (gs_ne hc_26 hc_25 (by simp)) hc_26
      have hc_38 : σ_35 dv = some (gs_ob 1 [.ref bk, .ref tu, .ref ma, .ref la, .ref cm, .int (nI sa), .int (bI nw), .int (nI rc)]) := by rw [eσ_35]; exact gs_ku (gs_ne hc_27 hc_25 (by simp)) hc_27
      have hc_39 : σ_35 tu = some (gs_ob 6 [.ref ac, .ref ai, .ref ab, .int (nI E.length)]) := by rw [eσ_35]; exact gs_ku (gs_ne hc_28 hc_25 (by simp)) hc_28
      have hc_40 : σ_35 ac = some (gs_ia X 301 cs) := by rw [eσ_35]; exact gs_ku (gs_ne hc_29 hc_25 (by simp)) hc_29
      have hc_41 : σ_35 ai = some (gs_ia X 301 ci) := by rw [eσ_35]; exact gs_ku (gs_ne hc_30 hc_25 (by simp)) hc_30
      have hc_42 : σ_35 ab = some (gs_ia X 301 cr) := by rw [eσ_35]; exact gs_ku (gs_ne hc_31 hc_25 (by simp)) hc_31
      have hc_43 : σ_35 ru = some (gs_qa X 2 24 (va_up fR Q.length (some d))) := by rw [eσ_35]; exact gs_ku (gs_ne hc_32 hc_25 (by simp)) hc_32
      have hc_44 : σ_35 sr = some (gs_ia X 12 sf2) := by rw [eσ_35]; exact gs_ku (gs_ne hc_33 hc_25 (by simp)) hc_33
      have hc_45 : σ_35 bk = some (gs_ob 5 [.ref co, .ref ru, .ref sr, .int (nI nr), .int (nI ((Q ++ [(stl kn th hs9 ks)]).length)), .int (scI (Q ++ [(stl kn th hs9 ks)]) nr)]) := by rw [eσ_35]; exact gs_us
      have fr_46 : frm [rr, bk, ru, sr, dv, tu, ac, ai, ab] σ_43 σ_35 := by rw [eσ_35]; exact fr_34.up (by simp)
      rw [← eσ_11, ← eσ_23, ← eσ_35] at hG hdv1
      refine lv_aload_n hx hb d_RR_rule_63 rfl (lv_at hl 0 rfl) ?_
      refine lv_null hx hb d_RR_rule_64 ?_
      refine gs_put hx hb ht hown hK hG hS k_RR hc_36 5 (by decide) w_142 rfl rfl rfl (Nat.le_of_ble_eq_true rfl) d_RR_rule_65 (fun H locs hG hS => ?_)
      have hG : gs_H X (gs_up σ_35 rr (gs_ob 0 [.ref bk, .ref tu, .ref ma, .ref dv, .int (nI fc), .null])) H := hG
      obtain ⟨σ_47, eσ_47⟩ : ∃ zq, zq = gs_up σ_35 rr (gs_ob 0 [.ref bk, .ref tu, .ref ma, .ref dv, .int (nI fc), .null]) := ⟨_, rfl⟩
      rw [← eσ_47] at hG
      have hc_48 : σ_47 d = some (gs_ob 4 [.ref hd, .ref ho, .ref ck, .int (nI hs9.length), .int (nI ks.length), .ref kf]) := by rw [eσ_47]; exact gs_ku (gs_ne hc_37 hc_36 (by simp)) hc_37
      have hc_49 : σ_47 dv = some (gs_ob 1 [.ref bk, .ref tu, .ref ma, .ref la, .ref cm, .int (nI sa), .int (bI nw), .int (nI rc)]) := by rw [eσ_47]; exact gs_ku (gs_ne hc_38 hc_36 (by simp)) hc_38
      have hc_50 : σ_47 tu = some (gs_ob 6 [.ref ac, .ref ai, .ref ab, .int (nI E.length)]) := by rw [eσ_47]; exact gs_ku (gs_ne hc_39 hc_36 (by simp)) hc_39
      have hc_51 : σ_47 ac = some (gs_ia X 301 cs) := by rw [eσ_47]; exact gs_ku (gs_ne hc_40 hc_36 (by simp)) hc_40
      have hc_52 : σ_47 ai = some (gs_ia X 301 ci) := by rw [eσ_47]; exact gs_ku (gs_ne hc_41 hc_36 (by simp)) hc_41
      have hc_53 : σ_47 ab = some (gs_ia X 301 cr) := by rw [eσ_47]; exact gs_ku (gs_ne hc_42 hc_36 (by simp)) hc_42
      have hc_54 : σ_47 ru = some (gs_qa X 2 24 (va_up fR Q.length (some d))) := by rw [eσ_47]; exact gs_ku (gs_ne hc_43 hc_36 (by simp)) hc_43
      have hc_55 : σ_47 sr = some (gs_ia X 12 sf2) := by rw [eσ_47]; exact gs_ku (gs_ne hc_44 hc_36 (by simp)) hc_44
      have hc_56 : σ_47 bk = some (gs_ob 5 [.ref co, .ref ru, .ref sr, .int (nI nr), .int (nI ((Q ++ [(stl kn th hs9 ks)]).length)), .int (scI (Q ++ [(stl kn th hs9 ks)]) nr)]) := by rw [eσ_47]; exact gs_ku (gs_ne hc_45 hc_36 (by simp)) hc_45
      have hc_57 : σ_47 rr = some (gs_ob 0 [.ref bk, .ref tu, .ref ma, .ref dv, .int (nI fc), .null]) := by rw [eσ_47]; exact gs_us
      have fr_58 : frm [rr, bk, ru, sr, dv, tu, ac, ai, ab] σ_43 σ_47 := by rw [eσ_47]; exact fr_46.up (by simp)
      refine lv_aload_n hx hb d_RR_rule_68 rfl (lv_at hl 0 rfl) ?_
      refine gs_get hx hb ht hown hK hG k_RR hc_57 3 (by decide) w_140 rfl d_RR_rule_69 ?_
      have hdv2 := hdv1.up0 (e' := gs_ob 0 [.ref bk, .ref tu, .ref ma, .ref dv, .int (nI fc), .null]) hc_36
      rw [← eσ_47] at hdv2
      refine gs_callVv (As := []) (rest := []) ⟨hx, hb, hml, hown, hts⟩ hK hE hz hG hS (c_DE_beginAnew l X σ_47 dv bk tu ma la cm ac ai ab lc li lb mc mi mb va sa rc nw E Lt v hnd hnd2 hdv2) mV_DE_beginAnew w_372 hc_49 rfl rfl hl.1 rfl (Nat.le_of_ble_eq_true rfl) ⟨(by first | decide | omega | (dsimp only [headSpec]; omega)), (by first | decide | omega | (dsimp only [headSpec]; omega))⟩ ⟨(by first | decide | omega | (dsimp only [headSpec]; omega)), (by first | decide | omega | (dsimp only [headSpec]; omega))⟩ d_RR_rule_72 (fun σ_72 H locs hp_72 hG hS => ?_)
      obtain ⟨hd2, hf2⟩ := hp_72
      have hc_59 : σ_72 d = some (gs_ob 4 [.ref hd, .ref ho, .ref ck, .int (nI hs9.length), .int (nI ks.length), .ref kf]) := hf2 _ _ (nin_cons (gs_ne hc_48 hc_49 (by simp)) (nin_cons (gs_ne hc_48 hc_50 (by simp)) (nin_cons (gs_ne hc_48 hc_51 (by simp)) (nin_cons (gs_ne hc_48 hc_52 (by simp)) (nin_cons (gs_ne hc_48 hc_53 (by simp)) nin_nil))))) hc_48
      have hc_60 : σ_72 ru = some (gs_qa X 2 24 (va_up fR Q.length (some d))) := hf2 _ _ (nin_cons (gs_ne hc_54 hc_49 (by simp)) (nin_cons (gs_ne hc_54 hc_50 (by simp)) (nin_cons (gs_ne hc_54 hc_51 (by simp)) (nin_cons (gs_ne hc_54 hc_52 (by simp)) (nin_cons (gs_ne hc_54 hc_53 (by simp)) nin_nil))))) hc_54
      have hc_61 : σ_72 sr = some (gs_ia X 12 sf2) := hf2 _ _ (nin_cons (gs_ne hc_55 hc_49 (by simp)) (nin_cons (gs_ne hc_55 hc_50 (by simp)) (nin_cons (gs_ne hc_55 hc_51 (by simp)) (nin_cons (gs_ne hc_55 hc_52 (by simp)) (nin_cons (gs_ne hc_55 hc_53 (by simp)) nin_nil))))) hc_55
      have hc_62 : σ_72 bk = some (gs_ob 5 [.ref co, .ref ru, .ref sr, .int (nI nr), .int (nI ((Q ++ [(stl kn th hs9 ks)]).length)), .int (scI (Q ++ [(stl kn th hs9 ks)]) nr)]) := hf2 _ _ (nin_cons (gs_ne hc_56 hc_49 (by simp)) (nin_cons (gs_ne hc_56 hc_50 (by simp)) (nin_cons (gs_ne hc_56 hc_51 (by simp)) (nin_cons (gs_ne hc_56 hc_52 (by simp)) (nin_cons (gs_ne hc_56 hc_53 (by simp)) nin_nil))))) hc_56
      have hc_63 : σ_72 rr = some (gs_ob 0 [.ref bk, .ref tu, .ref ma, .ref dv, .int (nI fc), .null]) := hf2 _ _ (nin_cons (gs_ne hc_57 hc_49 (by simp)) (nin_cons (gs_ne hc_57 hc_50 (by simp)) (nin_cons (gs_ne hc_57 hc_51 (by simp)) (nin_cons (gs_ne hc_57 hc_52 (by simp)) (nin_cons (gs_ne hc_57 hc_53 (by simp)) nin_nil))))) hc_57
      have fr_64 : frm [rr, bk, ru, sr, dv, tu, ac, ai, ab] σ_43 σ_72 := fr_58.trans hf2 (by simp)
      refine lv_aload_n hx hb d_RR_rule_75 rfl (lv_at hl 0 rfl) ?_
      refine gs_get hx hb ht hown hK hG k_RR hc_63 0 (by decide) w_137 rfl d_RR_rule_76 ?_
      refine gs_get hx hb ht hown hK hG k_RB hc_62 4 (by decide) w_44 rfl d_RR_rule_79 ?_
      refine lv_iconst (v := nI 1) hx hb d_RR_rule_82 (by decide) ?_
      refine lv_isub hx hb d_RR_rule_83 ?_
      refine gs_top (pk_sub (a := ((Q ++ [(stl kn th hs9 ks)]).length)) (b := 1) (by omega)) ?_
      have hkk : ∀ a R, ruAt X σ_43 a R → ruAt X σ_72 a R := fun a R z => ruAt_frmN z fr_64 (nr_cons (hkp _ _ x0 (by simp)) (noR_ob (by decide) (by decide)) (nr_cons (hkp _ _ k0 (by simp)) (noR_ob (by decide) (by decide)) (nr_cons (hkp _ _ k2 (by simp)) (noR_q2 hX) (nr_cons (hkp _ _ k3 (by simp)) noR_ia (nr_cons (hkp _ _ d0 (by simp)) (noR_ob (by decide) (by decide)) (nr_cons (hkp _ _ t0 (by simp)) (noR_ob (by decide) (by decide)) (nr_cons (hkp _ _ t1 (by simp)) noR_ia (nr_cons (hkp _ _ t2 (by simp)) noR_ia (nr_cons (hkp _ _ t3 (by simp)) noR_ia nr_nil)))))))))
      exact gs_iret (v := (nI (((Q ++ [(stl kn th hs9 ks)]).length) - 1))) hx hb hr rfl hK hE hz hG hS hlocks (by first | decide | omega | (dsimp only [headSpec]; omega)) (by first | decide | omega | (dsimp only [headSpec]; omega)) (⟨hd2, ⟨va_up fR Q.length (some d), sf2, hc_62, hc_60, hc_61, by omega, hs3, bk_snoc (fun i R z => by obtain ⟨g1, g2, a, g3, g4⟩ := hQ i R z; exact ⟨g1, g2, a, g3, hkk _ _ (g4.sub (settle_keeps hp_43.2.2.2 hρ hρd hρc))⟩) ⟨stl_B hRB, stl_rsv hkn hRB.1.2.2.2.1 hsf, hkk _ _ hR9⟩⟩, hc_63, fun q9 e9 n1 n2 n3 z => fr_64 q9 e9 n1 (by rw [hp_43.2.2.2 q9 n2 n3]; exact z), by rw [hlen]; rfl⟩) d_RR_rule_84
    · exact absurd c_46 (by decide)
  · have c_26 : ¬ Q.length < 24 := mt (nI_ltI (by omega) (by omega)).mpr c_26
    omega
