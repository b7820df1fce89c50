set_option maxHeartbeats 4000000 in
set_option maxRecDepth 100000 in
/-- RuleRounds.drop -/
theorem c_RR_drop (l : Launch) (X : gs_X) (σ : gs_St) (rr dv bk tu ma la cm ac ai ab lc li lb mc mi mb va co ru sr nr sa rc fc : Nat) (dw : Value) (nw : Bool) (sc : Int32) (E : List En) (Lt : List Nat) (v S : Nat → Nat) (Q : List Rl) (cf : Nat → Int32) (cw : Nat → Nat) (rl a b cz : Nat)
    (hnd : [ac, ai, ab, lc, mc, mi, mb].Nodup) (hnd2 : [tu, la, cm].Nodup) (x0 : σ rr = some (gs_ob 0 [.ref bk, .ref tu, .ref ma, .ref dv, .int (nI fc), dw])) (hdv : dvA X σ dv bk tu ma la cm ac ai ab lc li lb mc mi mb va E Lt v sa nw rc) (hbk : bkA X σ bk co ru sr nr sc Q S) (x2 : σ co = some (gs_ia X 12 cf)) (hnr : nr ≤ 12) (hrl : rl < nr) (hcf : cf rl = nI (cw rl)) (hcw : cw rl ≤ 3) (ha : a < 64) (hb9 : b < 64) (hc9 : cz < 64) (hok : wi3 64 (cw rl) (nI a) (nI b) (nI cz) = true) (hst9 : (cds E).Pairwise (· < ·)) (hin : (∃ x ∈ E, x.1 = ((rl * 64 + a) * 64 + b) * 64 + cz ∧ x.2.1 = 0)) (hfc : 1 ≤ fc) (hfc2 : fc < 2 ^ 20) : gs_Mi l X y_RR_drop b_RR_drop 6 (some .boolean) ({ frames := 3, cells := 0, slots := 0, locals := 85 }) σ [.ref rr, .int (nI rl), .int (nI a), .int (nI b), .int (nI cz)] (fun r σ' => dvA X σ' dv bk tu ma la cm ac ai ab lc li lb mc mi mb va (keepE (delE E (cb (cds E) (((rl * 64 + a) * 64 + b) * 64 + cz)))) Lt v 0 true 0 ∧ σ' rr = some (gs_ob 0 [.ref bk, .ref tu, .ref ma, .ref dv, .int (nI (fc - 1)), dw]) ∧ frm [rr, dv, tu, ac, ai, ab] σ σ' ∧ r = nI 1) := by
  refine Met.ofW (cc := b_RR_drop) (maxL := 6) (ret := (some .boolean)) (by decide) rfl ?_
  intro p e s m args below meth c s₁ B₀ hml hv
  obtain ⟨rfl, hK, hG, hz, hE⟩ := hv
  have hx := B₀.exec
  have hb := B₀.bytes
  have hr := B₀.returns
  have hts := atoms_spec (ws := gs_ws y_RR_drop b_RR_drop 6 (some .boolean)) B₀.pre
  have ht : ∀ w ∈ gs_w, w.before _ s = true := fun w h => hts w (List.mem_cons_of_mem _ h)
  have hown : s.vm.findClass R_RR = some m.cls := findClass_of_methodNamed B₀.named
  have hlocks := B₀.notSynchronized
  have hA : ∀ q : Nat, s.heap.size ≤ q → gs_A X q := fun q h => Nat.le_trans hz h
  have hS : va_S (gs_A X) s.heap s.heap [] := va_S.rf
  have hl := lv_entry ([.ref rr, .int (nI rl), .int (nI a), .int (nI b), .int (nI cz)]) (n := 6) (Nat.le_of_ble_eq_true rfl)
  rw [lg_entry_eq]
  generalize (lg_sl ([.ref rr, .int (nI rl), .int (nI a), .int (nI b), .int (nI cz)]) ++ List.replicate (6 - (lg_sl ([.ref rr, .int (nI rl), .int (nI a), .int (nI b), .int (nI cz)])).length) Slot.unset).toArray = ls at hl ⊢
  have hl : lv_has ls 6 [(0, .ref rr), (1, .int (nI rl)), (2, .int (nI a)), (3, .int (nI b)), (4, .int (nI cz))] := hl
  obtain ⟨cs, ci, cr, ds, vs, a9, b9, c9, z9, d0, t0, t1, t2, t3, l0, l1, m0, m1, m2, m3, q0, q1, hB, hR, hl3, hs2, hn2, hds, hv⟩ := id hdv
  obtain ⟨fR, sf, k0, k2, k3, hQl, hsO, hQ⟩ := id hbk
  have fr0 : frm [rr, dv, tu, ac, ai, ab] σ σ := frm.rf
  refine lv_aload_n hx hb d_RR_drop_0 rfl (lv_at hl 0 rfl) ?_
  refine lv_iload_n hx hb d_RR_drop_1 rfl (lv_at hl 1 rfl) ?_
  refine lv_iload_n hx hb d_RR_drop_2 rfl (lv_at hl 2 rfl) ?_
  refine lv_iload_n hx hb d_RR_drop_3 rfl (lv_at hl 3 rfl) ?_
  refine lv_iload hx hb d_RR_drop_4 (lv_at hl 4 rfl) ?_
  refine gs_callVpv (As := [.int (nI rl), .int (nI a), .int (nI b), .int (nI cz)]) (rest := []) ⟨hx, hb, hml, hown, hts⟩ hK hE hz hG hS (c_RR_requireTuple l X σ rr bk tu ma dv co ru sr nr Q.length fc sc dw cf cw rl (nI a) (nI b) (nI cz) x0 k0 hnr x2 hrl hcf hcw hok) ⟨rfl, rfl⟩ mV_RR_requireTuple w_387 x0 rfl rfl hl.1 rfl (Nat.le_of_ble_eq_true rfl) ⟨(by first | decide | omega | (dsimp only [headSpec]; omega)), (by first | decide | omega | (dsimp only [headSpec]; omega))⟩ ⟨(by first | decide | omega | (dsimp only [headSpec]; omega)), (by first | decide | omega | (dsimp only [headSpec]; omega))⟩ d_RR_drop_6 ?_
  refine lv_iload_n hx hb d_RR_drop_9 rfl (lv_at hl 1 rfl) ?_
  refine lv_iload_n hx hb d_RR_drop_10 rfl (lv_at hl 2 rfl) ?_
  refine lv_iload_n hx hb d_RR_drop_11 rfl (lv_at hl 3 rfl) ?_
  refine lv_iload hx hb d_RR_drop_12 (lv_at hl 4 rfl) ?_
  refine gs_callSp (As := [.int (nI rl), .int (nI a), .int (nI b), .int (nI cz)]) (rest := []) ⟨hx, hb, hml, hown, hts⟩ hK hE hz hG hS (c_RR_codeOf l X σ rl a b cz) ⟨rfl, rfl⟩ mS_RR_codeOf w_403 rfl hl.1 rfl (Nat.le_of_ble_eq_true rfl) ⟨(by first | decide | omega | (dsimp only [headSpec]; omega)), (by first | decide | omega | (dsimp only [headSpec]; omega))⟩ ⟨(by first | decide | omega | (dsimp only [headSpec]; omega)), (by first | decide | omega | (dsimp only [headSpec]; omega))⟩ d_RR_drop_14 (fun r_14 hp_14 => ?_)
  refine gs_top (show r_14 = (nI (((rl * 64 + a) * 64 + b) * 64 + cz)) from hp_14) ?_
  obtain ⟨cd, ecd⟩ : ∃ z, z = ((rl * 64 + a) * 64 + b) * 64 + cz := ⟨_, rfl⟩
  have hcd : cd < 2 ^ 30 := by omega
  refine gs_top (show nI (((rl * 64 + a) * 64 + b) * 64 + cz) = nI cd by rw [ecd]) ?_
  refine lv_istore (lv' := [(5, .int (nI cd)), (0, .ref rr), (1, .int (nI rl)), (2, .int (nI a)), (3, .int (nI b)), (4, .int (nI cz))]) hx hb d_RR_drop_17 hl (by decide) rfl (fun ls hl => ?_)
  refine lv_aload_n hx hb d_RR_drop_19 rfl (lv_at hl 1 rfl) ?_
  refine gs_get hx hb ht hown hK hG k_RR x0 1 (by decide) w_138 rfl d_RR_drop_20 ?_
  refine lv_iload hx hb d_RR_drop_23 (lv_at hl 0 rfl) ?_
  refine gs_callVp (As := [.int (nI cd)]) (rest := []) ⟨hx, hb, hml, hown, hts⟩ hK hE hz hG hS (c_TU_containsFact_p l X σ tu ac ai ab E cs ci cr cd hst9 hB hR hcd t0 t1 t2) ⟨rfl, rfl⟩ mV_TU_containsFact w_406 t0 rfl rfl hl.1 rfl (Nat.le_of_ble_eq_true rfl) ⟨(by first | decide | omega | (dsimp only [headSpec]; omega)), (by first | decide | omega | (dsimp only [headSpec]; omega))⟩ ⟨(by first | decide | omega | (dsimp only [headSpec]; omega)), (by first | decide | omega | (dsimp only [headSpec]; omega))⟩ d_RR_drop_25 (fun r_25 hp_25 => ?_)
  refine gs_top (show r_25 = (bI (decide (∃ x ∈ E, x.1 = cd ∧ x.2.1 = 0))) from hp_25) ?_
  refine lv_if_ne (tgt := 33) hx hb d_RR_drop_28 (by decide) (fun c_28 => ?_) (fun c_28 => ?_)
  · refine lv_aload_n hx hb d_RR_drop_33 rfl (lv_at hl 1 rfl) ?_
    refine gs_get hx hb ht hown hK hG k_RR x0 1 (by decide) w_138 rfl d_RR_drop_34 ?_
    refine lv_iload hx hb d_RR_drop_37 (lv_at hl 0 rfl) ?_
    have hmc : cd ∈ cds E := by
      obtain ⟨x, z1, z2, _⟩ := hin
      rw [ecd, ← z2]; exact List.mem_map.mpr ⟨x, z1, rfl⟩
    have hpl : cb (cds E) cd < E.length := by
      have z := (List.getElem?_eq_some_iff.mp ((mem_cb hB.1 cd).mp hmc)).1
      rwa [cds_len] at z
    have hln := delE_len hpl
    have hB3 := tuB_del hB (cb (cds E) cd)
    refine gs_callVv (As := [.int (nI cd)]) (rest := []) ⟨hx, hb, hml, hown, hts⟩ hK hE hz hG hS (c_TU_remove l X σ tu ac ai ab E cs ci cr cd (ndp hnd 0 1 (by decide) rfl rfl) (ndp hnd 0 2 (by decide) rfl rfl) (ndp hnd 1 2 (by decide) rfl rfl) hB hR hmc hcd t0 t1 t2 t3) mV_TU_remove w_419 t0 rfl rfl hl.1 rfl (Nat.le_of_ble_eq_true rfl) ⟨(by first | decide | omega | (dsimp only [headSpec]; omega)), (by first | decide | omega | (dsimp only [headSpec]; omega))⟩ ⟨(by first | decide | omega | (dsimp only [headSpec]; omega)), (by first | decide | omega | (dsimp only [headSpec]; omega))⟩ d_RR_drop_39 (fun σ_39 H locs hp_39 hG hS => ?_)
    obtain ⟨cs3, ci3, cr3, ev3, hR3⟩ := hp_39
    rw [ev3] at hG
    unfold tu4 at hG
    obtain ⟨σ_1, eσ_1⟩ : ∃ zq, zq = gs_up σ ac (gs_ia X 301 cs3) := ⟨_, rfl⟩
    have hc_2 : σ_1 dv = some (gs_ob 1 [.ref bk, .ref tu, .ref ma, .ref la, .ref cm, .int (nI sa), .int (bI nw), .int (nI rc)]) := by rw [eσ_1]; exact gs_ku (gs_ne d0 t1 (by simp)) d0
    have hc_3 : σ_1 tu = some (gs_ob 6 [.ref ac, .ref ai, .ref ab, .int (nI E.length)]) := by rw [eσ_1]; exact gs_ku (gs_ne t0 t1 (by simp)) t0
    have hc_4 : σ_1 ai = some (gs_ia X 301 ci) := by rw [eσ_1]; exact gs_ku (Ne.symm (ndp hnd 0 1 (by decide) rfl rfl)) t2
    have hc_5 : σ_1 ab = some (gs_ia X 301 cr) := by rw [eσ_1]; exact gs_ku (Ne.symm (ndp hnd 0 2 (by decide) rfl rfl)) t3
    have hc_6 : σ_1 la = some (gs_ob 6 [.ref lc, .ref li, .ref lb, .int (nI Lt.length)]) := by rw [eσ_1]; exact gs_ku (gs_ne l0 t1 (by simp)) l0
    have hc_7 : σ_1 lc = some (gs_ia X 301 ds) := by rw [eσ_1]; exact gs_ku (Ne.symm (ndp hnd 0 3 (by decide) rfl rfl)) l1
    have hc_8 : σ_1 cm = some (gs_ob 6 [.ref mc, .ref mi, .ref mb, .int z9]) := by rw [eσ_1]; exact gs_ku (gs_ne m0 t1 (by simp)) m0
    have hc_9 : σ_1 mc = some (gs_ia X 301 a9) := by rw [eσ_1]; exact gs_ku (Ne.symm (ndp hnd 0 4 (by decide) rfl rfl)) m1
    have hc_10 : σ_1 mi = some (gs_ia X 301 b9) := by rw [eσ_1]; exact gs_ku (Ne.symm (ndp hnd 0 5 (by decide) rfl rfl)) m2
    have hc_11 : σ_1 mb = some (gs_ia X 301 c9) := by rw [eσ_1]; exact gs_ku (Ne.symm (ndp hnd 0 6 (by decide) rfl rfl)) m3
    have hc_12 : σ_1 ma = some (gs_ob 3 [.ref tu, .ref va]) := by rw [eσ_1]; exact gs_ku (gs_ne q0 t1 (by simp)) q0
    have hc_13 : σ_1 va = some (gs_ia X 8 vs) := by rw [eσ_1]; exact gs_ku (gs_ne q1 t1 (by simp)) q1
    have hc_14 : σ_1 rr = some (gs_ob 0 [.ref bk, .ref tu, .ref ma, .ref dv, .int (nI fc), dw]) := by rw [eσ_1]; exact gs_ku (gs_ne x0 t1 (by simp)) x0
    have hc_15 : σ_1 bk = some (gs_ob 5 [.ref co, .ref ru, .ref sr, .int (nI nr), .int (nI Q.length), .int sc]) := by rw [eσ_1]; exact gs_ku (gs_ne k0 t1 (by simp)) k0
    have hc_16 : σ_1 co = some (gs_ia X 12 cf) := by rw [eσ_1]; exact gs_ku (gs_ne x2 t1 (by simp)) x2
    have hc_17 : σ_1 ac = some (gs_ia X 301 cs3) := by rw [eσ_1]; exact gs_us
    have fr_18 : frm [rr, dv, tu, ac, ai, ab] σ σ_1 := by rw [eσ_1]; exact fr0.up (by simp)
    obtain ⟨σ_19, eσ_19⟩ : ∃ zq, zq = gs_up σ_1 ai (gs_ia X 301 ci3) := ⟨_, rfl⟩
    have hc_20 : σ_19 dv = some (gs_ob 1 [.ref bk, .ref tu, .ref ma, .ref la, .ref cm, .int (nI sa), .int (bI nw), .int (nI rc)]) := by rw [eσ_19]; exact gs_ku (gs_ne hc_2 hc_4 (by simp)) hc_2
    have hc_21 : σ_19 tu = some (gs_ob 6 [.ref ac, .ref ai, .ref ab, .int (nI E.length)]) := by rw [eσ_19]; exact gs_ku (gs_ne hc_3 hc_4 (by simp)) hc_3
    have hc_22 : σ_19 ab = some (gs_ia X 301 cr) := by rw [eσ_19]; exact gs_ku (Ne.symm (ndp hnd 1 2 (by decide) rfl rfl)) hc_5
    have hc_23 : σ_19 la = some (gs_ob 6 [.ref lc, .ref li, .ref lb, .int (nI Lt.length)]) := by rw [eσ_19]; exact gs_ku (gs_ne hc_6 hc_4 (by simp)) hc_6
    have hc_24 : σ_19 lc = some (gs_ia X 301 ds) := by rw [eσ_19]; exact gs_ku (Ne.symm (ndp hnd 1 3 (by decide) rfl rfl)) hc_7
    have hc_25 : σ_19 cm = some (gs_ob 6 [.ref mc, .ref mi, .ref mb, .int z9]) := by rw [eσ_19]; exact gs_ku (gs_ne hc_8 hc_4 (by simp)) hc_8
    have hc_26 : σ_19 mc = some (gs_ia X 301 a9) := by rw [eσ_19]; exact gs_ku (Ne.symm (ndp hnd 1 4 (by decide) rfl rfl)) hc_9
    have hc_27 : σ_19 mi = some (gs_ia X 301 b9) := by rw [eσ_19]; exact gs_ku (Ne.symm (ndp hnd 1 5 (by decide) rfl rfl)) hc_10
    have hc_28 : σ_19 mb = some (gs_ia X 301 c9) := by rw [eσ_19]; exact gs_ku (Ne.symm (ndp hnd 1 6 (by decide) rfl rfl)) hc_11
    have hc_29 : σ_19 ma = some (gs_ob 3 [.ref tu, .ref va]) := by rw [eσ_19]; exact gs_ku (gs_ne hc_12 hc_4 (by simp)) hc_12
    have hc_30 : σ_19 va = some (gs_ia X 8 vs) := by rw [eσ_19]; exact gs_ku (gs_ne hc_13 hc_4 (by simp)) hc_13
    have hc_31 : σ_19 rr = some (gs_ob 0 [.ref bk, .ref tu, .ref ma, .ref dv, .int (nI fc), dw]) := by rw [eσ_19]; exact gs_ku (gs_ne hc_14 hc_4 (by simp)) hc_14
    have hc_32 : σ_19 bk = some (gs_ob 5 [.ref co, .ref ru, .ref sr, .int (nI nr), .int (nI Q.length), .int sc]) := by rw [eσ_19]; exact gs_ku (gs_ne hc_15 hc_4 (by simp)) hc_15
    have hc_33 : σ_19 co = some (gs_ia X 12 cf) := by rw [eσ_19]; exact gs_ku (gs_ne hc_16 hc_4 (by simp)) hc_16
    have hc_34 : σ_19 ac = some (gs_ia X 301 cs3) := by rw [eσ_19]; exact gs_ku (ndp hnd 0 1 (by decide) rfl rfl) hc_17
    have hc_35 : σ_19 ai = some (gs_ia X 301 ci3) := by rw [eσ_19]; exact gs_us
    have fr_36 : frm [rr, dv, tu, ac, ai, ab] σ σ_19 := by rw [eσ_19]; exact fr_18.up (by simp)
    obtain ⟨σ_37, eσ_37⟩ : ∃ zq, zq = gs_up σ_19 ab (gs_ia X 301 cr3) := ⟨_, rfl⟩
    have hc_38 : σ_37 dv = some (gs_ob 1 [.ref bk, .ref tu, .ref ma, .ref la, .ref cm, .int (nI sa), .int (bI nw), .int (nI rc)]) := by rw [eσ_37]; exact gs_ku (gs_ne hc_20 hc_22 (by simp)) hc_20
    have hc_39 : σ_37 tu = some (gs_ob 6 [.ref ac, .ref ai, .ref ab, .int (nI E.length)]) := by rw [eσ_37]; exact gs_ku (gs_ne hc_21 hc_22 (by simp)) hc_21
    have hc_40 : σ_37 la = some (gs_ob 6 [.ref lc, .ref li, .ref lb, .int (nI Lt.length)]) := by rw [eσ_37]; exact gs_ku (gs_ne hc_23 hc_22 (by simp)) hc_23
    have hc_41 : σ_37 lc = some (gs_ia X 301 ds) := by rw [eσ_37]; exact gs_ku (Ne.symm (ndp hnd 2 3 (by decide) rfl rfl)) hc_24
    have hc_42 : σ_37 cm = some (gs_ob 6 [.ref mc, .ref mi, .ref mb, .int z9]) := by rw [eσ_37]; exact gs_ku (gs_ne hc_25 hc_22 (by simp)) hc_25
    have hc_43 : σ_37 mc = some (gs_ia X 301 a9) := by rw [eσ_37]; exact gs_ku (Ne.symm (ndp hnd 2 4 (by decide) rfl rfl)) hc_26
    have hc_44 : σ_37 mi = some (gs_ia X 301 b9) := by rw [eσ_37]; exact gs_ku (Ne.symm (ndp hnd 2 5 (by decide) rfl rfl)) hc_27
    have hc_45 : σ_37 mb = some (gs_ia X 301 c9) := by rw [eσ_37]; exact gs_ku (Ne.symm (ndp hnd 2 6 (by decide) rfl rfl)) hc_28
    have hc_46 : σ_37 ma = some (gs_ob 3 [.ref tu, .ref va]) := by rw [eσ_37]; exact gs_ku (gs_ne hc_29 hc_22 (by simp)) hc_29
    have hc_47 : σ_37 va = some (gs_ia X 8 vs) := by rw [eσ_37]; exact gs_ku (gs_ne hc_30 hc_22 (by simp)) hc_30
    have hc_48 : σ_37 rr = some (gs_ob 0 [.ref bk, .ref tu, .ref ma, .ref dv, .int (nI fc), dw]) := by rw [eσ_37]; exact gs_ku (gs_ne hc_31 hc_22 (by simp)) hc_31
    have hc_49 : σ_37 bk = some (gs_ob 5 [.ref co, .ref ru, .ref sr, .int (nI nr), .int (nI Q.length), .int sc]) := by rw [eσ_37]; exact gs_ku (gs_ne hc_32 hc_22 (by simp)) hc_32
    have hc_50 : σ_37 co = some (gs_ia X 12 cf) := by rw [eσ_37]; exact gs_ku (gs_ne hc_33 hc_22 (by simp)) hc_33
    have hc_51 : σ_37 ac = some (gs_ia X 301 cs3) := by rw [eσ_37]; exact gs_ku (ndp hnd 0 2 (by decide) rfl rfl) hc_34
    have hc_52 : σ_37 ai = some (gs_ia X 301 ci3) := by rw [eσ_37]; exact gs_ku (ndp hnd 1 2 (by decide) rfl rfl) hc_35
    have hc_53 : σ_37 ab = some (gs_ia X 301 cr3) := by rw [eσ_37]; exact gs_us
    have fr_54 : frm [rr, dv, tu, ac, ai, ab] σ σ_37 := by rw [eσ_37]; exact fr_36.up (by simp)
    obtain ⟨σ_55, eσ_55⟩ : ∃ zq, zq = gs_up σ_37 tu (gs_ob 6 [.ref ac, .ref ai, .ref ab, .int (nI (E.length - 1))]) := ⟨_, rfl⟩
    have hc_56 : σ_55 dv = some (gs_ob 1 [.ref bk, .ref tu, .ref ma, .ref la, .ref cm, .int (nI sa), .int (bI nw), .int (nI rc)]) := by rw [eσ_55]; exact gs_ku (gs_ne hc_38 hc_39 (by simp)) hc_38
    have hc_57 : σ_55 la = some (gs_ob 6 [.ref lc, .ref li, .ref lb, .int (nI Lt.length)]) := by rw [eσ_55]; exact gs_ku (Ne.symm (ndp hnd2 0 1 (by decide) rfl rfl)) hc_40
    have hc_58 : σ_55 lc = some (gs_ia X 301 ds) := by rw [eσ_55]; exact gs_ku (gs_ne hc_41 hc_39 (by simp)) hc_41
    have hc_59 : σ_55 cm = some (gs_ob 6 [.ref mc, .ref mi, .ref mb, .int z9]) := by rw [eσ_55]; exact gs_ku (Ne.symm (ndp hnd2 0 2 (by decide) rfl rfl)) hc_42
    have hc_60 : σ_55 mc = some (gs_ia X 301 a9) := by rw [eσ_55]; exact gs_ku (gs_ne hc_43 hc_39 (by simp)) hc_43
    have hc_61 : σ_55 mi = some (gs_ia X 301 b9) := by rw [eσ_55]; exact gs_ku (gs_ne hc_44 hc_39 (by simp)) hc_44
    have hc_62 : σ_55 mb = some (gs_ia X 301 c9) := by rw [eσ_55]; exact gs_ku (gs_ne hc_45 hc_39 (by simp)) hc_45
    have hc_63 : σ_55 ma = some (gs_ob 3 [.ref tu, .ref va]) := by rw [eσ_55]; exact gs_ku (gs_ne hc_46 hc_39 (by simp)) hc_46
    have hc_64 : σ_55 va = some (gs_ia X 8 vs) := by rw [eσ_55]; exact gs_ku (gs_ne hc_47 hc_39 (by simp)) hc_47
    have hc_65 : σ_55 rr = some (gs_ob 0 [.ref bk, .ref tu, .ref ma, .ref dv, .int (nI fc), dw]) := by rw [eσ_55]; exact gs_ku (gs_ne hc_48 hc_39 (by simp)) hc_48
    have hc_66 : σ_55 bk = some (gs_ob 5 [.ref co, .ref ru, .ref sr, .int (nI nr), .int (nI Q.length), .int sc]) := by rw [eσ_55]; exact gs_ku (gs_ne hc_49 hc_39 (by simp)) hc_49
    have hc_67 : σ_55 co = some (gs_ia X 12 cf) := by rw [eσ_55]; exact gs_ku (gs_ne hc_50 hc_39 (by simp)) hc_50
    have hc_68 : σ_55 ac = some (gs_ia X 301 cs3) := by rw [eσ_55]; exact gs_ku (gs_ne hc_51 hc_39 (by simp)) hc_51
    have hc_69 : σ_55 ai = some (gs_ia X 301 ci3) := by rw [eσ_55]; exact gs_ku (gs_ne hc_52 hc_39 (by simp)) hc_52
    have hc_70 : σ_55 ab = some (gs_ia X 301 cr3) := by rw [eσ_55]; exact gs_ku (gs_ne hc_53 hc_39 (by simp)) hc_53
    have hc_71 : σ_55 tu = some (gs_ob 6 [.ref ac, .ref ai, .ref ab, .int (nI (E.length - 1))]) := by rw [eσ_55]; exact gs_us
    have fr_72 : frm [rr, dv, tu, ac, ai, ab] σ σ_55 := by rw [eσ_55]; exact fr_54.up (by simp)
    rw [← eσ_1, ← eσ_19, ← eσ_37, ← eσ_55] at hG
    refine lv_aload_n hx hb d_RR_drop_42 rfl (lv_at hl 1 rfl) ?_
    refine lv_dup hx hb d_RR_drop_43 rfl ?_
    refine gs_get hx hb ht hown hK hG k_RR hc_65 4 (by decide) w_141 rfl d_RR_drop_44 ?_
    refine lv_iconst (v := nI 1) hx hb d_RR_drop_47 (by decide) ?_
    refine lv_isub hx hb d_RR_drop_48 ?_
    refine gs_top (pk_sub (a := fc) (b := 1) (by omega)) ?_
    refine gs_put hx hb ht hown hK hG hS k_RR hc_65 4 (by decide) w_141 rfl rfl rfl (Nat.le_of_ble_eq_true rfl) d_RR_drop_49 (fun H locs hG hS => ?_)
    have hG : gs_H X (gs_up σ_55 rr (gs_ob 0 [.ref bk, .ref tu, .ref ma, .ref dv, .int (nI (fc - 1)), dw])) H := hG
    obtain ⟨σ_73, eσ_73⟩ : ∃ zq, zq = gs_up σ_55 rr (gs_ob 0 [.ref bk, .ref tu, .ref ma, .ref dv, .int (nI (fc - 1)), dw]) := ⟨_, rfl⟩
    rw [← eσ_73] at hG
    have hc_74 : σ_73 dv = some (gs_ob 1 [.ref bk, .ref tu, .ref ma, .ref la, .ref cm, .int (nI sa), .int (bI nw), .int (nI rc)]) := by rw [eσ_73]; exact gs_ku (gs_ne hc_56 hc_65 (by simp)) hc_56
    have hc_75 : σ_73 la = some (gs_ob 6 [.ref lc, .ref li, .ref lb, .int (nI Lt.length)]) := by rw [eσ_73]; exact gs_ku (gs_ne hc_57 hc_65 (by simp)) hc_57
    have hc_76 : σ_73 lc = some (gs_ia X 301 ds) := by rw [eσ_73]; exact gs_ku (gs_ne hc_58 hc_65 (by simp)) hc_58
    have hc_77 : σ_73 cm = some (gs_ob 6 [.ref mc, .ref mi, .ref mb, .int z9]) := by rw [eσ_73]; exact gs_ku (gs_ne hc_59 hc_65 (by simp)) hc_59
    have hc_78 : σ_73 mc = some (gs_ia X 301 a9) := by rw [eσ_73]; exact gs_ku (gs_ne hc_60 hc_65 (by simp)) hc_60
    have hc_79 : σ_73 mi = some (gs_ia X 301 b9) := by rw [eσ_73]; exact gs_ku (gs_ne hc_61 hc_65 (by simp)) hc_61
    have hc_80 : σ_73 mb = some (gs_ia X 301 c9) := by rw [eσ_73]; exact gs_ku (gs_ne hc_62 hc_65 (by simp)) hc_62
    have hc_81 : σ_73 ma = some (gs_ob 3 [.ref tu, .ref va]) := by rw [eσ_73]; exact gs_ku (gs_ne hc_63 hc_65 (by simp)) hc_63
    have hc_82 : σ_73 va = some (gs_ia X 8 vs) := by rw [eσ_73]; exact gs_ku (gs_ne hc_64 hc_65 (by simp)) hc_64
    have hc_83 : σ_73 bk = some (gs_ob 5 [.ref co, .ref ru, .ref sr, .int (nI nr), .int (nI Q.length), .int sc]) := by rw [eσ_73]; exact gs_ku (gs_ne hc_66 hc_65 (by simp)) hc_66
    have hc_84 : σ_73 co = some (gs_ia X 12 cf) := by rw [eσ_73]; exact gs_ku (gs_ne hc_67 hc_65 (by simp)) hc_67
    have hc_85 : σ_73 ac = some (gs_ia X 301 cs3) := by rw [eσ_73]; exact gs_ku (gs_ne hc_68 hc_65 (by simp)) hc_68
    have hc_86 : σ_73 ai = some (gs_ia X 301 ci3) := by rw [eσ_73]; exact gs_ku (gs_ne hc_69 hc_65 (by simp)) hc_69
    have hc_87 : σ_73 ab = some (gs_ia X 301 cr3) := by rw [eσ_73]; exact gs_ku (gs_ne hc_70 hc_65 (by simp)) hc_70
    have hc_88 : σ_73 tu = some (gs_ob 6 [.ref ac, .ref ai, .ref ab, .int (nI (E.length - 1))]) := by rw [eσ_73]; exact gs_ku (gs_ne hc_71 hc_65 (by simp)) hc_71
    have hc_89 : σ_73 rr = some (gs_ob 0 [.ref bk, .ref tu, .ref ma, .ref dv, .int (nI (fc - 1)), dw]) := by rw [eσ_73]; exact gs_us
    have fr_90 : frm [rr, dv, tu, ac, ai, ab] σ σ_73 := by rw [eσ_73]; exact fr_72.up (by simp)
    refine lv_aload_n hx hb d_RR_drop_52 rfl (lv_at hl 1 rfl) ?_
    refine gs_get hx hb ht hown hK hG k_RR hc_89 3 (by decide) w_140 rfl d_RR_drop_53 ?_
    have hdv3 : dvA X σ_73 dv bk tu ma la cm ac ai ab lc li lb mc mi mb va (delE E (cb (cds E) cd)) Lt v sa nw rc := ⟨cs3, ci3, cr3, ds, vs, a9, b9, c9, z9, hc_74, (by rw [hln]; exact hc_88), hc_85, hc_86, hc_87, hc_75, hc_76, hc_77, hc_78, hc_79, hc_80, hc_81, hc_82, hB3, hR3, (by omega), hs2, hn2, hds, hv⟩
    refine gs_callVv (As := []) (rest := []) ⟨hx, hb, hml, hown, hts⟩ hK hE hz hG hS (c_DE_beginAnew l X σ_73 dv bk tu ma la cm ac ai ab lc li lb mc mi mb va sa rc nw (delE E (cb (cds E) cd)) Lt v hnd hnd2 hdv3) mV_DE_beginAnew w_372 hc_74 rfl rfl hl.1 rfl (Nat.le_of_ble_eq_true rfl) ⟨(by first | decide | omega | (dsimp only [headSpec]; omega)), (by first | decide | omega | (dsimp only [headSpec]; omega))⟩ ⟨(by first | decide | omega | (dsimp only [headSpec]; omega)), (by first | decide | omega | (dsimp only [headSpec]; omega))⟩ d_RR_drop_56 (fun σ_56 H locs hp_56 hG hS => ?_)
    obtain ⟨hd2, hf2⟩ := hp_56
    have hc_91 : σ_56 rr = some (gs_ob 0 [.ref bk, .ref tu, .ref ma, .ref dv, .int (nI (fc - 1)), dw]) := hf2 _ _ (nin_cons (gs_ne hc_89 hc_74 (by simp)) (nin_cons (gs_ne hc_89 hc_88 (by simp)) (nin_cons (gs_ne hc_89 hc_85 (by simp)) (nin_cons (gs_ne hc_89 hc_86 (by simp)) (nin_cons (gs_ne hc_89 hc_87 (by simp)) nin_nil))))) hc_89
    have fr_92 : frm [rr, dv, tu, ac, ai, ab] σ σ_56 := fr_90.trans hf2 (by simp)
    refine lv_iconst (v := nI 1) hx hb d_RR_drop_59 (by decide) ?_
    exact gs_iret (v := (nI 1)) hx hb hr rfl hK hE hz hG hS hlocks (by first | decide | omega | (dsimp only [headSpec]; omega)) (by first | decide | omega | (dsimp only [headSpec]; omega)) (by rw [← ecd]; exact ⟨hd2, hc_91, fr_92, rfl⟩) d_RR_drop_60
  · exact absurd (by rw [ecd]; exact hin) (of_decide_eq_false (bI_0 c_28))
