set_option maxHeartbeats 4000000 in
set_option maxRecDepth 100000 in
/-- Deriving.closeRound -/
theorem c_DE_closeRound (l : Launch) (X : gs_X) (σ : gs_St) (dv bk tu ma la cm ac ai ab lc li lb mc mi mb sa rc k : Nat) (nw : Bool) (E C : List En) (cs ci cr a9 b9 c9 ds : Nat → Int32)
    (hnd : [ac, ai, ab, lc, mc, mi, mb].Nodup) (hnd2 : [tu, la, cm].Nodup) (hB : tuB E) (hR : tuR E cs ci cr) (hBC : tuB C) (hRC : tuR C a9 b9 c9) (hlen : E.length + C.length ≤ 300) (hrc : rc + 1 < 2 ^ 30) (d0 : σ dv = some (gs_ob 1 [.ref bk, .ref tu, .ref ma, .ref la, .ref cm, .int (nI sa), .int (bI nw), .int (nI rc)])) (t0 : σ tu = some (gs_ob 6 [.ref ac, .ref ai, .ref ab, .int (nI E.length)])) (t1 : σ ac = some (gs_ia X 301 cs)) (t2 : σ ai = some (gs_ia X 301 ci)) (t3 : σ ab = some (gs_ia X 301 cr)) (l0 : σ la = some (gs_ob 6 [.ref lc, .ref li, .ref lb, .int (nI k)])) (l1 : σ lc = some (gs_ia X 301 ds)) (m0 : σ cm = some (gs_ob 6 [.ref mc, .ref mi, .ref mb, .int (nI C.length)])) (m1 : σ mc = some (gs_ia X 301 a9)) (m3 : σ mb = some (gs_ia X 301 c9)) : gs_Mv l X y_DE_closeRound b_DE_closeRound 2 ({ frames := 3, cells := 0, slots := 0, locals := 87 }) σ [.ref dv] (fun σ' => ∃ cs' ci' cr' ds', σ' dv = some (gs_ob 1 [.ref bk, .ref tu, .ref ma, .ref la, .ref cm, .int (nI (sa + (if C = [] then 1 else 0))), .int (bI (decide (C = []))), .int (nI (rc + 1))]) ∧ σ' tu = some (gs_ob 6 [.ref ac, .ref ai, .ref ab, .int (nI ((clE (rc + 1) E C).length))]) ∧ σ' ac = some (gs_ia X 301 cs') ∧ σ' ai = some (gs_ia X 301 ci') ∧ σ' ab = some (gs_ia X 301 cr') ∧ σ' la = some (gs_ob 6 [.ref lc, .ref li, .ref lb, .int (nI C.length)]) ∧ σ' lc = some (gs_ia X 301 ds') ∧ tuR (clE (rc + 1) E C) cs' ci' cr' ∧ tuB (clE (rc + 1) E C) ∧ (clE (rc + 1) E C).length = E.length + C.length ∧ (∀ j x, (cds C)[j]? = some x → ds' j = nI x ∧ x < 2 ^ 30) ∧ frm [dv, tu, ac, ai, ab, la, lc] σ σ') := by
  refine Met.ofW (cc := b_DE_closeRound) (maxL := 2) (ret := none) (by decide) rfl ?_
  intro p e s m args below meth c s₁ B₀ hml hv
  obtain ⟨rfl, hK, hG, hz, hE⟩ := hv
  have hx := B₀.exec
  have hb := B₀.bytes
  have hr := B₀.returns
  have hts := atoms_spec (ws := gs_ws y_DE_closeRound b_DE_closeRound 2 none) B₀.pre
  have ht : ∀ w ∈ gs_w, w.before _ s = true := fun w h => hts w (List.mem_cons_of_mem _ h)
  have hown : s.vm.findClass R_DE = some m.cls := findClass_of_methodNamed B₀.named
  have hlocks := B₀.notSynchronized
  have hA : ∀ q : Nat, s.heap.size ≤ q → gs_A X q := fun q h => Nat.le_trans hz h
  have hS : va_S (gs_A X) s.heap s.heap [] := va_S.rf
  have hl := lv_entry ([.ref dv]) (n := 2) (Nat.le_of_ble_eq_true rfl)
  rw [lg_entry_eq]
  generalize (lg_sl ([.ref dv]) ++ List.replicate (2 - (lg_sl ([.ref dv])).length) Slot.unset).toArray = ls at hl ⊢
  have hl : lv_has ls 2 [(0, .ref dv)] := hl
  have fr0 : frm [dv, tu, ac, ai, ab, la, lc] σ σ := frm.rf
  have loop : ∀ (fl : Nat) (i : Nat) (E1 : List En) (cs1 ci1 cr1 : Nat → Int32) (σ1 : gs_St), (i ≤ C.length) → (E1 = clE (rc + 1) E (C.take i)) → (E1.length = E.length + i) → (tuB E1) → (tuR E1 cs1 ci1 cr1) → (frm [dv, tu, ac, ai, ab, la, lc] σ σ1) → C.length - i < fl → (σ1 dv = some (gs_ob 1 [.ref bk, .ref tu, .ref ma, .ref la, .ref cm, .int (nI sa), .int (bI nw), .int (nI (rc + 1))])) → (σ1 tu = some (gs_ob 6 [.ref ac, .ref ai, .ref ab, .int (nI E1.length)])) → (σ1 ac = some (gs_ia X 301 cs1)) → (σ1 ai = some (gs_ia X 301 ci1)) → (σ1 ab = some (gs_ia X 301 cr1)) → (σ1 la = some (gs_ob 6 [.ref lc, .ref li, .ref lb, .int (nI k)])) → (σ1 lc = some (gs_ia X 301 ds)) → (σ1 cm = some (gs_ob 6 [.ref mc, .ref mi, .ref mb, .int (nI C.length)])) → (σ1 mc = some (gs_ia X 301 a9)) → (σ1 mb = some (gs_ia X 301 c9)) → ∀ (H : Heap) (locs : List Loc), gs_H X σ1 H → va_S (gs_A X) s.heap H locs → ∀ ls, lv_has ls 2 [(1, .int (nI i)), (0, .ref dv)] → W p l e ({ frames := 3, cells := 0, slots := 0, locals := 87 } : Room) s m ([.ref dv] : List Value).toArray below meth c H locs 0 0 (MQ below (va_Qv (fun σ' => ∃ cs' ci' cr' ds', σ' dv = some (gs_ob 1 [.ref bk, .ref tu, .ref ma, .ref la, .ref cm, .int (nI (sa + (if C = [] then 1 else 0))), .int (bI (decide (C = []))), .int (nI (rc + 1))]) ∧ σ' tu = some (gs_ob 6 [.ref ac, .ref ai, .ref ab, .int (nI ((clE (rc + 1) E C).length))]) ∧ σ' ac = some (gs_ia X 301 cs') ∧ σ' ai = some (gs_ia X 301 ci') ∧ σ' ab = some (gs_ia X 301 cr') ∧ σ' la = some (gs_ob 6 [.ref lc, .ref li, .ref lb, .int (nI C.length)]) ∧ σ' lc = some (gs_ia X 301 ds') ∧ tuR (clE (rc + 1) E C) cs' ci' cr' ∧ tuB (clE (rc + 1) E C) ∧ (clE (rc + 1) E C).length = E.length + C.length ∧ (∀ j x, (cds C)[j]? = some x → ds' j = nI x ∧ x < 2 ^ 30) ∧ frm [dv, tu, ac, ai, ab, la, lc] σ σ') (gs_U X) (gs_A X)) ([.ref dv] : List Value).toArray s 0 0 (gs_A X)) (F0 m 12 ls []) := by
    intro fl
    induction fl with
    | zero => intro i E1 cs1 ci1 cr1 σ1 _ _ _ _ _ _ h9; omega
    | succ fl ih =>
      intro i E1 cs1 ci1 cr1 σ1 hi hE1 hl1 hB1 hR1 hf1 hmu y_dv y_tu y_ac y_ai y_ab y_la y_lc y_cm y_mc y_mb H locs hG hS ls hl
      refine lv_iload_n hx hb d_DE_closeRound_12 rfl (lv_at hl 0 rfl) ?_
      refine lv_aload_n hx hb d_DE_closeRound_13 rfl (lv_at hl 1 rfl) ?_
      refine gs_get hx hb ht hown hK hG k_DE y_dv 4 (by decide) w_115 rfl d_DE_closeRound_14 ?_
      refine gs_get hx hb ht hown hK hG k_TU y_cm 3 (by decide) w_78 rfl d_DE_closeRound_17 ?_
      refine lv_icmp_ge (tgt := 58) hx hb d_DE_closeRound_20 (by decide) (fun c_20 => ?_) (fun c_20 => ?_)
      · have c_20 : C.length ≤ i := (nI_leI (by omega) (by omega)).mp c_20
        refine lv_aload_n hx hb d_DE_closeRound_58 rfl (lv_at hl 1 rfl) ?_
        refine gs_get hx hb ht hown hK hG k_DE y_dv 3 (by decide) w_114 rfl d_DE_closeRound_59 ?_
        refine lv_aload_n hx hb d_DE_closeRound_62 rfl (lv_at hl 1 rfl) ?_
        refine gs_get hx hb ht hown hK hG k_DE y_dv 4 (by decide) w_115 rfl d_DE_closeRound_63 ?_
        refine gs_callVv (As := [.ref cm]) (rest := []) ⟨hx, hb, hml, hown, hts⟩ hK hE hz hG hS (c_TU_copyCodes l X σ1 la lc li lb k cm mc mi mb C.length ds a9 (ndp hnd2 1 2 (by decide) rfl rfl) (ndp hnd 3 4 (by decide) rfl rfl) (by omega) y_la y_lc y_cm y_mc) mV_TU_copyCodes w_245 y_la rfl rfl hl.1 rfl (Nat.le_of_ble_eq_true rfl) ⟨(by first | decide | omega | (dsimp only [headSpec]; omega)), (by first | decide | omega | (dsimp only [headSpec]; omega))⟩ ⟨(by first | decide | omega | (dsimp only [headSpec]; omega)), (by first | decide | omega | (dsimp only [headSpec]; omega))⟩ d_DE_closeRound_66 (fun σ_66 H locs hp_66 hG hS => ?_)
        rw [hp_66] at hG
        obtain ⟨σ_1, eσ_1⟩ : ∃ zq, zq = gs_up σ1 lc (gs_ia X 301 (va_cpy a9 ds 0 0 C.length)) := ⟨_, rfl⟩
        have hc_2 : σ_1 dv = some (gs_ob 1 [.ref bk, .ref tu, .ref ma, .ref la, .ref cm, .int (nI sa), .int (bI nw), .int (nI (rc + 1))]) := by rw [eσ_1]; exact gs_ku (gs_ne y_dv y_lc (by simp)) y_dv
        have hc_3 : σ_1 tu = some (gs_ob 6 [.ref ac, .ref ai, .ref ab, .int (nI E1.length)]) := by rw [eσ_1]; exact gs_ku (gs_ne y_tu y_lc (by simp)) y_tu
        have hc_4 : σ_1 ac = some (gs_ia X 301 cs1) := by rw [eσ_1]; exact gs_ku (ndp hnd 0 3 (by decide) rfl rfl) y_ac
        have hc_5 : σ_1 ai = some (gs_ia X 301 ci1) := by rw [eσ_1]; exact gs_ku (ndp hnd 1 3 (by decide) rfl rfl) y_ai
        have hc_6 : σ_1 ab = some (gs_ia X 301 cr1) := by rw [eσ_1]; exact gs_ku (ndp hnd 2 3 (by decide) rfl rfl) y_ab
        have hc_7 : σ_1 la = some (gs_ob 6 [.ref lc, .ref li, .ref lb, .int (nI k)]) := by rw [eσ_1]; exact gs_ku (gs_ne y_la y_lc (by simp)) y_la
        have hc_8 : σ_1 cm = some (gs_ob 6 [.ref mc, .ref mi, .ref mb, .int (nI C.length)]) := by rw [eσ_1]; exact gs_ku (gs_ne y_cm y_lc (by simp)) y_cm
        have hc_9 : σ_1 mc = some (gs_ia X 301 a9) := by rw [eσ_1]; exact gs_ku (Ne.symm (ndp hnd 3 4 (by decide) rfl rfl)) y_mc
        have hc_10 : σ_1 mb = some (gs_ia X 301 c9) := by rw [eσ_1]; exact gs_ku (Ne.symm (ndp hnd 3 6 (by decide) rfl rfl)) y_mb
        have hc_11 : σ_1 lc = some (gs_ia X 301 (va_cpy a9 ds 0 0 C.length)) := by rw [eσ_1]; exact gs_us
        have fr_12 : frm [dv, tu, ac, ai, ab, la, lc] σ σ_1 := by rw [eσ_1]; exact hf1.up (by simp)
        obtain ⟨σ_13, eσ_13⟩ : ∃ zq, zq = gs_up σ_1 la (gs_ob 6 [.ref lc, .ref li, .ref lb, .int (nI C.length)]) := ⟨_, rfl⟩
        have hc_14 : σ_13 dv = some (gs_ob 1 [.ref bk, .ref tu, .ref ma, .ref la, .ref cm, .int (nI sa), .int (bI nw), .int (nI (rc + 1))]) := by rw [eσ_13]; exact gs_ku (gs_ne hc_2 hc_7 (by simp)) hc_2
        have hc_15 : σ_13 tu = some (gs_ob 6 [.ref ac, .ref ai, .ref ab, .int (nI E1.length)]) := by rw [eσ_13]; exact gs_ku (ndp hnd2 0 1 (by decide) rfl rfl) hc_3
        have hc_16 : σ_13 ac = some (gs_ia X 301 cs1) := by rw [eσ_13]; exact gs_ku (gs_ne hc_4 hc_7 (by simp)) hc_4
        have hc_17 : σ_13 ai = some (gs_ia X 301 ci1) := by rw [eσ_13]; exact gs_ku (gs_ne hc_5 hc_7 (by simp)) hc_5
        have hc_18 : σ_13 ab = some (gs_ia X 301 cr1) := by rw [eσ_13]; exact gs_ku (gs_ne hc_6 hc_7 (by simp)) hc_6
        have hc_19 : σ_13 cm = some (gs_ob 6 [.ref mc, .ref mi, .ref mb, .int (nI C.length)]) := by rw [eσ_13]; exact gs_ku (Ne.symm (ndp hnd2 1 2 (by decide) rfl rfl)) hc_8
        have hc_20 : σ_13 mc = some (gs_ia X 301 a9) := by rw [eσ_13]; exact gs_ku (gs_ne hc_9 hc_7 (by simp)) hc_9
        have hc_21 : σ_13 mb = some (gs_ia X 301 c9) := by rw [eσ_13]; exact gs_ku (gs_ne hc_10 hc_7 (by simp)) hc_10
        have hc_22 : σ_13 lc = some (gs_ia X 301 (va_cpy a9 ds 0 0 C.length)) := by rw [eσ_13]; exact gs_ku (gs_ne hc_11 hc_7 (by simp)) hc_11
        have hc_23 : σ_13 la = some (gs_ob 6 [.ref lc, .ref li, .ref lb, .int (nI C.length)]) := by rw [eσ_13]; exact gs_us
        have fr_24 : frm [dv, tu, ac, ai, ab, la, lc] σ σ_13 := by rw [eσ_13]; exact fr_12.up (by simp)
        rw [← eσ_1, ← eσ_13] at hG
        refine lv_aload_n hx hb d_DE_closeRound_69 rfl (lv_at hl 1 rfl) ?_
        refine lv_aload_n hx hb d_DE_closeRound_70 rfl (lv_at hl 1 rfl) ?_
        refine gs_get hx hb ht hown hK hG k_DE hc_14 4 (by decide) w_115 rfl d_DE_closeRound_71 ?_
        refine gs_get hx hb ht hown hK hG k_TU hc_19 3 (by decide) w_78 rfl d_DE_closeRound_74 ?_
        refine lv_if_ne (tgt := 84) hx hb d_DE_closeRound_77 (by decide) (fun c_77 => ?_) (fun c_77 => ?_)
        · have c_77 : ¬ C.length = 0 := gs_zn (by omega) c_77
          refine lv_iconst (v := nI 0) hx hb d_DE_closeRound_84 (by decide) ?_
          refine gs_put hx hb ht hown hK hG hS k_DE hc_14 6 (by decide) w_117 rfl rfl rfl (Nat.le_of_ble_eq_true rfl) d_DE_closeRound_85 (fun H locs hG hS => ?_)
          have hG : gs_H X (gs_up σ_13 dv (gs_ob 1 [.ref bk, .ref tu, .ref ma, .ref la, .ref cm, .int (nI sa), .int (nI 0), .int (nI (rc + 1))])) H := hG
          obtain ⟨σ_25, eσ_25⟩ : ∃ zq, zq = gs_up σ_13 dv (gs_ob 1 [.ref bk, .ref tu, .ref ma, .ref la, .ref cm, .int (nI sa), .int (nI 0), .int (nI (rc + 1))]) := ⟨_, rfl⟩
          rw [← eσ_25] at hG
          have hc_26 : σ_25 tu = some (gs_ob 6 [.ref ac, .ref ai, .ref ab, .int (nI E1.length)]) := by rw [eσ_25]; exact gs_ku (gs_ne hc_15 hc_14 (by simp)) hc_15
          have hc_27 : σ_25 ac = some (gs_ia X 301 cs1) := by rw [eσ_25]; exact gs_ku (gs_ne hc_16 hc_14 (by simp)) hc_16
          have hc_28 : σ_25 ai = some (gs_ia X 301 ci1) := by rw [eσ_25]; exact gs_ku (gs_ne hc_17 hc_14 (by simp)) hc_17
          have hc_29 : σ_25 ab = some (gs_ia X 301 cr1) := by rw [eσ_25]; exact gs_ku (gs_ne hc_18 hc_14 (by simp)) hc_18
          have hc_30 : σ_25 cm = some (gs_ob 6 [.ref mc, .ref mi, .ref mb, .int (nI C.length)]) := by rw [eσ_25]; exact gs_ku (gs_ne hc_19 hc_14 (by simp)) hc_19
          have hc_31 : σ_25 mc = some (gs_ia X 301 a9) := by rw [eσ_25]; exact gs_ku (gs_ne hc_20 hc_14 (by simp)) hc_20
          have hc_32 : σ_25 mb = some (gs_ia X 301 c9) := by rw [eσ_25]; exact gs_ku (gs_ne hc_21 hc_14 (by simp)) hc_21
          have hc_33 : σ_25 lc = some (gs_ia X 301 (va_cpy a9 ds 0 0 C.length)) := by rw [eσ_25]; exact gs_ku (gs_ne hc_22 hc_14 (by simp)) hc_22
          have hc_34 : σ_25 la = some (gs_ob 6 [.ref lc, .ref li, .ref lb, .int (nI C.length)]) := by rw [eσ_25]; exact gs_ku (gs_ne hc_23 hc_14 (by simp)) hc_23
          have hc_35 : σ_25 dv = some (gs_ob 1 [.ref bk, .ref tu, .ref ma, .ref la, .ref cm, .int (nI sa), .int (nI 0), .int (nI (rc + 1))]) := by rw [eσ_25]; exact gs_us
          have fr_36 : frm [dv, tu, ac, ai, ab, la, lc] σ σ_25 := by rw [eσ_25]; exact fr_24.up (by simp)
          refine lv_aload_n hx hb d_DE_closeRound_88 rfl (lv_at hl 1 rfl) ?_
          refine gs_get hx hb ht hown hK hG k_DE hc_35 6 (by decide) w_117 rfl d_DE_closeRound_89 ?_
          refine lv_if_eq (tgt := 105) hx hb d_DE_closeRound_92 (by decide) (fun c_92 => ?_) (fun c_92 => ?_)
          · have c_92 : 0 = 0 := gs_z (by omega) c_92
            have hie : i = C.length := by omega
            rw [hie, List.take_length] at hE1
            subst hE1
            exact gs_vret hx hb hr hK hE hz hG hS hlocks (by first | decide | omega | (dsimp only [headSpec]; omega)) (by first | decide | omega | (dsimp only [headSpec]; omega)) (⟨cs1, ci1, cr1, _, (by first | (have hC : C = [] := List.eq_nil_of_length_eq_zero (by omega); simp only [hC, if_true, decide_true] at *; exact hc_35) | (have hC : ¬ C = [] := (fun z => by rw [z] at c_77; exact c_77 rfl); rw [if_neg hC, decide_eq_false hC]; exact hc_35)), hc_26, hc_27, hc_28, hc_29, hc_34, hc_33, hR1, hB1, (by omega), (fun j x hx => by obtain ⟨e, he, rfl⟩ := cds_get hx; have hlt := (List.getElem?_eq_some_iff.mp he).1; exact ⟨(va_cpy_0 hlt).trans (hRC _ _ he).1, (hBC.2.2 _ (List.mem_of_getElem? he)).1⟩), fr_36⟩) d_DE_closeRound_105
          · exact absurd c_92 (by decide)
        · have c_77 : C.length = 0 := gs_z (by omega) c_77
          refine lv_iconst (v := nI 1) hx hb d_DE_closeRound_80 (by decide) ?_
          refine lv_goto (tgt := 85) hx hb d_DE_closeRound_81 (by decide) ?_
          refine gs_put hx hb ht hown hK hG hS k_DE hc_14 6 (by decide) w_117 rfl rfl rfl (Nat.le_of_ble_eq_true rfl) d_DE_closeRound_85 (fun H locs hG hS => ?_)
          have hG : gs_H X (gs_up σ_13 dv (gs_ob 1 [.ref bk, .ref tu, .ref ma, .ref la, .ref cm, .int (nI sa), .int (nI 1), .int (nI (rc + 1))])) H := hG
          obtain ⟨σ_37, eσ_37⟩ : ∃ zq, zq = gs_up σ_13 dv (gs_ob 1 [.ref bk, .ref tu, .ref ma, .ref la, .ref cm, .int (nI sa), .int (nI 1), .int (nI (rc + 1))]) := ⟨_, rfl⟩
          rw [← eσ_37] at hG
          have hc_38 : σ_37 tu = some (gs_ob 6 [.ref ac, .ref ai, .ref ab, .int (nI E1.length)]) := by rw [eσ_37]; exact gs_ku (gs_ne hc_15 hc_14 (by simp)) hc_15
          have hc_39 : σ_37 ac = some (gs_ia X 301 cs1) := by rw [eσ_37]; exact gs_ku (gs_ne hc_16 hc_14 (by simp)) hc_16
          have hc_40 : σ_37 ai = some (gs_ia X 301 ci1) := by rw [eσ_37]; exact gs_ku (gs_ne hc_17 hc_14 (by simp)) hc_17
          have hc_41 : σ_37 ab = some (gs_ia X 301 cr1) := by rw [eσ_37]; exact gs_ku (gs_ne hc_18 hc_14 (by simp)) hc_18
          have hc_42 : σ_37 cm = some (gs_ob 6 [.ref mc, .ref mi, .ref mb, .int (nI C.length)]) := by rw [eσ_37]; exact gs_ku (gs_ne hc_19 hc_14 (by simp)) hc_19
          have hc_43 : σ_37 mc = some (gs_ia X 301 a9) := by rw [eσ_37]; exact gs_ku (gs_ne hc_20 hc_14 (by simp)) hc_20
          have hc_44 : σ_37 mb = some (gs_ia X 301 c9) := by rw [eσ_37]; exact gs_ku (gs_ne hc_21 hc_14 (by simp)) hc_21
          have hc_45 : σ_37 lc = some (gs_ia X 301 (va_cpy a9 ds 0 0 C.length)) := by rw [eσ_37]; exact gs_ku (gs_ne hc_22 hc_14 (by simp)) hc_22
          have hc_46 : σ_37 la = some (gs_ob 6 [.ref lc, .ref li, .ref lb, .int (nI C.length)]) := by rw [eσ_37]; exact gs_ku (gs_ne hc_23 hc_14 (by simp)) hc_23
          have hc_47 : σ_37 dv = some (gs_ob 1 [.ref bk, .ref tu, .ref ma, .ref la, .ref cm, .int (nI sa), .int (nI 1), .int (nI (rc + 1))]) := by rw [eσ_37]; exact gs_us
          have fr_48 : frm [dv, tu, ac, ai, ab, la, lc] σ σ_37 := by rw [eσ_37]; exact fr_24.up (by simp)
          refine lv_aload_n hx hb d_DE_closeRound_88 rfl (lv_at hl 1 rfl) ?_
          refine gs_get hx hb ht hown hK hG k_DE hc_47 6 (by decide) w_117 rfl d_DE_closeRound_89 ?_
          refine lv_if_eq (tgt := 105) hx hb d_DE_closeRound_92 (by decide) (fun c_92 => ?_) (fun c_92 => ?_)
          · exact absurd c_92 (by decide)
          · have c_92 : ¬ 1 = 0 := gs_zn (by omega) c_92
            refine lv_aload_n hx hb d_DE_closeRound_95 rfl (lv_at hl 1 rfl) ?_
            refine lv_dup hx hb d_DE_closeRound_96 rfl ?_
            refine gs_get hx hb ht hown hK hG k_DE hc_47 5 (by decide) w_116 rfl d_DE_closeRound_97 ?_
            refine lv_iconst (v := nI 1) hx hb d_DE_closeRound_100 (by decide) ?_
            refine lv_iadd hx hb d_DE_closeRound_101 ?_
            refine gs_top (nI_add sa 1) ?_
            refine gs_put hx hb ht hown hK hG hS k_DE hc_47 5 (by decide) w_116 rfl rfl rfl (Nat.le_of_ble_eq_true rfl) d_DE_closeRound_102 (fun H locs hG hS => ?_)
            have hG : gs_H X (gs_up σ_37 dv (gs_ob 1 [.ref bk, .ref tu, .ref ma, .ref la, .ref cm, .int (nI (sa + 1)), .int (nI 1), .int (nI (rc + 1))])) H := hG
            obtain ⟨σ_49, eσ_49⟩ : ∃ zq, zq = gs_up σ_37 dv (gs_ob 1 [.ref bk, .ref tu, .ref ma, .ref la, .ref cm, .int (nI (sa + 1)), .int (nI 1), .int (nI (rc + 1))]) := ⟨_, rfl⟩
            rw [← eσ_49] at hG
            have hc_50 : σ_49 tu = some (gs_ob 6 [.ref ac, .ref ai, .ref ab, .int (nI E1.length)]) := by rw [eσ_49]; exact gs_ku (gs_ne hc_38 hc_47 (by simp)) hc_38
            have hc_51 : σ_49 ac = some (gs_ia X 301 cs1) := by rw [eσ_49]; exact gs_ku (gs_ne hc_39 hc_47 (by simp)) hc_39
            have hc_52 : σ_49 ai = some (gs_ia X 301 ci1) := by rw [eσ_49]; exact gs_ku (gs_ne hc_40 hc_47 (by simp)) hc_40
            have hc_53 : σ_49 ab = some (gs_ia X 301 cr1) := by rw [eσ_49]; exact gs_ku (gs_ne hc_41 hc_47 (by simp)) hc_41
            have hc_54 : σ_49 cm = some (gs_ob 6 [.ref mc, .ref mi, .ref mb, .int (nI C.length)]) := by rw [eσ_49]; exact gs_ku (gs_ne hc_42 hc_47 (by simp)) hc_42
            have hc_55 : σ_49 mc = some (gs_ia X 301 a9) := by rw [eσ_49]; exact gs_ku (gs_ne hc_43 hc_47 (by simp)) hc_43
            have hc_56 : σ_49 mb = some (gs_ia X 301 c9) := by rw [eσ_49]; exact gs_ku (gs_ne hc_44 hc_47 (by simp)) hc_44
            have hc_57 : σ_49 lc = some (gs_ia X 301 (va_cpy a9 ds 0 0 C.length)) := by rw [eσ_49]; exact gs_ku (gs_ne hc_45 hc_47 (by simp)) hc_45
            have hc_58 : σ_49 la = some (gs_ob 6 [.ref lc, .ref li, .ref lb, .int (nI C.length)]) := by rw [eσ_49]; exact gs_ku (gs_ne hc_46 hc_47 (by simp)) hc_46
            have hc_59 : σ_49 dv = some (gs_ob 1 [.ref bk, .ref tu, .ref ma, .ref la, .ref cm, .int (nI (sa + 1)), .int (nI 1), .int (nI (rc + 1))]) := by rw [eσ_49]; exact gs_us
            have fr_60 : frm [dv, tu, ac, ai, ab, la, lc] σ σ_49 := by rw [eσ_49]; exact fr_48.up (by simp)
            have hie : i = C.length := by omega
            rw [hie, List.take_length] at hE1
            subst hE1
            exact gs_vret hx hb hr hK hE hz hG hS hlocks (by first | decide | omega | (dsimp only [headSpec]; omega)) (by first | decide | omega | (dsimp only [headSpec]; omega)) (⟨cs1, ci1, cr1, _, (by first | (have hC : C = [] := List.eq_nil_of_length_eq_zero (by omega); simp only [hC, if_true, decide_true] at *; exact hc_59) | (have hC : ¬ C = [] := (fun z => by rw [z] at c_77; exact c_77 rfl); rw [if_neg hC, decide_eq_false hC]; exact hc_59)), hc_50, hc_51, hc_52, hc_53, hc_58, hc_57, hR1, hB1, (by omega), (fun j x hx => by obtain ⟨e, he, rfl⟩ := cds_get hx; have hlt := (List.getElem?_eq_some_iff.mp he).1; exact ⟨(va_cpy_0 hlt).trans (hRC _ _ he).1, (hBC.2.2 _ (List.mem_of_getElem? he)).1⟩), fr_60⟩) d_DE_closeRound_105
      · have c_20 : ¬ C.length ≤ i := mt (nI_leI (by omega) (by omega)).mpr c_20
        refine lv_aload_n hx hb d_DE_closeRound_23 rfl (lv_at hl 1 rfl) ?_
        refine gs_get hx hb ht hown hK hG k_DE y_dv 1 (by decide) w_112 rfl d_DE_closeRound_24 ?_
        refine lv_aload_n hx hb d_DE_closeRound_27 rfl (lv_at hl 1 rfl) ?_
        refine gs_get hx hb ht hown hK hG k_DE y_dv 4 (by decide) w_115 rfl d_DE_closeRound_28 ?_
        refine gs_get hx hb ht hown hK hG k_TU y_cm 0 (by decide) w_69 rfl d_DE_closeRound_31 ?_
        refine lv_iload_n hx hb d_DE_closeRound_34 rfl (lv_at hl 0 rfl) ?_
        obtain ⟨x, hx9⟩ := get_ex (L := C) (j := i) (by omega)
        obtain ⟨hx1, hx2, hx3⟩ := hRC _ _ hx9
        obtain ⟨hx4, hx5⟩ := hBC.2.2 _ (List.mem_of_getElem? hx9)
        refine gs_iald hx hb hK hG y_mc (j := i) (by omega) (by omega) d_DE_closeRound_35 ?_
        refine gs_top (show (a9 i) = (nI x.1) from hx1) ?_
        refine lv_aload_n hx hb d_DE_closeRound_36 rfl (lv_at hl 1 rfl) ?_
        refine gs_get hx hb ht hown hK hG k_DE y_dv 7 (by decide) w_118 rfl d_DE_closeRound_37 ?_
        refine lv_aload_n hx hb d_DE_closeRound_40 rfl (lv_at hl 1 rfl) ?_
        refine gs_get hx hb ht hown hK hG k_DE y_dv 4 (by decide) w_115 rfl d_DE_closeRound_41 ?_
        refine gs_get hx hb ht hown hK hG k_TU y_cm 2 (by decide) w_75 rfl d_DE_closeRound_44 ?_
        refine lv_iload_n hx hb d_DE_closeRound_47 rfl (lv_at hl 0 rfl) ?_
        refine gs_iald hx hb hK hG y_mb (j := i) (by omega) (by omega) d_DE_closeRound_48 ?_
        refine gs_top (show (c9 i) = x.2.2 from hx3) ?_
        refine gs_callVv (As := [.int (nI x.1), .int (nI (rc + 1)), .int x.2.2]) (rest := []) ⟨hx, hb, hml, hown, hts⟩ hK hE hz hG hS (c_TU_insert l X σ1 tu ac ai ab E1 cs1 ci1 cr1 x.1 (rc + 1) x.2.2 (ndp hnd 0 1 (by decide) rfl rfl) (ndp hnd 0 2 (by decide) rfl rfl) (ndp hnd 1 2 (by decide) rfl rfl) hB1 hR1 (by omega) hx4 y_tu y_ac y_ai y_ab) mV_TU_insert w_214 y_tu rfl rfl hl.1 rfl (Nat.le_of_ble_eq_true rfl) ⟨(by first | decide | omega | (dsimp only [headSpec]; omega)), (by first | decide | omega | (dsimp only [headSpec]; omega))⟩ ⟨(by first | decide | omega | (dsimp only [headSpec]; omega)), (by first | decide | omega | (dsimp only [headSpec]; omega))⟩ d_DE_closeRound_49 (fun σ_49 H locs hp_49 hG hS => ?_)
        obtain ⟨cs2, ci2, cr2, ev2, hR2⟩ := hp_49
        rw [ev2] at hG
        unfold tu4 at hG
        have hB2 := tuB_ins hB1 (e := (x.1, rc + 1, x.2.2)) hx4 hrc (by omega)
        obtain ⟨σ_61, eσ_61⟩ : ∃ zq, zq = gs_up σ1 ac (gs_ia X 301 cs2) := ⟨_, rfl⟩
        have hc_62 : σ_61 dv = some (gs_ob 1 [.ref bk, .ref tu, .ref ma, .ref la, .ref cm, .int (nI sa), .int (bI nw), .int (nI (rc + 1))]) := by rw [eσ_61]; exact gs_ku (gs_ne y_dv y_ac (by simp)) y_dv
        have hc_63 : σ_61 tu = some (gs_ob 6 [.ref ac, .ref ai, .ref ab, .int (nI E1.length)]) := by rw [eσ_61]; exact gs_ku (gs_ne y_tu y_ac (by simp)) y_tu
        have hc_64 : σ_61 ai = some (gs_ia X 301 ci1) := by rw [eσ_61]; exact gs_ku (Ne.symm (ndp hnd 0 1 (by decide) rfl rfl)) y_ai
        have hc_65 : σ_61 ab = some (gs_ia X 301 cr1) := by rw [eσ_61]; exact gs_ku (Ne.symm (ndp hnd 0 2 (by decide) rfl rfl)) y_ab
        have hc_66 : σ_61 la = some (gs_ob 6 [.ref lc, .ref li, .ref lb, .int (nI k)]) := by rw [eσ_61]; exact gs_ku (gs_ne y_la y_ac (by simp)) y_la
        have hc_67 : σ_61 lc = some (gs_ia X 301 ds) := by rw [eσ_61]; exact gs_ku (Ne.symm (ndp hnd 0 3 (by decide) rfl rfl)) y_lc
        have hc_68 : σ_61 cm = some (gs_ob 6 [.ref mc, .ref mi, .ref mb, .int (nI C.length)]) := by rw [eσ_61]; exact gs_ku (gs_ne y_cm y_ac (by simp)) y_cm
        have hc_69 : σ_61 mc = some (gs_ia X 301 a9) := by rw [eσ_61]; exact gs_ku (Ne.symm (ndp hnd 0 4 (by decide) rfl rfl)) y_mc
        have hc_70 : σ_61 mb = some (gs_ia X 301 c9) := by rw [eσ_61]; exact gs_ku (Ne.symm (ndp hnd 0 6 (by decide) rfl rfl)) y_mb
        have hc_71 : σ_61 ac = some (gs_ia X 301 cs2) := by rw [eσ_61]; exact gs_us
        have fr_72 : frm [dv, tu, ac, ai, ab, la, lc] σ σ_61 := by rw [eσ_61]; exact hf1.up (by simp)
        obtain ⟨σ_73, eσ_73⟩ : ∃ zq, zq = gs_up σ_61 ai (gs_ia X 301 ci2) := ⟨_, rfl⟩
        have hc_74 : σ_73 dv = some (gs_ob 1 [.ref bk, .ref tu, .ref ma, .ref la, .ref cm, .int (nI sa), .int (bI nw), .int (nI (rc + 1))]) := by rw [eσ_73]; exact gs_ku (gs_ne hc_62 hc_64 (by simp)) hc_62
        have hc_75 : σ_73 tu = some (gs_ob 6 [.ref ac, .ref ai, .ref ab, .int (nI E1.length)]) := by rw [eσ_73]; exact gs_ku (gs_ne hc_63 hc_64 (by simp)) hc_63
        have hc_76 : σ_73 ab = some (gs_ia X 301 cr1) := by rw [eσ_73]; exact gs_ku (Ne.symm (ndp hnd 1 2 (by decide) rfl rfl)) hc_65
        have hc_77 : σ_73 la = some (gs_ob 6 [.ref lc, .ref li, .ref lb, .int (nI k)]) := by rw [eσ_73]; exact gs_ku (gs_ne hc_66 hc_64 (by simp)) hc_66
        have hc_78 : σ_73 lc = some (gs_ia X 301 ds) := by rw [eσ_73]; exact gs_ku (Ne.symm (ndp hnd 1 3 (by decide) rfl rfl)) hc_67
        have hc_79 : σ_73 cm = some (gs_ob 6 [.ref mc, .ref mi, .ref mb, .int (nI C.length)]) := by rw [eσ_73]; exact gs_ku (gs_ne hc_68 hc_64 (by simp)) hc_68
        have hc_80 : σ_73 mc = some (gs_ia X 301 a9) := by rw [eσ_73]; exact gs_ku (Ne.symm (ndp hnd 1 4 (by decide) rfl rfl)) hc_69
        have hc_81 : σ_73 mb = some (gs_ia X 301 c9) := by rw [eσ_73]; exact gs_ku (Ne.symm (ndp hnd 1 6 (by decide) rfl rfl)) hc_70
        have hc_82 : σ_73 ac = some (gs_ia X 301 cs2) := by rw [eσ_73]; exact gs_ku (ndp hnd 0 1 (by decide) rfl rfl) hc_71
        have hc_83 : σ_73 ai = some (gs_ia X 301 ci2) := by rw [eσ_73]; exact gs_us
        have fr_84 : frm [dv, tu, ac, ai, ab, la, lc] σ σ_73 := by rw [eσ_73]; exact fr_72.up (by simp)
        obtain ⟨σ_85, eσ_85⟩ : ∃ zq, zq = gs_up σ_73 ab (gs_ia X 301 cr2) := ⟨_, rfl⟩
        have hc_86 : σ_85 dv = some (gs_ob 1 [.ref bk, .ref tu, .ref ma, .ref la, .ref cm, .int (nI sa), .int (bI nw), .int (nI (rc + 1))]) := by rw [eσ_85]; exact gs_ku (gs_ne hc_74 hc_76 (by simp)) hc_74
        have hc_87 : σ_85 tu = some (gs_ob 6 [.ref ac, .ref ai, .ref ab, .int (nI E1.length)]) := by rw [eσ_85]; exact gs_ku (gs_ne hc_75 hc_76 (by simp)) hc_75
        have hc_88 : σ_85 la = some (gs_ob 6 [.ref lc, .ref li, .ref lb, .int (nI k)]) := by rw [eσ_85]; exact gs_ku (gs_ne hc_77 hc_76 (by simp)) hc_77
        have hc_89 : σ_85 lc = some (gs_ia X 301 ds) := by rw [eσ_85]; exact gs_ku (Ne.symm (ndp hnd 2 3 (by decide) rfl rfl)) hc_78
        have hc_90 : σ_85 cm = some (gs_ob 6 [.ref mc, .ref mi, .ref mb, .int (nI C.length)]) := by rw [eσ_85]; exact gs_ku (gs_ne hc_79 hc_76 (by simp)) hc_79
        have hc_91 : σ_85 mc = some (gs_ia X 301 a9) := by rw [eσ_85]; exact gs_ku (Ne.symm (ndp hnd 2 4 (by decide) rfl rfl)) hc_80
        have hc_92 : σ_85 mb = some (gs_ia X 301 c9) := by rw [eσ_85]; exact gs_ku (Ne.symm (ndp hnd 2 6 (by decide) rfl rfl)) hc_81
        have hc_93 : σ_85 ac = some (gs_ia X 301 cs2) := by rw [eσ_85]; exact gs_ku (ndp hnd 0 2 (by decide) rfl rfl) hc_82
        have hc_94 : σ_85 ai = some (gs_ia X 301 ci2) := by rw [eσ_85]; exact gs_ku (ndp hnd 1 2 (by decide) rfl rfl) hc_83
        have hc_95 : σ_85 ab = some (gs_ia X 301 cr2) := by rw [eσ_85]; exact gs_us
        have fr_96 : frm [dv, tu, ac, ai, ab, la, lc] σ σ_85 := by rw [eσ_85]; exact fr_84.up (by simp)
        obtain ⟨σ_97, eσ_97⟩ : ∃ zq, zq = gs_up σ_85 tu (gs_ob 6 [.ref ac, .ref ai, .ref ab, .int (nI (E1.length + 1))]) := ⟨_, rfl⟩
        have hc_98 : σ_97 dv = some (gs_ob 1 [.ref bk, .ref tu, .ref ma, .ref la, .ref cm, .int (nI sa), .int (bI nw), .int (nI (rc + 1))]) := by rw [eσ_97]; exact gs_ku (gs_ne hc_86 hc_87 (by simp)) hc_86
        have hc_99 : σ_97 la = some (gs_ob 6 [.ref lc, .ref li, .ref lb, .int (nI k)]) := by rw [eσ_97]; exact gs_ku (Ne.symm (ndp hnd2 0 1 (by decide) rfl rfl)) hc_88
        have hc_100 : σ_97 lc = some (gs_ia X 301 ds) := by rw [eσ_97]; exact gs_ku (gs_ne hc_89 hc_87 (by simp)) hc_89
        have hc_101 : σ_97 cm = some (gs_ob 6 [.ref mc, .ref mi, .ref mb, .int (nI C.length)]) := by rw [eσ_97]; exact gs_ku (Ne.symm (ndp hnd2 0 2 (by decide) rfl rfl)) hc_90
        have hc_102 : σ_97 mc = some (gs_ia X 301 a9) := by rw [eσ_97]; exact gs_ku (gs_ne hc_91 hc_87 (by simp)) hc_91
        have hc_103 : σ_97 mb = some (gs_ia X 301 c9) := by rw [eσ_97]; exact gs_ku (gs_ne hc_92 hc_87 (by simp)) hc_92
        have hc_104 : σ_97 ac = some (gs_ia X 301 cs2) := by rw [eσ_97]; exact gs_ku (gs_ne hc_93 hc_87 (by simp)) hc_93
        have hc_105 : σ_97 ai = some (gs_ia X 301 ci2) := by rw [eσ_97]; exact gs_ku (gs_ne hc_94 hc_87 (by simp)) hc_94
        have hc_106 : σ_97 ab = some (gs_ia X 301 cr2) := by rw [eσ_97]; exact gs_ku (gs_ne hc_95 hc_87 (by simp)) hc_95
        have hc_107 : σ_97 tu = some (gs_ob 6 [.ref ac, .ref ai, .ref ab, .int (nI (E1.length + 1))]) := by rw [eσ_97]; exact gs_us
        have fr_108 : frm [dv, tu, ac, ai, ab, la, lc] σ σ_97 := by rw [eσ_97]; exact fr_96.up (by simp)
        rw [← eσ_61, ← eσ_73, ← eσ_85, ← eσ_97] at hG
        refine lv_iinc (v := (nI (i + 1))) (lv' := [(1, .int (nI (i + 1))), (0, .ref dv)]) hx hb d_DE_closeRound_52 hl (k := 0) rfl (by exact nI_1 _) (by decide) rfl (fun ls hl => ?_)
        refine lv_goto (tgt := 12) hx hb d_DE_closeRound_55 (by decide) ?_
        have hln : (insE E1 (x.1, rc + 1, x.2.2)).length = E1.length + 1 := insE_len _ _
        have hy9 : σ_97 tu = some (gs_ob 6 [.ref ac, .ref ai, .ref ab, .int (nI ((insE E1 (x.1, rc + 1, x.2.2)).length))]) := by rw [hln]; exact hc_107
        exact ih (i + 1) (insE E1 (x.1, rc + 1, x.2.2)) cs2 ci2 cr2 σ_97 (by omega) (by rw [clE_snoc hx9, ← hE1]) (by omega) hB2 hR2 fr_108 (by omega) hc_98 hy9 hc_104 hc_105 hc_106 hc_99 hc_100 hc_101 hc_102 hc_103 H locs hG hS ls (lv_sub hl [0, 1] rfl)
  refine lv_aload_n hx hb d_DE_closeRound_0 rfl (lv_at hl 0 rfl) ?_
  refine lv_dup hx hb d_DE_closeRound_1 rfl ?_
  refine gs_get hx hb ht hown hK hG k_DE d0 7 (by decide) w_118 rfl d_DE_closeRound_2 ?_
  refine lv_iconst (v := nI 1) hx hb d_DE_closeRound_5 (by decide) ?_
  refine lv_iadd hx hb d_DE_closeRound_6 ?_
  refine gs_top (nI_add rc 1) ?_
  refine gs_put hx hb ht hown hK hG hS k_DE d0 7 (by decide) w_118 rfl rfl rfl (Nat.le_of_ble_eq_true rfl) d_DE_closeRound_7 (fun H locs hG hS => ?_)
  have hG : gs_H X (gs_up σ dv (gs_ob 1 [.ref bk, .ref tu, .ref ma, .ref la, .ref cm, .int (nI sa), .int (bI nw), .int (nI (rc + 1))])) H := hG
  obtain ⟨σ_1, eσ_1⟩ : ∃ zq, zq = gs_up σ dv (gs_ob 1 [.ref bk, .ref tu, .ref ma, .ref la, .ref cm, .int (nI sa), .int (bI nw), .int (nI (rc + 1))]) := ⟨_, rfl⟩
  rw [← eσ_1] at hG
  have hc_2 : σ_1 tu = some (gs_ob 6 [.ref ac, .ref ai, .ref ab, .int (nI E.length)]) := by rw [eσ_1]; exact gs_ku (gs_ne t0 d0 (by simp)) t0
  have hc_3 : σ_1 ac = some (gs_ia X 301 cs) := by rw [eσ_1]; exact gs_ku (gs_ne t1 d0 (by simp)) t1
  have hc_4 : σ_1 ai = some (gs_ia X 301 ci) := by rw [eσ_1]; exact gs_ku (gs_ne t2 d0 (by simp)) t2
  have hc_5 : σ_1 ab = some (gs_ia X 301 cr) := by rw [eσ_1]; exact gs_ku (gs_ne t3 d0 (by simp)) t3
  have hc_6 : σ_1 la = some (gs_ob 6 [.ref lc, .ref li, .ref lb, .int (nI k)]) := by rw [eσ_1]; exact gs_ku (gs_ne l0 d0 (by simp)) l0
  have hc_7 : σ_1 lc = some (gs_ia X 301 ds) := by rw [eσ_1]; exact gs_ku (gs_ne l1 d0 (by simp)) l1
  have hc_8 : σ_1 cm = some (gs_ob 6 [.ref mc, .ref mi, .ref mb, .int (nI C.length)]) := by rw [eσ_1]; exact gs_ku (gs_ne m0 d0 (by simp)) m0
  have hc_9 : σ_1 mc = some (gs_ia X 301 a9) := by rw [eσ_1]; exact gs_ku (gs_ne m1 d0 (by simp)) m1
  have hc_10 : σ_1 mb = some (gs_ia X 301 c9) := by rw [eσ_1]; exact gs_ku (gs_ne m3 d0 (by simp)) m3
  have hc_11 : σ_1 dv = some (gs_ob 1 [.ref bk, .ref tu, .ref ma, .ref la, .ref cm, .int (nI sa), .int (bI nw), .int (nI (rc + 1))]) := by rw [eσ_1]; exact gs_us
  have fr_12 : frm [dv, tu, ac, ai, ab, la, lc] σ σ_1 := by rw [eσ_1]; exact fr0.up (by simp)
  refine lv_iconst (v := nI 0) hx hb d_DE_closeRound_10 (by decide) ?_
  refine lv_istore_n (lv' := [(1, .int (nI 0)), (0, .ref dv)]) hx hb d_DE_closeRound_11 rfl hl (by decide) rfl (fun ls hl => ?_)
  exact loop (C.length + 1) 0 E cs ci cr σ_1 (by omega) rfl (by omega) hB hR fr_12 (by omega) hc_11 hc_2 hc_3 hc_4 hc_5 hc_6 hc_7 hc_8 hc_9 hc_10 _ _ hG hS ls (lv_sub hl [0, 1] rfl)
