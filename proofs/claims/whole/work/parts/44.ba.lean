set_option maxHeartbeats 4000000 in
set_option maxRecDepth 100000 in
/-- Deriving.beginAnew -/
theorem c_DE_beginAnew (l : Launch) (X : gs_X) (σ : gs_St) (dv bk tu ma la cm ac ai ab lc li lb mc mi mb va sa rc : Nat) (nw : Bool) (E : List En) (Lt : List Nat) (v : Nat → Nat)
    (hnd : [ac, ai, ab, lc, mc, mi, mb].Nodup) (hnd2 : [tu, la, cm].Nodup) (hdv : dvA X σ dv bk tu ma la cm ac ai ab lc li lb mc mi mb va E Lt v sa nw rc) : gs_Mv l X y_DE_beginAnew b_DE_beginAnew 1 ({ frames := 1, cells := 0, slots := 0, locals := 22 }) σ [.ref dv] (fun σ' => dvA X σ' dv bk tu ma la cm ac ai ab lc li lb mc mi mb va (keepE E) Lt v 0 true 0 ∧ frm [dv, tu, ac, ai, ab] σ σ') := by
  refine Met.ofW (cc := b_DE_beginAnew) (maxL := 1) (ret := none) (by decide) rfl ?_
  intro p e s m args below meth c s₁ B₀ hml hv
  obtain ⟨rfl, hK, hG, hz, hE⟩ := hv
  have hx := B₀.exec
  have hb := B₀.bytes
  have hr := B₀.returns
  have hts := atoms_spec (ws := gs_ws y_DE_beginAnew b_DE_beginAnew 1 none) B₀.pre
  have ht : ∀ w ∈ gs_w, w.before _ s = true := fun w h => hts w (List.mem_cons_of_mem _ h)
  have hown : s.vm.findClass R_DE = some m.cls := findClass_of_methodNamed B₀.named
  have hlocks := B₀.notSynchronized
  have hA : ∀ q : Nat, s.heap.size ≤ q → gs_A X q := fun q h => Nat.le_trans hz h
  have hS : va_S (gs_A X) s.heap s.heap [] := va_S.rf
  have hl := lv_entry ([.ref dv]) (n := 1) (Nat.le_of_ble_eq_true rfl)
  rw [lg_entry_eq]
  generalize (lg_sl ([.ref dv]) ++ List.replicate (1 - (lg_sl ([.ref dv])).length) Slot.unset).toArray = ls at hl ⊢
  have hl : lv_has ls 1 [(0, .ref dv)] := hl
  obtain ⟨cs, ci, cr, ds, vs, a9, b9, c9, z9, d0, t0, t1, t2, t3, l0, l1, m0, m1, m2, m3, q0, q1, hB, hR, hl3, hs2, hn2, hds, hv⟩ := id hdv
  have fr0 : frm [dv, tu, ac, ai, ab] σ σ := frm.rf
  have hkl := keepE_len E
  refine lv_aload_n hx hb d_DE_beginAnew_0 rfl (lv_at hl 0 rfl) ?_
  refine gs_get hx hb ht hown hK hG k_DE d0 1 (by decide) w_112 rfl d_DE_beginAnew_1 ?_
  refine gs_callVv (As := []) (rest := []) ⟨hx, hb, hml, hown, hts⟩ hK hE hz hG hS (c_TU_keepFacts l X σ tu ac ai ab E cs ci cr (ndp hnd 0 1 (by decide) rfl rfl) (ndp hnd 0 2 (by decide) rfl rfl) (ndp hnd 1 2 (by decide) rfl rfl) hB hR t0 t1 t2 t3) mV_TU_keepFacts w_376 t0 rfl rfl hl.1 rfl (Nat.le_of_ble_eq_true rfl) ⟨(by first | decide | omega | (dsimp only [headSpec]; omega)), (by first | decide | omega | (dsimp only [headSpec]; omega))⟩ ⟨(by first | decide | omega | (dsimp only [headSpec]; omega)), (by first | decide | omega | (dsimp only [headSpec]; omega))⟩ d_DE_beginAnew_4 (fun σ_4 H locs hp_4 hG hS => ?_)
  obtain ⟨cs2, ci2, cr2, ev2, hR2⟩ := hp_4
  rw [ev2] at hG
  unfold tu4 at hG
  obtain ⟨σ_1, eσ_1⟩ : ∃ zq, zq = gs_up σ ac (gs_ia X 301 cs2) := ⟨_, rfl⟩
  have hc_2 : σ_1 dv = some (gs_ob 1 [.ref bk, .ref tu, .ref ma, .ref la, .ref cm, .int (nI sa), .int (bI nw), .int (nI rc)]) := by rw [eσ_1]; exact gs_ku (gs_ne d0 t1 (by simp)) d0
  have hc_3 : σ_1 tu = some (gs_ob 6 [.ref ac, .ref ai, .ref ab, .int (nI E.length)]) := by rw [eσ_1]; exact gs_ku (gs_ne t0 t1 (by simp)) t0
  have hc_4 : σ_1 ai = some (gs_ia X 301 ci) := by rw [eσ_1]; exact gs_ku (Ne.symm (ndp hnd 0 1 (by decide) rfl rfl)) t2
  have hc_5 : σ_1 ab = some (gs_ia X 301 cr) := by rw [eσ_1]; exact gs_ku (Ne.symm (ndp hnd 0 2 (by decide) rfl rfl)) t3
  have hc_6 : σ_1 la = some (gs_ob 6 [.ref lc, .ref li, .ref lb, .int (nI Lt.length)]) := by rw [eσ_1]; exact gs_ku (gs_ne l0 t1 (by simp)) l0
  have hc_7 : σ_1 lc = some (gs_ia X 301 ds) := by rw [eσ_1]; exact gs_ku (Ne.symm (ndp hnd 0 3 (by decide) rfl rfl)) l1
  have hc_8 : σ_1 cm = some (gs_ob 6 [.ref mc, .ref mi, .ref mb, .int z9]) := by rw [eσ_1]; exact gs_ku (gs_ne m0 t1 (by simp)) m0
  have hc_9 : σ_1 mc = some (gs_ia X 301 a9) := by rw [eσ_1]; exact gs_ku (Ne.symm (ndp hnd 0 4 (by decide) rfl rfl)) m1
  have hc_10 : σ_1 mi = some (gs_ia X 301 b9) := by rw [eσ_1]; exact gs_ku (Ne.symm (ndp hnd 0 5 (by decide) rfl rfl)) m2
  have hc_11 : σ_1 mb = some (gs_ia X 301 c9) := by rw [eσ_1]; exact gs_ku (Ne.symm (ndp hnd 0 6 (by decide) rfl rfl)) m3
  have hc_12 : σ_1 ma = some (gs_ob 3 [.ref tu, .ref va]) := by rw [eσ_1]; exact gs_ku (gs_ne q0 t1 (by simp)) q0
  have hc_13 : σ_1 va = some (gs_ia X 8 vs) := by rw [eσ_1]; exact gs_ku (gs_ne q1 t1 (by simp)) q1
  have hc_14 : σ_1 ac = some (gs_ia X 301 cs2) := by rw [eσ_1]; exact gs_us
  have fr_15 : frm [dv, tu, ac, ai, ab] σ σ_1 := by rw [eσ_1]; exact fr0.up (by simp)
  obtain ⟨σ_16, eσ_16⟩ : ∃ zq, zq = gs_up σ_1 ai (gs_ia X 301 ci2) := ⟨_, rfl⟩
  have hc_17 : σ_16 dv = some (gs_ob 1 [.ref bk, .ref tu, .ref ma, .ref la, .ref cm, .int (nI sa), .int (bI nw), .int (nI rc)]) := by rw [eσ_16]; exact gs_ku (gs_ne hc_2 hc_4 (by simp)) hc_2
  have hc_18 : σ_16 tu = some (gs_ob 6 [.ref ac, .ref ai, .ref ab, .int (nI E.length)]) := by rw [eσ_16]; exact gs_ku (gs_ne hc_3 hc_4 (by simp)) hc_3
  have hc_19 : σ_16 ab = some (gs_ia X 301 cr) := by rw [eσ_16]; exact gs_ku (Ne.symm (ndp hnd 1 2 (by decide) rfl rfl)) hc_5
  have hc_20 : σ_16 la = some (gs_ob 6 [.ref lc, .ref li, .ref lb, .int (nI Lt.length)]) := by rw [eσ_16]; exact gs_ku (gs_ne hc_6 hc_4 (by simp)) hc_6
  have hc_21 : σ_16 lc = some (gs_ia X 301 ds) := by rw [eσ_16]; exact gs_ku (Ne.symm (ndp hnd 1 3 (by decide) rfl rfl)) hc_7
  have hc_22 : σ_16 cm = some (gs_ob 6 [.ref mc, .ref mi, .ref mb, .int z9]) := by rw [eσ_16]; exact gs_ku (gs_ne hc_8 hc_4 (by simp)) hc_8
  have hc_23 : σ_16 mc = some (gs_ia X 301 a9) := by rw [eσ_16]; exact gs_ku (Ne.symm (ndp hnd 1 4 (by decide) rfl rfl)) hc_9
  have hc_24 : σ_16 mi = some (gs_ia X 301 b9) := by rw [eσ_16]; exact gs_ku (Ne.symm (ndp hnd 1 5 (by decide) rfl rfl)) hc_10
  have hc_25 : σ_16 mb = some (gs_ia X 301 c9) := by rw [eσ_16]; exact gs_ku (Ne.symm (ndp hnd 1 6 (by decide) rfl rfl)) hc_11
  have hc_26 : σ_16 ma = some (gs_ob 3 [.ref tu, .ref va]) := by rw [eσ_16]; exact gs_ku (gs_ne hc_12 hc_4 (by simp)) hc_12
  have hc_27 : σ_16 va = some (gs_ia X 8 vs) := by rw [eσ_16]; exact gs_ku (gs_ne hc_13 hc_4 (by simp)) hc_13
  have hc_28 : σ_16 ac = some (gs_ia X 301 cs2) := by rw [eσ_16]; exact gs_ku (ndp hnd 0 1 (by decide) rfl rfl) hc_14
  have hc_29 : σ_16 ai = some (gs_ia X 301 ci2) := by rw [eσ_16]; exact gs_us
  have fr_30 : frm [dv, tu, ac, ai, ab] σ σ_16 := by rw [eσ_16]; exact fr_15.up (by simp)
  obtain ⟨σ_31, eσ_31⟩ : ∃ zq, zq = gs_up σ_16 ab (gs_ia X 301 cr2) := ⟨_, rfl⟩
  have hc_32 : σ_31 dv = some (gs_ob 1 [.ref bk, .ref tu, .ref ma, .ref la, .ref cm, .int (nI sa), .int (bI nw), .int (nI rc)]) := by rw [eσ_31]; exact gs_ku (gs_ne hc_17 hc_19 (by simp)) hc_17
  have hc_33 : σ_31 tu = some (gs_ob 6 [.ref ac, .ref ai, .ref ab, .int (nI E.length)]) := by rw [eσ_31]; exact gs_ku (gs_ne hc_18 hc_19 (by simp)) hc_18
  have hc_34 : σ_31 la = some (gs_ob 6 [.ref lc, .ref li, .ref lb, .int (nI Lt.length)]) := by rw [eσ_31]; exact gs_ku (gs_ne hc_20 hc_19 (by simp)) hc_20
  have hc_35 : σ_31 lc = some (gs_ia X 301 ds) := by rw [eσ_31]; exact gs_ku (Ne.symm (ndp hnd 2 3 (by decide) rfl rfl)) hc_21
  have hc_36 : σ_31 cm = some (gs_ob 6 [.ref mc, .ref mi, .ref mb, .int z9]) := by rw [eσ_31]; exact gs_ku (gs_ne hc_22 hc_19 (by simp)) hc_22
  have hc_37 : σ_31 mc = some (gs_ia X 301 a9) := by rw [eσ_31]; exact gs_ku (Ne.symm (ndp hnd 2 4 (by decide) rfl rfl)) hc_23
  have hc_38 : σ_31 mi = some (gs_ia X 301 b9) := by rw [eσ_31]; exact gs_ku (Ne.symm (ndp hnd 2 5 (by decide) rfl rfl)) hc_24
  have hc_39 : σ_31 mb = some (gs_ia X 301 c9) := by rw [eσ_31]; exact gs_ku (Ne.symm (ndp hnd 2 6 (by decide) rfl rfl)) hc_25
  have hc_40 : σ_31 ma = some (gs_ob 3 [.ref tu, .ref va]) := by rw [eσ_31]; exact gs_ku (gs_ne hc_26 hc_19 (by simp)) hc_26
  have hc_41 : σ_31 va = some (gs_ia X 8 vs) := by rw [eσ_31]; exact gs_ku (gs_ne hc_27 hc_19 (by simp)) hc_27
  have hc_42 : σ_31 ac = some (gs_ia X 301 cs2) := by rw [eσ_31]; exact gs_ku (ndp hnd 0 2 (by decide) rfl rfl) hc_28
  have hc_43 : σ_31 ai = some (gs_ia X 301 ci2) := by rw [eσ_31]; exact gs_ku (ndp hnd 1 2 (by decide) rfl rfl) hc_29
  have hc_44 : σ_31 ab = some (gs_ia X 301 cr2) := by rw [eσ_31]; exact gs_us
  have fr_45 : frm [dv, tu, ac, ai, ab] σ σ_31 := by rw [eσ_31]; exact fr_30.up (by simp)
  obtain ⟨σ_46, eσ_46⟩ : ∃ zq, zq = gs_up σ_31 tu (gs_ob 6 [.ref ac, .ref ai, .ref ab, .int (nI ((keepE E).length))]) := ⟨_, rfl⟩
  have hc_47 : σ_46 dv = some (gs_ob 1 [.ref bk, .ref tu, .ref ma, .ref la, .ref cm, .int (nI sa), .int (bI nw), .int (nI rc)]) := by rw [eσ_46]; exact gs_ku (gs_ne hc_32 hc_33 (by simp)) hc_32
  have hc_48 : σ_46 la = some (gs_ob 6 [.ref lc, .ref li, .ref lb, .int (nI Lt.length)]) := by rw [eσ_46]; exact gs_ku (Ne.symm (ndp hnd2 0 1 (by decide) rfl rfl)) hc_34
  have hc_49 : σ_46 lc = some (gs_ia X 301 ds) := by rw [eσ_46]; exact gs_ku (gs_ne hc_35 hc_33 (by simp)) hc_35
  have hc_50 : σ_46 cm = some (gs_ob 6 [.ref mc, .ref mi, .ref mb, .int z9]) := by rw [eσ_46]; exact gs_ku (Ne.symm (ndp hnd2 0 2 (by decide) rfl rfl)) hc_36
  have hc_51 : σ_46 mc = some (gs_ia X 301 a9) := by rw [eσ_46]; exact gs_ku (gs_ne hc_37 hc_33 (by simp)) hc_37
  have hc_52 : σ_46 mi = some (gs_ia X 301 b9) := by rw [eσ_46]; exact gs_ku (gs_ne hc_38 hc_33 (by simp)) hc_38
  have hc_53 : σ_46 mb = some (gs_ia X 301 c9) := by rw [eσ_46]; exact gs_ku (gs_ne hc_39 hc_33 (by simp)) hc_39
  have hc_54 : σ_46 ma = some (gs_ob 3 [.ref tu, .ref va]) := by rw [eσ_46]; exact gs_ku (gs_ne hc_40 hc_33 (by simp)) hc_40
  have hc_55 : σ_46 va = some (gs_ia X 8 vs) := by rw [eσ_46]; exact gs_ku (gs_ne hc_41 hc_33 (by simp)) hc_41
  have hc_56 : σ_46 ac = some (gs_ia X 301 cs2) := by rw [eσ_46]; exact gs_ku (gs_ne hc_42 hc_33 (by simp)) hc_42
  have hc_57 : σ_46 ai = some (gs_ia X 301 ci2) := by rw [eσ_46]; exact gs_ku (gs_ne hc_43 hc_33 (by simp)) hc_43
  have hc_58 : σ_46 ab = some (gs_ia X 301 cr2) := by rw [eσ_46]; exact gs_ku (gs_ne hc_44 hc_33 (by simp)) hc_44
  have hc_59 : σ_46 tu = some (gs_ob 6 [.ref ac, .ref ai, .ref ab, .int (nI ((keepE E).length))]) := by rw [eσ_46]; exact gs_us
  have fr_60 : frm [dv, tu, ac, ai, ab] σ σ_46 := by rw [eσ_46]; exact fr_45.up (by simp)
  rw [← eσ_1, ← eσ_16, ← eσ_31, ← eσ_46] at hG
  refine lv_aload_n hx hb d_DE_beginAnew_7 rfl (lv_at hl 0 rfl) ?_
  refine lv_iconst (v := nI 0) hx hb d_DE_beginAnew_8 (by decide) ?_
  refine gs_put hx hb ht hown hK hG hS k_DE hc_47 5 (by decide) w_116 rfl rfl rfl (Nat.le_of_ble_eq_true rfl) d_DE_beginAnew_9 (fun H locs hG hS => ?_)
  have hG : gs_H X (gs_up σ_46 dv (gs_ob 1 [.ref bk, .ref tu, .ref ma, .ref la, .ref cm, .int (nI 0), .int (bI nw), .int (nI rc)])) H := hG
  obtain ⟨σ_61, eσ_61⟩ : ∃ zq, zq = gs_up σ_46 dv (gs_ob 1 [.ref bk, .ref tu, .ref ma, .ref la, .ref cm, .int (nI 0), .int (bI nw), .int (nI rc)]) := ⟨_, rfl⟩
  rw [← eσ_61] at hG
  have hc_62 : σ_61 la = some (gs_ob 6 [.ref lc, .ref li, .ref lb, .int (nI Lt.length)]) := by rw [eσ_61]; exact gs_ku (gs_ne hc_48 hc_47 (by simp)) hc_48
  have hc_63 : σ_61 lc = some (gs_ia X 301 ds) := by rw [eσ_61]; exact gs_ku (gs_ne hc_49 hc_47 (by simp)) hc_49
  have hc_64 : σ_61 cm = some (gs_ob 6 [.ref mc, .ref mi, .ref mb, .int z9]) := by rw [eσ_61]; exact gs_ku (gs_ne hc_50 hc_47 (by simp)) hc_50
  have hc_65 : σ_61 mc = some (gs_ia X 301 a9) := by rw [eσ_61]; exact gs_ku (gs_ne hc_51 hc_47 (by simp)) hc_51
  have hc_66 : σ_61 mi = some (gs_ia X 301 b9) := by rw [eσ_61]; exact gs_ku (gs_ne hc_52 hc_47 (by simp)) hc_52
  have hc_67 : σ_61 mb = some (gs_ia X 301 c9) := by rw [eσ_61]; exact gs_ku (gs_ne hc_53 hc_47 (by simp)) hc_53
  have hc_68 : σ_61 ma = some (gs_ob 3 [.ref tu, .ref va]) := by rw [eσ_61]; exact gs_ku (gs_ne hc_54 hc_47 (by simp)) hc_54
  have hc_69 : σ_61 va = some (gs_ia X 8 vs) := by rw [eσ_61]; exact gs_ku (gs_ne hc_55 hc_47 (by simp)) hc_55
  have hc_70 : σ_61 ac = some (gs_ia X 301 cs2) := by rw [eσ_61]; exact gs_ku (gs_ne hc_56 hc_47 (by simp)) hc_56
  have hc_71 : σ_61 ai = some (gs_ia X 301 ci2) := by rw [eσ_61]; exact gs_ku (gs_ne hc_57 hc_47 (by simp)) hc_57
  have hc_72 : σ_61 ab = some (gs_ia X 301 cr2) := by rw [eσ_61]; exact gs_ku (gs_ne hc_58 hc_47 (by simp)) hc_58
  have hc_73 : σ_61 tu = some (gs_ob 6 [.ref ac, .ref ai, .ref ab, .int (nI ((keepE E).length))]) := by rw [eσ_61]; exact gs_ku (gs_ne hc_59 hc_47 (by simp)) hc_59
  have hc_74 : σ_61 dv = some (gs_ob 1 [.ref bk, .ref tu, .ref ma, .ref la, .ref cm, .int (nI 0), .int (bI nw), .int (nI rc)]) := by rw [eσ_61]; exact gs_us
  have fr_75 : frm [dv, tu, ac, ai, ab] σ σ_61 := by rw [eσ_61]; exact fr_60.up (by simp)
  refine lv_aload_n hx hb d_DE_beginAnew_12 rfl (lv_at hl 0 rfl) ?_
  refine lv_iconst (v := nI 1) hx hb d_DE_beginAnew_13 (by decide) ?_
  refine gs_put hx hb ht hown hK hG hS k_DE hc_74 6 (by decide) w_117 rfl rfl rfl (Nat.le_of_ble_eq_true rfl) d_DE_beginAnew_14 (fun H locs hG hS => ?_)
  have hG : gs_H X (gs_up σ_61 dv (gs_ob 1 [.ref bk, .ref tu, .ref ma, .ref la, .ref cm, .int (nI 0), .int (nI 1), .int (nI rc)])) H := hG
  obtain ⟨σ_76, eσ_76⟩ : ∃ zq, zq = gs_up σ_61 dv (gs_ob 1 [.ref bk, .ref tu, .ref ma, .ref la, .ref cm, .int (nI 0), .int (nI 1), .int (nI rc)]) := ⟨_, rfl⟩
  rw [← eσ_76] at hG
  have hc_77 : σ_76 la = some (gs_ob 6 [.ref lc, .ref li, .ref lb, .int (nI Lt.length)]) := by rw [eσ_76]; exact gs_ku (gs_ne hc_62 hc_74 (by simp)) hc_62
  have hc_78 : σ_76 lc = some (gs_ia X 301 ds) := by rw [eσ_76]; exact gs_ku (gs_ne hc_63 hc_74 (by simp)) hc_63
  have hc_79 : σ_76 cm = some (gs_ob 6 [.ref mc, .ref mi, .ref mb, .int z9]) := by rw [eσ_76]; exact gs_ku (gs_ne hc_64 hc_74 (by simp)) hc_64
  have hc_80 : σ_76 mc = some (gs_ia X 301 a9) := by rw [eσ_76]; exact gs_ku (gs_ne hc_65 hc_74 (by simp)) hc_65
  have hc_81 : σ_76 mi = some (gs_ia X 301 b9) := by rw [eσ_76]; exact gs_ku (gs_ne hc_66 hc_74 (by simp)) hc_66
  have hc_82 : σ_76 mb = some (gs_ia X 301 c9) := by rw [eσ_76]; exact gs_ku (gs_ne hc_67 hc_74 (by simp)) hc_67
  have hc_83 : σ_76 ma = some (gs_ob 3 [.ref tu, .ref va]) := by rw [eσ_76]; exact gs_ku (gs_ne hc_68 hc_74 (by simp)) hc_68
  have hc_84 : σ_76 va = some (gs_ia X 8 vs) := by rw [eσ_76]; exact gs_ku (gs_ne hc_69 hc_74 (by simp)) hc_69
  have hc_85 : σ_76 ac = some (gs_ia X 301 cs2) := by rw [eσ_76]; exact gs_ku (gs_ne hc_70 hc_74 (by simp)) hc_70
  have hc_86 : σ_76 ai = some (gs_ia X 301 ci2) := by rw [eσ_76]; exact gs_ku (gs_ne hc_71 hc_74 (by simp)) hc_71
  have hc_87 : σ_76 ab = some (gs_ia X 301 cr2) := by rw [eσ_76]; exact gs_ku (gs_ne hc_72 hc_74 (by simp)) hc_72
  have hc_88 : σ_76 tu = some (gs_ob 6 [.ref ac, .ref ai, .ref ab, .int (nI ((keepE E).length))]) := by rw [eσ_76]; exact gs_ku (gs_ne hc_73 hc_74 (by simp)) hc_73
  have hc_89 : σ_76 dv = some (gs_ob 1 [.ref bk, .ref tu, .ref ma, .ref la, .ref cm, .int (nI 0), .int (nI 1), .int (nI rc)]) := by rw [eσ_76]; exact gs_us
  have fr_90 : frm [dv, tu, ac, ai, ab] σ σ_76 := by rw [eσ_76]; exact fr_75.up (by simp)
  refine lv_aload_n hx hb d_DE_beginAnew_17 rfl (lv_at hl 0 rfl) ?_
  refine lv_iconst (v := nI 0) hx hb d_DE_beginAnew_18 (by decide) ?_
  refine gs_put hx hb ht hown hK hG hS k_DE hc_89 7 (by decide) w_118 rfl rfl rfl (Nat.le_of_ble_eq_true rfl) d_DE_beginAnew_19 (fun H locs hG hS => ?_)
  have hG : gs_H X (gs_up σ_76 dv (gs_ob 1 [.ref bk, .ref tu, .ref ma, .ref la, .ref cm, .int (nI 0), .int (nI 1), .int (nI 0)])) H := hG
  obtain ⟨σ_91, eσ_91⟩ : ∃ zq, zq = gs_up σ_76 dv (gs_ob 1 [.ref bk, .ref tu, .ref ma, .ref la, .ref cm, .int (nI 0), .int (nI 1), .int (nI 0)]) := ⟨_, rfl⟩
  rw [← eσ_91] at hG
  have hc_92 : σ_91 la = some (gs_ob 6 [.ref lc, .ref li, .ref lb, .int (nI Lt.length)]) := by rw [eσ_91]; exact gs_ku (gs_ne hc_77 hc_89 (by simp)) hc_77
  have hc_93 : σ_91 lc = some (gs_ia X 301 ds) := by rw [eσ_91]; exact gs_ku (gs_ne hc_78 hc_89 (by simp)) hc_78
  have hc_94 : σ_91 cm = some (gs_ob 6 [.ref mc, .ref mi, .ref mb, .int z9]) := by rw [eσ_91]; exact gs_ku (gs_ne hc_79 hc_89 (by simp)) hc_79
  have hc_95 : σ_91 mc = some (gs_ia X 301 a9) := by rw [eσ_91]; exact gs_ku (gs_ne hc_80 hc_89 (by simp)) hc_80
  have hc_96 : σ_91 mi = some (gs_ia X 301 b9) := by rw [eσ_91]; exact gs_ku (gs_ne hc_81 hc_89 (by simp)) hc_81
  have hc_97 : σ_91 mb = some (gs_ia X 301 c9) := by rw [eσ_91]; exact gs_ku (gs_ne hc_82 hc_89 (by simp)) hc_82
  have hc_98 : σ_91 ma = some (gs_ob 3 [.ref tu, .ref va]) := by rw [eσ_91]; exact gs_ku (gs_ne hc_83 hc_89 (by simp)) hc_83
  have hc_99 : σ_91 va = some (gs_ia X 8 vs) := by rw [eσ_91]; exact gs_ku (gs_ne hc_84 hc_89 (by simp)) hc_84
  have hc_100 : σ_91 ac = some (gs_ia X 301 cs2) := by rw [eσ_91]; exact gs_ku (gs_ne hc_85 hc_89 (by simp)) hc_85
  have hc_101 : σ_91 ai = some (gs_ia X 301 ci2) := by rw [eσ_91]; exact gs_ku (gs_ne hc_86 hc_89 (by simp)) hc_86
  have hc_102 : σ_91 ab = some (gs_ia X 301 cr2) := by rw [eσ_91]; exact gs_ku (gs_ne hc_87 hc_89 (by simp)) hc_87
  have hc_103 : σ_91 tu = some (gs_ob 6 [.ref ac, .ref ai, .ref ab, .int (nI ((keepE E).length))]) := by rw [eσ_91]; exact gs_ku (gs_ne hc_88 hc_89 (by simp)) hc_88
  have hc_104 : σ_91 dv = some (gs_ob 1 [.ref bk, .ref tu, .ref ma, .ref la, .ref cm, .int (nI 0), .int (nI 1), .int (nI 0)]) := by rw [eσ_91]; exact gs_us
  have fr_105 : frm [dv, tu, ac, ai, ab] σ σ_91 := by rw [eσ_91]; exact fr_90.up (by simp)
  exact gs_vret hx hb hr hK hE hz hG hS hlocks (by first | decide | omega | (dsimp only [headSpec]; omega)) (by first | decide | omega | (dsimp only [headSpec]; omega)) (⟨⟨cs2, ci2, cr2, ds, vs, a9, b9, c9, z9, hc_104, hc_103, hc_100, hc_101, hc_102, hc_92, hc_93, hc_94, hc_95, hc_96, hc_97, hc_98, hc_99, tuB_keep hB, hR2, (by omega), hs2, hn2, hds, hv⟩, fr_105⟩) d_DE_beginAnew_22
set_option maxHeartbeats 4000000 in
set_option maxRecDepth 100000 in
/-- Matcher, new -/
theorem c_MA_init (l : Launch) (X : gs_X) (σ : gs_St) (h tu : Nat)
    (h0 : σ h = some (gs_ob 3 [.null, .null])) : gs_Mv l X y_MA_init b_MA_init 2 ({ frames := 1, cells := 1, slots := 8, locals := 12 }) σ [.ref h, .ref tu] (fun σ' => ∃ va, σ va = none ∧ σ' h = some (gs_ob 3 [.ref tu, .ref va]) ∧ σ' va = some (gs_ia X 8 (fun _ => 0)) ∧ frm [h] σ σ') := by
  refine Met.ofW (cc := b_MA_init) (maxL := 2) (ret := none) (by decide) rfl ?_
  intro p e s m args below meth c s₁ B₀ hml hv
  obtain ⟨rfl, hK, hG, hz, hE⟩ := hv
  have hx := B₀.exec
  have hb := B₀.bytes
  have hr := B₀.returns
  have hts := atoms_spec (ws := gs_ws y_MA_init b_MA_init 2 none) B₀.pre
  have ht : ∀ w ∈ gs_w, w.before _ s = true := fun w h => hts w (List.mem_cons_of_mem _ h)
  have hown : s.vm.findClass R_MA = some m.cls := findClass_of_methodNamed B₀.named
  have hlocks := B₀.notSynchronized
  have hin : meth.name = "<init>" := (name_of_methodNamed B₀.named B₀.method).1
  have hA : ∀ q : Nat, s.heap.size ≤ q → gs_A X q := fun q h => Nat.le_trans hz h
  have hS : va_S (gs_A X) s.heap s.heap [] := va_S.rf
  have hl := lv_entry ([.ref h, .ref tu]) (n := 2) (Nat.le_of_ble_eq_true rfl)
  rw [lg_entry_eq]
  generalize (lg_sl ([.ref h, .ref tu]) ++ List.replicate (2 - (lg_sl ([.ref h, .ref tu])).length) Slot.unset).toArray = ls at hl ⊢
  have hl : lv_has ls 2 [(0, .ref h), (1, .ref tu)] := hl
  have fr0 : frm [h] σ σ := frm.rf
  refine lv_aload_n hx hb d_MA_init_0 rfl (lv_at hl 0 rfl) ?_
  refine W.objInit hx hb hown (ht _ w_95) (ht _ w_22) (ht _ w_23) rfl (by rw [hml]; exact hl.1) rfl d_MA_init_1 (Nat.le_of_ble_eq_true rfl) (Nat.le_of_ble_eq_true rfl) ?_
  refine W.eq (g2 := F0 m 4 ls []) rfl ?_
  refine lv_aload_n hx hb d_MA_init_4 rfl (lv_at hl 0 rfl) ?_
  refine lv_aload_n hx hb d_MA_init_5 rfl (lv_at hl 1 rfl) ?_
  refine gs_putF hx hb ht hown hK hG hS k_MA h0 0 (by decide) w_96 rfl hin rfl rfl rfl (Nat.le_of_ble_eq_true rfl) d_MA_init_6 (fun H locs hG hS => ?_)
  have hG : gs_H X (gs_up σ h (gs_ob 3 [.ref tu, .null])) H := hG
  obtain ⟨σ_1, eσ_1⟩ : ∃ zq, zq = gs_up σ h (gs_ob 3 [.ref tu, .null]) := ⟨_, rfl⟩
  rw [← eσ_1] at hG
  have hc_2 : σ_1 h = some (gs_ob 3 [.ref tu, .null]) := by rw [eσ_1]; exact gs_us
  have fr_3 : frm [h] σ σ_1 := by rw [eσ_1]; exact fr0.up (by simp)
  refine lv_aload_n hx hb d_MA_init_9 rfl (lv_at hl 0 rfl) ?_
  refine lv_bipush (v := nI 8) hx hb d_MA_init_10 (by decide) ?_
  refine gs_newi hx hb ht hK hG hS hA w_61 (by decide) (by first | decide | omega) (by first | decide | omega) d_MA_init_12 (fun q_4 H hq_4 hG hS => ?_)
  obtain ⟨σ_5, eσ_5⟩ : ∃ zq, zq = gs_up σ_1 q_4 (gs_ia X 8 (fun _ => 0)) := ⟨_, rfl⟩
  have hG : gs_H X (gs_up σ_1 q_4 (gs_ia X 8 (fun _ => 0))) H := hG
  rw [← eσ_5] at hG
  have hz_6 : σ q_4 = none := fr_3.none_ (al_cons hc_2 al_nil) hq_4
  have hne_8 : h ≠ q_4 := fun z => by rw [z, hq_4] at hc_2; cases hc_2
  have hc_7 : σ_5 h = some (gs_ob 3 [.ref tu, .null]) := by rw [eσ_5]; exact gs_ku hne_8 hc_2
  have hc_9 : σ_5 q_4 = some (gs_ia X 8 (fun _ => 0)) := by rw [eσ_5]; exact gs_us
  have fr_10 : frm [h] σ σ_5 := by rw [eσ_5]; exact fr_3.born hq_4
  refine gs_putF hx hb ht hown hK hG hS k_MA hc_7 1 (by decide) w_97 rfl hin rfl rfl rfl (Nat.le_of_ble_eq_true rfl) d_MA_init_14 (fun H locs hG hS => ?_)
  have hG : gs_H X (gs_up σ_5 h (gs_ob 3 [.ref tu, .ref q_4])) H := hG
  obtain ⟨σ_11, eσ_11⟩ : ∃ zq, zq = gs_up σ_5 h (gs_ob 3 [.ref tu, .ref q_4]) := ⟨_, rfl⟩
  rw [← eσ_11] at hG
  have hc_12 : σ_11 q_4 = some (gs_ia X 8 (fun _ => 0)) := by rw [eσ_11]; exact gs_ku (Ne.symm hne_8) hc_9
  have hc_13 : σ_11 h = some (gs_ob 3 [.ref tu, .ref q_4]) := by rw [eσ_11]; exact gs_us
  have fr_14 : frm [h] σ σ_11 := by rw [eσ_11]; exact fr_10.up (by simp)
  exact gs_vret hx hb hr hK hE hz hG hS hlocks (by first | decide | omega | (dsimp only [headSpec]; omega)) (by first | decide | omega | (dsimp only [headSpec]; omega)) (⟨q_4, hz_6, hc_13, hc_12, fr_14⟩) d_MA_init_17
theorem nd4 {a b c d : Nat} (h1 : a ≠ b) (h2 : a ≠ c) (h3 : a ≠ d) (h4 : b ≠ c) (h5 : b ≠ d) (h6 : c ≠ d) : [a, b, c, d].Nodup := by simp [h1, h2, h3, h4, h5, h6]
set_option maxHeartbeats 4000000 in
set_option maxRecDepth 100000 in
/-- Deriving, new -/
theorem c_DE_init (l : Launch) (X : gs_X) (σ : gs_St) (dv bk tu ma : Nat)
    (h0 : σ dv = some (gs_ob 1 [.null, .null, .null, .null, .null, .int 0, .int 0, .int 0])) : gs_Mv l X y_DE_init b_DE_init 4 ({ frames := 2, cells := 8, slots := 1814, locals := 32 }) σ [.ref dv, .ref bk, .ref tu, .ref ma] (fun σ' => ∃ la cm lc li lb mc mi mb, σ la = none ∧ σ cm = none ∧ σ lc = none ∧ σ mc = none ∧ σ mi = none ∧ σ mb = none ∧ la ≠ cm ∧ [lc, mc, mi, mb].Nodup ∧ σ' dv = some (gs_ob 1 [.ref bk, .ref tu, .ref ma, .ref la, .ref cm, .int (nI 0), .int (nI 1), .int (nI 0)]) ∧ σ' la = some (gs_ob 6 [.ref lc, .ref li, .ref lb, .int (nI 0)]) ∧ σ' cm = some (gs_ob 6 [.ref mc, .ref mi, .ref mb, .int (nI 0)]) ∧ σ' lc = some (gs_ia X 301 (fun _ => 0)) ∧ σ' mc = some (gs_ia X 301 (fun _ => 0)) ∧ σ' mi = some (gs_ia X 301 (fun _ => 0)) ∧ σ' mb = some (gs_ia X 301 (fun _ => 0)) ∧ frm [dv] σ σ') := by
  refine Met.ofW (cc := b_DE_init) (maxL := 4) (ret := none) (by decide) rfl ?_
  intro p e s m args below meth c s₁ B₀ hml hv
  obtain ⟨rfl, hK, hG, hz, hE⟩ := hv
  have hx := B₀.exec
  have hb := B₀.bytes
  have hr := B₀.returns
  have hts := atoms_spec (ws := gs_ws y_DE_init b_DE_init 4 none) B₀.pre
  have ht : ∀ w ∈ gs_w, w.before _ s = true := fun w h => hts w (List.mem_cons_of_mem _ h)
  have hown : s.vm.findClass R_DE = some m.cls := findClass_of_methodNamed B₀.named
  have hlocks := B₀.notSynchronized
  have hin : meth.name = "<init>" := (name_of_methodNamed B₀.named B₀.method).1
  have hA : ∀ q : Nat, s.heap.size ≤ q → gs_A X q := fun q h => Nat.le_trans hz h
  have hS : va_S (gs_A X) s.heap s.heap [] := va_S.rf
  have hl := lv_entry ([.ref dv, .ref bk, .ref tu, .ref ma]) (n := 4) (Nat.le_of_ble_eq_true rfl)
  rw [lg_entry_eq]
  generalize (lg_sl ([.ref dv, .ref bk, .ref tu, .ref ma]) ++ List.replicate (4 - (lg_sl ([.ref dv, .ref bk, .ref tu, .ref ma])).length) Slot.unset).toArray = ls at hl ⊢
  have hl : lv_has ls 4 [(0, .ref dv), (1, .ref bk), (2, .ref tu), (3, .ref ma)] := hl
  have fr0 : frm [dv] σ σ := frm.rf
  refine lv_aload_n hx hb d_DE_init_0 rfl (lv_at hl 0 rfl) ?_
  refine W.objInit hx hb hown (ht _ w_108) (ht _ w_22) (ht _ w_23) rfl (by rw [hml]; exact hl.1) rfl d_DE_init_1 (Nat.le_of_ble_eq_true rfl) (Nat.le_of_ble_eq_true rfl) ?_
  refine W.eq (g2 := F0 m 4 ls []) rfl ?_
  refine lv_aload_n hx hb d_DE_init_4 rfl (lv_at hl 0 rfl) ?_
  refine lv_aload_n hx hb d_DE_init_5 rfl (lv_at hl 1 rfl) ?_
  refine gs_putF hx hb ht hown hK hG hS k_DE h0 0 (by decide) w_111 rfl hin rfl rfl rfl (Nat.le_of_ble_eq_true rfl) d_DE_init_6 (fun H locs hG hS => ?_)
  have hG : gs_H X (gs_up σ dv (gs_ob 1 [.ref bk, .null, .null, .null, .null, .int 0, .int 0, .int 0])) H := hG
  obtain ⟨σ_1, eσ_1⟩ : ∃ zq, zq = gs_up σ dv (gs_ob 1 [.ref bk, .null, .null, .null, .null, .int 0, .int 0, .int 0]) := ⟨_, rfl⟩
  rw [← eσ_1] at hG
  have hc_2 : σ_1 dv = some (gs_ob 1 [.ref bk, .null, .null, .null, .null, .int 0, .int 0, .int 0]) := by rw [eσ_1]; exact gs_us
  have fr_3 : frm [dv] σ σ_1 := by rw [eσ_1]; exact fr0.up (by simp)
  refine lv_aload_n hx hb d_DE_init_9 rfl (lv_at hl 0 rfl) ?_
  refine lv_aload_n hx hb d_DE_init_10 rfl (lv_at hl 2 rfl) ?_
  refine gs_putF hx hb ht hown hK hG hS k_DE hc_2 1 (by decide) w_112 rfl hin rfl rfl rfl (Nat.le_of_ble_eq_true rfl) d_DE_init_11 (fun H locs hG hS => ?_)
  have hG : gs_H X (gs_up σ_1 dv (gs_ob 1 [.ref bk, .ref tu, .null, .null, .null, .int 0, .int 0, .int 0])) H := hG
  obtain ⟨σ_4, eσ_4⟩ : ∃ zq, zq = gs_up σ_1 dv (gs_ob 1 [.ref bk, .ref tu, .null, .null, .null, .int 0, .int 0, .int 0]) := ⟨_, rfl⟩
  rw [← eσ_4] at hG
  have hc_5 : σ_4 dv = some (gs_ob 1 [.ref bk, .ref tu, .null, .null, .null, .int 0, .int 0, .int 0]) := by rw [eσ_4]; exact gs_us
  have fr_6 : frm [dv] σ σ_4 := by rw [eσ_4]; exact fr_3.up (by simp)
  refine lv_aload_n hx hb d_DE_init_14 rfl (lv_at hl 0 rfl) ?_
  refine lv_aload_n hx hb d_DE_init_15 rfl (lv_at hl 3 rfl) ?_
  refine gs_putF hx hb ht hown hK hG hS k_DE hc_5 2 (by decide) w_113 rfl hin rfl rfl rfl (Nat.le_of_ble_eq_true rfl) d_DE_init_16 (fun H locs hG hS => ?_)
  have hG : gs_H X (gs_up σ_4 dv (gs_ob 1 [.ref bk, .ref tu, .ref ma, .null, .null, .int 0, .int 0, .int 0])) H := hG
  obtain ⟨σ_7, eσ_7⟩ : ∃ zq, zq = gs_up σ_4 dv (gs_ob 1 [.ref bk, .ref tu, .ref ma, .null, .null, .int 0, .int 0, .int 0]) := ⟨_, rfl⟩
  rw [← eσ_7] at hG
  have hc_8 : σ_7 dv = some (gs_ob 1 [.ref bk, .ref tu, .ref ma, .null, .null, .int 0, .int 0, .int 0]) := by rw [eσ_7]; exact gs_us
  have fr_9 : frm [dv] σ σ_7 := by rw [eσ_7]; exact fr_6.up (by simp)
  refine lv_aload_n hx hb d_DE_init_19 rfl (lv_at hl 0 rfl) ?_
  refine gs_new (fs := [.null, .null, .null, .int 0]) hx hb ht hown hK hG hS hA k_TU w_109 w_63 w_3 (fun j hj => by (rcases (show j = 0 ∨ j = 1 ∨ j = 2 ∨ j = 3 by omega) with rfl | rfl | rfl | rfl <;> rfl)) (by first | decide | omega) (by first | decide | omega) d_DE_init_20 (fun q_10 H hq_10 hG hS => ?_)
  obtain ⟨σ_11, eσ_11⟩ : ∃ zq, zq = gs_up σ_7 q_10 (gs_ob 6 [.null, .null, .null, .int 0]) := ⟨_, rfl⟩
  have hG : gs_H X (gs_up σ_7 q_10 (gs_ob 6 [.null, .null, .null, .int 0])) H := hG
  rw [← eσ_11] at hG
  have hz_12 : σ q_10 = none := fr_9.none_ (al_cons hc_8 al_nil) hq_10
  have hne_14 : dv ≠ q_10 := fun z => by rw [z, hq_10] at hc_8; cases hc_8
  have hc_13 : σ_11 dv = some (gs_ob 1 [.ref bk, .ref tu, .ref ma, .null, .null, .int 0, .int 0, .int 0]) := by rw [eσ_11]; exact gs_ku hne_14 hc_8
  have hc_15 : σ_11 q_10 = some (gs_ob 6 [.null, .null, .null, .int 0]) := by rw [eσ_11]; exact gs_us
  have fr_16 : frm [dv] σ σ_11 := by rw [eσ_11]; exact fr_9.born hq_10
  refine lv_dup hx hb d_DE_init_23 rfl ?_
  refine gs_callIv (As := []) (rest := [.ref q_10, .ref dv]) ⟨hx, hb, hml, hown, hts⟩ hK hE hz hG hS (c_TU_init l X σ_11 q_10 hc_15) mI_TU_init w_110 rfl hl.1 rfl (Nat.le_of_ble_eq_true rfl) ⟨(by first | decide | omega | (dsimp only [headSpec]; omega)), (by first | decide | omega | (dsimp only [headSpec]; omega))⟩ ⟨(by first | decide | omega | (dsimp only [headSpec]; omega)), (by first | decide | omega | (dsimp only [headSpec]; omega))⟩ d_DE_init_24 (fun σ_24 H locs hp_24 hG hS => ?_)
  obtain ⟨lc, li, lb, z1l, z2l, z3l, w1l, w2l, w3l, evl⟩ := hp_24
  rw [evl] at hG
  unfold tu4 at hG
  have hb_17 : σ_11 lc = none := by exact z1l
  obtain ⟨σ_18, eσ_18⟩ : ∃ zq, zq = gs_up σ_11 lc (gs_ia X 301 (fun _ => 0)) := ⟨_, rfl⟩
  have hz_19 : σ lc = none := fr_16.none_ (al_cons hc_13 al_nil) hb_17
  have hne_21 : dv ≠ lc := fun z => by rw [z, hb_17] at hc_13; cases hc_13
  have hc_20 : σ_18 dv = some (gs_ob 1 [.ref bk, .ref tu, .ref ma, .null, .null, .int 0, .int 0, .int 0]) := by rw [eσ_18]; exact gs_ku hne_21 hc_13
  have hne_23 : q_10 ≠ lc := fun z => by rw [z, hb_17] at hc_15; cases hc_15
  have hc_22 : σ_18 q_10 = some (gs_ob 6 [.null, .null, .null, .int 0]) := by rw [eσ_18]; exact gs_ku hne_23 hc_15
  have hc_24 : σ_18 lc = some (gs_ia X 301 (fun _ => 0)) := by rw [eσ_18]; exact gs_us
  have fr_25 : frm [dv] σ σ_18 := by rw [eσ_18]; exact fr_16.born hb_17
  have hb_26 : σ_18 li = none := by rw [eσ_18, gs_un (Ne.symm w1l)]; exact z2l
  obtain ⟨σ_27, eσ_27⟩ : ∃ zq, zq = gs_up σ_18 li (gs_ia X 301 (fun _ => 0)) := ⟨_, rfl⟩
  have hz_28 : σ li = none := fr_25.none_ (al_cons hc_20 al_nil) hb_26
  have hne_30 : dv ≠ li := fun z => by rw [z, hb_26] at hc_20; cases hc_20
  have hc_29 : σ_27 dv = some (gs_ob 1 [.ref bk, .ref tu, .ref ma, .null, .null, .int 0, .int 0, .int 0]) := by rw [eσ_27]; exact gs_ku hne_30 hc_20
  have hne_32 : q_10 ≠ li := fun z => by rw [z, hb_26] at hc_22; cases hc_22
  have hc_31 : σ_27 q_10 = some (gs_ob 6 [.null, .null, .null, .int 0]) := by rw [eσ_27]; exact gs_ku hne_32 hc_22
  have hne_34 : lc ≠ li := fun z => by rw [z, hb_26] at hc_24; cases hc_24
  have hc_33 : σ_27 lc = some (gs_ia X 301 (fun _ => 0)) := by rw [eσ_27]; exact gs_ku hne_34 hc_24
  have hc_35 : σ_27 li = some (gs_ia X 301 (fun _ => 0)) := by rw [eσ_27]; exact gs_us
  have fr_36 : frm [dv] σ σ_27 := by rw [eσ_27]; exact fr_25.born hb_26
  have hb_37 : σ_27 lb = none := by rw [eσ_27, gs_un (Ne.symm w3l)]; rw [eσ_18, gs_un (Ne.symm w2l)]; exact z3l
  obtain ⟨σ_38, eσ_38⟩ : ∃ zq, zq = gs_up σ_27 lb (gs_ia X 301 (fun _ => 0)) := ⟨_, rfl⟩
  have hz_39 : σ lb = none := fr_36.none_ (al_cons hc_29 al_nil) hb_37
  have hne_41 : dv ≠ lb := fun z => by rw [z, hb_37] at hc_29; cases hc_29
  have hc_40 : σ_38 dv = some (gs_ob 1 [.ref bk, .ref tu, .ref ma, .null, .null, .int 0, .int 0, .int 0]) := by rw [eσ_38]; exact gs_ku hne_41 hc_29
  have hne_43 : q_10 ≠ lb := fun z => by rw [z, hb_37] at hc_31; cases hc_31
  have hc_42 : σ_38 q_10 = some (gs_ob 6 [.null, .null, .null, .int 0]) := by rw [eσ_38]; exact gs_ku hne_43 hc_31
  have hne_45 : lc ≠ lb := fun z => by rw [z, hb_37] at hc_33; cases hc_33
  have hc_44 : σ_38 lc = some (gs_ia X 301 (fun _ => 0)) := by rw [eσ_38]; exact gs_ku hne_45 hc_33
  have hne_47 : li ≠ lb := fun z => by rw [z, hb_37] at hc_35; cases hc_35
  have hc_46 : σ_38 li = some (gs_ia X 301 (fun _ => 0)) := by rw [eσ_38]; exact gs_ku hne_47 hc_35
  have hc_48 : σ_38 lb = some (gs_ia X 301 (fun _ => 0)) := by rw [eσ_38]; exact gs_us
  have fr_49 : frm [dv] σ σ_38 := by rw [eσ_38]; exact fr_36.born hb_37
  obtain ⟨σ_50, eσ_50⟩ : ∃ zq, zq = gs_up σ_38 q_10 (gs_ob 6 [.ref lc, .ref li, .ref lb, .int (nI 0)]) := ⟨_, rfl⟩
  have hc_51 : σ_50 dv = some (gs_ob 1 [.ref bk, .ref tu, .ref ma, .null, .null, .int 0, .int 0, .int 0]) := by rw [eσ_50]; exact gs_ku hne_14 hc_40
  have hc_52 : σ_50 lc = some (gs_ia X 301 (fun _ => 0)) := by rw [eσ_50]; exact gs_ku (Ne.symm hne_23) hc_44
  have hc_53 : σ_50 li = some (gs_ia X 301 (fun _ => 0)) := by rw [eσ_50]; exact gs_ku (Ne.symm hne_32) hc_46
  have hc_54 : σ_50 lb = some (gs_ia X 301 (fun _ => 0)) := by rw [eσ_50]; exact gs_ku (Ne.symm hne_43) hc_48
  have hc_55 : σ_50 q_10 = some (gs_ob 6 [.ref lc, .ref li, .ref lb, .int (nI 0)]) := by rw [eσ_50]; exact gs_us
  have fr_56 : frm [dv] σ σ_50 := by rw [eσ_50]; exact fr_49.upN hz_12
  rw [← eσ_18, ← eσ_27, ← eσ_38, ← eσ_50] at hG
  refine gs_putF hx hb ht hown hK hG hS k_DE hc_51 3 (by decide) w_114 rfl hin rfl rfl rfl (Nat.le_of_ble_eq_true rfl) d_DE_init_27 (fun H locs hG hS => ?_)
  have hG : gs_H X (gs_up σ_50 dv (gs_ob 1 [.ref bk, .ref tu, .ref ma, .ref q_10, .null, .int 0, .int 0, .int 0])) H := hG
  obtain ⟨σ_57, eσ_57⟩ : ∃ zq, zq = gs_up σ_50 dv (gs_ob 1 [.ref bk, .ref tu, .ref ma, .ref q_10, .null, .int 0, .int 0, .int 0]) := ⟨_, rfl⟩
  rw [← eσ_57] at hG
  have hc_58 : σ_57 lc = some (gs_ia X 301 (fun _ => 0)) := by rw [eσ_57]; exact gs_ku (Ne.symm hne_21) hc_52
  have hc_59 : σ_57 li = some (gs_ia X 301 (fun _ => 0)) := by rw [eσ_57]; exact gs_ku (Ne.symm hne_30) hc_53
  have hc_60 : σ_57 lb = some (gs_ia X 301 (fun _ => 0)) := by rw [eσ_57]; exact gs_ku (Ne.symm hne_41) hc_54
  have hc_61 : σ_57 q_10 = some (gs_ob 6 [.ref lc, .ref li, .ref lb, .int (nI 0)]) := by rw [eσ_57]; exact gs_ku (Ne.symm hne_14) hc_55
  have hc_62 : σ_57 dv = some (gs_ob 1 [.ref bk, .ref tu, .ref ma, .ref q_10, .null, .int 0, .int 0, .int 0]) := by rw [eσ_57]; exact gs_us
  have fr_63 : frm [dv] σ σ_57 := by rw [eσ_57]; exact fr_56.up (by simp)
  refine lv_aload_n hx hb d_DE_init_30 rfl (lv_at hl 0 rfl) ?_
  refine gs_new (fs := [.null, .null, .null, .int 0]) hx hb ht hown hK hG hS hA k_TU w_109 w_63 w_3 (fun j hj => by (rcases (show j = 0 ∨ j = 1 ∨ j = 2 ∨ j = 3 by omega) with rfl | rfl | rfl | rfl <;> rfl)) (by first | decide | omega) (by first | decide | omega) d_DE_init_31 (fun q_64 H hq_64 hG hS => ?_)
  obtain ⟨σ_65, eσ_65⟩ : ∃ zq, zq = gs_up σ_57 q_64 (gs_ob 6 [.null, .null, .null, .int 0]) := ⟨_, rfl⟩
  have hG : gs_H X (gs_up σ_57 q_64 (gs_ob 6 [.null, .null, .null, .int 0])) H := hG
  rw [← eσ_65] at hG
  have hz_66 : σ q_64 = none := fr_63.none_ (al_cons hc_62 al_nil) hq_64
  have hne_68 : lc ≠ q_64 := fun z => by rw [z, hq_64] at hc_58; cases hc_58
  have hc_67 : σ_65 lc = some (gs_ia X 301 (fun _ => 0)) := by rw [eσ_65]; exact gs_ku hne_68 hc_58
  have hne_70 : li ≠ q_64 := fun z => by rw [z, hq_64] at hc_59; cases hc_59
  have hc_69 : σ_65 li = some (gs_ia X 301 (fun _ => 0)) := by rw [eσ_65]; exact gs_ku hne_70 hc_59
  have hne_72 : lb ≠ q_64 := fun z => by rw [z, hq_64] at hc_60; cases hc_60
  have hc_71 : σ_65 lb = some (gs_ia X 301 (fun _ => 0)) := by rw [eσ_65]; exact gs_ku hne_72 hc_60
  have hne_74 : q_10 ≠ q_64 := fun z => by rw [z, hq_64] at hc_61; cases hc_61
  have hc_73 : σ_65 q_10 = some (gs_ob 6 [.ref lc, .ref li, .ref lb, .int (nI 0)]) := by rw [eσ_65]; exact gs_ku hne_74 hc_61
  have hne_76 : dv ≠ q_64 := fun z => by rw [z, hq_64] at hc_62; cases hc_62
  have hc_75 : σ_65 dv = some (gs_ob 1 [.ref bk, .ref tu, .ref ma, .ref q_10, .null, .int 0, .int 0, .int 0]) := by rw [eσ_65]; exact gs_ku hne_76 hc_62
  have hc_77 : σ_65 q_64 = some (gs_ob 6 [.null, .null, .null, .int 0]) := by rw [eσ_65]; exact gs_us
  have fr_78 : frm [dv] σ σ_65 := by rw [eσ_65]; exact fr_63.born hq_64
  refine lv_dup hx hb d_DE_init_34 rfl ?_
  refine gs_callIv (As := []) (rest := [.ref q_64, .ref dv]) ⟨hx, hb, hml, hown, hts⟩ hK hE hz hG hS (c_TU_init l X σ_65 q_64 hc_77) mI_TU_init w_110 rfl hl.1 rfl (Nat.le_of_ble_eq_true rfl) ⟨(by first | decide | omega | (dsimp only [headSpec]; omega)), (by first | decide | omega | (dsimp only [headSpec]; omega))⟩ ⟨(by first | decide | omega | (dsimp only [headSpec]; omega)), (by first | decide | omega | (dsimp only [headSpec]; omega))⟩ d_DE_init_35 (fun σ_35 H locs hp_35 hG hS => ?_)
  obtain ⟨mc, mi, mb, z1m, z2m, z3m, w1m, w2m, w3m, evm⟩ := hp_35
  rw [evm] at hG
  unfold tu4 at hG
  have hb_79 : σ_65 mc = none := by exact z1m
  obtain ⟨σ_80, eσ_80⟩ : ∃ zq, zq = gs_up σ_65 mc (gs_ia X 301 (fun _ => 0)) := ⟨_, rfl⟩
  have hz_81 : σ mc = none := fr_78.none_ (al_cons hc_75 al_nil) hb_79
  have hne_83 : lc ≠ mc := fun z => by rw [z, hb_79] at hc_67; cases hc_67
  have hc_82 : σ_80 lc = some (gs_ia X 301 (fun _ => 0)) := by rw [eσ_80]; exact gs_ku hne_83 hc_67
  have hne_85 : li ≠ mc := fun z => by rw [z, hb_79] at hc_69; cases hc_69
  have hc_84 : σ_80 li = some (gs_ia X 301 (fun _ => 0)) := by rw [eσ_80]; exact gs_ku hne_85 hc_69
  have hne_87 : lb ≠ mc := fun z => by rw [z, hb_79] at hc_71; cases hc_71
  have hc_86 : σ_80 lb = some (gs_ia X 301 (fun _ => 0)) := by rw [eσ_80]; exact gs_ku hne_87 hc_71
  have hne_89 : q_10 ≠ mc := fun z => by rw [z, hb_79] at hc_73; cases hc_73
  have hc_88 : σ_80 q_10 = some (gs_ob 6 [.ref lc, .ref li, .ref lb, .int (nI 0)]) := by rw [eσ_80]; exact gs_ku hne_89 hc_73
  have hne_91 : dv ≠ mc := fun z => by rw [z, hb_79] at hc_75; cases hc_75
  have hc_90 : σ_80 dv = some (gs_ob 1 [.ref bk, .ref tu, .ref ma, .ref q_10, .null, .int 0, .int 0, .int 0]) := by rw [eσ_80]; exact gs_ku hne_91 hc_75
  have hne_93 : q_64 ≠ mc := fun z => by rw [z, hb_79] at hc_77; cases hc_77
  have hc_92 : σ_80 q_64 = some (gs_ob 6 [.null, .null, .null, .int 0]) := by rw [eσ_80]; exact gs_ku hne_93 hc_77
  have hc_94 : σ_80 mc = some (gs_ia X 301 (fun _ => 0)) := by rw [eσ_80]; exact gs_us
  have fr_95 : frm [dv] σ σ_80 := by rw [eσ_80]; exact fr_78.born hb_79
  have hb_96 : σ_80 mi = none := by rw [eσ_80, gs_un (Ne.symm w1m)]; exact z2m
  obtain ⟨σ_97, eσ_97⟩ : ∃ zq, zq = gs_up σ_80 mi (gs_ia X 301 (fun _ => 0)) := ⟨_, rfl⟩
  have hz_98 : σ mi = none := fr_95.none_ (al_cons hc_90 al_nil) hb_96
  have hne_100 : lc ≠ mi := fun z => by rw [z, hb_96] at hc_82; cases hc_82
  have hc_99 : σ_97 lc = some (gs_ia X 301 (fun _ => 0)) := by rw [eσ_97]; exact gs_ku hne_100 hc_82
  have hne_102 : li ≠ mi := fun z => by rw [z, hb_96] at hc_84; cases hc_84
  have hc_101 : σ_97 li = some (gs_ia X 301 (fun _ => 0)) := by rw [eσ_97]; exact gs_ku hne_102 hc_84
  have hne_104 : lb ≠ mi := fun z => by rw [z, hb_96] at hc_86; cases hc_86
  have hc_103 : σ_97 lb = some (gs_ia X 301 (fun _ => 0)) := by rw [eσ_97]; exact gs_ku hne_104 hc_86
  have hne_106 : q_10 ≠ mi := fun z => by rw [z, hb_96] at hc_88; cases hc_88
  have hc_105 : σ_97 q_10 = some (gs_ob 6 [.ref lc, .ref li, .ref lb, .int (nI 0)]) := by rw [eσ_97]; exact gs_ku hne_106 hc_88
  have hne_108 : dv ≠ mi := fun z => by rw [z, hb_96] at hc_90; cases hc_90
  have hc_107 : σ_97 dv = some (gs_ob 1 [.ref bk, .ref tu, .ref ma, .ref q_10, .null, .int 0, .int 0, .int 0]) := by rw [eσ_97]; exact gs_ku hne_108 hc_90
  have hne_110 : q_64 ≠ mi := fun z => by rw [z, hb_96] at hc_92; cases hc_92
  have hc_109 : σ_97 q_64 = some (gs_ob 6 [.null, .null, .null, .int 0]) := by rw [eσ_97]; exact gs_ku hne_110 hc_92
  have hne_112 : mc ≠ mi := fun z => by rw [z, hb_96] at hc_94; cases hc_94
  have hc_111 : σ_97 mc = some (gs_ia X 301 (fun _ => 0)) := by rw [eσ_97]; exact gs_ku hne_112 hc_94
  have hc_113 : σ_97 mi = some (gs_ia X 301 (fun _ => 0)) := by rw [eσ_97]; exact gs_us
  have fr_114 : frm [dv] σ σ_97 := by rw [eσ_97]; exact fr_95.born hb_96
  have hb_115 : σ_97 mb = none := by rw [eσ_97, gs_un (Ne.symm w3m)]; rw [eσ_80, gs_un (Ne.symm w2m)]; exact z3m
  obtain ⟨σ_116, eσ_116⟩ : ∃ zq, zq = gs_up σ_97 mb (gs_ia X 301 (fun _ => 0)) := ⟨_, rfl⟩
  have hz_117 : σ mb = none := fr_114.none_ (al_cons hc_107 al_nil) hb_115
  have hne_119 : lc ≠ mb := fun z => by rw [z, hb_115] at hc_99; cases hc_99
  have hc_118 : σ_116 lc = some (gs_ia X 301 (fun _ => 0)) := by rw [eσ_116]; exact gs_ku hne_119 hc_99
  have hne_121 : li ≠ mb := fun z => by rw [z, hb_115] at hc_101; cases hc_101
  have hc_120 : σ_116 li = some (gs_ia X 301 (fun _ => 0)) := by rw [eσ_116]; exact gs_ku hne_121 hc_101
  have hne_123 : lb ≠ mb := fun z => by rw [z, hb_115] at hc_103; cases hc_103
  have hc_122 : σ_116 lb = some (gs_ia X 301 (fun _ => 0)) := by rw [eσ_116]; exact gs_ku hne_123 hc_103
  have hne_125 : q_10 ≠ mb := fun z => by rw [z, hb_115] at hc_105; cases hc_105
  have hc_124 : σ_116 q_10 = some (gs_ob 6 [.ref lc, .ref li, .ref lb, .int (nI 0)]) := by rw [eσ_116]; exact gs_ku hne_125 hc_105
  have hne_127 : dv ≠ mb := fun z => by rw [z, hb_115] at hc_107; cases hc_107
  have hc_126 : σ_116 dv = some (gs_ob 1 [.ref bk, .ref tu, .ref ma, .ref q_10, .null, .int 0, .int 0, .int 0]) := by rw [eσ_116]; exact gs_ku hne_127 hc_107
  have hne_129 : q_64 ≠ mb := fun z => by rw [z, hb_115] at hc_109; cases hc_109
  have hc_128 : σ_116 q_64 = some (gs_ob 6 [.null, .null, .null, .int 0]) := by rw [eσ_116]; exact gs_ku hne_129 hc_109
  have hne_131 : mc ≠ mb := fun z => by rw [z, hb_115] at hc_111; cases hc_111
  have hc_130 : σ_116 mc = some (gs_ia X 301 (fun _ => 0)) := by rw [eσ_116]; exact gs_ku hne_131 hc_111
  have hne_133 : mi ≠ mb := fun z => by rw [z, hb_115] at hc_113; cases hc_113
  have hc_132 : σ_116 mi = some (gs_ia X 301 (fun _ => 0)) := by rw [eσ_116]; exact gs_ku hne_133 hc_113
  have hc_134 : σ_116 mb = some (gs_ia X 301 (fun _ => 0)) := by rw [eσ_116]; exact gs_us
  have fr_135 : frm [dv] σ σ_116 := by rw [eσ_116]; exact fr_114.born hb_115
  obtain ⟨σ_136, eσ_136⟩ : ∃ zq, zq = gs_up σ_116 q_64 (gs_ob 6 [.ref mc, .ref mi, .ref mb, .int (nI 0)]) := ⟨_, rfl⟩
  have hc_137 : σ_136 lc = some (gs_ia X 301 (fun _ => 0)) := by rw [eσ_136]; exact gs_ku hne_68 hc_118
  have hc_138 : σ_136 li = some (gs_ia X 301 (fun _ => 0)) := by rw [eσ_136]; exact gs_ku hne_70 hc_120
  have hc_139 : σ_136 lb = some (gs_ia X 301 (fun _ => 0)) := by rw [eσ_136]; exact gs_ku hne_72 hc_122
  have hc_140 : σ_136 q_10 = some (gs_ob 6 [.ref lc, .ref li, .ref lb, .int (nI 0)]) := by rw [eσ_136]; exact gs_ku hne_74 hc_124
  have hc_141 : σ_136 dv = some (gs_ob 1 [.ref bk, .ref tu, .ref ma, .ref q_10, .null, .int 0, .int 0, .int 0]) := by rw [eσ_136]; exact gs_ku hne_76 hc_126
  have hc_142 : σ_136 mc = some (gs_ia X 301 (fun _ => 0)) := by rw [eσ_136]; exact gs_ku (Ne.symm hne_93) hc_130
  have hc_143 : σ_136 mi = some (gs_ia X 301 (fun _ => 0)) := by rw [eσ_136]; exact gs_ku (Ne.symm hne_110) hc_132
  have hc_144 : σ_136 mb = some (gs_ia X 301 (fun _ => 0)) := by rw [eσ_136]; exact gs_ku (Ne.symm hne_129) hc_134
  have hc_145 : σ_136 q_64 = some (gs_ob 6 [.ref mc, .ref mi, .ref mb, .int (nI 0)]) := by rw [eσ_136]; exact gs_us
  have fr_146 : frm [dv] σ σ_136 := by rw [eσ_136]; exact fr_135.upN hz_66
  rw [← eσ_80, ← eσ_97, ← eσ_116, ← eσ_136] at hG
  refine gs_putF hx hb ht hown hK hG hS k_DE hc_141 4 (by decide) w_115 rfl hin rfl rfl rfl (Nat.le_of_ble_eq_true rfl) d_DE_init_38 (fun H locs hG hS => ?_)
  have hG : gs_H X (gs_up σ_136 dv (gs_ob 1 [.ref bk, .ref tu, .ref ma, .ref q_10, .ref q_64, .int 0, .int 0, .int 0])) H := hG
  obtain ⟨σ_147, eσ_147⟩ : ∃ zq, zq = gs_up σ_136 dv (gs_ob 1 [.ref bk, .ref tu, .ref ma, .ref q_10, .ref q_64, .int 0, .int 0, .int 0]) := ⟨_, rfl⟩
  rw [← eσ_147] at hG
  have hc_148 : σ_147 lc = some (gs_ia X 301 (fun _ => 0)) := by rw [eσ_147]; exact gs_ku (Ne.symm hne_21) hc_137
  have hc_149 : σ_147 li = some (gs_ia X 301 (fun _ => 0)) := by rw [eσ_147]; exact gs_ku (Ne.symm hne_30) hc_138
  have hc_150 : σ_147 lb = some (gs_ia X 301 (fun _ => 0)) := by rw [eσ_147]; exact gs_ku (Ne.symm hne_41) hc_139
  have hc_151 : σ_147 q_10 = some (gs_ob 6 [.ref lc, .ref li, .ref lb, .int (nI 0)]) := by rw [eσ_147]; exact gs_ku (Ne.symm hne_14) hc_140
  have hc_152 : σ_147 mc = some (gs_ia X 301 (fun _ => 0)) := by rw [eσ_147]; exact gs_ku (Ne.symm hne_91) hc_142
  have hc_153 : σ_147 mi = some (gs_ia X 301 (fun _ => 0)) := by rw [eσ_147]; exact gs_ku (Ne.symm hne_108) hc_143
  have hc_154 : σ_147 mb = some (gs_ia X 301 (fun _ => 0)) := by rw [eσ_147]; exact gs_ku (Ne.symm hne_127) hc_144
  have hc_155 : σ_147 q_64 = some (gs_ob 6 [.ref mc, .ref mi, .ref mb, .int (nI 0)]) := by rw [eσ_147]; exact gs_ku (Ne.symm hne_76) hc_145
  have hc_156 : σ_147 dv = some (gs_ob 1 [.ref bk, .ref tu, .ref ma, .ref q_10, .ref q_64, .int 0, .int 0, .int 0]) := by rw [eσ_147]; exact gs_us
  have fr_157 : frm [dv] σ σ_147 := by rw [eσ_147]; exact fr_146.up (by simp)
  refine lv_aload_n hx hb d_DE_init_41 rfl (lv_at hl 0 rfl) ?_
  refine lv_iconst (v := nI 0) hx hb d_DE_init_42 (by decide) ?_
  refine gs_put hx hb ht hown hK hG hS k_DE hc_156 5 (by decide) w_116 rfl rfl rfl (Nat.le_of_ble_eq_true rfl) d_DE_init_43 (fun H locs hG hS => ?_)
  have hG : gs_H X (gs_up σ_147 dv (gs_ob 1 [.ref bk, .ref tu, .ref ma, .ref q_10, .ref q_64, .int (nI 0), .int 0, .int 0])) H := hG
  obtain ⟨σ_158, eσ_158⟩ : ∃ zq, zq = gs_up σ_147 dv (gs_ob 1 [.ref bk, .ref tu, .ref ma, .ref q_10, .ref q_64, .int (nI 0), .int 0, .int 0]) := ⟨_, rfl⟩
  rw [← eσ_158] at hG
  have hc_159 : σ_158 lc = some (gs_ia X 301 (fun _ => 0)) := by rw [eσ_158]; exact gs_ku (Ne.symm hne_21) hc_148
  have hc_160 : σ_158 li = some (gs_ia X 301 (fun _ => 0)) := by rw [eσ_158]; exact gs_ku (Ne.symm hne_30) hc_149
  have hc_161 : σ_158 lb = some (gs_ia X 301 (fun _ => 0)) := by rw [eσ_158]; exact gs_ku (Ne.symm hne_41) hc_150
  have hc_162 : σ_158 q_10 = some (gs_ob 6 [.ref lc, .ref li, .ref lb, .int (nI 0)]) := by rw [eσ_158]; exact gs_ku (Ne.symm hne_14) hc_151
  have hc_163 : σ_158 mc = some (gs_ia X 301 (fun _ => 0)) := by rw [eσ_158]; exact gs_ku (Ne.symm hne_91) hc_152
  have hc_164 : σ_158 mi = some (gs_ia X 301 (fun _ => 0)) := by rw [eσ_158]; exact gs_ku (Ne.symm hne_108) hc_153
  have hc_165 : σ_158 mb = some (gs_ia X 301 (fun _ => 0)) := by rw [eσ_158]; exact gs_ku (Ne.symm hne_127) hc_154
  have hc_166 : σ_158 q_64 = some (gs_ob 6 [.ref mc, .ref mi, .ref mb, .int (nI 0)]) := by rw [eσ_158]; exact gs_ku (Ne.symm hne_76) hc_155
  have hc_167 : σ_158 dv = some (gs_ob 1 [.ref bk, .ref tu, .ref ma, .ref q_10, .ref q_64, .int (nI 0), .int 0, .int 0]) := by rw [eσ_158]; exact gs_us
  have fr_168 : frm [dv] σ σ_158 := by rw [eσ_158]; exact fr_157.up (by simp)
  refine lv_aload_n hx hb d_DE_init_46 rfl (lv_at hl 0 rfl) ?_
  refine lv_iconst (v := nI 1) hx hb d_DE_init_47 (by decide) ?_
  refine gs_put hx hb ht hown hK hG hS k_DE hc_167 6 (by decide) w_117 rfl rfl rfl (Nat.le_of_ble_eq_true rfl) d_DE_init_48 (fun H locs hG hS => ?_)
  have hG : gs_H X (gs_up σ_158 dv (gs_ob 1 [.ref bk, .ref tu, .ref ma, .ref q_10, .ref q_64, .int (nI 0), .int (nI 1), .int 0])) H := hG
  obtain ⟨σ_169, eσ_169⟩ : ∃ zq, zq = gs_up σ_158 dv (gs_ob 1 [.ref bk, .ref tu, .ref ma, .ref q_10, .ref q_64, .int (nI 0), .int (nI 1), .int 0]) := ⟨_, rfl⟩
  rw [← eσ_169] at hG
  have hc_170 : σ_169 lc = some (gs_ia X 301 (fun _ => 0)) := by rw [eσ_169]; exact gs_ku (Ne.symm hne_21) hc_159
  have hc_171 : σ_169 li = some (gs_ia X 301 (fun _ => 0)) := by rw [eσ_169]; exact gs_ku (Ne.symm hne_30) hc_160
  have hc_172 : σ_169 lb = some (gs_ia X 301 (fun _ => 0)) := by rw [eσ_169]; exact gs_ku (Ne.symm hne_41) hc_161
  have hc_173 : σ_169 q_10 = some (gs_ob 6 [.ref lc, .ref li, .ref lb, .int (nI 0)]) := by rw [eσ_169]; exact gs_ku (Ne.symm hne_14) hc_162
  have hc_174 : σ_169 mc = some (gs_ia X 301 (fun _ => 0)) := by rw [eσ_169]; exact gs_ku (Ne.symm hne_91) hc_163
  have hc_175 : σ_169 mi = some (gs_ia X 301 (fun _ => 0)) := by rw [eσ_169]; exact gs_ku (Ne.symm hne_108) hc_164
  have hc_176 : σ_169 mb = some (gs_ia X 301 (fun _ => 0)) := by rw [eσ_169]; exact gs_ku (Ne.symm hne_127) hc_165
  have hc_177 : σ_169 q_64 = some (gs_ob 6 [.ref mc, .ref mi, .ref mb, .int (nI 0)]) := by rw [eσ_169]; exact gs_ku (Ne.symm hne_76) hc_166
  have hc_178 : σ_169 dv = some (gs_ob 1 [.ref bk, .ref tu, .ref ma, .ref q_10, .ref q_64, .int (nI 0), .int (nI 1), .int 0]) := by rw [eσ_169]; exact gs_us
  have fr_179 : frm [dv] σ σ_169 := by rw [eσ_169]; exact fr_168.up (by simp)
  refine lv_aload_n hx hb d_DE_init_51 rfl (lv_at hl 0 rfl) ?_
  refine lv_iconst (v := nI 0) hx hb d_DE_init_52 (by decide) ?_
  refine gs_put hx hb ht hown hK hG hS k_DE hc_178 7 (by decide) w_118 rfl rfl rfl (Nat.le_of_ble_eq_true rfl) d_DE_init_53 (fun H locs hG hS => ?_)
  have hG : gs_H X (gs_up σ_169 dv (gs_ob 1 [.ref bk, .ref tu, .ref ma, .ref q_10, .ref q_64, .int (nI 0), .int (nI 1), .int (nI 0)])) H := hG
  obtain ⟨σ_180, eσ_180⟩ : ∃ zq, zq = gs_up σ_169 dv (gs_ob 1 [.ref bk, .ref tu, .ref ma, .ref q_10, .ref q_64, .int (nI 0), .int (nI 1), .int (nI 0)]) := ⟨_, rfl⟩
  rw [← eσ_180] at hG
  have hc_181 : σ_180 lc = some (gs_ia X 301 (fun _ => 0)) := by rw [eσ_180]; exact gs_ku (Ne.symm hne_21) hc_170
  have hc_182 : σ_180 li = some (gs_ia X 301 (fun _ => 0)) := by rw [eσ_180]; exact gs_ku (Ne.symm hne_30) hc_171
  have hc_183 : σ_180 lb = some (gs_ia X 301 (fun _ => 0)) := by rw [eσ_180]; exact gs_ku (Ne.symm hne_41) hc_172
  have hc_184 : σ_180 q_10 = some (gs_ob 6 [.ref lc, .ref li, .ref lb, .int (nI 0)]) := by rw [eσ_180]; exact gs_ku (Ne.symm hne_14) hc_173
  have hc_185 : σ_180 mc = some (gs_ia X 301 (fun _ => 0)) := by rw [eσ_180]; exact gs_ku (Ne.symm hne_91) hc_174
  have hc_186 : σ_180 mi = some (gs_ia X 301 (fun _ => 0)) := by rw [eσ_180]; exact gs_ku (Ne.symm hne_108) hc_175
  have hc_187 : σ_180 mb = some (gs_ia X 301 (fun _ => 0)) := by rw [eσ_180]; exact gs_ku (Ne.symm hne_127) hc_176
  have hc_188 : σ_180 q_64 = some (gs_ob 6 [.ref mc, .ref mi, .ref mb, .int (nI 0)]) := by rw [eσ_180]; exact gs_ku (Ne.symm hne_76) hc_177
  have hc_189 : σ_180 dv = some (gs_ob 1 [.ref bk, .ref tu, .ref ma, .ref q_10, .ref q_64, .int (nI 0), .int (nI 1), .int (nI 0)]) := by rw [eσ_180]; exact gs_us
  have fr_190 : frm [dv] σ σ_180 := by rw [eσ_180]; exact fr_179.up (by simp)
  exact gs_vret hx hb hr hK hE hz hG hS hlocks (by first | decide | omega | (dsimp only [headSpec]; omega)) (by first | decide | omega | (dsimp only [headSpec]; omega)) (⟨q_10, q_64, lc, li, lb, mc, mi, mb, hz_12, hz_66, hz_19, hz_81, hz_98, hz_117, hne_74, nd4 hne_83 hne_100 hne_119 hne_112 hne_131 hne_133, hc_189, hc_184, hc_188, hc_181, hc_185, hc_186, hc_187, fr_190⟩) d_DE_init_56
