theorem zn_nil {σ : gs_St} : ∀ q ∈ ([] : List Nat), σ q = none := fun _ h => by cases h
theorem zn_cons {σ : gs_St} {a : Nat} {A : List Nat} (h : σ a = none) (h2 : ∀ q ∈ A, σ q = none) : ∀ q ∈ a :: A, σ q = none := fun q hq => by
  rcases List.mem_cons.mp hq with rfl | hq
  · exact h
  · exact h2 q hq
theorem nd3 {a b c : Nat} (h1 : a ≠ b) (h2 : a ≠ c) (h3 : b ≠ c) : [a, b, c].Nodup := by simp [h1, h2, h3]
theorem nd7 {a b c d e f g : Nat} (h : [d, e, f, g].Nodup) (h1 : a ≠ b) (h2 : a ≠ c) (h3 : b ≠ c) (a1 : a ≠ d) (a2 : a ≠ e) (a3 : a ≠ f) (a4 : a ≠ g) (b1 : b ≠ d) (b2 : b ≠ e) (b3 : b ≠ f) (b4 : b ≠ g) (c1 : c ≠ d) (c2 : c ≠ e) (c3 : c ≠ f) (c4 : c ≠ g) : [a, b, c, d, e, f, g].Nodup := by
  refine List.nodup_cons.mpr ⟨by simp [h1, h2, a1, a2, a3, a4], List.nodup_cons.mpr ⟨by simp [h3, b1, b2, b3, b4], List.nodup_cons.mpr ⟨by simp [c1, c2, c3, c4], h⟩⟩⟩
set_option maxHeartbeats 4000000 in
set_option maxRecDepth 100000 in
/-- RuleRounds, new -/
theorem c_RR_init (l : Launch) (X : gs_X) (σ : gs_St) (rr : Nat)
    (h0 : σ rr = some (gs_ob 0 [.null, .null, .null, .null, .int 0, .null])) : gs_Mv l X y_RR_init b_RR_init 1 ({ frames := 3, cells := 19, slots := 2805, locals := 63 }) σ [.ref rr] (fun σ' => ∃ dv bk tu ma la cm ac ai ab lc li lb mc mi mb va co ru sr, (∀ q ∈ [dv, bk, tu, ma, la, cm, ac, ai, ab, lc, mc, mi, mb, va, co, ru, sr], σ q = none) ∧ [ac, ai, ab, lc, mc, mi, mb].Nodup ∧ [tu, la, cm].Nodup ∧ co ≠ sr ∧ σ' rr = some (gs_ob 0 [.ref bk, .ref tu, .ref ma, .ref dv, .int (nI 0), .null]) ∧ dvA X σ' dv bk tu ma la cm ac ai ab lc li lb mc mi mb va [] [] (fun _ => 0) 0 true 0 ∧ bkA X σ' bk co ru sr 0 (nI 0) [] (fun _ => 0) ∧ σ' co = some (gs_ia X 12 (fun _ => 0)) ∧ frm [rr] σ σ') := by
  refine Met.ofW (cc := b_RR_init) (maxL := 1) (ret := none) (by decide) rfl ?_
  intro p e s m args below meth c s₁ B₀ hml hv
  obtain ⟨rfl, hK, hG, hz, hE⟩ := hv
  have hx := B₀.exec
  have hb := B₀.bytes
  have hr := B₀.returns
  have hts := atoms_spec (ws := gs_ws y_RR_init b_RR_init 1 none) B₀.pre
  have ht : ∀ w ∈ gs_w, w.before _ s = true := fun w h => hts w (List.mem_cons_of_mem _ h)
  have hown : s.vm.findClass R_RR = some m.cls := findClass_of_methodNamed B₀.named
  have hlocks := B₀.notSynchronized
  have hin : meth.name = "<init>" := (name_of_methodNamed B₀.named B₀.method).1
  have hA : ∀ q : Nat, s.heap.size ≤ q → gs_A X q := fun q h => Nat.le_trans hz h
  have hS : va_S (gs_A X) s.heap s.heap [] := va_S.rf
  have hl := lv_entry ([.ref rr]) (n := 1) (Nat.le_of_ble_eq_true rfl)
  rw [lg_entry_eq]
  generalize (lg_sl ([.ref rr]) ++ List.replicate (1 - (lg_sl ([.ref rr])).length) Slot.unset).toArray = ls at hl ⊢
  have hl : lv_has ls 1 [(0, .ref rr)] := hl
  have fr0 : frm [rr] σ σ := frm.rf
  refine lv_aload_n hx hb d_RR_init_0 rfl (lv_at hl 0 rfl) ?_
  refine W.objInit hx hb hown (ht _ w_21) (ht _ w_22) (ht _ w_23) rfl (by rw [hml]; exact hl.1) rfl d_RR_init_1 (Nat.le_of_ble_eq_true rfl) (Nat.le_of_ble_eq_true rfl) ?_
  refine W.eq (g2 := F0 m 4 ls []) rfl ?_
  refine lv_aload_n hx hb d_RR_init_4 rfl (lv_at hl 0 rfl) ?_
  refine gs_new (fs := [.null, .null, .null, .int 0, .int 0, .int 0]) hx hb ht hown hK hG hS hA k_RB w_24 w_25 w_2 (fun j hj => by (rcases (show j = 0 ∨ j = 1 ∨ j = 2 ∨ j = 3 ∨ j = 4 ∨ j = 5 by omega) with rfl | rfl | rfl | rfl | rfl | rfl <;> rfl)) (by first | decide | omega) (by first | decide | omega) d_RR_init_5 (fun q_1 H hq_1 hG hS => ?_)
  obtain ⟨σ_2, eσ_2⟩ : ∃ zq, zq = gs_up σ q_1 (gs_ob 5 [.null, .null, .null, .int 0, .int 0, .int 0]) := ⟨_, rfl⟩
  have hG : gs_H X (gs_up σ q_1 (gs_ob 5 [.null, .null, .null, .int 0, .int 0, .int 0])) H := hG
  rw [← eσ_2] at hG
  have hz_3 : σ q_1 = none := fr0.none_ (al_cons h0 al_nil) hq_1
  have hne_5 : rr ≠ q_1 := fun z => by rw [z, hq_1] at h0; cases h0
  have hc_4 : σ_2 rr = some (gs_ob 0 [.null, .null, .null, .null, .int 0, .null]) := by rw [eσ_2]; exact gs_ku hne_5 h0
  have hc_6 : σ_2 q_1 = some (gs_ob 5 [.null, .null, .null, .int 0, .int 0, .int 0]) := by rw [eσ_2]; exact gs_us
  have fr_7 : frm [rr] σ σ_2 := by rw [eσ_2]; exact fr0.born hq_1
  refine lv_dup hx hb d_RR_init_8 rfl ?_
  refine gs_callIv (As := []) (rest := [.ref q_1, .ref rr]) ⟨hx, hb, hml, hown, hts⟩ hK hE hz hG hS (c_RB_init l X σ_2 q_1 hc_6) mI_RB_init w_26 rfl hl.1 rfl (Nat.le_of_ble_eq_true rfl) ⟨(by first | decide | omega | (dsimp only [headSpec]; omega)), (by first | decide | omega | (dsimp only [headSpec]; omega))⟩ ⟨(by first | decide | omega | (dsimp only [headSpec]; omega)), (by first | decide | omega | (dsimp only [headSpec]; omega))⟩ d_RR_init_9 (fun σ_9 H locs hp_9 hG hS => ?_)
  obtain ⟨co, ru, sr, z1, z2, z3, w1, w2, w3, ev⟩ := hp_9
  rw [ev] at hG
  have hb_8 : σ_2 co = none := by exact z1
  obtain ⟨σ_9, eσ_9⟩ : ∃ zq, zq = gs_up σ_2 co (gs_ia X 12 (fun _ => 0)) := ⟨_, rfl⟩
  have hz_10 : σ co = none := fr_7.none_ (al_cons hc_4 al_nil) hb_8
  have hne_12 : rr ≠ co := fun z => by rw [z, hb_8] at hc_4; cases hc_4
  have hc_11 : σ_9 rr = some (gs_ob 0 [.null, .null, .null, .null, .int 0, .null]) := by rw [eσ_9]; exact gs_ku hne_12 hc_4
  have hne_14 : q_1 ≠ co := fun z => by rw [z, hb_8] at hc_6; cases hc_6
  have hc_13 : σ_9 q_1 = some (gs_ob 5 [.null, .null, .null, .int 0, .int 0, .int 0]) := by rw [eσ_9]; exact gs_ku hne_14 hc_6
  have hc_15 : σ_9 co = some (gs_ia X 12 (fun _ => 0)) := by rw [eσ_9]; exact gs_us
  have fr_16 : frm [rr] σ σ_9 := by rw [eσ_9]; exact fr_7.born hb_8
  have hb_17 : σ_9 ru = none := by rw [eσ_9, gs_un (Ne.symm w1)]; exact z2
  obtain ⟨σ_18, eσ_18⟩ : ∃ zq, zq = gs_up σ_9 ru (gs_qa X 2 24 (fun _ => none)) := ⟨_, rfl⟩
  have hz_19 : σ ru = none := fr_16.none_ (al_cons hc_11 al_nil) hb_17
  have hne_21 : rr ≠ ru := fun z => by rw [z, hb_17] at hc_11; cases hc_11
  have hc_20 : σ_18 rr = some (gs_ob 0 [.null, .null, .null, .null, .int 0, .null]) := by rw [eσ_18]; exact gs_ku hne_21 hc_11
  have hne_23 : q_1 ≠ ru := fun z => by rw [z, hb_17] at hc_13; cases hc_13
  have hc_22 : σ_18 q_1 = some (gs_ob 5 [.null, .null, .null, .int 0, .int 0, .int 0]) := by rw [eσ_18]; exact gs_ku hne_23 hc_13
  have hne_25 : co ≠ ru := fun z => by rw [z, hb_17] at hc_15; cases hc_15
  have hc_24 : σ_18 co = some (gs_ia X 12 (fun _ => 0)) := by rw [eσ_18]; exact gs_ku hne_25 hc_15
  have hc_26 : σ_18 ru = some (gs_qa X 2 24 (fun _ => none)) := by rw [eσ_18]; exact gs_us
  have fr_27 : frm [rr] σ σ_18 := by rw [eσ_18]; exact fr_16.born hb_17
  have hb_28 : σ_18 sr = none := by rw [eσ_18, gs_un (Ne.symm w3)]; rw [eσ_9, gs_un (Ne.symm w2)]; exact z3
  obtain ⟨σ_29, eσ_29⟩ : ∃ zq, zq = gs_up σ_18 sr (gs_ia X 12 (fun _ => 0)) := ⟨_, rfl⟩
  have hz_30 : σ sr = none := fr_27.none_ (al_cons hc_20 al_nil) hb_28
  have hne_32 : rr ≠ sr := fun z => by rw [z, hb_28] at hc_20; cases hc_20
  have hc_31 : σ_29 rr = some (gs_ob 0 [.null, .null, .null, .null, .int 0, .null]) := by rw [eσ_29]; exact gs_ku hne_32 hc_20
  have hne_34 : q_1 ≠ sr := fun z => by rw [z, hb_28] at hc_22; cases hc_22
  have hc_33 : σ_29 q_1 = some (gs_ob 5 [.null, .null, .null, .int 0, .int 0, .int 0]) := by rw [eσ_29]; exact gs_ku hne_34 hc_22
  have hne_36 : co ≠ sr := fun z => by rw [z, hb_28] at hc_24; cases hc_24
  have hc_35 : σ_29 co = some (gs_ia X 12 (fun _ => 0)) := by rw [eσ_29]; exact gs_ku hne_36 hc_24
  have hne_38 : ru ≠ sr := fun z => by rw [z, hb_28] at hc_26; cases hc_26
  have hc_37 : σ_29 ru = some (gs_qa X 2 24 (fun _ => none)) := by rw [eσ_29]; exact gs_ku hne_38 hc_26
  have hc_39 : σ_29 sr = some (gs_ia X 12 (fun _ => 0)) := by rw [eσ_29]; exact gs_us
  have fr_40 : frm [rr] σ σ_29 := by rw [eσ_29]; exact fr_27.born hb_28
  obtain ⟨σ_41, eσ_41⟩ : ∃ zq, zq = gs_up σ_29 q_1 (gs_ob 5 [.ref co, .ref ru, .ref sr, .int (nI 0), .int (nI 0), .int (nI 0)]) := ⟨_, rfl⟩
  have hc_42 : σ_41 rr = some (gs_ob 0 [.null, .null, .null, .null, .int 0, .null]) := by rw [eσ_41]; exact gs_ku hne_5 hc_31
  have hc_43 : σ_41 co = some (gs_ia X 12 (fun _ => 0)) := by rw [eσ_41]; exact gs_ku (Ne.symm hne_14) hc_35
  have hc_44 : σ_41 ru = some (gs_qa X 2 24 (fun _ => none)) := by rw [eσ_41]; exact gs_ku (Ne.symm hne_23) hc_37
  have hc_45 : σ_41 sr = some (gs_ia X 12 (fun _ => 0)) := by rw [eσ_41]; exact gs_ku (Ne.symm hne_34) hc_39
  have hc_46 : σ_41 q_1 = some (gs_ob 5 [.ref co, .ref ru, .ref sr, .int (nI 0), .int (nI 0), .int (nI 0)]) := by rw [eσ_41]; exact gs_us
  have fr_47 : frm [rr] σ σ_41 := by rw [eσ_41]; exact fr_40.upN hz_3
  rw [← eσ_9, ← eσ_18, ← eσ_29, ← eσ_41] at hG
  refine gs_putF hx hb ht hown hK hG hS k_RR hc_42 0 (by decide) w_137 rfl hin rfl rfl rfl (Nat.le_of_ble_eq_true rfl) d_RR_init_12 (fun H locs hG hS => ?_)
  have hG : gs_H X (gs_up σ_41 rr (gs_ob 0 [.ref q_1, .null, .null, .null, .int 0, .null])) H := hG
  obtain ⟨σ_48, eσ_48⟩ : ∃ zq, zq = gs_up σ_41 rr (gs_ob 0 [.ref q_1, .null, .null, .null, .int 0, .null]) := ⟨_, rfl⟩
  rw [← eσ_48] at hG
  have hc_49 : σ_48 co = some (gs_ia X 12 (fun _ => 0)) := by rw [eσ_48]; exact gs_ku (Ne.symm hne_12) hc_43
  have hc_50 : σ_48 ru = some (gs_qa X 2 24 (fun _ => none)) := by rw [eσ_48]; exact gs_ku (Ne.symm hne_21) hc_44
  have hc_51 : σ_48 sr = some (gs_ia X 12 (fun _ => 0)) := by rw [eσ_48]; exact gs_ku (Ne.symm hne_32) hc_45
  have hc_52 : σ_48 q_1 = some (gs_ob 5 [.ref co, .ref ru, .ref sr, .int (nI 0), .int (nI 0), .int (nI 0)]) := by rw [eσ_48]; exact gs_ku (Ne.symm hne_5) hc_46
  have hc_53 : σ_48 rr = some (gs_ob 0 [.ref q_1, .null, .null, .null, .int 0, .null]) := by rw [eσ_48]; exact gs_us
  have fr_54 : frm [rr] σ σ_48 := by rw [eσ_48]; exact fr_47.up (by simp)
  refine lv_aload_n hx hb d_RR_init_15 rfl (lv_at hl 0 rfl) ?_
  refine gs_new (fs := [.null, .null, .null, .int 0]) hx hb ht hown hK hG hS hA k_TU w_62 w_63 w_3 (fun j hj => by (rcases (show j = 0 ∨ j = 1 ∨ j = 2 ∨ j = 3 by omega) with rfl | rfl | rfl | rfl <;> rfl)) (by first | decide | omega) (by first | decide | omega) d_RR_init_16 (fun q_55 H hq_55 hG hS => ?_)
  obtain ⟨σ_56, eσ_56⟩ : ∃ zq, zq = gs_up σ_48 q_55 (gs_ob 6 [.null, .null, .null, .int 0]) := ⟨_, rfl⟩
  have hG : gs_H X (gs_up σ_48 q_55 (gs_ob 6 [.null, .null, .null, .int 0])) H := hG
  rw [← eσ_56] at hG
  have hz_57 : σ q_55 = none := fr_54.none_ (al_cons hc_53 al_nil) hq_55
  have hne_59 : co ≠ q_55 := fun z => by rw [z, hq_55] at hc_49; cases hc_49
  have hc_58 : σ_56 co = some (gs_ia X 12 (fun _ => 0)) := by rw [eσ_56]; exact gs_ku hne_59 hc_49
  have hne_61 : ru ≠ q_55 := fun z => by rw [z, hq_55] at hc_50; cases hc_50
  have hc_60 : σ_56 ru = some (gs_qa X 2 24 (fun _ => none)) := by rw [eσ_56]; exact gs_ku hne_61 hc_50
  have hne_63 : sr ≠ q_55 := fun z => by rw [z, hq_55] at hc_51; cases hc_51
  have hc_62 : σ_56 sr = some (gs_ia X 12 (fun _ => 0)) := by rw [eσ_56]; exact gs_ku hne_63 hc_51
  have hne_65 : q_1 ≠ q_55 := fun z => by rw [z, hq_55] at hc_52; cases hc_52
  have hc_64 : σ_56 q_1 = some (gs_ob 5 [.ref co, .ref ru, .ref sr, .int (nI 0), .int (nI 0), .int (nI 0)]) := by rw [eσ_56]; exact gs_ku hne_65 hc_52
  have hne_67 : rr ≠ q_55 := fun z => by rw [z, hq_55] at hc_53; cases hc_53
  have hc_66 : σ_56 rr = some (gs_ob 0 [.ref q_1, .null, .null, .null, .int 0, .null]) := by rw [eσ_56]; exact gs_ku hne_67 hc_53
  have hc_68 : σ_56 q_55 = some (gs_ob 6 [.null, .null, .null, .int 0]) := by rw [eσ_56]; exact gs_us
  have fr_69 : frm [rr] σ σ_56 := by rw [eσ_56]; exact fr_54.born hq_55
  refine lv_dup hx hb d_RR_init_19 rfl ?_
  refine gs_callIv (As := []) (rest := [.ref q_55, .ref rr]) ⟨hx, hb, hml, hown, hts⟩ hK hE hz hG hS (c_TU_init l X σ_56 q_55 hc_68) mI_TU_init w_64 rfl hl.1 rfl (Nat.le_of_ble_eq_true rfl) ⟨(by first | decide | omega | (dsimp only [headSpec]; omega)), (by first | decide | omega | (dsimp only [headSpec]; omega))⟩ ⟨(by first | decide | omega | (dsimp only [headSpec]; omega)), (by first | decide | omega | (dsimp only [headSpec]; omega))⟩ d_RR_init_20 (fun σ_20 H locs hp_20 hG hS => ?_)
  obtain ⟨ac, ai, ab, y1, y2, y3, u1, u2, u3, ev2⟩ := hp_20
  rw [ev2] at hG
  unfold tu4 at hG
  have hb_70 : σ_56 ac = none := by exact y1
  obtain ⟨σ_71, eσ_71⟩ : ∃ zq, zq = gs_up σ_56 ac (gs_ia X 301 (fun _ => 0)) := ⟨_, rfl⟩
  have hz_72 : σ ac = none := fr_69.none_ (al_cons hc_66 al_nil) hb_70
  have hne_74 : co ≠ ac := fun z => by rw [z, hb_70] at hc_58; cases hc_58
  have hc_73 : σ_71 co = some (gs_ia X 12 (fun _ => 0)) := by rw [eσ_71]; exact gs_ku hne_74 hc_58
  have hne_76 : ru ≠ ac := fun z => by rw [z, hb_70] at hc_60; cases hc_60
  have hc_75 : σ_71 ru = some (gs_qa X 2 24 (fun _ => none)) := by rw [eσ_71]; exact gs_ku hne_76 hc_60
  have hne_78 : sr ≠ ac := fun z => by rw [z, hb_70] at hc_62; cases hc_62
  have hc_77 : σ_71 sr = some (gs_ia X 12 (fun _ => 0)) := by rw [eσ_71]; exact gs_ku hne_78 hc_62
  have hne_80 : q_1 ≠ ac := fun z => by rw [z, hb_70] at hc_64; cases hc_64
  have hc_79 : σ_71 q_1 = some (gs_ob 5 [.ref co, .ref ru, .ref sr, .int (nI 0), .int (nI 0), .int (nI 0)]) := by rw [eσ_71]; exact gs_ku hne_80 hc_64
  have hne_82 : rr ≠ ac := fun z => by rw [z, hb_70] at hc_66; cases hc_66
  have hc_81 : σ_71 rr = some (gs_ob 0 [.ref q_1, .null, .null, .null, .int 0, .null]) := by rw [eσ_71]; exact gs_ku hne_82 hc_66
  have hne_84 : q_55 ≠ ac := fun z => by rw [z, hb_70] at hc_68; cases hc_68
  have hc_83 : σ_71 q_55 = some (gs_ob 6 [.null, .null, .null, .int 0]) := by rw [eσ_71]; exact gs_ku hne_84 hc_68
  have hc_85 : σ_71 ac = some (gs_ia X 301 (fun _ => 0)) := by rw [eσ_71]; exact gs_us
  have fr_86 : frm [rr] σ σ_71 := by rw [eσ_71]; exact fr_69.born hb_70
  have hb_87 : σ_71 ai = none := by rw [eσ_71, gs_un (Ne.symm u1)]; exact y2
  obtain ⟨σ_88, eσ_88⟩ : ∃ zq, zq = gs_up σ_71 ai (gs_ia X 301 (fun _ => 0)) := ⟨_, rfl⟩
  have hz_89 : σ ai = none := fr_86.none_ (al_cons hc_81 al_nil) hb_87
  have hne_91 : co ≠ ai := fun z => by rw [z, hb_87] at hc_73; cases hc_73
  have hc_90 : σ_88 co = some (gs_ia X 12 (fun _ => 0)) := by rw [eσ_88]; exact gs_ku hne_91 hc_73
  have hne_93 : ru ≠ ai := fun z => by rw [z, hb_87] at hc_75; cases hc_75
  have hc_92 : σ_88 ru = some (gs_qa X 2 24 (fun _ => none)) := by rw [eσ_88]; exact gs_ku hne_93 hc_75
  have hne_95 : sr ≠ ai := fun z => by rw [z, hb_87] at hc_77; cases hc_77
  have hc_94 : σ_88 sr = some (gs_ia X 12 (fun _ => 0)) := by rw [eσ_88]; exact gs_ku hne_95 hc_77
  have hne_97 : q_1 ≠ ai := fun z => by rw [z, hb_87] at hc_79; cases hc_79
  have hc_96 : σ_88 q_1 = some (gs_ob 5 [.ref co, .ref ru, .ref sr, .int (nI 0), .int (nI 0), .int (nI 0)]) := by rw [eσ_88]; exact gs_ku hne_97 hc_79
  have hne_99 : rr ≠ ai := fun z => by rw [z, hb_87] at hc_81; cases hc_81
  have hc_98 : σ_88 rr = some (gs_ob 0 [.ref q_1, .null, .null, .null, .int 0, .null]) := by rw [eσ_88]; exact gs_ku hne_99 hc_81
  have hne_101 : q_55 ≠ ai := fun z => by rw [z, hb_87] at hc_83; cases hc_83
  have hc_100 : σ_88 q_55 = some (gs_ob 6 [.null, .null, .null, .int 0]) := by rw [eσ_88]; exact gs_ku hne_101 hc_83
  have hne_103 : ac ≠ ai := fun z => by rw [z, hb_87] at hc_85; cases hc_85
  have hc_102 : σ_88 ac = some (gs_ia X 301 (fun _ => 0)) := by rw [eσ_88]; exact gs_ku hne_103 hc_85
  have hc_104 : σ_88 ai = some (gs_ia X 301 (fun _ => 0)) := by rw [eσ_88]; exact gs_us
  have fr_105 : frm [rr] σ σ_88 := by rw [eσ_88]; exact fr_86.born hb_87
  have hb_106 : σ_88 ab = none := by rw [eσ_88, gs_un (Ne.symm u3)]; rw [eσ_71, gs_un (Ne.symm u2)]; exact y3
  obtain ⟨σ_107, eσ_107⟩ : ∃ zq, zq = gs_up σ_88 ab (gs_ia X 301 (fun _ => 0)) := ⟨_, rfl⟩
  have hz_108 : σ ab = none := fr_105.none_ (al_cons hc_98 al_nil) hb_106
  have hne_110 : co ≠ ab := fun z => by rw [z, hb_106] at hc_90; cases hc_90
  have hc_109 : σ_107 co = some (gs_ia X 12 (fun _ => 0)) := by rw [eσ_107]; exact gs_ku hne_110 hc_90
  have hne_112 : ru ≠ ab := fun z => by rw [z, hb_106] at hc_92; cases hc_92
  have hc_111 : σ_107 ru = some (gs_qa X 2 24 (fun _ => none)) := by rw [eσ_107]; exact gs_ku hne_112 hc_92
  have hne_114 : sr ≠ ab := fun z => by rw [z, hb_106] at hc_94; cases hc_94
  have hc_113 : σ_107 sr = some (gs_ia X 12 (fun _ => 0)) := by rw [eσ_107]; exact gs_ku hne_114 hc_94
  have hne_116 : q_1 ≠ ab := fun z => by rw [z, hb_106] at hc_96; cases hc_96
  have hc_115 : σ_107 q_1 = some (gs_ob 5 [.ref co, .ref ru, .ref sr, .int (nI 0), .int (nI 0), .int (nI 0)]) := by rw [eσ_107]; exact gs_ku hne_116 hc_96
  have hne_118 : rr ≠ ab := fun z => by rw [z, hb_106] at hc_98; cases hc_98
  have hc_117 : σ_107 rr = some (gs_ob 0 [.ref q_1, .null, .null, .null, .int 0, .null]) := by rw [eσ_107]; exact gs_ku hne_118 hc_98
  have hne_120 : q_55 ≠ ab := fun z => by rw [z, hb_106] at hc_100; cases hc_100
  have hc_119 : σ_107 q_55 = some (gs_ob 6 [.null, .null, .null, .int 0]) := by rw [eσ_107]; exact gs_ku hne_120 hc_100
  have hne_122 : ac ≠ ab := fun z => by rw [z, hb_106] at hc_102; cases hc_102
  have hc_121 : σ_107 ac = some (gs_ia X 301 (fun _ => 0)) := by rw [eσ_107]; exact gs_ku hne_122 hc_102
  have hne_124 : ai ≠ ab := fun z => by rw [z, hb_106] at hc_104; cases hc_104
  have hc_123 : σ_107 ai = some (gs_ia X 301 (fun _ => 0)) := by rw [eσ_107]; exact gs_ku hne_124 hc_104
  have hc_125 : σ_107 ab = some (gs_ia X 301 (fun _ => 0)) := by rw [eσ_107]; exact gs_us
  have fr_126 : frm [rr] σ σ_107 := by rw [eσ_107]; exact fr_105.born hb_106
  obtain ⟨σ_127, eσ_127⟩ : ∃ zq, zq = gs_up σ_107 q_55 (gs_ob 6 [.ref ac, .ref ai, .ref ab, .int (nI 0)]) := ⟨_, rfl⟩
  have hc_128 : σ_127 co = some (gs_ia X 12 (fun _ => 0)) := by rw [eσ_127]; exact gs_ku hne_59 hc_109
  have hc_129 : σ_127 ru = some (gs_qa X 2 24 (fun _ => none)) := by rw [eσ_127]; exact gs_ku hne_61 hc_111
  have hc_130 : σ_127 sr = some (gs_ia X 12 (fun _ => 0)) := by rw [eσ_127]; exact gs_ku hne_63 hc_113
  have hc_131 : σ_127 q_1 = some (gs_ob 5 [.ref co, .ref ru, .ref sr, .int (nI 0), .int (nI 0), .int (nI 0)]) := by rw [eσ_127]; exact gs_ku hne_65 hc_115
  have hc_132 : σ_127 rr = some (gs_ob 0 [.ref q_1, .null, .null, .null, .int 0, .null]) := by rw [eσ_127]; exact gs_ku hne_67 hc_117
  have hc_133 : σ_127 ac = some (gs_ia X 301 (fun _ => 0)) := by rw [eσ_127]; exact gs_ku (Ne.symm hne_84) hc_121
  have hc_134 : σ_127 ai = some (gs_ia X 301 (fun _ => 0)) := by rw [eσ_127]; exact gs_ku (Ne.symm hne_101) hc_123
  have hc_135 : σ_127 ab = some (gs_ia X 301 (fun _ => 0)) := by rw [eσ_127]; exact gs_ku (Ne.symm hne_120) hc_125
  have hc_136 : σ_127 q_55 = some (gs_ob 6 [.ref ac, .ref ai, .ref ab, .int (nI 0)]) := by rw [eσ_127]; exact gs_us
  have fr_137 : frm [rr] σ σ_127 := by rw [eσ_127]; exact fr_126.upN hz_57
  rw [← eσ_71, ← eσ_88, ← eσ_107, ← eσ_127] at hG
  refine gs_putF hx hb ht hown hK hG hS k_RR hc_132 1 (by decide) w_138 rfl hin rfl rfl rfl (Nat.le_of_ble_eq_true rfl) d_RR_init_23 (fun H locs hG hS => ?_)
  have hG : gs_H X (gs_up σ_127 rr (gs_ob 0 [.ref q_1, .ref q_55, .null, .null, .int 0, .null])) H := hG
  obtain ⟨σ_138, eσ_138⟩ : ∃ zq, zq = gs_up σ_127 rr (gs_ob 0 [.ref q_1, .ref q_55, .null, .null, .int 0, .null]) := ⟨_, rfl⟩
  rw [← eσ_138] at hG
  have hc_139 : σ_138 co = some (gs_ia X 12 (fun _ => 0)) := by rw [eσ_138]; exact gs_ku (Ne.symm hne_12) hc_128
  have hc_140 : σ_138 ru = some (gs_qa X 2 24 (fun _ => none)) := by rw [eσ_138]; exact gs_ku (Ne.symm hne_21) hc_129
  have hc_141 : σ_138 sr = some (gs_ia X 12 (fun _ => 0)) := by rw [eσ_138]; exact gs_ku (Ne.symm hne_32) hc_130
  have hc_142 : σ_138 q_1 = some (gs_ob 5 [.ref co, .ref ru, .ref sr, .int (nI 0), .int (nI 0), .int (nI 0)]) := by rw [eσ_138]; exact gs_ku (Ne.symm hne_5) hc_131
  have hc_143 : σ_138 ac = some (gs_ia X 301 (fun _ => 0)) := by rw [eσ_138]; exact gs_ku (Ne.symm hne_82) hc_133
  have hc_144 : σ_138 ai = some (gs_ia X 301 (fun _ => 0)) := by rw [eσ_138]; exact gs_ku (Ne.symm hne_99) hc_134
  have hc_145 : σ_138 ab = some (gs_ia X 301 (fun _ => 0)) := by rw [eσ_138]; exact gs_ku (Ne.symm hne_118) hc_135
  have hc_146 : σ_138 q_55 = some (gs_ob 6 [.ref ac, .ref ai, .ref ab, .int (nI 0)]) := by rw [eσ_138]; exact gs_ku (Ne.symm hne_67) hc_136
  have hc_147 : σ_138 rr = some (gs_ob 0 [.ref q_1, .ref q_55, .null, .null, .int 0, .null]) := by rw [eσ_138]; exact gs_us
  have fr_148 : frm [rr] σ σ_138 := by rw [eσ_138]; exact fr_137.up (by simp)
  refine lv_aload_n hx hb d_RR_init_26 rfl (lv_at hl 0 rfl) ?_
  refine gs_new (fs := [.null, .null]) hx hb ht hown hK hG hS hA k_MA w_90 w_91 w_4 (fun j hj => by (rcases (show j = 0 ∨ j = 1 by omega) with rfl | rfl <;> rfl)) (by first | decide | omega) (by first | decide | omega) d_RR_init_27 (fun q_149 H hq_149 hG hS => ?_)
  obtain ⟨σ_150, eσ_150⟩ : ∃ zq, zq = gs_up σ_138 q_149 (gs_ob 3 [.null, .null]) := ⟨_, rfl⟩
  have hG : gs_H X (gs_up σ_138 q_149 (gs_ob 3 [.null, .null])) H := hG
  rw [← eσ_150] at hG
  have hz_151 : σ q_149 = none := fr_148.none_ (al_cons hc_147 al_nil) hq_149
  have hne_153 : co ≠ q_149 := fun z => by rw [z, hq_149] at hc_139; cases hc_139
  have hc_152 : σ_150 co = some (gs_ia X 12 (fun _ => 0)) := by rw [eσ_150]; exact gs_ku hne_153 hc_139
  have hne_155 : ru ≠ q_149 := fun z => by rw [z, hq_149] at hc_140; cases hc_140
  have hc_154 : σ_150 ru = some (gs_qa X 2 24 (fun _ => none)) := by rw [eσ_150]; exact gs_ku hne_155 hc_140
  have hne_157 : sr ≠ q_149 := fun z => by rw [z, hq_149] at hc_141; cases hc_141
  have hc_156 : σ_150 sr = some (gs_ia X 12 (fun _ => 0)) := by rw [eσ_150]; exact gs_ku hne_157 hc_141
  have hne_159 : q_1 ≠ q_149 := fun z => by rw [z, hq_149] at hc_142; cases hc_142
  have hc_158 : σ_150 q_1 = some (gs_ob 5 [.ref co, .ref ru, .ref sr, .int (nI 0), .int (nI 0), .int (nI 0)]) := by rw [eσ_150]; exact gs_ku hne_159 hc_142
  have hne_161 : ac ≠ q_149 := fun z => by rw [z, hq_149] at hc_143; cases hc_143
  have hc_160 : σ_150 ac = some (gs_ia X 301 (fun _ => 0)) := by rw [eσ_150]; exact gs_ku hne_161 hc_143
  have hne_163 : ai ≠ q_149 := fun z => by rw [z, hq_149] at hc_144; cases hc_144
  have hc_162 : σ_150 ai = some (gs_ia X 301 (fun _ => 0)) := by rw [eσ_150]; exact gs_ku hne_163 hc_144
  have hne_165 : ab ≠ q_149 := fun z => by rw [z, hq_149] at hc_145; cases hc_145
  have hc_164 : σ_150 ab = some (gs_ia X 301 (fun _ => 0)) := by rw [eσ_150]; exact gs_ku hne_165 hc_145
  have hne_167 : q_55 ≠ q_149 := fun z => by rw [z, hq_149] at hc_146; cases hc_146
  have hc_166 : σ_150 q_55 = some (gs_ob 6 [.ref ac, .ref ai, .ref ab, .int (nI 0)]) := by rw [eσ_150]; exact gs_ku hne_167 hc_146
  have hne_169 : rr ≠ q_149 := fun z => by rw [z, hq_149] at hc_147; cases hc_147
  have hc_168 : σ_150 rr = some (gs_ob 0 [.ref q_1, .ref q_55, .null, .null, .int 0, .null]) := by rw [eσ_150]; exact gs_ku hne_169 hc_147
  have hc_170 : σ_150 q_149 = some (gs_ob 3 [.null, .null]) := by rw [eσ_150]; exact gs_us
  have fr_171 : frm [rr] σ σ_150 := by rw [eσ_150]; exact fr_148.born hq_149
  refine lv_dup hx hb d_RR_init_30 rfl ?_
  refine lv_aload_n hx hb d_RR_init_31 rfl (lv_at hl 0 rfl) ?_
  refine gs_get hx hb ht hown hK hG k_RR hc_168 1 (by decide) w_138 rfl d_RR_init_32 ?_
  refine gs_callIv (As := [.ref q_55]) (rest := [.ref q_149, .ref rr]) ⟨hx, hb, hml, hown, hts⟩ hK hE hz hG hS (c_MA_init l X σ_150 q_149 q_55 hc_170) mI_MA_init w_92 rfl hl.1 rfl (Nat.le_of_ble_eq_true rfl) ⟨(by first | decide | omega | (dsimp only [headSpec]; omega)), (by first | decide | omega | (dsimp only [headSpec]; omega))⟩ ⟨(by first | decide | omega | (dsimp only [headSpec]; omega)), (by first | decide | omega | (dsimp only [headSpec]; omega))⟩ d_RR_init_35 (fun σ_35 H locs hp_35 hG hS => ?_)
  obtain ⟨va, v1, v2, v3, v4⟩ := hp_35
  have hz_172 : σ va = none := fr_171.none_ (al_cons hc_168 al_nil) v1
  have hne_173 : co ≠ va := fun z => by rw [z, v1] at hc_152; cases hc_152
  have hne_174 : ru ≠ va := fun z => by rw [z, v1] at hc_154; cases hc_154
  have hne_175 : sr ≠ va := fun z => by rw [z, v1] at hc_156; cases hc_156
  have hne_176 : q_1 ≠ va := fun z => by rw [z, v1] at hc_158; cases hc_158
  have hne_177 : ac ≠ va := fun z => by rw [z, v1] at hc_160; cases hc_160
  have hne_178 : ai ≠ va := fun z => by rw [z, v1] at hc_162; cases hc_162
  have hne_179 : ab ≠ va := fun z => by rw [z, v1] at hc_164; cases hc_164
  have hne_180 : q_55 ≠ va := fun z => by rw [z, v1] at hc_166; cases hc_166
  have hne_181 : rr ≠ va := fun z => by rw [z, v1] at hc_168; cases hc_168
  have hne_182 : q_149 ≠ va := fun z => by rw [z, v1] at hc_170; cases hc_170
  have hc_183 : σ_35 co = some (gs_ia X 12 (fun _ => 0)) := v4 _ _ (nin_cons hne_153 nin_nil) hc_152
  have hc_184 : σ_35 ru = some (gs_qa X 2 24 (fun _ => none)) := v4 _ _ (nin_cons hne_155 nin_nil) hc_154
  have hc_185 : σ_35 sr = some (gs_ia X 12 (fun _ => 0)) := v4 _ _ (nin_cons hne_157 nin_nil) hc_156
  have hc_186 : σ_35 q_1 = some (gs_ob 5 [.ref co, .ref ru, .ref sr, .int (nI 0), .int (nI 0), .int (nI 0)]) := v4 _ _ (nin_cons hne_159 nin_nil) hc_158
  have hc_187 : σ_35 ac = some (gs_ia X 301 (fun _ => 0)) := v4 _ _ (nin_cons hne_161 nin_nil) hc_160
  have hc_188 : σ_35 ai = some (gs_ia X 301 (fun _ => 0)) := v4 _ _ (nin_cons hne_163 nin_nil) hc_162
  have hc_189 : σ_35 ab = some (gs_ia X 301 (fun _ => 0)) := v4 _ _ (nin_cons hne_165 nin_nil) hc_164
  have hc_190 : σ_35 q_55 = some (gs_ob 6 [.ref ac, .ref ai, .ref ab, .int (nI 0)]) := v4 _ _ (nin_cons hne_167 nin_nil) hc_166
  have hc_191 : σ_35 rr = some (gs_ob 0 [.ref q_1, .ref q_55, .null, .null, .int 0, .null]) := v4 _ _ (nin_cons hne_169 nin_nil) hc_168
  have fr_192 : frm [rr] σ σ_35 := fr_171.transN v4 (fun b hb => Or.inr (by rw [List.mem_singleton.mp hb]; exact hz_151))
  refine gs_putF hx hb ht hown hK hG hS k_RR hc_191 2 (by decide) w_139 rfl hin rfl rfl rfl (Nat.le_of_ble_eq_true rfl) d_RR_init_38 (fun H locs hG hS => ?_)
  have hG : gs_H X (gs_up σ_35 rr (gs_ob 0 [.ref q_1, .ref q_55, .ref q_149, .null, .int 0, .null])) H := hG
  obtain ⟨σ_193, eσ_193⟩ : ∃ zq, zq = gs_up σ_35 rr (gs_ob 0 [.ref q_1, .ref q_55, .ref q_149, .null, .int 0, .null]) := ⟨_, rfl⟩
  rw [← eσ_193] at hG
  have hc_194 : σ_193 co = some (gs_ia X 12 (fun _ => 0)) := by rw [eσ_193]; exact gs_ku (Ne.symm hne_12) hc_183
  have hc_195 : σ_193 ru = some (gs_qa X 2 24 (fun _ => none)) := by rw [eσ_193]; exact gs_ku (Ne.symm hne_21) hc_184
  have hc_196 : σ_193 sr = some (gs_ia X 12 (fun _ => 0)) := by rw [eσ_193]; exact gs_ku (Ne.symm hne_32) hc_185
  have hc_197 : σ_193 q_1 = some (gs_ob 5 [.ref co, .ref ru, .ref sr, .int (nI 0), .int (nI 0), .int (nI 0)]) := by rw [eσ_193]; exact gs_ku (Ne.symm hne_5) hc_186
  have hc_198 : σ_193 ac = some (gs_ia X 301 (fun _ => 0)) := by rw [eσ_193]; exact gs_ku (Ne.symm hne_82) hc_187
  have hc_199 : σ_193 ai = some (gs_ia X 301 (fun _ => 0)) := by rw [eσ_193]; exact gs_ku (Ne.symm hne_99) hc_188
  have hc_200 : σ_193 ab = some (gs_ia X 301 (fun _ => 0)) := by rw [eσ_193]; exact gs_ku (Ne.symm hne_118) hc_189
  have hc_201 : σ_193 q_55 = some (gs_ob 6 [.ref ac, .ref ai, .ref ab, .int (nI 0)]) := by rw [eσ_193]; exact gs_ku (Ne.symm hne_67) hc_190
  have hc_202 : σ_193 q_149 = some (gs_ob 3 [.ref q_55, .ref va]) := by rw [eσ_193]; exact gs_ku (Ne.symm hne_169) v2
  have hc_203 : σ_193 va = some (gs_ia X 8 (fun _ => 0)) := by rw [eσ_193]; exact gs_ku (Ne.symm hne_181) v3
  have hc_204 : σ_193 rr = some (gs_ob 0 [.ref q_1, .ref q_55, .ref q_149, .null, .int 0, .null]) := by rw [eσ_193]; exact gs_us
  have fr_205 : frm [rr] σ σ_193 := by rw [eσ_193]; exact fr_192.up (by simp)
  refine lv_aload_n hx hb d_RR_init_41 rfl (lv_at hl 0 rfl) ?_
  refine gs_new (fs := [.null, .null, .null, .null, .null, .int 0, .int 0, .int 0]) hx hb ht hown hK hG hS hA k_DE w_103 w_104 w_5 (fun j hj => by (rcases (show j = 0 ∨ j = 1 ∨ j = 2 ∨ j = 3 ∨ j = 4 ∨ j = 5 ∨ j = 6 ∨ j = 7 by omega) with rfl | rfl | rfl | rfl | rfl | rfl | rfl | rfl <;> rfl)) (by first | decide | omega) (by first | decide | omega) d_RR_init_42 (fun q_206 H hq_206 hG hS => ?_)
  obtain ⟨σ_207, eσ_207⟩ : ∃ zq, zq = gs_up σ_193 q_206 (gs_ob 1 [.null, .null, .null, .null, .null, .int 0, .int 0, .int 0]) := ⟨_, rfl⟩
  have hG : gs_H X (gs_up σ_193 q_206 (gs_ob 1 [.null, .null, .null, .null, .null, .int 0, .int 0, .int 0])) H := hG
  rw [← eσ_207] at hG
  have hz_208 : σ q_206 = none := fr_205.none_ (al_cons hc_204 al_nil) hq_206
  have hne_210 : co ≠ q_206 := fun z => by rw [z, hq_206] at hc_194; cases hc_194
  have hc_209 : σ_207 co = some (gs_ia X 12 (fun _ => 0)) := by rw [eσ_207]; exact gs_ku hne_210 hc_194
  have hne_212 : ru ≠ q_206 := fun z => by rw [z, hq_206] at hc_195; cases hc_195
  have hc_211 : σ_207 ru = some (gs_qa X 2 24 (fun _ => none)) := by rw [eσ_207]; exact gs_ku hne_212 hc_195
  have hne_214 : sr ≠ q_206 := fun z => by rw [z, hq_206] at hc_196; cases hc_196
  have hc_213 : σ_207 sr = some (gs_ia X 12 (fun _ => 0)) := by rw [eσ_207]; exact gs_ku hne_214 hc_196
  have hne_216 : q_1 ≠ q_206 := fun z => by rw [z, hq_206] at hc_197; cases hc_197
  have hc_215 : σ_207 q_1 = some (gs_ob 5 [.ref co, .ref ru, .ref sr, .int (nI 0), .int (nI 0), .int (nI 0)]) := by rw [eσ_207]; exact gs_ku hne_216 hc_197
  have hne_218 : ac ≠ q_206 := fun z => by rw [z, hq_206] at hc_198; cases hc_198
  have hc_217 : σ_207 ac = some (gs_ia X 301 (fun _ => 0)) := by rw [eσ_207]; exact gs_ku hne_218 hc_198
  have hne_220 : ai ≠ q_206 := fun z => by rw [z, hq_206] at hc_199; cases hc_199
  have hc_219 : σ_207 ai = some (gs_ia X 301 (fun _ => 0)) := by rw [eσ_207]; exact gs_ku hne_220 hc_199
  have hne_222 : ab ≠ q_206 := fun z => by rw [z, hq_206] at hc_200; cases hc_200
  have hc_221 : σ_207 ab = some (gs_ia X 301 (fun _ => 0)) := by rw [eσ_207]; exact gs_ku hne_222 hc_200
  have hne_224 : q_55 ≠ q_206 := fun z => by rw [z, hq_206] at hc_201; cases hc_201
  have hc_223 : σ_207 q_55 = some (gs_ob 6 [.ref ac, .ref ai, .ref ab, .int (nI 0)]) := by rw [eσ_207]; exact gs_ku hne_224 hc_201
  have hne_226 : q_149 ≠ q_206 := fun z => by rw [z, hq_206] at hc_202; cases hc_202
  have hc_225 : σ_207 q_149 = some (gs_ob 3 [.ref q_55, .ref va]) := by rw [eσ_207]; exact gs_ku hne_226 hc_202
  have hne_228 : va ≠ q_206 := fun z => by rw [z, hq_206] at hc_203; cases hc_203
  have hc_227 : σ_207 va = some (gs_ia X 8 (fun _ => 0)) := by rw [eσ_207]; exact gs_ku hne_228 hc_203
  have hne_230 : rr ≠ q_206 := fun z => by rw [z, hq_206] at hc_204; cases hc_204
  have hc_229 : σ_207 rr = some (gs_ob 0 [.ref q_1, .ref q_55, .ref q_149, .null, .int 0, .null]) := by rw [eσ_207]; exact gs_ku hne_230 hc_204
  have hc_231 : σ_207 q_206 = some (gs_ob 1 [.null, .null, .null, .null, .null, .int 0, .int 0, .int 0]) := by rw [eσ_207]; exact gs_us
  have fr_232 : frm [rr] σ σ_207 := by rw [eσ_207]; exact fr_205.born hq_206
  refine lv_dup hx hb d_RR_init_45 rfl ?_
  refine lv_aload_n hx hb d_RR_init_46 rfl (lv_at hl 0 rfl) ?_
  refine gs_get hx hb ht hown hK hG k_RR hc_229 0 (by decide) w_137 rfl d_RR_init_47 ?_
  refine lv_aload_n hx hb d_RR_init_50 rfl (lv_at hl 0 rfl) ?_
  refine gs_get hx hb ht hown hK hG k_RR hc_229 1 (by decide) w_138 rfl d_RR_init_51 ?_
  refine lv_aload_n hx hb d_RR_init_54 rfl (lv_at hl 0 rfl) ?_
  refine gs_get hx hb ht hown hK hG k_RR hc_229 2 (by decide) w_139 rfl d_RR_init_55 ?_
  refine gs_callIv (As := [.ref q_1, .ref q_55, .ref q_149]) (rest := [.ref q_206, .ref rr]) ⟨hx, hb, hml, hown, hts⟩ hK hE hz hG hS (c_DE_init l X σ_207 q_206 q_1 q_55 q_149 hc_231) mI_DE_init w_105 rfl hl.1 rfl (Nat.le_of_ble_eq_true rfl) ⟨(by first | decide | omega | (dsimp only [headSpec]; omega)), (by first | decide | omega | (dsimp only [headSpec]; omega))⟩ ⟨(by first | decide | omega | (dsimp only [headSpec]; omega)), (by first | decide | omega | (dsimp only [headSpec]; omega))⟩ d_RR_init_58 (fun σ_58 H locs hp_58 hG hS => ?_)
  obtain ⟨la, cm, lc, li, lb, mc, mi, mb, g1, g2, g3, g4, g5, g6, g7, g8, g9, k1, k2, k3, k4, k5, k6, k7⟩ := hp_58
  have hz_233 : σ la = none := fr_232.none_ (al_cons hc_229 al_nil) g1
  have hne_234 : co ≠ la := fun z => by rw [z, g1] at hc_209; cases hc_209
  have hne_235 : ru ≠ la := fun z => by rw [z, g1] at hc_211; cases hc_211
  have hne_236 : sr ≠ la := fun z => by rw [z, g1] at hc_213; cases hc_213
  have hne_237 : q_1 ≠ la := fun z => by rw [z, g1] at hc_215; cases hc_215
  have hne_238 : ac ≠ la := fun z => by rw [z, g1] at hc_217; cases hc_217
  have hne_239 : ai ≠ la := fun z => by rw [z, g1] at hc_219; cases hc_219
  have hne_240 : ab ≠ la := fun z => by rw [z, g1] at hc_221; cases hc_221
  have hne_241 : q_55 ≠ la := fun z => by rw [z, g1] at hc_223; cases hc_223
  have hne_242 : q_149 ≠ la := fun z => by rw [z, g1] at hc_225; cases hc_225
  have hne_243 : va ≠ la := fun z => by rw [z, g1] at hc_227; cases hc_227
  have hne_244 : rr ≠ la := fun z => by rw [z, g1] at hc_229; cases hc_229
  have hne_245 : q_206 ≠ la := fun z => by rw [z, g1] at hc_231; cases hc_231
  have hz_246 : σ cm = none := fr_232.none_ (al_cons hc_229 al_nil) g2
  have hne_247 : co ≠ cm := fun z => by rw [z, g2] at hc_209; cases hc_209
  have hne_248 : ru ≠ cm := fun z => by rw [z, g2] at hc_211; cases hc_211
  have hne_249 : sr ≠ cm := fun z => by rw [z, g2] at hc_213; cases hc_213
  have hne_250 : q_1 ≠ cm := fun z => by rw [z, g2] at hc_215; cases hc_215
  have hne_251 : ac ≠ cm := fun z => by rw [z, g2] at hc_217; cases hc_217
  have hne_252 : ai ≠ cm := fun z => by rw [z, g2] at hc_219; cases hc_219
  have hne_253 : ab ≠ cm := fun z => by rw [z, g2] at hc_221; cases hc_221
  have hne_254 : q_55 ≠ cm := fun z => by rw [z, g2] at hc_223; cases hc_223
  have hne_255 : q_149 ≠ cm := fun z => by rw [z, g2] at hc_225; cases hc_225
  have hne_256 : va ≠ cm := fun z => by rw [z, g2] at hc_227; cases hc_227
  have hne_257 : rr ≠ cm := fun z => by rw [z, g2] at hc_229; cases hc_229
  have hne_258 : q_206 ≠ cm := fun z => by rw [z, g2] at hc_231; cases hc_231
  have hz_259 : σ lc = none := fr_232.none_ (al_cons hc_229 al_nil) g3
  have hne_260 : co ≠ lc := fun z => by rw [z, g3] at hc_209; cases hc_209
  have hne_261 : ru ≠ lc := fun z => by rw [z, g3] at hc_211; cases hc_211
  have hne_262 : sr ≠ lc := fun z => by rw [z, g3] at hc_213; cases hc_213
  have hne_263 : q_1 ≠ lc := fun z => by rw [z, g3] at hc_215; cases hc_215
  have hne_264 : ac ≠ lc := fun z => by rw [z, g3] at hc_217; cases hc_217
  have hne_265 : ai ≠ lc := fun z => by rw [z, g3] at hc_219; cases hc_219
  have hne_266 : ab ≠ lc := fun z => by rw [z, g3] at hc_221; cases hc_221
  have hne_267 : q_55 ≠ lc := fun z => by rw [z, g3] at hc_223; cases hc_223
  have hne_268 : q_149 ≠ lc := fun z => by rw [z, g3] at hc_225; cases hc_225
  have hne_269 : va ≠ lc := fun z => by rw [z, g3] at hc_227; cases hc_227
  have hne_270 : rr ≠ lc := fun z => by rw [z, g3] at hc_229; cases hc_229
  have hne_271 : q_206 ≠ lc := fun z => by rw [z, g3] at hc_231; cases hc_231
  have hz_272 : σ mc = none := fr_232.none_ (al_cons hc_229 al_nil) g4
  have hne_273 : co ≠ mc := fun z => by rw [z, g4] at hc_209; cases hc_209
  have hne_274 : ru ≠ mc := fun z => by rw [z, g4] at hc_211; cases hc_211
  have hne_275 : sr ≠ mc := fun z => by rw [z, g4] at hc_213; cases hc_213
  have hne_276 : q_1 ≠ mc := fun z => by rw [z, g4] at hc_215; cases hc_215
  have hne_277 : ac ≠ mc := fun z => by rw [z, g4] at hc_217; cases hc_217
  have hne_278 : ai ≠ mc := fun z => by rw [z, g4] at hc_219; cases hc_219
  have hne_279 : ab ≠ mc := fun z => by rw [z, g4] at hc_221; cases hc_221
  have hne_280 : q_55 ≠ mc := fun z => by rw [z, g4] at hc_223; cases hc_223
  have hne_281 : q_149 ≠ mc := fun z => by rw [z, g4] at hc_225; cases hc_225
  have hne_282 : va ≠ mc := fun z => by rw [z, g4] at hc_227; cases hc_227
  have hne_283 : rr ≠ mc := fun z => by rw [z, g4] at hc_229; cases hc_229
  have hne_284 : q_206 ≠ mc := fun z => by rw [z, g4] at hc_231; cases hc_231
  have hz_285 : σ mi = none := fr_232.none_ (al_cons hc_229 al_nil) g5
  have hne_286 : co ≠ mi := fun z => by rw [z, g5] at hc_209; cases hc_209
  have hne_287 : ru ≠ mi := fun z => by rw [z, g5] at hc_211; cases hc_211
  have hne_288 : sr ≠ mi := fun z => by rw [z, g5] at hc_213; cases hc_213
  have hne_289 : q_1 ≠ mi := fun z => by rw [z, g5] at hc_215; cases hc_215
  have hne_290 : ac ≠ mi := fun z => by rw [z, g5] at hc_217; cases hc_217
  have hne_291 : ai ≠ mi := fun z => by rw [z, g5] at hc_219; cases hc_219
  have hne_292 : ab ≠ mi := fun z => by rw [z, g5] at hc_221; cases hc_221
  have hne_293 : q_55 ≠ mi := fun z => by rw [z, g5] at hc_223; cases hc_223
  have hne_294 : q_149 ≠ mi := fun z => by rw [z, g5] at hc_225; cases hc_225
  have hne_295 : va ≠ mi := fun z => by rw [z, g5] at hc_227; cases hc_227
  have hne_296 : rr ≠ mi := fun z => by rw [z, g5] at hc_229; cases hc_229
  have hne_297 : q_206 ≠ mi := fun z => by rw [z, g5] at hc_231; cases hc_231
  have hz_298 : σ mb = none := fr_232.none_ (al_cons hc_229 al_nil) g6
  have hne_299 : co ≠ mb := fun z => by rw [z, g6] at hc_209; cases hc_209
  have hne_300 : ru ≠ mb := fun z => by rw [z, g6] at hc_211; cases hc_211
  have hne_301 : sr ≠ mb := fun z => by rw [z, g6] at hc_213; cases hc_213
  have hne_302 : q_1 ≠ mb := fun z => by rw [z, g6] at hc_215; cases hc_215
  have hne_303 : ac ≠ mb := fun z => by rw [z, g6] at hc_217; cases hc_217
  have hne_304 : ai ≠ mb := fun z => by rw [z, g6] at hc_219; cases hc_219
  have hne_305 : ab ≠ mb := fun z => by rw [z, g6] at hc_221; cases hc_221
  have hne_306 : q_55 ≠ mb := fun z => by rw [z, g6] at hc_223; cases hc_223
  have hne_307 : q_149 ≠ mb := fun z => by rw [z, g6] at hc_225; cases hc_225
  have hne_308 : va ≠ mb := fun z => by rw [z, g6] at hc_227; cases hc_227
  have hne_309 : rr ≠ mb := fun z => by rw [z, g6] at hc_229; cases hc_229
  have hne_310 : q_206 ≠ mb := fun z => by rw [z, g6] at hc_231; cases hc_231
  have hc_311 : σ_58 co = some (gs_ia X 12 (fun _ => 0)) := k7 _ _ (nin_cons hne_210 nin_nil) hc_209
  have hc_312 : σ_58 ru = some (gs_qa X 2 24 (fun _ => none)) := k7 _ _ (nin_cons hne_212 nin_nil) hc_211
  have hc_313 : σ_58 sr = some (gs_ia X 12 (fun _ => 0)) := k7 _ _ (nin_cons hne_214 nin_nil) hc_213
  have hc_314 : σ_58 q_1 = some (gs_ob 5 [.ref co, .ref ru, .ref sr, .int (nI 0), .int (nI 0), .int (nI 0)]) := k7 _ _ (nin_cons hne_216 nin_nil) hc_215
  have hc_315 : σ_58 ac = some (gs_ia X 301 (fun _ => 0)) := k7 _ _ (nin_cons hne_218 nin_nil) hc_217
  have hc_316 : σ_58 ai = some (gs_ia X 301 (fun _ => 0)) := k7 _ _ (nin_cons hne_220 nin_nil) hc_219
  have hc_317 : σ_58 ab = some (gs_ia X 301 (fun _ => 0)) := k7 _ _ (nin_cons hne_222 nin_nil) hc_221
  have hc_318 : σ_58 q_55 = some (gs_ob 6 [.ref ac, .ref ai, .ref ab, .int (nI 0)]) := k7 _ _ (nin_cons hne_224 nin_nil) hc_223
  have hc_319 : σ_58 q_149 = some (gs_ob 3 [.ref q_55, .ref va]) := k7 _ _ (nin_cons hne_226 nin_nil) hc_225
  have hc_320 : σ_58 va = some (gs_ia X 8 (fun _ => 0)) := k7 _ _ (nin_cons hne_228 nin_nil) hc_227
  have hc_321 : σ_58 rr = some (gs_ob 0 [.ref q_1, .ref q_55, .ref q_149, .null, .int 0, .null]) := k7 _ _ (nin_cons hne_230 nin_nil) hc_229
  have fr_322 : frm [rr] σ σ_58 := fr_232.transN k7 (fun b hb => Or.inr (by rw [List.mem_singleton.mp hb]; exact hz_208))
  refine gs_putF hx hb ht hown hK hG hS k_RR hc_321 3 (by decide) w_140 rfl hin rfl rfl rfl (Nat.le_of_ble_eq_true rfl) d_RR_init_61 (fun H locs hG hS => ?_)
  have hG : gs_H X (gs_up σ_58 rr (gs_ob 0 [.ref q_1, .ref q_55, .ref q_149, .ref q_206, .int 0, .null])) H := hG
  obtain ⟨σ_323, eσ_323⟩ : ∃ zq, zq = gs_up σ_58 rr (gs_ob 0 [.ref q_1, .ref q_55, .ref q_149, .ref q_206, .int 0, .null]) := ⟨_, rfl⟩
  rw [← eσ_323] at hG
  have hc_324 : σ_323 co = some (gs_ia X 12 (fun _ => 0)) := by rw [eσ_323]; exact gs_ku (Ne.symm hne_12) hc_311
  have hc_325 : σ_323 ru = some (gs_qa X 2 24 (fun _ => none)) := by rw [eσ_323]; exact gs_ku (Ne.symm hne_21) hc_312
  have hc_326 : σ_323 sr = some (gs_ia X 12 (fun _ => 0)) := by rw [eσ_323]; exact gs_ku (Ne.symm hne_32) hc_313
  have hc_327 : σ_323 q_1 = some (gs_ob 5 [.ref co, .ref ru, .ref sr, .int (nI 0), .int (nI 0), .int (nI 0)]) := by rw [eσ_323]; exact gs_ku (Ne.symm hne_5) hc_314
  have hc_328 : σ_323 ac = some (gs_ia X 301 (fun _ => 0)) := by rw [eσ_323]; exact gs_ku (Ne.symm hne_82) hc_315
  have hc_329 : σ_323 ai = some (gs_ia X 301 (fun _ => 0)) := by rw [eσ_323]; exact gs_ku (Ne.symm hne_99) hc_316
  have hc_330 : σ_323 ab = some (gs_ia X 301 (fun _ => 0)) := by rw [eσ_323]; exact gs_ku (Ne.symm hne_118) hc_317
  have hc_331 : σ_323 q_55 = some (gs_ob 6 [.ref ac, .ref ai, .ref ab, .int (nI 0)]) := by rw [eσ_323]; exact gs_ku (Ne.symm hne_67) hc_318
  have hc_332 : σ_323 q_149 = some (gs_ob 3 [.ref q_55, .ref va]) := by rw [eσ_323]; exact gs_ku (Ne.symm hne_169) hc_319
  have hc_333 : σ_323 va = some (gs_ia X 8 (fun _ => 0)) := by rw [eσ_323]; exact gs_ku (Ne.symm hne_181) hc_320
  have hc_334 : σ_323 q_206 = some (gs_ob 1 [.ref q_1, .ref q_55, .ref q_149, .ref la, .ref cm, .int (nI 0), .int (nI 1), .int (nI 0)]) := by rw [eσ_323]; exact gs_ku (Ne.symm hne_230) g9
  have hc_335 : σ_323 la = some (gs_ob 6 [.ref lc, .ref li, .ref lb, .int (nI 0)]) := by rw [eσ_323]; exact gs_ku (Ne.symm hne_244) k1
  have hc_336 : σ_323 cm = some (gs_ob 6 [.ref mc, .ref mi, .ref mb, .int (nI 0)]) := by rw [eσ_323]; exact gs_ku (Ne.symm hne_257) k2
  have hc_337 : σ_323 lc = some (gs_ia X 301 (fun _ => 0)) := by rw [eσ_323]; exact gs_ku (Ne.symm hne_270) k3
  have hc_338 : σ_323 mc = some (gs_ia X 301 (fun _ => 0)) := by rw [eσ_323]; exact gs_ku (Ne.symm hne_283) k4
  have hc_339 : σ_323 mi = some (gs_ia X 301 (fun _ => 0)) := by rw [eσ_323]; exact gs_ku (Ne.symm hne_296) k5
  have hc_340 : σ_323 mb = some (gs_ia X 301 (fun _ => 0)) := by rw [eσ_323]; exact gs_ku (Ne.symm hne_309) k6
  have hc_341 : σ_323 rr = some (gs_ob 0 [.ref q_1, .ref q_55, .ref q_149, .ref q_206, .int 0, .null]) := by rw [eσ_323]; exact gs_us
  have fr_342 : frm [rr] σ σ_323 := by rw [eσ_323]; exact fr_322.up (by simp)
  refine lv_aload_n hx hb d_RR_init_64 rfl (lv_at hl 0 rfl) ?_
  refine lv_iconst (v := nI 0) hx hb d_RR_init_65 (by decide) ?_
  refine gs_put hx hb ht hown hK hG hS k_RR hc_341 4 (by decide) w_141 rfl rfl rfl (Nat.le_of_ble_eq_true rfl) d_RR_init_66 (fun H locs hG hS => ?_)
  have hG : gs_H X (gs_up σ_323 rr (gs_ob 0 [.ref q_1, .ref q_55, .ref q_149, .ref q_206, .int (nI 0), .null])) H := hG
  obtain ⟨σ_343, eσ_343⟩ : ∃ zq, zq = gs_up σ_323 rr (gs_ob 0 [.ref q_1, .ref q_55, .ref q_149, .ref q_206, .int (nI 0), .null]) := ⟨_, rfl⟩
  rw [← eσ_343] at hG
  have hc_344 : σ_343 co = some (gs_ia X 12 (fun _ => 0)) := by rw [eσ_343]; exact gs_ku (Ne.symm hne_12) hc_324
  have hc_345 : σ_343 ru = some (gs_qa X 2 24 (fun _ => none)) := by rw [eσ_343]; exact gs_ku (Ne.symm hne_21) hc_325
  have hc_346 : σ_343 sr = some (gs_ia X 12 (fun _ => 0)) := by rw [eσ_343]; exact gs_ku (Ne.symm hne_32) hc_326
  have hc_347 : σ_343 q_1 = some (gs_ob 5 [.ref co, .ref ru, .ref sr, .int (nI 0), .int (nI 0), .int (nI 0)]) := by rw [eσ_343]; exact gs_ku (Ne.symm hne_5) hc_327
  have hc_348 : σ_343 ac = some (gs_ia X 301 (fun _ => 0)) := by rw [eσ_343]; exact gs_ku (Ne.symm hne_82) hc_328
  have hc_349 : σ_343 ai = some (gs_ia X 301 (fun _ => 0)) := by rw [eσ_343]; exact gs_ku (Ne.symm hne_99) hc_329
  have hc_350 : σ_343 ab = some (gs_ia X 301 (fun _ => 0)) := by rw [eσ_343]; exact gs_ku (Ne.symm hne_118) hc_330
  have hc_351 : σ_343 q_55 = some (gs_ob 6 [.ref ac, .ref ai, .ref ab, .int (nI 0)]) := by rw [eσ_343]; exact gs_ku (Ne.symm hne_67) hc_331
  have hc_352 : σ_343 q_149 = some (gs_ob 3 [.ref q_55, .ref va]) := by rw [eσ_343]; exact gs_ku (Ne.symm hne_169) hc_332
  have hc_353 : σ_343 va = some (gs_ia X 8 (fun _ => 0)) := by rw [eσ_343]; exact gs_ku (Ne.symm hne_181) hc_333
  have hc_354 : σ_343 q_206 = some (gs_ob 1 [.ref q_1, .ref q_55, .ref q_149, .ref la, .ref cm, .int (nI 0), .int (nI 1), .int (nI 0)]) := by rw [eσ_343]; exact gs_ku (Ne.symm hne_230) hc_334
  have hc_355 : σ_343 la = some (gs_ob 6 [.ref lc, .ref li, .ref lb, .int (nI 0)]) := by rw [eσ_343]; exact gs_ku (Ne.symm hne_244) hc_335
  have hc_356 : σ_343 cm = some (gs_ob 6 [.ref mc, .ref mi, .ref mb, .int (nI 0)]) := by rw [eσ_343]; exact gs_ku (Ne.symm hne_257) hc_336
  have hc_357 : σ_343 lc = some (gs_ia X 301 (fun _ => 0)) := by rw [eσ_343]; exact gs_ku (Ne.symm hne_270) hc_337
  have hc_358 : σ_343 mc = some (gs_ia X 301 (fun _ => 0)) := by rw [eσ_343]; exact gs_ku (Ne.symm hne_283) hc_338
  have hc_359 : σ_343 mi = some (gs_ia X 301 (fun _ => 0)) := by rw [eσ_343]; exact gs_ku (Ne.symm hne_296) hc_339
  have hc_360 : σ_343 mb = some (gs_ia X 301 (fun _ => 0)) := by rw [eσ_343]; exact gs_ku (Ne.symm hne_309) hc_340
  have hc_361 : σ_343 rr = some (gs_ob 0 [.ref q_1, .ref q_55, .ref q_149, .ref q_206, .int (nI 0), .null]) := by rw [eσ_343]; exact gs_us
  have fr_362 : frm [rr] σ σ_343 := by rw [eσ_343]; exact fr_342.up (by simp)
  refine lv_aload_n hx hb d_RR_init_69 rfl (lv_at hl 0 rfl) ?_
  refine lv_null hx hb d_RR_init_70 ?_
  refine gs_put hx hb ht hown hK hG hS k_RR hc_361 5 (by decide) w_142 rfl rfl rfl (Nat.le_of_ble_eq_true rfl) d_RR_init_71 (fun H locs hG hS => ?_)
  have hG : gs_H X (gs_up σ_343 rr (gs_ob 0 [.ref q_1, .ref q_55, .ref q_149, .ref q_206, .int (nI 0), .null])) H := hG
  obtain ⟨σ_363, eσ_363⟩ : ∃ zq, zq = gs_up σ_343 rr (gs_ob 0 [.ref q_1, .ref q_55, .ref q_149, .ref q_206, .int (nI 0), .null]) := ⟨_, rfl⟩
  rw [← eσ_363] at hG
  have hc_364 : σ_363 co = some (gs_ia X 12 (fun _ => 0)) := by rw [eσ_363]; exact gs_ku (Ne.symm hne_12) hc_344
  have hc_365 : σ_363 ru = some (gs_qa X 2 24 (fun _ => none)) := by rw [eσ_363]; exact gs_ku (Ne.symm hne_21) hc_345
  have hc_366 : σ_363 sr = some (gs_ia X 12 (fun _ => 0)) := by rw [eσ_363]; exact gs_ku (Ne.symm hne_32) hc_346
  have hc_367 : σ_363 q_1 = some (gs_ob 5 [.ref co, .ref ru, .ref sr, .int (nI 0), .int (nI 0), .int (nI 0)]) := by rw [eσ_363]; exact gs_ku (Ne.symm hne_5) hc_347
  have hc_368 : σ_363 ac = some (gs_ia X 301 (fun _ => 0)) := by rw [eσ_363]; exact gs_ku (Ne.symm hne_82) hc_348
  have hc_369 : σ_363 ai = some (gs_ia X 301 (fun _ => 0)) := by rw [eσ_363]; exact gs_ku (Ne.symm hne_99) hc_349
  have hc_370 : σ_363 ab = some (gs_ia X 301 (fun _ => 0)) := by rw [eσ_363]; exact gs_ku (Ne.symm hne_118) hc_350
  have hc_371 : σ_363 q_55 = some (gs_ob 6 [.ref ac, .ref ai, .ref ab, .int (nI 0)]) := by rw [eσ_363]; exact gs_ku (Ne.symm hne_67) hc_351
  have hc_372 : σ_363 q_149 = some (gs_ob 3 [.ref q_55, .ref va]) := by rw [eσ_363]; exact gs_ku (Ne.symm hne_169) hc_352
  have hc_373 : σ_363 va = some (gs_ia X 8 (fun _ => 0)) := by rw [eσ_363]; exact gs_ku (Ne.symm hne_181) hc_353
  have hc_374 : σ_363 q_206 = some (gs_ob 1 [.ref q_1, .ref q_55, .ref q_149, .ref la, .ref cm, .int (nI 0), .int (nI 1), .int (nI 0)]) := by rw [eσ_363]; exact gs_ku (Ne.symm hne_230) hc_354
  have hc_375 : σ_363 la = some (gs_ob 6 [.ref lc, .ref li, .ref lb, .int (nI 0)]) := by rw [eσ_363]; exact gs_ku (Ne.symm hne_244) hc_355
  have hc_376 : σ_363 cm = some (gs_ob 6 [.ref mc, .ref mi, .ref mb, .int (nI 0)]) := by rw [eσ_363]; exact gs_ku (Ne.symm hne_257) hc_356
  have hc_377 : σ_363 lc = some (gs_ia X 301 (fun _ => 0)) := by rw [eσ_363]; exact gs_ku (Ne.symm hne_270) hc_357
  have hc_378 : σ_363 mc = some (gs_ia X 301 (fun _ => 0)) := by rw [eσ_363]; exact gs_ku (Ne.symm hne_283) hc_358
  have hc_379 : σ_363 mi = some (gs_ia X 301 (fun _ => 0)) := by rw [eσ_363]; exact gs_ku (Ne.symm hne_296) hc_359
  have hc_380 : σ_363 mb = some (gs_ia X 301 (fun _ => 0)) := by rw [eσ_363]; exact gs_ku (Ne.symm hne_309) hc_360
  have hc_381 : σ_363 rr = some (gs_ob 0 [.ref q_1, .ref q_55, .ref q_149, .ref q_206, .int (nI 0), .null]) := by rw [eσ_363]; exact gs_us
  have fr_382 : frm [rr] σ σ_363 := by rw [eσ_363]; exact fr_362.up (by simp)
  exact gs_vret hx hb hr hK hE hz hG hS hlocks (by first | decide | omega | (dsimp only [headSpec]; omega)) (by first | decide | omega | (dsimp only [headSpec]; omega)) (⟨q_206, q_1, q_55, q_149, la, cm, ac, ai, ab, lc, li, lb, mc, mi, mb, va, co, ru, sr, (zn_cons hz_208 (zn_cons hz_3 (zn_cons hz_57 (zn_cons hz_151 (zn_cons hz_233 (zn_cons hz_246 (zn_cons hz_72 (zn_cons hz_89 (zn_cons hz_108 (zn_cons hz_259 (zn_cons hz_272 (zn_cons hz_285 (zn_cons hz_298 (zn_cons hz_172 (zn_cons hz_10 (zn_cons hz_19 (zn_cons hz_30 zn_nil))))))))))))))))), (nd7 g8 u1 u2 u3 hne_264 hne_277 hne_290 hne_303 hne_265 hne_278 hne_291 hne_304 hne_266 hne_279 hne_292 hne_305), (nd3 hne_241 hne_254 g7), w2, hc_381, ⟨_, _, _, _, _, _, _, _, _, hc_374, hc_371, hc_368, hc_369, hc_370, hc_375, hc_377, hc_376, hc_378, hc_379, hc_380, hc_372, hc_373, tuB_nil, tuR_nil, (by decide), List.Pairwise.nil, (by decide), (fun j x h => by simp at h), (fun j _ => ⟨rfl, show (0 : Nat) < 64 by decide⟩)⟩, ⟨_, _, hc_367, hc_365, hc_366, (by decide), (fun j _ => ⟨rfl, show (0 : Nat) ≤ 288 by decide⟩), (fun i R h => by simp at h)⟩, hc_364, fr_382⟩) d_RR_init_74
