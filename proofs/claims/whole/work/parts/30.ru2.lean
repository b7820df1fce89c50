set_option maxHeartbeats 4000000 in
set_option maxRecDepth 100000 in
/-- Rule.bindVariables -/
theorem c_RU_bindVariables (l : Launch) (X : gs_X) (σ : gs_St) (a hd ho ck kf n k : Nat) (b : Nat) (kv : Nat → Int32) (kn : Nat → Nat) (t : It)
    (r0 : σ a = some (gs_ob 4 [.ref hd, .ref ho, .ref ck, .int (nI n), .int (nI k), .ref kf])) (r3 : σ kf = some (gs_ia X 8 kv)) (hkn : kOK kv kn) (h0 : σ b = some (itE t)) (hw : t.1.2.2 ≤ 3) (hw1 : 1 ≤ t.1.2.2) (hB : ∀ j, tm t j < 72) (hb8 : t.2.2.1 < 8) (hn3 : n ≤ 3) (hvb : ∀ j, j < t.1.2.2 → bd (bindI kn t) j = true → 64 ≤ tm t j) : gs_Mv l X y_RU_bindVariables b_RU_bindVariables 4 ({ frames := 2, cells := 0, slots := 0, locals := 62 }) σ [.ref a, .ref b] (fun σ' => ∃ kv', σ' = gs_up (gs_up σ b (itE (bindI kn t))) kf (gs_ia X 8 kv') ∧ kOK kv' (knP kn (bindI kn t) n t.1.2.2)) := by
  refine Met.ofW (cc := b_RU_bindVariables) (maxL := 4) (ret := none) (by decide) rfl ?_
  intro p e s m args below meth c s₁ B₀ hml hv
  obtain ⟨rfl, hK, hG, hz, hE⟩ := hv
  have hx := B₀.exec
  have hb := B₀.bytes
  have hr := B₀.returns
  have hts := atoms_spec (ws := gs_ws y_RU_bindVariables b_RU_bindVariables 4 none) B₀.pre
  have ht : ∀ w ∈ gs_w, w.before _ s = true := fun w h => hts w (List.mem_cons_of_mem _ h)
  have hown : s.vm.findClass R_RU = some m.cls := findClass_of_methodNamed B₀.named
  have hlocks := B₀.notSynchronized
  have hA : ∀ q : Nat, s.heap.size ≤ q → gs_A X q := fun q h => Nat.le_trans hz h
  have hS : va_S (gs_A X) s.heap s.heap [] := va_S.rf
  have hl := lv_entry ([.ref a, .ref b]) (n := 4) (Nat.le_of_ble_eq_true rfl)
  rw [lg_entry_eq]
  generalize (lg_sl ([.ref a, .ref b]) ++ List.replicate (4 - (lg_sl ([.ref a, .ref b])).length) Slot.unset).toArray = ls at hl ⊢
  have hl : lv_has ls 4 [(0, .ref a), (1, .ref b)] := hl
  have hnb : b ≠ kf := gs_ne h0 r3 (by simp)
  have loop2 : ∀ (fl : Nat) (j : Nat) (kv1 : Nat → Int32) (σ1 : gs_St), (j ≤ t.1.2.2) → (kOK kv1 (knP kn (bindI kn t) n j)) → (σ1 = gs_up (gs_up σ b (itE (bindI kn t))) kf (gs_ia X 8 kv1)) → t.1.2.2 - j < fl → (σ1 a = some (gs_ob 4 [.ref hd, .ref ho, .ref ck, .int (nI n), .int (nI k), .ref kf])) → (σ1 kf = some (gs_ia X 8 kv1)) → (σ1 b = some (itE (bindI kn t))) → ∀ (H : Heap) (locs : List Loc), gs_H X σ1 H → va_S (gs_A X) s.heap H locs → ∀ ls, lv_has ls 4 [(2, .int (nI j)), (0, .ref a), (1, .ref b)] → W p l e ({ frames := 2, cells := 0, slots := 0, locals := 62 } : Room) s m ([.ref a, .ref b] : List Value).toArray below meth c H locs 0 0 (MQ below (va_Qv (fun σ' => ∃ kv', σ' = gs_up (gs_up σ b (itE (bindI kn t))) kf (gs_ia X 8 kv') ∧ kOK kv' (knP kn (bindI kn t) n t.1.2.2)) (gs_U X) (gs_A X)) ([.ref a, .ref b] : List Value).toArray s 0 0 (gs_A X)) (F0 m 66 ls []) := by
    intro fl
    induction fl with
    | zero => intro j kv1 σ1 _ _ _ h9; omega
    | succ fl ih =>
      intro j kv1 σ1 hj hk1 eσ1 hmu a0 a1 a2 H locs hG hS ls hl
      have hq1 := hB j
      have hb9 := bl_lt (kn := kn) hb8 hw t.1.2.2 (Nat.le_refl _)
      refine lv_iload_n hx hb d_RU_bindVariables_66 rfl (lv_at hl 0 rfl) ?_
      refine lv_aload_n hx hb d_RU_bindVariables_67 rfl (lv_at hl 2 rfl) ?_
      refine gs_get hx hb ht hown hK hG k_IT a2 2 (by decide) w_453 rfl d_RU_bindVariables_68 ?_
      refine lv_icmp_ge (tgt := 105) hx hb d_RU_bindVariables_71 (by decide) (fun c_71 => ?_) (fun c_71 => ?_)
      · have c_71 : t.1.2.2 ≤ j := (nI_leI (by omega) (by omega)).mp c_71
        exact gs_vret hx hb hr hK hE hz hG hS hlocks (by first | decide | omega | (dsimp only [headSpec]; omega)) (by first | decide | omega | (dsimp only [headSpec]; omega)) (⟨kv1, eσ1, (by rw [show t.1.2.2 = j by omega]; exact hk1)⟩) d_RU_bindVariables_105
      · have c_71 : ¬ t.1.2.2 ≤ j := mt (nI_leI (by omega) (by omega)).mpr c_71
        refine lv_aload_n hx hb d_RU_bindVariables_74 rfl (lv_at hl 2 rfl) ?_
        refine lv_iload_n hx hb d_RU_bindVariables_75 rfl (lv_at hl 0 rfl) ?_
        refine gs_callVi (As := [.int (nI j)]) (rest := []) ⟨hx, hb, hml, hown, hts⟩ hK hE hz hG hS (c_IT_bindsAt l X σ1 b (bindI kn t) j a2 (by omega) hb9) mV_IT_bindsAt w_559 a2 rfl rfl hl.1 rfl (Nat.le_of_ble_eq_true rfl) ⟨(by first | decide | omega | (dsimp only [headSpec]; omega)), (by first | decide | omega | (dsimp only [headSpec]; omega))⟩ ⟨(by first | decide | omega | (dsimp only [headSpec]; omega)), (by first | decide | omega | (dsimp only [headSpec]; omega))⟩ d_RU_bindVariables_76 (fun r_76 σ_76 H locs hp_76 hG hS => ?_)
        rw [hp_76.1] at hG
        refine gs_top (show r_76 = (bI (bd (bindI kn t) j)) from hp_76.2) ?_
        refine lv_if_eq (tgt := 99) hx hb d_RU_bindVariables_79 (by decide) (fun c_79 => ?_) (fun c_79 => ?_)
        · refine lv_iinc (v := (nI (j + 1))) (lv' := [(2, .int (nI (j + 1))), (0, .ref a), (1, .ref b)]) hx hb d_RU_bindVariables_99 hl (k := 0) rfl (by exact nI_1 _) (by decide) rfl (fun ls hl => ?_)
          refine lv_goto (tgt := 66) hx hb d_RU_bindVariables_102 (by decide) ?_
          exact ih (j + 1) kv1 σ1 (by omega) (by simp only [knP]; rw [if_neg (by rw [bI_0 c_79]; decide)]; exact hk1) eσ1 (by omega) a0 a1 a2 H locs hG hS ls (lv_sub hl [0, 1, 2] rfl)
        · have h64 := hvb j (by omega) (bI_n0 c_79)
          refine lv_aload_n hx hb d_RU_bindVariables_82 rfl (lv_at hl 1 rfl) ?_
          refine gs_get hx hb ht hown hK hG k_RU a0 5 (by decide) w_510 rfl d_RU_bindVariables_83 ?_
          refine lv_aload_n hx hb d_RU_bindVariables_86 rfl (lv_at hl 2 rfl) ?_
          refine lv_iload_n hx hb d_RU_bindVariables_87 rfl (lv_at hl 0 rfl) ?_
          refine gs_callVi (As := [.int (nI j)]) (rest := [.ref kf]) ⟨hx, hb, hml, hown, hts⟩ hK hE hz hG hS (c_IT_term l X σ1 b (bindI kn t) j a2 (by omega)) mV_IT_term w_555 a2 rfl rfl hl.1 rfl (Nat.le_of_ble_eq_true rfl) ⟨(by first | decide | omega | (dsimp only [headSpec]; omega)), (by first | decide | omega | (dsimp only [headSpec]; omega))⟩ ⟨(by first | decide | omega | (dsimp only [headSpec]; omega)), (by first | decide | omega | (dsimp only [headSpec]; omega))⟩ d_RU_bindVariables_88 (fun r_88 σ_88 H locs hp_88 hG hS => ?_)
          rw [hp_88.1] at hG
          refine gs_top (show r_88 = (nI (tm t j)) from hp_88.2) ?_
          refine lv_bipush (v := nI 64) hx hb d_RU_bindVariables_91 (by decide) ?_
          refine lv_isub hx hb d_RU_bindVariables_93 ?_
          refine gs_top (pk_sub (a := (tm t j)) (b := 64) (by omega)) ?_
          refine lv_aload_n hx hb d_RU_bindVariables_94 rfl (lv_at hl 1 rfl) ?_
          refine gs_get hx hb ht hown hK hG k_RU a0 3 (by decide) w_503 rfl d_RU_bindVariables_95 ?_
          refine gs_iast hx hb hK hG hS a1 (j := (tm t j) - 64) (by omega) (by omega) d_RU_bindVariables_98 (fun H locs hG hS => ?_)
          have hG : gs_H X (gs_up σ1 kf (gs_ia X 8 (upd kv1 ((tm t j) - 64) (nI n)))) H := hG
          obtain ⟨σ_1, eσ_1⟩ : ∃ zq, zq = gs_up σ1 kf (gs_ia X 8 (upd kv1 ((tm t j) - 64) (nI n))) := ⟨_, rfl⟩
          rw [← eσ_1] at hG
          have hc_2 : σ_1 a = some (gs_ob 4 [.ref hd, .ref ho, .ref ck, .int (nI n), .int (nI k), .ref kf]) := by rw [eσ_1]; exact gs_ku (gs_ne a0 a1 (by simp)) a0
          have hc_3 : σ_1 b = some (gs_ob 2 [.int (nI ((bindI kn t).1.1)), .int (nI ((bindI kn t).1.2.1)), .int (nI t.1.2.2), .int (nI ((bindI kn t).2.1.1)), .int (nI ((bindI kn t).2.1.2.1)), .int (nI ((bindI kn t).2.1.2.2)), .int (nI ((bindI kn t).2.2.1)), .int (nI ((bindI kn t).2.2.2.1)), .int ((bindI kn t).2.2.2.2)]) := by rw [eσ_1]; exact gs_ku (gs_ne a2 a1 (by simp)) a2
          have hc_4 : σ_1 kf = some (gs_ia X 8 (upd kv1 ((tm t j) - 64) (nI n))) := by rw [eσ_1]; exact gs_us
          refine lv_iinc (v := (nI (j + 1))) (lv' := [(2, .int (nI (j + 1))), (0, .ref a), (1, .ref b)]) hx hb d_RU_bindVariables_99 hl (k := 0) rfl (by exact nI_1 _) (by decide) rfl (fun ls hl => ?_)
          refine lv_goto (tgt := 66) hx hb d_RU_bindVariables_102 (by decide) ?_
          exact ih (j + 1) _ σ_1 (by omega) (by simp only [knP]; rw [if_pos (bI_n0 c_79)]; exact kOK_up hk1 hn3) (by simp only [*, gs_uu]) (by omega) hc_2 hc_4 hc_3 H locs hG hS ls (lv_sub hl [0, 1, 2] rfl)
  have loop1 : ∀ (fl : Nat) (c9 q : Nat) (cl : Int32) (σ1 : gs_St), (c9 + q = t.1.2.2) → (cl + 1 = nI c9) → (σ1 = gs_up σ b (itE (blI kn t q))) → c9 < fl → (σ1 a = some (gs_ob 4 [.ref hd, .ref ho, .ref ck, .int (nI n), .int (nI k), .ref kf])) → (σ1 kf = some (gs_ia X 8 kv)) → (σ1 b = some (itE (blI kn t q))) → ∀ (H : Heap) (locs : List Loc), gs_H X σ1 H → va_S (gs_A X) s.heap H locs → ∀ ls, lv_has ls 4 [(2, .int cl), (0, .ref a), (1, .ref b)] → W p l e ({ frames := 2, cells := 0, slots := 0, locals := 62 } : Room) s m ([.ref a, .ref b] : List Value).toArray below meth c H locs 0 0 (MQ below (va_Qv (fun σ' => ∃ kv', σ' = gs_up (gs_up σ b (itE (bindI kn t))) kf (gs_ia X 8 kv') ∧ kOK kv' (knP kn (bindI kn t) n t.1.2.2)) (gs_U X) (gs_A X)) ([.ref a, .ref b] : List Value).toArray s 0 0 (gs_A X)) (F0 m 7 ls []) := by
    intro fl
    induction fl with
    | zero => intro c9 q cl σ1 _ _ _ h9; omega
    | succ fl ih =>
      intro c9 q cl σ1 hc hcl eσ1 hmu a0 a1 a2 H locs hG hS ls hl
      have hb9 := bl_lt (kn := kn) hb8 hw q (by omega)
      refine lv_iload_n hx hb d_RU_bindVariables_7 rfl (lv_at hl 0 rfl) ?_
      refine lv_if_lt (tgt := 64) hx hb d_RU_bindVariables_8 (by decide) (fun c_8 => ?_) (fun c_8 => ?_)
      · refine lv_iconst (v := nI 0) hx hb d_RU_bindVariables_64 (by decide) ?_
        refine lv_istore_n (lv' := [(2, .int (nI 0)), (0, .ref a), (1, .ref b)]) hx hb d_RU_bindVariables_65 rfl hl (by decide) rfl (fun ls hl => ?_)
        have hc0 : c9 = 0 := (cl_neg hcl (by omega)).mp c_8
        have hqw : q = t.1.2.2 := by omega
        subst hqw
        exact loop2 (t.1.2.2 + 1) 0 kv σ1 (by omega) hkn (by rw [eσ1]; exact (gs_usame (gs_ku (Ne.symm hnb) r3)).symm) (by omega) a0 a1 a2 H locs hG hS ls (lv_sub hl [0, 1, 2] rfl)
      · obtain ⟨j, rfl⟩ : ∃ j, c9 = j + 1 := ⟨c9 - 1, by have := mt (cl_neg hcl (by omega)).mpr c_8; omega⟩
        obtain rfl : cl = nI j := cl_pos hcl
        have hq1 := hB j
        have hjq : t.1.2.2 - (q + 1) = j := by omega
        refine lv_aload_n hx hb d_RU_bindVariables_11 rfl (lv_at hl 2 rfl) ?_
        refine lv_iload_n hx hb d_RU_bindVariables_12 rfl (lv_at hl 0 rfl) ?_
        refine gs_callVi (As := [.int (nI j)]) (rest := []) ⟨hx, hb, hml, hown, hts⟩ hK hE hz hG hS (c_IT_term l X σ1 b (blI kn t q) j a2 (by omega)) mV_IT_term w_555 a2 rfl rfl hl.1 rfl (Nat.le_of_ble_eq_true rfl) ⟨(by first | decide | omega | (dsimp only [headSpec]; omega)), (by first | decide | omega | (dsimp only [headSpec]; omega))⟩ ⟨(by first | decide | omega | (dsimp only [headSpec]; omega)), (by first | decide | omega | (dsimp only [headSpec]; omega))⟩ d_RU_bindVariables_13 (fun r_13 σ_13 H locs hp_13 hG hS => ?_)
        rw [hp_13.1] at hG
        refine gs_top (show r_13 = (nI (tm t j)) from hp_13.2) ?_
        refine lv_bipush (v := nI 64) hx hb d_RU_bindVariables_16 (by decide) ?_
        refine lv_isub hx hb d_RU_bindVariables_18 ?_
        refine lv_topi (fun v_1 ev_1 => ?_)
        refine lv_istore_n (lv' := [(3, .int v_1), (2, .int (nI j)), (0, .ref a), (1, .ref b)]) hx hb d_RU_bindVariables_19 rfl hl (by decide) rfl (fun ls hl => ?_)
        refine lv_iload_n hx hb d_RU_bindVariables_20 rfl (lv_at hl 0 rfl) ?_
        refine lv_if_lt (tgt := 58) hx hb d_RU_bindVariables_21 (by decide) (fun c_21 => ?_) (fun c_21 => ?_)
        · obtain ⟨v_2, ev_2⟩ : ∃ y : Int32, y = (nI j) + Int32.ofInt (-1) := ⟨_, rfl⟩
          refine lv_iinc (v := v_2) (lv' := [(2, .int v_2), (3, .int v_1), (0, .ref a), (1, .ref b)]) hx hb d_RU_bindVariables_58 hl (k := 1) rfl ev_2.symm (by decide) rfl (fun ls hl => ?_)
          refine lv_goto (tgt := 7) hx hb d_RU_bindVariables_61 (by decide) ?_
          have hnb2 : bnd kn t j = false := by
            first
            | (have hlt : tm t j < 64 := by rw [ev_1] at c_21; exact (sub64_neg hq1).mp c_21
               simp [bnd, show ¬ 64 ≤ tm t j by omega]; done)
            | (simp [bnd, c_30]; done)
            | (simp [bnd, bI_0 c_38]; done)
          have hbl : bl kn t (q + 1) = bl kn t q := by simp only [bl, hjq]; rw [if_neg (by rw [hnb2]; decide)]
          have hbi : blI kn t (q + 1) = blI kn t q := by simp only [blI, hbl]
          exact ih j (q + 1) v_2 σ1 (by omega) (cl_dec ev_2) (by rw [hbi]; exact eσ1) (by omega) a0 a1 (by rw [hbi]; exact a2) H locs hG hS ls (lv_sub hl [0, 2, 3] rfl)
        · have hge : ¬ tm t j < 64 := fun q => c_21 (by rw [ev_1]; exact (sub64_neg hq1).mpr q)
          obtain rfl : v_1 = nI (tm t j - 64) := by rw [ev_1]; exact pk_sub (by omega)
          obtain ⟨hk1, hk2⟩ := hkn (tm t j - 64) (by omega)
          refine lv_aload_n hx hb d_RU_bindVariables_24 rfl (lv_at hl 2 rfl) ?_
          refine gs_get hx hb ht hown hK hG k_RU a0 5 (by decide) w_510 rfl d_RU_bindVariables_25 ?_
          refine lv_iload_n hx hb d_RU_bindVariables_28 rfl (lv_at hl 0 rfl) ?_
          refine gs_iald hx hb hK hG a1 (j := tm t j - 64) (by omega) (by omega) d_RU_bindVariables_29 ?_
          refine gs_top (show (kv (tm t j - 64)) = (nI (kn (tm t j - 64))) from hk1) ?_
          refine lv_if_ne (tgt := 58) hx hb d_RU_bindVariables_30 (by decide) (fun c_30 => ?_) (fun c_30 => ?_)
          · have c_30 : ¬ (kn (tm t j - 64)) = 0 := gs_zn (by omega) c_30
            obtain ⟨v_3, ev_3⟩ : ∃ y : Int32, y = (nI j) + Int32.ofInt (-1) := ⟨_, rfl⟩
            refine lv_iinc (v := v_3) (lv' := [(2, .int v_3), (3, .int (nI (tm t j - 64))), (0, .ref a), (1, .ref b)]) hx hb d_RU_bindVariables_58 hl (k := 1) rfl ev_3.symm (by decide) rfl (fun ls hl => ?_)
            refine lv_goto (tgt := 7) hx hb d_RU_bindVariables_61 (by decide) ?_
            have hnb2 : bnd kn t j = false := by
              first
              | (have hlt : tm t j < 64 := by rw [ev_1] at c_21; exact (sub64_neg hq1).mp c_21
                 simp [bnd, show ¬ 64 ≤ tm t j by omega]; done)
              | (simp [bnd, c_30]; done)
              | (simp [bnd, bI_0 c_38]; done)
            have hbl : bl kn t (q + 1) = bl kn t q := by simp only [bl, hjq]; rw [if_neg (by rw [hnb2]; decide)]
            have hbi : blI kn t (q + 1) = blI kn t q := by simp only [blI, hbl]
            exact ih j (q + 1) v_3 σ1 (by omega) (cl_dec ev_3) (by rw [hbi]; exact eσ1) (by omega) a0 a1 (by rw [hbi]; exact a2) H locs hG hS ls (lv_sub hl [0, 2, 3] rfl)
          · have c_30 : (kn (tm t j - 64)) = 0 := gs_z (by omega) c_30
            refine lv_aload_n hx hb d_RU_bindVariables_33 rfl (lv_at hl 3 rfl) ?_
            refine lv_iload_n hx hb d_RU_bindVariables_34 rfl (lv_at hl 1 rfl) ?_
            refine gs_callSi (As := [.ref b, .int (nI j)]) (rest := []) ⟨hx, hb, hml, hown, hts⟩ hK hE hz hG hS (c_RU_isFirstUse l X σ1 b j (blI kn t q) a2 (by omega) hB) mS_RU_isFirstUse w_556 rfl hl.1 rfl (Nat.le_of_ble_eq_true rfl) ⟨(by first | decide | omega | (dsimp only [headSpec]; omega)), (by first | decide | omega | (dsimp only [headSpec]; omega))⟩ ⟨(by first | decide | omega | (dsimp only [headSpec]; omega)), (by first | decide | omega | (dsimp only [headSpec]; omega))⟩ d_RU_bindVariables_35 (fun r_35 σ_35 H locs hp_35 hG hS => ?_)
            rw [hp_35.1] at hG
            refine gs_top (show r_35 = (bI (fu t j)) from hp_35.2) ?_
            refine lv_if_eq (tgt := 58) hx hb d_RU_bindVariables_38 (by decide) (fun c_38 => ?_) (fun c_38 => ?_)
            · obtain ⟨v_4, ev_4⟩ : ∃ y : Int32, y = (nI j) + Int32.ofInt (-1) := ⟨_, rfl⟩
              refine lv_iinc (v := v_4) (lv' := [(2, .int v_4), (3, .int (nI (tm t j - 64))), (0, .ref a), (1, .ref b)]) hx hb d_RU_bindVariables_58 hl (k := 1) rfl ev_4.symm (by decide) rfl (fun ls hl => ?_)
              refine lv_goto (tgt := 7) hx hb d_RU_bindVariables_61 (by decide) ?_
              have hnb2 : bnd kn t j = false := by
                first
                | (have hlt : tm t j < 64 := by rw [ev_1] at c_21; exact (sub64_neg hq1).mp c_21
                   simp [bnd, show ¬ 64 ≤ tm t j by omega]; done)
                | (simp [bnd, c_30]; done)
                | (simp [bnd, bI_0 c_38]; done)
              have hbl : bl kn t (q + 1) = bl kn t q := by simp only [bl, hjq]; rw [if_neg (by rw [hnb2]; decide)]
              have hbi : blI kn t (q + 1) = blI kn t q := by simp only [blI, hbl]
              exact ih j (q + 1) v_4 σ1 (by omega) (cl_dec ev_4) (by rw [hbi]; exact eσ1) (by omega) a0 a1 (by rw [hbi]; exact a2) H locs hG hS ls (lv_sub hl [0, 2, 3] rfl)
            · refine lv_aload_n hx hb d_RU_bindVariables_41 rfl (lv_at hl 3 rfl) ?_
              refine lv_dup hx hb d_RU_bindVariables_42 rfl ?_
              refine gs_get hx hb ht hown hK hG k_IT a2 6 (by decide) w_460 rfl d_RU_bindVariables_43 ?_
              refine lv_iconst (v := nI 1) hx hb d_RU_bindVariables_46 (by decide) ?_
              refine lv_iload_n hx hb d_RU_bindVariables_47 rfl (lv_at hl 1 rfl) ?_
              refine lv_ishl hx hb d_RU_bindVariables_48 ?_
              refine lv_ior hx hb d_RU_bindVariables_49 ?_
              refine gs_top (show ((nI ((bl kn t q).1)) ||| ((nI 1) <<< ((nI j) &&& 31))) = (nI ((bl kn t q).1 ||| 2 ^ j)) from gs_or3 hb9 (by omega)) ?_
              refine gs_put hx hb ht hown hK hG hS k_IT a2 6 (by decide) w_460 rfl rfl rfl (Nat.le_of_ble_eq_true rfl) d_RU_bindVariables_50 (fun H locs hG hS => ?_)
              have hG : gs_H X (gs_up σ1 b (gs_ob 2 [.int (nI ((blI kn t q).1.1)), .int (nI ((blI kn t q).1.2.1)), .int (nI t.1.2.2), .int (nI ((blI kn t q).2.1.1)), .int (nI ((blI kn t q).2.1.2.1)), .int (nI ((blI kn t q).2.1.2.2)), .int (nI ((bl kn t q).1 ||| 2 ^ j)), .int (nI ((bl kn t q).2)), .int t.2.2.2.2])) H := hG
              obtain ⟨σ_5, eσ_5⟩ : ∃ zq, zq = gs_up σ1 b (gs_ob 2 [.int (nI ((blI kn t q).1.1)), .int (nI ((blI kn t q).1.2.1)), .int (nI t.1.2.2), .int (nI ((blI kn t q).2.1.1)), .int (nI ((blI kn t q).2.1.2.1)), .int (nI ((blI kn t q).2.1.2.2)), .int (nI ((bl kn t q).1 ||| 2 ^ j)), .int (nI ((bl kn t q).2)), .int t.2.2.2.2]) := ⟨_, rfl⟩
              rw [← eσ_5] at hG
              have hc_6 : σ_5 a = some (gs_ob 4 [.ref hd, .ref ho, .ref ck, .int (nI n), .int (nI k), .ref kf]) := by rw [eσ_5]; exact gs_ku (gs_ne a0 a2 (by simp)) a0
              have hc_7 : σ_5 kf = some (gs_ia X 8 kv) := by rw [eσ_5]; exact gs_ku (gs_ne a1 a2 (by simp)) a1
              have hc_8 : σ_5 b = some (gs_ob 2 [.int (nI ((blI kn t q).1.1)), .int (nI ((blI kn t q).1.2.1)), .int (nI t.1.2.2), .int (nI ((blI kn t q).2.1.1)), .int (nI ((blI kn t q).2.1.2.1)), .int (nI ((blI kn t q).2.1.2.2)), .int (nI ((bl kn t q).1 ||| 2 ^ j)), .int (nI ((bl kn t q).2)), .int t.2.2.2.2]) := by rw [eσ_5]; exact gs_us
              refine lv_aload_n hx hb d_RU_bindVariables_53 rfl (lv_at hl 3 rfl) ?_
              refine lv_iload_n hx hb d_RU_bindVariables_54 rfl (lv_at hl 1 rfl) ?_
              refine gs_put hx hb ht hown hK hG hS k_IT hc_8 7 (by decide) w_463 rfl rfl rfl (Nat.le_of_ble_eq_true rfl) d_RU_bindVariables_55 (fun H locs hG hS => ?_)
              have hG : gs_H X (gs_up σ_5 b (gs_ob 2 [.int (nI ((blI kn t q).1.1)), .int (nI ((blI kn t q).1.2.1)), .int (nI t.1.2.2), .int (nI ((blI kn t q).2.1.1)), .int (nI ((blI kn t q).2.1.2.1)), .int (nI ((blI kn t q).2.1.2.2)), .int (nI ((bl kn t q).1 ||| 2 ^ j)), .int (nI j), .int t.2.2.2.2])) H := hG
              obtain ⟨σ_9, eσ_9⟩ : ∃ zq, zq = gs_up σ_5 b (gs_ob 2 [.int (nI ((blI kn t q).1.1)), .int (nI ((blI kn t q).1.2.1)), .int (nI t.1.2.2), .int (nI ((blI kn t q).2.1.1)), .int (nI ((blI kn t q).2.1.2.1)), .int (nI ((blI kn t q).2.1.2.2)), .int (nI ((bl kn t q).1 ||| 2 ^ j)), .int (nI j), .int t.2.2.2.2]) := ⟨_, rfl⟩
              rw [← eσ_9] at hG
              have hc_10 : σ_9 a = some (gs_ob 4 [.ref hd, .ref ho, .ref ck, .int (nI n), .int (nI k), .ref kf]) := by rw [eσ_9]; exact gs_ku (gs_ne hc_6 hc_8 (by simp)) hc_6
              have hc_11 : σ_9 kf = some (gs_ia X 8 kv) := by rw [eσ_9]; exact gs_ku (gs_ne hc_7 hc_8 (by simp)) hc_7
              have hc_12 : σ_9 b = some (gs_ob 2 [.int (nI ((blI kn t q).1.1)), .int (nI ((blI kn t q).1.2.1)), .int (nI t.1.2.2), .int (nI ((blI kn t q).2.1.1)), .int (nI ((blI kn t q).2.1.2.1)), .int (nI ((blI kn t q).2.1.2.2)), .int (nI ((bl kn t q).1 ||| 2 ^ j)), .int (nI j), .int t.2.2.2.2]) := by rw [eσ_9]; exact gs_us
              obtain ⟨v_13, ev_13⟩ : ∃ y : Int32, y = (nI j) + Int32.ofInt (-1) := ⟨_, rfl⟩
              refine lv_iinc (v := v_13) (lv' := [(2, .int v_13), (3, .int (nI (tm t j - 64))), (0, .ref a), (1, .ref b)]) hx hb d_RU_bindVariables_58 hl (k := 1) rfl ev_13.symm (by decide) rfl (fun ls hl => ?_)
              refine lv_goto (tgt := 7) hx hb d_RU_bindVariables_61 (by decide) ?_
              have hnb2 : bnd kn t j = true := by simp [bnd, show 64 ≤ tm t j by omega, c_30, bI_n0 c_38]
              have hbl : bl kn t (q + 1) = ((bl kn t q).1 ||| 2 ^ j, j) := by simp only [bl, hjq]; rw [if_pos hnb2]
              have hbi : itE (blI kn t (q + 1)) = gs_ob 2 [.int (nI ((blI kn t q).1.1)), .int (nI ((blI kn t q).1.2.1)), .int (nI t.1.2.2), .int (nI ((blI kn t q).2.1.1)), .int (nI ((blI kn t q).2.1.2.1)), .int (nI ((blI kn t q).2.1.2.2)), .int (nI ((bl kn t q).1 ||| 2 ^ j)), .int (nI j), .int t.2.2.2.2] := by simp only [blI, hbl]
              exact ih j (q + 1) v_13 σ_9 (by omega) (cl_dec ev_13) (by rw [hbi]; simp only [*, gs_uu]) (by omega) hc_10 hc_11 (by rw [hbi]; exact hc_12) H locs hG hS ls (lv_sub hl [0, 2, 3] rfl)
  refine lv_aload_n hx hb d_RU_bindVariables_0 rfl (lv_at hl 1 rfl) ?_
  refine gs_get hx hb ht hown hK hG k_IT h0 2 (by decide) w_453 rfl d_RU_bindVariables_1 ?_
  refine lv_iconst (v := nI 1) hx hb d_RU_bindVariables_4 (by decide) ?_
  refine lv_isub hx hb d_RU_bindVariables_5 ?_
  refine lv_topi (fun v_1 ev_1 => ?_)
  refine lv_istore_n (lv' := [(2, .int v_1), (0, .ref a), (1, .ref b)]) hx hb d_RU_bindVariables_6 rfl hl (by decide) rfl (fun ls hl => ?_)
  exact loop1 (t.1.2.2 + 1) t.1.2.2 0 v_1 σ (by omega) (by rw [ev_1]; simp [show nI 1 = 1 from rfl]) (gs_usame h0).symm (by omega) r0 r3 h0 _ _ hG hS ls (lv_sub hl [0, 1, 2] rfl)
