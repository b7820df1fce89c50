/-- the contract of countFrom at depth d with k HOLDS to go -/
def CF (l : Launch) (X : gs_X) (h tu va a ac ai ab hd ho ck kf : Nat) (L : List Nat) (cs : Nat → Int32) (hh ks : List It) (fH fC : Nat → Option Nat) (k d : Nat) : Prop := ∀ (σ : gs_St) (vs : Nat → Int32) (v : Nat → Nat), vOK vs v → (σ h = some (gs_ob 3 [.ref tu, .ref va])) → (σ va = some (gs_ia X 8 vs)) → (σ tu = some (gs_ob 6 [.ref ac, .ref ai, .ref ab, .int (nI L.length)])) → (σ ac = some (gs_ia X 301 cs)) → (σ a = some (gs_ob 4 [.ref hd, .ref ho, .ref ck, .int (nI hh.length), .int (nI ks.length), .ref kf])) → (σ ho = some (gs_qa X 3 3 fH)) → (σ ck = some (gs_qa X 3 6 fC)) → (∀ i t, hh[i]? = some t → ∃ b, fH i = some b ∧ σ b = some (itE t)) → (∀ i t, ks[i]? = some t → ∃ b, fC i = some b ∧ σ b = some (itE t)) → gs_Mi l X y_MA_countFrom b_MA_countFrom 9 (some .int) ({ frames := 5 + k, cells := 0, slots := 0, locals := 200 + 40 * k }) σ [.ref h, .ref a, .int (nI d)] (fun r σ' => ∃ vs', σ' = gs_up σ va (gs_ia X 8 vs') ∧ vOK vs' (cnt L hh ks k d v).2 ∧ r = nI (cnt L hh ks k d v).1)
set_option maxHeartbeats 4000000 in
set_option maxRecDepth 100000 in
/-- Matcher.countFrom, over its own at the next depth -/
theorem c_MA_countFrom_step (l : Launch) (X : gs_X) (σ : gs_St) (h tu va a ac ai ab hd ho ck kf : Nat) (L : List Nat) (cs : Nat → Int32) (hh ks : List It) (fH fC : Nat → Option Nat) (k d : Nat) (vs : Nat → Int32) (v : Nat → Nat)
    (hs : L.Pairwise (· ≤ ·)) (hn : L.length ≤ 301) (hcs : ∀ j x, L[j]? = some x → cs j = nI x ∧ x < 2 ^ 30) (hhl : hh.length ≤ 3) (hkl : ks.length ≤ 6) (hhB : ∀ t ∈ hh, itB t) (hkB : ∀ t ∈ ks, itB t ∧ t.1.1 ≠ 0) (hk9 : d + k = hh.length) (ih9 : 1 ≤ k → CF l X h tu va a ac ai ab hd ho ck kf L cs hh ks fH fC (k - 1) (d + 1)) (hv : vOK vs v) (h0 : σ h = some (gs_ob 3 [.ref tu, .ref va])) (h1 : σ va = some (gs_ia X 8 vs)) (u0 : σ tu = some (gs_ob 6 [.ref ac, .ref ai, .ref ab, .int (nI L.length)])) (u1 : σ ac = some (gs_ia X 301 cs)) (r0 : σ a = some (gs_ob 4 [.ref hd, .ref ho, .ref ck, .int (nI hh.length), .int (nI ks.length), .ref kf])) (r1 : σ ho = some (gs_qa X 3 3 fH)) (r2 : σ ck = some (gs_qa X 3 6 fC)) (rh : ∀ i t, hh[i]? = some t → ∃ b, fH i = some b ∧ σ b = some (itE t)) (rk : ∀ i t, ks[i]? = some t → ∃ b, fC i = some b ∧ σ b = some (itE t)) : gs_Mi l X y_MA_countFrom b_MA_countFrom 9 (some .int) ({ frames := 5 + k, cells := 0, slots := 0, locals := 200 + 40 * k }) σ [.ref h, .ref a, .int (nI d)] (fun r σ' => ∃ vs', σ' = gs_up σ va (gs_ia X 8 vs') ∧ vOK vs' (cnt L hh ks k d v).2 ∧ r = nI (cnt L hh ks k d v).1) := by
  refine Met.ofW (cc := b_MA_countFrom) (maxL := 9) (ret := (some .int)) (by decide) rfl ?_
  intro p e s m args below meth c s₁ B₀ hml hv
  obtain ⟨rfl, hK, hG, hz, hE⟩ := hv
  have hx := B₀.exec
  have hb := B₀.bytes
  have hr := B₀.returns
  have hts := atoms_spec (ws := gs_ws y_MA_countFrom b_MA_countFrom 9 (some .int)) B₀.pre
  have ht : ∀ w ∈ gs_w, w.before _ s = true := fun w h => hts w (List.mem_cons_of_mem _ h)
  have hown : s.vm.findClass R_MA = some m.cls := findClass_of_methodNamed B₀.named
  have hlocks := B₀.notSynchronized
  have hA : ∀ q : Nat, s.heap.size ≤ q → gs_A X q := fun q h => Nat.le_trans hz h
  have hS : va_S (gs_A X) s.heap s.heap [] := va_S.rf
  have hl := lv_entry ([.ref h, .ref a, .int (nI d)]) (n := 9) (Nat.le_of_ble_eq_true rfl)
  rw [lg_entry_eq]
  generalize (lg_sl ([.ref h, .ref a, .int (nI d)]) ++ List.replicate (9 - (lg_sl ([.ref h, .ref a, .int (nI d)])).length) Slot.unset).toArray = ls at hl ⊢
  have hl : lv_has ls 9 [(0, .ref h), (1, .ref a), (2, .int (nI d))] := hl
  refine lv_aload_n hx hb d_MA_countFrom_0 rfl (lv_at hl 0 rfl) ?_
  refine lv_aload_n hx hb d_MA_countFrom_1 rfl (lv_at hl 1 rfl) ?_
  refine lv_iload_n hx hb d_MA_countFrom_2 rfl (lv_at hl 2 rfl) ?_
  refine gs_callVi (As := [.ref a, .int (nI d)]) (rest := []) ⟨hx, hb, hml, hown, hts⟩ hK hE hz hG hS (c_MA_checksHold l X σ h tu va a ac ai ab hd ho ck kf hh.length d L cs vs v ks fC h0 h1 hv hs hn hcs u0 u1 r0 r2 rk hkl hkB) mV_MA_checksHold w_635 h0 rfl rfl hl.1 rfl (Nat.le_of_ble_eq_true rfl) ⟨(by first | decide | omega | (dsimp only [headSpec]; omega)), (by first | decide | omega | (dsimp only [headSpec]; omega))⟩ ⟨(by first | decide | omega | (dsimp only [headSpec]; omega)), (by first | decide | omega | (dsimp only [headSpec]; omega))⟩ d_MA_countFrom_3 (fun r_3 σ_3 H locs hp_3 hG hS => ?_)
  rw [hp_3.1] at hG
  refine gs_top (show r_3 = (bI (chk v L ks d)) from hp_3.2) ?_
  refine lv_if_ne (tgt := 11) hx hb d_MA_countFrom_6 (by decide) (fun c_6 => ?_) (fun c_6 => ?_)
  · refine lv_iload_n hx hb d_MA_countFrom_11 rfl (lv_at hl 2 rfl) ?_
    refine lv_aload_n hx hb d_MA_countFrom_12 rfl (lv_at hl 1 rfl) ?_
    refine gs_get hx hb ht hown hK hG k_RU r0 3 (by decide) w_506 rfl d_MA_countFrom_13 ?_
    refine lv_icmp_lt (tgt := 21) hx hb d_MA_countFrom_16 (by decide) (fun c_16 => ?_) (fun c_16 => ?_)
    · have c_16 : d < hh.length := (nI_ltI (by omega) (by omega)).mp c_16
      refine lv_aload_n hx hb d_MA_countFrom_21 rfl (lv_at hl 1 rfl) ?_
      refine gs_get hx hb ht hown hK hG k_RU r0 1 (by decide) w_499 rfl d_MA_countFrom_22 ?_
      refine lv_iload_n hx hb d_MA_countFrom_25 rfl (lv_at hl 2 rfl) ?_
      obtain ⟨k, rfl⟩ : ∃ k2, k = k2 + 1 := ⟨k - 1, by omega⟩
      have ih8 : CF l X h tu va a ac ai ab hd ho ck kf L cs hh ks fH fC k (d + 1) := ih9 (by omega)
      obtain ⟨t, ht9⟩ := get_ex (L := hh) (j := d) (by omega)
      obtain ⟨b, hb1, hb2⟩ := rh d t ht9
      have htB := hhB t (List.mem_of_getElem? ht9)
      have hcf := cof_lt hv htB
      have hl3 : t.2.2.2.1 ≤ 3 := Nat.le_trans htB.2.2.2.2.2.1 htB.2.2.1
      have hpw := pw3 (d := t.2.2.2.1)
      have hchk := bI_n0 c_6
      have hmono := cb_mono (L := L) (Nat.le_add_right (cof v t) (64 ^ (3 - t.2.2.2.1)))
      have hcl1 := cb_le L (cof v t)
      have hcl2 := cb_le L (cof v t + 64 ^ (3 - t.2.2.2.1))
      refine gs_aald hx hb hK hG 3 r1 rfl (j := d) (by omega) (by omega) d_MA_countFrom_26 ?_
      refine gs_topr (show va_rf (fH d) = .ref b by rw [hb1]; rfl) ?_
      refine lv_astore_n (lv' := [(3, .ref b), (0, .ref h), (1, .ref a), (2, .int (nI d))]) hx hb d_MA_countFrom_27 rfl hl (by decide) rfl (fun ls hl => ?_)
      refine lv_aload_n hx hb d_MA_countFrom_28 rfl (lv_at hl 1 rfl) ?_
      refine lv_aload_n hx hb d_MA_countFrom_29 rfl (lv_at hl 0 rfl) ?_
      refine gs_callVi (As := [.ref b]) (rest := []) ⟨hx, hb, hml, hown, hts⟩ hK hE hz hG hS (c_MA_codeOf l X σ h tu va b vs v t h0 h1 hv hb2 htB) mV_MA_codeOf w_208 h0 rfl rfl hl.1 rfl (Nat.le_of_ble_eq_true rfl) ⟨(by first | decide | omega | (dsimp only [headSpec]; omega)), (by first | decide | omega | (dsimp only [headSpec]; omega))⟩ ⟨(by first | decide | omega | (dsimp only [headSpec]; omega)), (by first | decide | omega | (dsimp only [headSpec]; omega))⟩ d_MA_countFrom_30 (fun r_30 σ_30 H locs hp_30 hG hS => ?_)
      rw [hp_30.1] at hG
      refine gs_top (show r_30 = (nI (cof v t)) from hp_30.2) ?_
      refine lv_istore (lv' := [(4, .int (nI (cof v t))), (3, .ref b), (0, .ref h), (1, .ref a), (2, .int (nI d))]) hx hb d_MA_countFrom_33 hl (by decide) rfl (fun ls hl => ?_)
      refine lv_iload hx hb d_MA_countFrom_35 (lv_at hl 0 rfl) ?_
      refine lv_aload_n hx hb d_MA_countFrom_37 rfl (lv_at hl 1 rfl) ?_
      refine gs_callVi (As := []) (rest := [.int (nI (cof v t))]) ⟨hx, hb, hml, hown, hts⟩ hK hE hz hG hS (c_IT_span l X σ b t hb2 hl3) mV_IT_span w_636 hb2 rfl rfl hl.1 rfl (Nat.le_of_ble_eq_true rfl) ⟨(by first | decide | omega | (dsimp only [headSpec]; omega)), (by first | decide | omega | (dsimp only [headSpec]; omega))⟩ ⟨(by first | decide | omega | (dsimp only [headSpec]; omega)), (by first | decide | omega | (dsimp only [headSpec]; omega))⟩ d_MA_countFrom_38 (fun r_38 σ_38 H locs hp_38 hG hS => ?_)
      rw [hp_38.1] at hG
      refine gs_top (show r_38 = (nI (64 ^ (3 - t.2.2.2.1))) from hp_38.2) ?_
      refine lv_iadd hx hb d_MA_countFrom_41 ?_
      refine gs_top (nI_add (cof v t) (64 ^ (3 - t.2.2.2.1))) ?_
      refine lv_istore (lv' := [(5, .int (nI ((cof v t) + (64 ^ (3 - t.2.2.2.1))))), (4, .int (nI (cof v t))), (3, .ref b), (0, .ref h), (1, .ref a), (2, .int (nI d))]) hx hb d_MA_countFrom_42 hl (by decide) rfl (fun ls hl => ?_)
      refine lv_aload_n hx hb d_MA_countFrom_44 rfl (lv_at hl 3 rfl) ?_
      refine gs_get hx hb ht hown hK hG k_MA h0 0 (by decide) w_96 rfl d_MA_countFrom_45 ?_
      refine lv_iload hx hb d_MA_countFrom_48 (lv_at hl 1 rfl) ?_
      refine gs_callVi (As := [.int (nI (cof v t))]) (rest := []) ⟨hx, hb, hml, hown, hts⟩ hK hE hz hG hS (c_TU_placeOf l X σ tu ac ai ab L cs (cof v t) hs hn hcs (by omega) u0 u1) mV_TU_placeOf w_637 u0 rfl rfl hl.1 rfl (Nat.le_of_ble_eq_true rfl) ⟨(by first | decide | omega | (dsimp only [headSpec]; omega)), (by first | decide | omega | (dsimp only [headSpec]; omega))⟩ ⟨(by first | decide | omega | (dsimp only [headSpec]; omega)), (by first | decide | omega | (dsimp only [headSpec]; omega))⟩ d_MA_countFrom_50 (fun r_50 σ_50 H locs hp_50 hG hS => ?_)
      rw [hp_50.1] at hG
      refine gs_top (show r_50 = (nI (cb L (cof v t))) from hp_50.2) ?_
      refine lv_istore (lv' := [(6, .int (nI (cb L (cof v t)))), (5, .int (nI ((cof v t) + (64 ^ (3 - t.2.2.2.1))))), (4, .int (nI (cof v t))), (3, .ref b), (0, .ref h), (1, .ref a), (2, .int (nI d))]) hx hb d_MA_countFrom_53 hl (by decide) rfl (fun ls hl => ?_)
      refine lv_aload_n hx hb d_MA_countFrom_55 rfl (lv_at hl 5 rfl) ?_
      refine lv_iload_n hx hb d_MA_countFrom_56 rfl (lv_at hl 6 rfl) ?_
      refine gs_callSi (As := [.ref a, .int (nI d)]) (rest := []) ⟨hx, hb, hml, hown, hts⟩ hK hE hz hG hS (c_MA_isOpenEnd l X σ a hd ho ck kf hh.length d b ks fH fC t r0 r1 r2 rk hkl hhl (by omega) hb1 hb2 htB) mS_MA_isOpenEnd w_638 rfl hl.1 rfl (Nat.le_of_ble_eq_true rfl) ⟨(by first | decide | omega | (dsimp only [headSpec]; omega)), (by first | decide | omega | (dsimp only [headSpec]; omega))⟩ ⟨(by first | decide | omega | (dsimp only [headSpec]; omega)), (by first | decide | omega | (dsimp only [headSpec]; omega))⟩ d_MA_countFrom_57 (fun r_57 σ_57 H locs hp_57 hG hS => ?_)
      rw [hp_57.1] at hG
      refine gs_top (show r_57 = (bI (oend hh.length ks t d)) from hp_57.2) ?_
      refine lv_if_eq (tgt := 76) hx hb d_MA_countFrom_60 (by decide) (fun c_60 => ?_) (fun c_60 => ?_)
      · refine lv_iconst (v := nI 0) hx hb d_MA_countFrom_76 (by decide) ?_
        refine lv_istore (lv' := [(7, .int (nI 0)), (6, .int (nI (cb L (cof v t)))), (5, .int (nI ((cof v t) + (64 ^ (3 - t.2.2.2.1))))), (4, .int (nI (cof v t))), (3, .ref b), (0, .ref h), (1, .ref a), (2, .int (nI d))]) hx hb d_MA_countFrom_77 hl (by decide) rfl (fun ls hl => ?_)
        refine lv_iload hx hb d_MA_countFrom_79 (lv_at hl 1 rfl) ?_
        refine lv_istore (lv' := [(8, .int (nI (cb L (cof v t)))), (7, .int (nI 0)), (6, .int (nI (cb L (cof v t)))), (5, .int (nI ((cof v t) + (64 ^ (3 - t.2.2.2.1))))), (4, .int (nI (cof v t))), (3, .ref b), (0, .ref h), (1, .ref a), (2, .int (nI d))]) hx hb d_MA_countFrom_81 hl (by decide) rfl (fun ls hl => ?_)
        have hcnt := cnt_loop (k := k) (v := v) hchk ht9 (bI_0 c_60)
        have loop : ∀ (n i f : Nat) (vs1 : Nat → Int32) (v1 : Nat → Nat) (σ1 : gs_St), i ≤ L.length → cb L (cof v t) ≤ i → vOK vs1 v1 → cnt L hh ks (k + 1) d v = cntL t (cnt L hh ks k (d + 1)) (rngA L (cof v t + 64 ^ (3 - t.2.2.2.1)) i) f v1 → σ1 = gs_up σ va (gs_ia X 8 vs1) → L.length - i < n → (σ1 h = some (gs_ob 3 [.ref tu, .ref va])) → (σ1 va = some (gs_ia X 8 vs1)) → (σ1 tu = some (gs_ob 6 [.ref ac, .ref ai, .ref ab, .int (nI L.length)])) → (σ1 ac = some (gs_ia X 301 cs)) → (σ1 a = some (gs_ob 4 [.ref hd, .ref ho, .ref ck, .int (nI hh.length), .int (nI ks.length), .ref kf])) → (σ1 ho = some (gs_qa X 3 3 fH)) → (σ1 ck = some (gs_qa X 3 6 fC)) → (σ1 b = some (itE t)) → ∀ (H : Heap) (locs : List Loc), gs_H X σ1 H → va_S (gs_A X) s.heap H locs → ∀ ls, lv_has ls 9 [(8, .int (nI i)), (7, .int (nI f)), (5, .int (nI (cof v t + 64 ^ (3 - t.2.2.2.1)))), (3, .ref b), (0, .ref h), (1, .ref a), (2, .int (nI d))] → W p l e ({ frames := 5 + (k + 1), cells := 0, slots := 0, locals := 200 + 40 * (k + 1) } : Room) s m ([.ref h, .ref a, .int (nI d)] : List Value).toArray below meth c H locs 0 0 (MQ below (va_Qi (fun r σ' => ∃ vs', σ' = gs_up σ va (gs_ia X 8 vs') ∧ vOK vs' (cnt L hh ks (k + 1) d v).2 ∧ r = nI (cnt L hh ks (k + 1) d v).1) (gs_U X) (gs_A X)) ([.ref h, .ref a, .int (nI d)] : List Value).toArray s 0 0 (gs_A X)) (F0 m 83 ls []) := by
          intro n
          induction n with
          | zero => intro i f vs1 v1 σ1 _ _ _ _ _ h9; omega
          | succ n ih =>
            intro i f vs1 v1 σ1 hi hi2 hv1 hcn eσ1 hmu a0 a1 a2 a3 a4 a5 a6 a7 H locs hG hS ls hl
            refine lv_iload hx hb d_MA_countFrom_83 (lv_at hl 0 rfl) ?_
            refine lv_aload_n hx hb d_MA_countFrom_85 rfl (lv_at hl 4 rfl) ?_
            refine gs_get hx hb ht hown hK hG k_MA a0 0 (by decide) w_96 rfl d_MA_countFrom_86 ?_
            refine gs_get hx hb ht hown hK hG k_TU a2 3 (by decide) w_79 rfl d_MA_countFrom_89 ?_
            refine lv_icmp_ge (tgt := 147) hx hb d_MA_countFrom_92 (by decide) (fun c_92 => ?_) (fun c_92 => ?_)
            · have c_92 : L.length ≤ i := (nI_leI (by omega) (by omega)).mp c_92
              refine lv_iload hx hb d_MA_countFrom_147 (lv_at hl 1 rfl) ?_
              have hge : cb L (cof v t + 64 ^ (3 - t.2.2.2.1)) ≤ i := by
                first
                | (have := hcl2; omega)
                | (have := mt hx3.mpr (by omega); omega)
              rw [rngA_end hge] at hcn
              simp only [cntL] at hcn
              exact gs_iret (v := (nI f)) hx hb hr rfl hK hE hz hG hS hlocks (by first | decide | omega | (dsimp only [headSpec]; omega)) (by first | decide | omega | (dsimp only [headSpec]; omega)) (⟨vs1, eσ1, (by rw [hcn]; exact hv1), (by rw [hcn])⟩) d_MA_countFrom_149
            · have c_92 : ¬ L.length ≤ i := mt (nI_leI (by omega) (by omega)).mpr c_92
              refine lv_aload_n hx hb d_MA_countFrom_95 rfl (lv_at hl 4 rfl) ?_
              refine gs_get hx hb ht hown hK hG k_MA a0 0 (by decide) w_96 rfl d_MA_countFrom_96 ?_
              refine gs_get hx hb ht hown hK hG k_TU a2 0 (by decide) w_70 rfl d_MA_countFrom_99 ?_
              refine lv_iload hx hb d_MA_countFrom_102 (lv_at hl 0 rfl) ?_
              obtain ⟨x, hx9⟩ := get_ex (L := L) (j := i) (by omega)
              obtain ⟨hx1, hx2⟩ := hcs _ _ hx9
              have hx3 := cb_iff L hs (cof v t + 64 ^ (3 - t.2.2.2.1)) _ _ hx9
              refine gs_iald hx hb hK hG a3 (j := i) (by omega) (by omega) d_MA_countFrom_104 ?_
              refine gs_top (show (cs i) = (nI x) from hx1) ?_
              refine lv_iload hx hb d_MA_countFrom_105 (lv_at hl 2 rfl) ?_
              refine lv_icmp_ge (tgt := 147) hx hb d_MA_countFrom_107 (by decide) (fun c_107 => ?_) (fun c_107 => ?_)
              · have c_107 : (cof v t + 64 ^ (3 - t.2.2.2.1)) ≤ x := (nI_leI (by omega) (by omega)).mp c_107
                refine lv_iload hx hb d_MA_countFrom_147 (lv_at hl 1 rfl) ?_
                have hge : cb L (cof v t + 64 ^ (3 - t.2.2.2.1)) ≤ i := by
                  first
                  | (have := hcl2; omega)
                  | (have := mt hx3.mpr (by omega); omega)
                rw [rngA_end hge] at hcn
                simp only [cntL] at hcn
                exact gs_iret (v := (nI f)) hx hb hr rfl hK hE hz hG hS hlocks (by first | decide | omega | (dsimp only [headSpec]; omega)) (by first | decide | omega | (dsimp only [headSpec]; omega)) (⟨vs1, eσ1, (by rw [hcn]; exact hv1), (by rw [hcn])⟩) d_MA_countFrom_149
              · have c_107 : ¬ (cof v t + 64 ^ (3 - t.2.2.2.1)) ≤ x := mt (nI_leI (by omega) (by omega)).mpr c_107
                have hlt : i < cb L (cof v t + 64 ^ (3 - t.2.2.2.1)) := hx3.mp (by omega)
                refine lv_aload_n hx hb d_MA_countFrom_110 rfl (lv_at hl 4 rfl) ?_
                refine lv_aload_n hx hb d_MA_countFrom_111 rfl (lv_at hl 3 rfl) ?_
                refine lv_aload_n hx hb d_MA_countFrom_112 rfl (lv_at hl 4 rfl) ?_
                refine gs_get hx hb ht hown hK hG k_MA a0 0 (by decide) w_96 rfl d_MA_countFrom_113 ?_
                refine gs_get hx hb ht hown hK hG k_TU a2 0 (by decide) w_70 rfl d_MA_countFrom_116 ?_
                refine lv_iload hx hb d_MA_countFrom_119 (lv_at hl 0 rfl) ?_
                refine gs_iald hx hb hK hG a3 (j := i) (by omega) (by omega) d_MA_countFrom_121 ?_
                refine gs_top (show (cs i) = (nI x) from hx1) ?_
                refine gs_callVi (As := [.ref b, .int (nI x)]) (rest := []) ⟨hx, hb, hml, hown, hts⟩ hK hE hz hG hS (c_MA_fits l X σ1 h tu va b vs1 v1 t x a0 a1 hv1 a7 htB hx2) mV_MA_fits w_646 a0 rfl rfl hl.1 rfl (Nat.le_of_ble_eq_true rfl) ⟨(by first | decide | omega | (dsimp only [headSpec]; omega)), (by first | decide | omega | (dsimp only [headSpec]; omega))⟩ ⟨(by first | decide | omega | (dsimp only [headSpec]; omega)), (by first | decide | omega | (dsimp only [headSpec]; omega))⟩ d_MA_countFrom_122 (fun r_122 σ_122 H locs hp_122 hG hS => ?_)
                obtain ⟨vs2, ev2, hv2, er2⟩ := hp_122
                rw [ev2] at hG
                refine gs_top er2 ?_
                have hG : gs_H X (gs_up σ1 va (gs_ia X 8 vs2)) H := hG
                obtain ⟨σ_1, eσ_1⟩ : ∃ zq, zq = gs_up σ1 va (gs_ia X 8 vs2) := ⟨_, rfl⟩
                rw [← eσ_1] at hG
                have hc_2 : σ_1 h = some (gs_ob 3 [.ref tu, .ref va]) := by rw [eσ_1]; exact gs_ku (gs_ne a0 a1 (by simp)) a0
                have hc_3 : σ_1 tu = some (gs_ob 6 [.ref ac, .ref ai, .ref ab, .int (nI L.length)]) := by rw [eσ_1]; exact gs_ku (gs_ne a2 a1 (by simp)) a2
                have hc_4 : σ_1 ac = some (gs_ia X 301 cs) := by rw [eσ_1]; exact gs_ku (gs_ne a3 a1 (by simp)) a3
                have hc_5 : σ_1 a = some (gs_ob 4 [.ref hd, .ref ho, .ref ck, .int (nI hh.length), .int (nI ks.length), .ref kf]) := by rw [eσ_1]; exact gs_ku (gs_ne a4 a1 (by simp)) a4
                have hc_6 : σ_1 ho = some (gs_qa X 3 3 fH) := by rw [eσ_1]; exact gs_ku (gs_ne a5 a1 (by simp)) a5
                have hc_7 : σ_1 ck = some (gs_qa X 3 6 fC) := by rw [eσ_1]; exact gs_ku (gs_ne a6 a1 (by simp)) a6
                have hc_8 : σ_1 b = some (gs_ob 2 [.int (nI t.1.1), .int (nI t.1.2.1), .int (nI t.1.2.2), .int (nI t.2.1.1), .int (nI t.2.1.2.1), .int (nI t.2.1.2.2), .int (nI t.2.2.1), .int (nI t.2.2.2.1), .int t.2.2.2.2]) := by rw [eσ_1]; exact gs_ku (gs_ne a7 a1 (by simp)) a7
                have hc_9 : σ_1 va = some (gs_ia X 8 vs2) := by rw [eσ_1]; exact gs_us
                refine lv_if_eq (tgt := 141) hx hb d_MA_countFrom_125 (by decide) (fun c_125 => ?_) (fun c_125 => ?_)
                · refine lv_iinc (v := (nI (i + 1))) (lv' := [(8, .int (nI (i + 1))), (7, .int (nI f)), (5, .int (nI (cof v t + 64 ^ (3 - t.2.2.2.1)))), (3, .ref b), (0, .ref h), (1, .ref a), (2, .int (nI d))]) hx hb d_MA_countFrom_141 hl (k := 0) rfl (by exact nI_1 _) (by decide) rfl (fun ls hl => ?_)
                  refine lv_goto (tgt := 83) hx hb d_MA_countFrom_144 (by decide) ?_
                  have hb9 := bI_0 c_125
                  exact ih (i + 1) f _ _ σ_1 (by omega) (by omega) hv2 (hcn.trans (by rw [rngA_cons hlt hx9]; simp only [cntL]; rw [if_neg (by rw [hb9]; decide)])) (by simp only [*, gs_uu]) (by omega) hc_2 hc_9 hc_3 hc_4 hc_5 hc_6 hc_7 hc_8 H locs hG hS ls (lv_sub hl [0, 1, 2, 3, 4, 5, 6] rfl)
                · refine lv_iload hx hb d_MA_countFrom_128 (lv_at hl 1 rfl) ?_
                  refine lv_aload_n hx hb d_MA_countFrom_130 rfl (lv_at hl 4 rfl) ?_
                  refine lv_aload_n hx hb d_MA_countFrom_131 rfl (lv_at hl 5 rfl) ?_
                  refine lv_iload_n hx hb d_MA_countFrom_132 rfl (lv_at hl 6 rfl) ?_
                  refine lv_iconst (v := nI 1) hx hb d_MA_countFrom_133 (by decide) ?_
                  refine lv_iadd hx hb d_MA_countFrom_134 ?_
                  refine gs_top (nI_add d 1) ?_
                  have eq2 : σ_1 = gs_up σ va (gs_ia X 8 vs2) := by simp only [*, gs_uu]
                  have rh2 : ∀ i t, hh[i]? = some t → ∃ b, fH i = some b ∧ σ_1 b = some (itE t) := fun i t z => by obtain ⟨b, q1, q2⟩ := rh i t z; exact ⟨b, q1, by rw [eq2]; exact gs_ku (gs_ne q2 h1 (by simp)) q2⟩
                  have rk2 : ∀ i t, ks[i]? = some t → ∃ b, fC i = some b ∧ σ_1 b = some (itE t) := fun i t z => by obtain ⟨b, q1, q2⟩ := rk i t z; exact ⟨b, q1, by rw [eq2]; exact gs_ku (gs_ne q2 h1 (by simp)) q2⟩
                  refine gs_callVi (As := [.ref a, .int (nI (d + 1))]) (rest := [.int (nI f)]) ⟨hx, hb, hml, hown, hts⟩ hK hE hz hG hS (ih8 σ_1 vs2 (fit1 t x v1).2 hv2 hc_2 hc_9 hc_3 hc_4 hc_5 hc_6 hc_7 rh2 rk2) mV_MA_countFrom w_631 hc_2 rfl rfl hl.1 rfl (Nat.le_of_ble_eq_true rfl) ⟨(by first | decide | omega | (dsimp only [headSpec]; omega)), (by first | decide | omega | (dsimp only [headSpec]; omega))⟩ ⟨(by first | decide | omega | (dsimp only [headSpec]; omega)), (by first | decide | omega | (dsimp only [headSpec]; omega))⟩ d_MA_countFrom_135 (fun r_135 σ_135 H locs hp_135 hG hS => ?_)
                  obtain ⟨vs3, ev3, hv3, er3⟩ := hp_135
                  rw [ev3] at hG
                  refine gs_top er3 ?_
                  have hG : gs_H X (gs_up σ_1 va (gs_ia X 8 vs3)) H := hG
                  obtain ⟨σ_10, eσ_10⟩ : ∃ zq, zq = gs_up σ_1 va (gs_ia X 8 vs3) := ⟨_, rfl⟩
                  rw [← eσ_10] at hG
                  have hc_11 : σ_10 h = some (gs_ob 3 [.ref tu, .ref va]) := by rw [eσ_10]; exact gs_ku (gs_ne hc_2 hc_9 (by simp)) hc_2
                  have hc_12 : σ_10 tu = some (gs_ob 6 [.ref ac, .ref ai, .ref ab, .int (nI L.length)]) := by rw [eσ_10]; exact gs_ku (gs_ne hc_3 hc_9 (by simp)) hc_3
                  have hc_13 : σ_10 ac = some (gs_ia X 301 cs) := by rw [eσ_10]; exact gs_ku (gs_ne hc_4 hc_9 (by simp)) hc_4
                  have hc_14 : σ_10 a = some (gs_ob 4 [.ref hd, .ref ho, .ref ck, .int (nI hh.length), .int (nI ks.length), .ref kf]) := by rw [eσ_10]; exact gs_ku (gs_ne hc_5 hc_9 (by simp)) hc_5
                  have hc_15 : σ_10 ho = some (gs_qa X 3 3 fH) := by rw [eσ_10]; exact gs_ku (gs_ne hc_6 hc_9 (by simp)) hc_6
                  have hc_16 : σ_10 ck = some (gs_qa X 3 6 fC) := by rw [eσ_10]; exact gs_ku (gs_ne hc_7 hc_9 (by simp)) hc_7
                  have hc_17 : σ_10 b = some (gs_ob 2 [.int (nI t.1.1), .int (nI t.1.2.1), .int (nI t.1.2.2), .int (nI t.2.1.1), .int (nI t.2.1.2.1), .int (nI t.2.1.2.2), .int (nI t.2.2.1), .int (nI t.2.2.2.1), .int t.2.2.2.2]) := by rw [eσ_10]; exact gs_ku (gs_ne hc_8 hc_9 (by simp)) hc_8
                  have hc_18 : σ_10 va = some (gs_ia X 8 vs3) := by rw [eσ_10]; exact gs_us
                  refine lv_iadd hx hb d_MA_countFrom_138 ?_
                  refine gs_top (nI_add f ((cnt L hh ks k (d + 1) (fit1 t x v1).2).1)) ?_
                  refine lv_istore (lv' := [(7, .int (nI (f + ((cnt L hh ks k (d + 1) (fit1 t x v1).2).1)))), (8, .int (nI i)), (5, .int (nI (cof v t + 64 ^ (3 - t.2.2.2.1)))), (3, .ref b), (0, .ref h), (1, .ref a), (2, .int (nI d))]) hx hb d_MA_countFrom_139 hl (by decide) rfl (fun ls hl => ?_)
                  refine lv_iinc (v := (nI (i + 1))) (lv' := [(8, .int (nI (i + 1))), (7, .int (nI (f + ((cnt L hh ks k (d + 1) (fit1 t x v1).2).1)))), (5, .int (nI (cof v t + 64 ^ (3 - t.2.2.2.1)))), (3, .ref b), (0, .ref h), (1, .ref a), (2, .int (nI d))]) hx hb d_MA_countFrom_141 hl (k := 1) rfl (by exact nI_1 _) (by decide) rfl (fun ls hl => ?_)
                  refine lv_goto (tgt := 83) hx hb d_MA_countFrom_144 (by decide) ?_
                  have hb9 := bI_n0 c_125
                  exact ih (i + 1) _ _ _ σ_10 (by omega) (by omega) hv3 (hcn.trans (by rw [rngA_cons hlt hx9]; simp only [cntL]; rw [if_pos hb9])) (by simp only [*, gs_uu]) (by omega) hc_11 hc_18 hc_12 hc_13 hc_14 hc_15 hc_16 hc_17 H locs hG hS ls (lv_sub hl [0, 1, 2, 3, 4, 5, 6] rfl)
        exact loop (L.length + 1) (cb L (cof v t)) 0 vs v σ (by omega) (Nat.le_refl _) hv hcnt (gs_usame h1).symm (by omega) h0 h1 u0 u1 r0 r1 r2 hb2 H locs hG hS ls (lv_sub hl [0, 1, 3, 5, 6, 7, 8] rfl)
      · refine lv_aload_n hx hb d_MA_countFrom_63 rfl (lv_at hl 4 rfl) ?_
        refine gs_get hx hb ht hown hK hG k_MA h0 0 (by decide) w_96 rfl d_MA_countFrom_64 ?_
        refine lv_iload hx hb d_MA_countFrom_67 (lv_at hl 1 rfl) ?_
        refine gs_callVi (As := [.int (nI ((cof v t) + (64 ^ (3 - t.2.2.2.1))))]) (rest := []) ⟨hx, hb, hml, hown, hts⟩ hK hE hz hG hS (c_TU_placeOf l X σ tu ac ai ab L cs ((cof v t) + (64 ^ (3 - t.2.2.2.1))) hs hn hcs (by omega) u0 u1) mV_TU_placeOf w_637 u0 rfl rfl hl.1 rfl (Nat.le_of_ble_eq_true rfl) ⟨(by first | decide | omega | (dsimp only [headSpec]; omega)), (by first | decide | omega | (dsimp only [headSpec]; omega))⟩ ⟨(by first | decide | omega | (dsimp only [headSpec]; omega)), (by first | decide | omega | (dsimp only [headSpec]; omega))⟩ d_MA_countFrom_69 (fun r_69 σ_69 H locs hp_69 hG hS => ?_)
        rw [hp_69.1] at hG
        refine gs_top (show r_69 = (nI (cb L ((cof v t) + (64 ^ (3 - t.2.2.2.1))))) from hp_69.2) ?_
        refine lv_iload hx hb d_MA_countFrom_72 (lv_at hl 0 rfl) ?_
        refine lv_isub hx hb d_MA_countFrom_74 ?_
        refine gs_top (pk_sub (a := (cb L ((cof v t) + (64 ^ (3 - t.2.2.2.1))))) (b := (cb L (cof v t))) (by omega)) ?_
        have hc0 := cnt_open (k := k) (v := v) hchk ht9 (bI_n0 c_60)
        exact gs_iret (v := (nI ((cb L ((cof v t) + (64 ^ (3 - t.2.2.2.1)))) - (cb L (cof v t))))) hx hb hr rfl hK hE hz hG hS hlocks (by first | decide | omega | (dsimp only [headSpec]; omega)) (by first | decide | omega | (dsimp only [headSpec]; omega)) (⟨vs, (gs_usame h1).symm, (by rw [hc0]; exact hv), (by rw [hc0])⟩) d_MA_countFrom_75
    · have c_16 : ¬ d < hh.length := mt (nI_ltI (by omega) (by omega)).mpr c_16
      refine lv_iconst (v := nI 1) hx hb d_MA_countFrom_19 (by decide) ?_
      have hk0 : k = 0 := by omega
      subst hk0
      have hc0 := cnt_0 (hh := hh) (bI_n0 c_6)
      exact gs_iret (v := (nI 1)) hx hb hr rfl hK hE hz hG hS hlocks (by first | decide | omega | (dsimp only [headSpec]; omega)) (by first | decide | omega | (dsimp only [headSpec]; omega)) (⟨vs, (gs_usame h1).symm, (by rw [hc0]; exact hv), (by rw [hc0])⟩) d_MA_countFrom_20
  · refine lv_iconst (v := nI 0) hx hb d_MA_countFrom_9 (by decide) ?_
    have hc0 := cnt_no (hh := hh) (k := k) (bI_0 c_6)
    exact gs_iret (v := (nI 0)) hx hb hr rfl hK hE hz hG hS hlocks (by first | decide | omega | (dsimp only [headSpec]; omega)) (by first | decide | omega | (dsimp only [headSpec]; omega)) (⟨vs, (gs_usame h1).symm, (by rw [hc0]; exact hv), (by rw [hc0])⟩) d_MA_countFrom_10
theorem c_MA_countFrom (l : Launch) (X : gs_X) (h tu va a ac ai ab hd ho ck kf : Nat) (L : List Nat) (cs : Nat → Int32) (hh ks : List It) (fH fC : Nat → Option Nat) (hs : L.Pairwise (· ≤ ·)) (hn : L.length ≤ 301) (hcs : ∀ j x, L[j]? = some x → cs j = nI x ∧ x < 2 ^ 30) (hhl : hh.length ≤ 3) (hkl : ks.length ≤ 6) (hhB : ∀ t ∈ hh, itB t) (hkB : ∀ t ∈ ks, itB t ∧ t.1.1 ≠ 0) : ∀ (k d : Nat), d + k = hh.length → CF l X h tu va a ac ai ab hd ho ck kf L cs hh ks fH fC k d := by
  intro k
  induction k with
  | zero => intro d hd9 σ vs v hv h0 h1 u0 u1 r0 r1 r2 rh rk; exact c_MA_countFrom_step l X σ h tu va a ac ai ab hd ho ck kf L cs hh ks fH fC 0 d vs v hs hn hcs hhl hkl hhB hkB hd9 (fun z => absurd z (by decide)) hv h0 h1 u0 u1 r0 r1 r2 rh rk
  | succ k ih => intro d hd9 σ vs v hv h0 h1 u0 u1 r0 r1 r2 rh rk; exact c_MA_countFrom_step l X σ h tu va a ac ai ab hd ho ck kf L cs hh ks fH fC (k + 1) d vs v hs hn hcs hhl hkl hhB hkB hd9 (fun _ => ih (d + 1) (by omega)) hv h0 h1 u0 u1 r0 r1 r2 rh rk
set_option maxHeartbeats 4000000 in
set_option maxRecDepth 100000 in
/-- Matcher.countMatches -/
theorem c_MA_countMatches (l : Launch) (X : gs_X) (σ : gs_St) (h tu va a ac ai ab hd ho ck kf : Nat) (L : List Nat) (cs : Nat → Int32) (hh ks : List It) (fH fC : Nat → Option Nat) (vs : Nat → Int32) (v : Nat → Nat)
    (hs : L.Pairwise (· ≤ ·)) (hn : L.length ≤ 301) (hcs : ∀ j x, L[j]? = some x → cs j = nI x ∧ x < 2 ^ 30) (hhl : hh.length ≤ 3) (hkl : ks.length ≤ 6) (hhB : ∀ t ∈ hh, itB t) (hkB : ∀ t ∈ ks, itB t ∧ t.1.1 ≠ 0) (hv : vOK vs v) (h0 : σ h = some (gs_ob 3 [.ref tu, .ref va])) (h1 : σ va = some (gs_ia X 8 vs)) (u0 : σ tu = some (gs_ob 6 [.ref ac, .ref ai, .ref ab, .int (nI L.length)])) (u1 : σ ac = some (gs_ia X 301 cs)) (r0 : σ a = some (gs_ob 4 [.ref hd, .ref ho, .ref ck, .int (nI hh.length), .int (nI ks.length), .ref kf])) (r1 : σ ho = some (gs_qa X 3 3 fH)) (r2 : σ ck = some (gs_qa X 3 6 fC)) (rh : ∀ i t, hh[i]? = some t → ∃ b, fH i = some b ∧ σ b = some (itE t)) (rk : ∀ i t, ks[i]? = some t → ∃ b, fC i = some b ∧ σ b = some (itE t)) : gs_Mi l X y_MA_countMatches b_MA_countMatches 2 (some .int) ({ frames := 9, cells := 0, slots := 0, locals := 400 }) σ [.ref h, .ref a] (fun r σ' => ∃ vs', σ' = gs_up σ va (gs_ia X 8 vs') ∧ vOK vs' (cnt L hh ks hh.length 0 v).2 ∧ r = nI (cnt L hh ks hh.length 0 v).1) := by
  refine Met.ofW (cc := b_MA_countMatches) (maxL := 2) (ret := (some .int)) (by decide) rfl ?_
  intro p e s m args below meth c s₁ B₀ hml hv
  obtain ⟨rfl, hK, hG, hz, hE⟩ := hv
  have hx := B₀.exec
  have hb := B₀.bytes
  have hr := B₀.returns
  have hts := atoms_spec (ws := gs_ws y_MA_countMatches b_MA_countMatches 2 (some .int)) B₀.pre
  have ht : ∀ w ∈ gs_w, w.before _ s = true := fun w h => hts w (List.mem_cons_of_mem _ h)
  have hown : s.vm.findClass R_MA = some m.cls := findClass_of_methodNamed B₀.named
  have hlocks := B₀.notSynchronized
  have hA : ∀ q : Nat, s.heap.size ≤ q → gs_A X q := fun q h => Nat.le_trans hz h
  have hS : va_S (gs_A X) s.heap s.heap [] := va_S.rf
  have hl := lv_entry ([.ref h, .ref a]) (n := 2) (Nat.le_of_ble_eq_true rfl)
  rw [lg_entry_eq]
  generalize (lg_sl ([.ref h, .ref a]) ++ List.replicate (2 - (lg_sl ([.ref h, .ref a])).length) Slot.unset).toArray = ls at hl ⊢
  have hl : lv_has ls 2 [(0, .ref h), (1, .ref a)] := hl
  refine lv_aload_n hx hb d_MA_countMatches_0 rfl (lv_at hl 0 rfl) ?_
  refine lv_aload_n hx hb d_MA_countMatches_1 rfl (lv_at hl 1 rfl) ?_
  refine lv_iconst (v := nI 0) hx hb d_MA_countMatches_2 (by decide) ?_
  refine gs_callVi (As := [.ref a, .int (nI 0)]) (rest := []) ⟨hx, hb, hml, hown, hts⟩ hK hE hz hG hS (c_MA_countFrom l X h tu va a ac ai ab hd ho ck kf L cs hh ks fH fC hs hn hcs hhl hkl hhB hkB hh.length 0 (by omega) σ vs v hv h0 h1 u0 u1 r0 r1 r2 rh rk) mV_MA_countFrom w_631 h0 rfl rfl hl.1 rfl (Nat.le_of_ble_eq_true rfl) ⟨(by first | decide | omega | (dsimp only [headSpec]; omega)), (by first | decide | omega | (dsimp only [headSpec]; omega))⟩ ⟨(by first | decide | omega | (dsimp only [headSpec]; omega)), (by first | decide | omega | (dsimp only [headSpec]; omega))⟩ d_MA_countMatches_3 (fun r_3 σ_3 H locs hp_3 hG hS => ?_)
  obtain ⟨vs3, ev3, hv3, er3⟩ := hp_3
  rw [ev3] at hG
  refine gs_top er3 ?_
  have hG : gs_H X (gs_up σ va (gs_ia X 8 vs3)) H := hG
  obtain ⟨σ_1, eσ_1⟩ : ∃ zq, zq = gs_up σ va (gs_ia X 8 vs3) := ⟨_, rfl⟩
  rw [← eσ_1] at hG
  have hc_2 : σ_1 h = some (gs_ob 3 [.ref tu, .ref va]) := by rw [eσ_1]; exact gs_ku (gs_ne h0 h1 (by simp)) h0
  have hc_3 : σ_1 tu = some (gs_ob 6 [.ref ac, .ref ai, .ref ab, .int (nI L.length)]) := by rw [eσ_1]; exact gs_ku (gs_ne u0 h1 (by simp)) u0
  have hc_4 : σ_1 ac = some (gs_ia X 301 cs) := by rw [eσ_1]; exact gs_ku (gs_ne u1 h1 (by simp)) u1
  have hc_5 : σ_1 a = some (gs_ob 4 [.ref hd, .ref ho, .ref ck, .int (nI hh.length), .int (nI ks.length), .ref kf]) := by rw [eσ_1]; exact gs_ku (gs_ne r0 h1 (by simp)) r0
  have hc_6 : σ_1 ho = some (gs_qa X 3 3 fH) := by rw [eσ_1]; exact gs_ku (gs_ne r1 h1 (by simp)) r1
  have hc_7 : σ_1 ck = some (gs_qa X 3 6 fC) := by rw [eσ_1]; exact gs_ku (gs_ne r2 h1 (by simp)) r2
  have hc_8 : σ_1 va = some (gs_ia X 8 vs3) := by rw [eσ_1]; exact gs_us
  exact gs_iret (v := (nI ((cnt L hh ks hh.length 0 v).1))) hx hb hr rfl hK hE hz hG hS hlocks (by first | decide | omega | (dsimp only [headSpec]; omega)) (by first | decide | omega | (dsimp only [headSpec]; omega)) (⟨vs3, (by simp only [*, gs_uu]), hv3, rfl⟩) d_MA_countMatches_6
