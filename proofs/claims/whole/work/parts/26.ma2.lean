set_option maxHeartbeats 4000000 in
set_option maxRecDepth 100000 in
/-- Matcher.checksHold -/
theorem c_MA_checksHold (l : Launch) (X : gs_X) (σ : gs_St) (h tu va a ac ai ab hd ho ck kf hl9 d : Nat) (L : List Nat) (cs vs : Nat → Int32) (v : Nat → Nat) (ks : List It) (fC : Nat → Option Nat)
    (h0 : σ h = some (gs_ob 3 [.ref tu, .ref va])) (h1 : σ va = some (gs_ia X 8 vs)) (hv : vOK vs v) (hs : L.Pairwise (· ≤ ·)) (hn : L.length ≤ 301) (hcs : ∀ j x, L[j]? = some x → cs j = nI x ∧ x < 2 ^ 30) (u0 : σ tu = some (gs_ob 6 [.ref ac, .ref ai, .ref ab, .int (nI L.length)])) (u1 : σ ac = some (gs_ia X 301 cs)) (r0 : σ a = some (gs_ob 4 [.ref hd, .ref ho, .ref ck, .int (nI hl9), .int (nI ks.length), .ref kf])) (r2 : σ ck = some (gs_qa X 3 6 fC)) (rk : ∀ i t, ks[i]? = some t → ∃ b, fC i = some b ∧ σ b = some (itE t)) (hkl : ks.length ≤ 6) (hkB : ∀ t ∈ ks, itB t ∧ t.1.1 ≠ 0) : gs_Mi l X y_MA_checksHold b_MA_checksHold 6 (some .boolean) ({ frames := 2, cells := 0, slots := 0, locals := 63 }) σ [.ref h, .ref a, .int (nI d)] (fun r σ' => σ' = σ ∧ r = bI (chk v L ks d)) := by
  refine Met.ofW (cc := b_MA_checksHold) (maxL := 6) (ret := (some .boolean)) (by decide) rfl ?_
  intro p e s m args below meth c s₁ B₀ hml hv
  obtain ⟨rfl, hK, hG, hz, hE⟩ := hv
  have hx := B₀.exec
  have hb := B₀.bytes
  have hr := B₀.returns
  have hts := atoms_spec (ws := gs_ws y_MA_checksHold b_MA_checksHold 6 (some .boolean)) B₀.pre
  have ht : ∀ w ∈ gs_w, w.before _ s = true := fun w h => hts w (List.mem_cons_of_mem _ h)
  have hown : s.vm.findClass R_MA = some m.cls := findClass_of_methodNamed B₀.named
  have hlocks := B₀.notSynchronized
  have hA : ∀ q : Nat, s.heap.size ≤ q → gs_A X q := fun q h => Nat.le_trans hz h
  have hS : va_S (gs_A X) s.heap s.heap [] := va_S.rf
  have hl := lv_entry ([.ref h, .ref a, .int (nI d)]) (n := 6) (Nat.le_of_ble_eq_true rfl)
  rw [lg_entry_eq]
  generalize (lg_sl ([.ref h, .ref a, .int (nI d)]) ++ List.replicate (6 - (lg_sl ([.ref h, .ref a, .int (nI d)])).length) Slot.unset).toArray = ls at hl ⊢
  have hl : lv_has ls 6 [(0, .ref h), (1, .ref a), (2, .int (nI d))] := hl
  have loop : ∀ (fl : Nat) (i : Nat), (i ≤ ks.length) → (∀ j t, j < i → ks[j]? = some t → chk1 v L d t = true) → ks.length - i < fl → ∀ (H : Heap) (locs : List Loc), gs_H X σ H → va_S (gs_A X) s.heap H locs → ∀ ls, lv_has ls 6 [(3, .int (nI i)), (0, .ref h), (1, .ref a), (2, .int (nI d))] → W p l e ({ frames := 2, cells := 0, slots := 0, locals := 63 } : Room) s m ([.ref h, .ref a, .int (nI d)] : List Value).toArray below meth c H locs 0 0 (MQ below (va_Qi (fun r σ' => σ' = σ ∧ r = bI (chk v L ks d)) (gs_U X) (gs_A X)) ([.ref h, .ref a, .int (nI d)] : List Value).toArray s 0 0 (gs_A X)) (F0 m 2 ls []) := by
    intro fl
    induction fl with
    | zero => intro i _ _ h9; omega
    | succ fl ih =>
      intro i hi hall hmu  H locs hG hS ls hl
      refine lv_iload_n hx hb d_MA_checksHold_2 rfl (lv_at hl 0 rfl) ?_
      refine lv_aload_n hx hb d_MA_checksHold_3 rfl (lv_at hl 2 rfl) ?_
      refine gs_get hx hb ht hown hK hG k_RU r0 4 (by decide) w_508 rfl d_MA_checksHold_4 ?_
      refine lv_icmp_ge (tgt := 81) hx hb d_MA_checksHold_7 (by decide) (fun c_7 => ?_) (fun c_7 => ?_)
      · have c_7 : ks.length ≤ i := (nI_leI (by omega) (by omega)).mp c_7
        refine lv_iconst (v := nI 1) hx hb d_MA_checksHold_81 (by decide) ?_
        have hf : chk v L ks d = true := by
          simp only [chk, List.all_eq_true]
          intro t ht
          obtain ⟨j, hj⟩ := List.getElem?_of_mem ht
          have := (List.getElem?_eq_some_iff.mp hj).1
          exact hall j t (by omega) hj
        exact gs_iret (v := (nI 1)) hx hb hr rfl hK hE hz hG hS hlocks (by first | decide | omega | (dsimp only [headSpec]; omega)) (by first | decide | omega | (dsimp only [headSpec]; omega)) (⟨rfl, by rw [hf]; rfl⟩) d_MA_checksHold_82
      · have c_7 : ¬ ks.length ≤ i := mt (nI_leI (by omega) (by omega)).mpr c_7
        refine lv_aload_n hx hb d_MA_checksHold_10 rfl (lv_at hl 2 rfl) ?_
        refine gs_get hx hb ht hown hK hG k_RU r0 2 (by decide) w_501 rfl d_MA_checksHold_11 ?_
        refine lv_iload_n hx hb d_MA_checksHold_14 rfl (lv_at hl 0 rfl) ?_
        obtain ⟨t, ht9⟩ := get_ex (L := ks) (j := i) (by omega)
        obtain ⟨b, hb1, hb2⟩ := rk i t ht9
        obtain ⟨htB, ht0⟩ := hkB t (List.mem_of_getElem? ht9)
        have hcf := cof_lt hv htB
        have hk3 := htB.1
        refine gs_aald hx hb hK hG 3 r2 rfl (j := i) (by omega) (by omega) d_MA_checksHold_15 ?_
        refine gs_topr (show va_rf (fC i) = .ref b by rw [hb1]; rfl) ?_
        refine lv_astore (lv' := [(4, .ref b), (3, .int (nI i)), (0, .ref h), (1, .ref a), (2, .int (nI d))]) hx hb d_MA_checksHold_16 hl (by decide) rfl (fun ls hl => ?_)
        refine lv_aload hx hb d_MA_checksHold_18 (lv_at hl 0 rfl) ?_
        refine gs_get hx hb ht hown hK hG k_IT hb2 8 (by decide) w_465 rfl d_MA_checksHold_20 ?_
        refine lv_iload_n hx hb d_MA_checksHold_23 rfl (lv_at hl 4 rfl) ?_
        refine lv_icmp_ne (tgt := 75) hx hb d_MA_checksHold_24 (by decide) (fun c_24 => ?_) (fun c_24 => ?_)
        · refine lv_iinc (v := (nI (i + 1))) (lv' := [(3, .int (nI (i + 1))), (4, .ref b), (0, .ref h), (1, .ref a), (2, .int (nI d))]) hx hb d_MA_checksHold_75 hl (k := 1) rfl (by exact nI_1 _) (by decide) rfl (fun ls hl => ?_)
          refine lv_goto (tgt := 2) hx hb d_MA_checksHold_78 (by decide) ?_
          have hone : chk1 v L d t = true := by simp [chk1, c_24]
          exact ih (i + 1) (by omega) (fun j t2 hj h2 => by rcases Nat.lt_or_ge j i with q | q; exact hall j t2 q h2; (have e : j = i := by omega); subst e; rw [ht9] at h2; cases h2; exact hone) (by omega) H locs hG hS ls (lv_sub hl [0, 2, 3, 4] rfl)
        · refine lv_aload hx hb d_MA_checksHold_27 (lv_at hl 0 rfl) ?_
          refine gs_get hx hb ht hown hK hG k_IT hb2 0 (by decide) w_445 rfl d_MA_checksHold_29 ?_
          refine lv_iconst (v := nI 1) hx hb d_MA_checksHold_32 (by decide) ?_
          refine lv_icmp_ne (tgt := 60) hx hb d_MA_checksHold_33 (by decide) (fun c_33 => ?_) (fun c_33 => ?_)
          · have c_33 : ¬ t.1.1 = 1 := mt (nI_eq (by omega) (by omega)).mpr c_33
            refine lv_aload_n hx hb d_MA_checksHold_60 rfl (lv_at hl 2 rfl) ?_
            refine lv_aload hx hb d_MA_checksHold_61 (lv_at hl 0 rfl) ?_
            refine gs_callVi (As := [.ref b]) (rest := []) ⟨hx, hb, hml, hown, hts⟩ hK hE hz hG hS (c_MA_comparisonHolds l X σ h tu va b vs v t h0 h1 hv hb2 htB (by have := htB.1; omega)) mV_MA_comparisonHolds w_210 h0 rfl rfl hl.1 rfl (Nat.le_of_ble_eq_true rfl) ⟨(by first | decide | omega | (dsimp only [headSpec]; omega)), (by first | decide | omega | (dsimp only [headSpec]; omega))⟩ ⟨(by first | decide | omega | (dsimp only [headSpec]; omega)), (by first | decide | omega | (dsimp only [headSpec]; omega))⟩ d_MA_checksHold_63 (fun r_63 σ_63 H locs hp_63 hG hS => ?_)
            rw [hp_63.1] at hG
            refine gs_top (show r_63 = (bI (cmpv v t)) from hp_63.2) ?_
            refine lv_istore (lv' := [(5, .int (bI (cmpv v t))), (4, .ref b), (3, .int (nI i)), (0, .ref h), (1, .ref a), (2, .int (nI d))]) hx hb d_MA_checksHold_66 hl (by decide) rfl (fun ls hl => ?_)
            refine lv_iload hx hb d_MA_checksHold_68 (lv_at hl 0 rfl) ?_
            refine lv_if_ne (tgt := 75) hx hb d_MA_checksHold_70 (by decide) (fun c_70 => ?_) (fun c_70 => ?_)
            · refine lv_iinc (v := (nI (i + 1))) (lv' := [(3, .int (nI (i + 1))), (5, .int (bI (cmpv v t))), (4, .ref b), (0, .ref h), (1, .ref a), (2, .int (nI d))]) hx hb d_MA_checksHold_75 hl (k := 2) rfl (by exact nI_1 _) (by decide) rfl (fun ls hl => ?_)
              refine lv_goto (tgt := 2) hx hb d_MA_checksHold_78 (by decide) ?_
              have hone : chk1 v L d t = true := by simp [chk1, c_33, bI_n0 c_70]
              exact ih (i + 1) (by omega) (fun j t2 hj h2 => by rcases Nat.lt_or_ge j i with q | q; exact hall j t2 q h2; (have e : j = i := by omega); subst e; rw [ht9] at h2; cases h2; exact hone) (by omega) H locs hG hS ls (lv_sub hl [0, 3, 4, 5] rfl)
            · refine lv_iconst (v := nI 0) hx hb d_MA_checksHold_73 (by decide) ?_
              have hone : chk1 v L d t = false := by simp [chk1, c_24, c_33, bI_0 c_70]
              have hf : chk v L ks d = false := by
                simp only [chk, List.all_eq_false]
                exact ⟨t, List.mem_of_getElem? ht9, by rw [hone]; decide⟩
              exact gs_iret (v := (nI 0)) hx hb hr rfl hK hE hz hG hS hlocks (by first | decide | omega | (dsimp only [headSpec]; omega)) (by first | decide | omega | (dsimp only [headSpec]; omega)) (⟨rfl, by rw [hf]; rfl⟩) d_MA_checksHold_74
          · have c_33 : t.1.1 = 1 :=  (nI_eq (by omega) (by omega)).mp c_33
            refine lv_aload_n hx hb d_MA_checksHold_36 rfl (lv_at hl 2 rfl) ?_
            refine gs_get hx hb ht hown hK hG k_MA h0 0 (by decide) w_96 rfl d_MA_checksHold_37 ?_
            refine lv_aload_n hx hb d_MA_checksHold_40 rfl (lv_at hl 2 rfl) ?_
            refine lv_aload hx hb d_MA_checksHold_41 (lv_at hl 0 rfl) ?_
            refine gs_callVi (As := [.ref b]) (rest := [.ref tu]) ⟨hx, hb, hml, hown, hts⟩ hK hE hz hG hS (c_MA_codeOf l X σ h tu va b vs v t h0 h1 hv hb2 htB) mV_MA_codeOf w_208 h0 rfl rfl hl.1 rfl (Nat.le_of_ble_eq_true rfl) ⟨(by first | decide | omega | (dsimp only [headSpec]; omega)), (by first | decide | omega | (dsimp only [headSpec]; omega))⟩ ⟨(by first | decide | omega | (dsimp only [headSpec]; omega)), (by first | decide | omega | (dsimp only [headSpec]; omega))⟩ d_MA_checksHold_43 (fun r_43 σ_43 H locs hp_43 hG hS => ?_)
            rw [hp_43.1] at hG
            refine gs_top (show r_43 = (nI (cof v t)) from hp_43.2) ?_
            refine gs_callVi (As := [.int (nI (cof v t))]) (rest := []) ⟨hx, hb, hml, hown, hts⟩ hK hE hz hG hS (c_TU_contains l X σ tu ac ai ab L cs (cof v t) hs hn hcs (by omega) u0 u1) mV_TU_contains w_209 u0 rfl rfl hl.1 rfl (Nat.le_of_ble_eq_true rfl) ⟨(by first | decide | omega | (dsimp only [headSpec]; omega)), (by first | decide | omega | (dsimp only [headSpec]; omega))⟩ ⟨(by first | decide | omega | (dsimp only [headSpec]; omega)), (by first | decide | omega | (dsimp only [headSpec]; omega))⟩ d_MA_checksHold_46 (fun r_46 σ_46 H locs hp_46 hG hS => ?_)
            rw [hp_46.1] at hG
            refine gs_top (show r_46 = (bI (decide (cof v t ∈ L))) from hp_46.2) ?_
            refine lv_if_ne (tgt := 56) hx hb d_MA_checksHold_49 (by decide) (fun c_49 => ?_) (fun c_49 => ?_)
            · refine lv_iconst (v := nI 0) hx hb d_MA_checksHold_56 (by decide) ?_
              refine lv_goto (tgt := 66) hx hb d_MA_checksHold_57 (by decide) ?_
              refine lv_istore (lv' := [(5, .int (nI 0)), (4, .ref b), (3, .int (nI i)), (0, .ref h), (1, .ref a), (2, .int (nI d))]) hx hb d_MA_checksHold_66 hl (by decide) rfl (fun ls hl => ?_)
              refine lv_iload hx hb d_MA_checksHold_68 (lv_at hl 0 rfl) ?_
              refine lv_if_ne (tgt := 75) hx hb d_MA_checksHold_70 (by decide) (fun c_70 => ?_) (fun c_70 => ?_)
              · exact absurd c_70 (by decide)
              · have c_70 : 0 = 0 := gs_z (by omega) c_70
                refine lv_iconst (v := nI 0) hx hb d_MA_checksHold_73 (by decide) ?_
                have hone : chk1 v L d t = false := by simp [chk1, c_24, c_33, of_decide_eq_true (bI_n0 c_49)]
                have hf : chk v L ks d = false := by
                  simp only [chk, List.all_eq_false]
                  exact ⟨t, List.mem_of_getElem? ht9, by rw [hone]; decide⟩
                exact gs_iret (v := (nI 0)) hx hb hr rfl hK hE hz hG hS hlocks (by first | decide | omega | (dsimp only [headSpec]; omega)) (by first | decide | omega | (dsimp only [headSpec]; omega)) (⟨rfl, by rw [hf]; rfl⟩) d_MA_checksHold_74
            · refine lv_iconst (v := nI 1) hx hb d_MA_checksHold_52 (by decide) ?_
              refine lv_goto (tgt := 66) hx hb d_MA_checksHold_53 (by decide) ?_
              refine lv_istore (lv' := [(5, .int (nI 1)), (4, .ref b), (3, .int (nI i)), (0, .ref h), (1, .ref a), (2, .int (nI d))]) hx hb d_MA_checksHold_66 hl (by decide) rfl (fun ls hl => ?_)
              refine lv_iload hx hb d_MA_checksHold_68 (lv_at hl 0 rfl) ?_
              refine lv_if_ne (tgt := 75) hx hb d_MA_checksHold_70 (by decide) (fun c_70 => ?_) (fun c_70 => ?_)
              · have c_70 : ¬ 1 = 0 := gs_zn (by omega) c_70
                refine lv_iinc (v := (nI (i + 1))) (lv' := [(3, .int (nI (i + 1))), (5, .int (nI 1)), (4, .ref b), (0, .ref h), (1, .ref a), (2, .int (nI d))]) hx hb d_MA_checksHold_75 hl (k := 2) rfl (by exact nI_1 _) (by decide) rfl (fun ls hl => ?_)
                refine lv_goto (tgt := 2) hx hb d_MA_checksHold_78 (by decide) ?_
                have hone : chk1 v L d t = true := by simp [chk1, c_33, of_decide_eq_false (bI_0 c_49)]
                exact ih (i + 1) (by omega) (fun j t2 hj h2 => by rcases Nat.lt_or_ge j i with q | q; exact hall j t2 q h2; (have e : j = i := by omega); subst e; rw [ht9] at h2; cases h2; exact hone) (by omega) H locs hG hS ls (lv_sub hl [0, 3, 4, 5] rfl)
              · exact absurd c_70 (by decide)
  refine lv_iconst (v := nI 0) hx hb d_MA_checksHold_0 (by decide) ?_
  refine lv_istore_n (lv' := [(3, .int (nI 0)), (0, .ref h), (1, .ref a), (2, .int (nI d))]) hx hb d_MA_checksHold_1 rfl hl (by decide) rfl (fun ls hl => ?_)
  exact loop (ks.length + 1) 0 (by omega) (fun j t hj => absurd hj (Nat.not_lt_zero _)) (by omega) _ _ hG hS ls (lv_sub hl [0, 1, 2, 3] rfl)
set_option maxHeartbeats 4000000 in
set_option maxRecDepth 100000 in
/-- Matcher.isOpenEnd -/
theorem c_MA_isOpenEnd (l : Launch) (X : gs_X) (σ : gs_St) (a hd ho ck kf hl9 d e9 : Nat) (ks : List It) (fH fC : Nat → Option Nat) (t0 : It)
    (r0 : σ a = some (gs_ob 4 [.ref hd, .ref ho, .ref ck, .int (nI hl9), .int (nI ks.length), .ref kf])) (r1 : σ ho = some (gs_qa X 3 3 fH)) (r2 : σ ck = some (gs_qa X 3 6 fC)) (rk : ∀ i t, ks[i]? = some t → ∃ b, fC i = some b ∧ σ b = some (itE t)) (hkl : ks.length ≤ 6) (hl3 : hl9 ≤ 3) (hd9 : d < 3) (e1 : fH d = some e9) (e2 : σ e9 = some (itE t0)) (e3 : itB t0) : gs_Mi l X y_MA_isOpenEnd b_MA_isOpenEnd 3 (some .boolean) ({ frames := 2, cells := 0, slots := 0, locals := 42 }) σ [.ref a, .int (nI d)] (fun r σ' => σ' = σ ∧ r = bI (oend hl9 ks t0 d)) := by
  refine Met.ofW (cc := b_MA_isOpenEnd) (maxL := 3) (ret := (some .boolean)) (by decide) rfl ?_
  intro p e s m args below meth c s₁ B₀ hml hv
  obtain ⟨rfl, hK, hG, hz, hE⟩ := hv
  have hx := B₀.exec
  have hb := B₀.bytes
  have hr := B₀.returns
  have hts := atoms_spec (ws := gs_ws y_MA_isOpenEnd b_MA_isOpenEnd 3 (some .boolean)) B₀.pre
  have ht : ∀ w ∈ gs_w, w.before _ s = true := fun w h => hts w (List.mem_cons_of_mem _ h)
  have hown : s.vm.findClass R_MA = some m.cls := findClass_of_methodNamed B₀.named
  have hlocks := B₀.notSynchronized
  have hA : ∀ q : Nat, s.heap.size ≤ q → gs_A X q := fun q h => Nat.le_trans hz h
  have hS : va_S (gs_A X) s.heap s.heap [] := va_S.rf
  have hl := lv_entry ([.ref a, .int (nI d)]) (n := 3) (Nat.le_of_ble_eq_true rfl)
  rw [lg_entry_eq]
  generalize (lg_sl ([.ref a, .int (nI d)]) ++ List.replicate (3 - (lg_sl ([.ref a, .int (nI d)])).length) Slot.unset).toArray = ls at hl ⊢
  have hl : lv_has ls 3 [(0, .ref a), (1, .int (nI d))] := hl
  have loop : ∀ (fl : Nat) (i : Nat), (i ≤ ks.length) → (hl9 ≤ d + 1) → (opn t0 = true) → (∀ j t, j < i → ks[j]? = some t → t.2.2.2.2 ≠ nI hl9) → ks.length - i < fl → ∀ (H : Heap) (locs : List Loc), gs_H X σ H → va_S (gs_A X) s.heap H locs → ∀ ls, lv_has ls 3 [(2, .int (nI i)), (0, .ref a), (1, .int (nI d))] → W p l e ({ frames := 2, cells := 0, slots := 0, locals := 42 } : Room) s m ([.ref a, .int (nI d)] : List Value).toArray below meth c H locs 0 0 (MQ below (va_Qi (fun r σ' => σ' = σ ∧ r = bI (oend hl9 ks t0 d)) (gs_U X) (gs_A X)) ([.ref a, .int (nI d)] : List Value).toArray s 0 0 (gs_A X)) (F0 m 26 ls []) := by
    intro fl
    induction fl with
    | zero => intro i _ _ _ _ h9; omega
    | succ fl ih =>
      intro i hi hlast hop hall hmu  H locs hG hS ls hl
      refine lv_iload_n hx hb d_MA_isOpenEnd_26 rfl (lv_at hl 0 rfl) ?_
      refine lv_aload_n hx hb d_MA_isOpenEnd_27 rfl (lv_at hl 1 rfl) ?_
      refine gs_get hx hb ht hown hK hG k_RU r0 4 (by decide) w_508 rfl d_MA_isOpenEnd_28 ?_
      refine lv_icmp_ge (tgt := 58) hx hb d_MA_isOpenEnd_31 (by decide) (fun c_31 => ?_) (fun c_31 => ?_)
      · have c_31 : ks.length ≤ i := (nI_leI (by omega) (by omega)).mp c_31
        refine lv_iconst (v := nI 1) hx hb d_MA_isOpenEnd_58 (by decide) ?_
        have hf : oend hl9 ks t0 d = true := by
          have h2 : ks.all (fun t => decide (t.2.2.2.2 ≠ nI hl9)) = true := by
            simp only [List.all_eq_true]
            intro t ht
            obtain ⟨j, hj⟩ := List.getElem?_of_mem ht
            have := (List.getElem?_eq_some_iff.mp hj).1
            exact decide_eq_true (hall j t (by omega) hj)
          simp only [oend, h2, hop, decide_eq_true hlast, Bool.and_true]
        exact gs_iret (v := (nI 1)) hx hb hr rfl hK hE hz hG hS hlocks (by first | decide | omega | (dsimp only [headSpec]; omega)) (by first | decide | omega | (dsimp only [headSpec]; omega)) (⟨rfl, by rw [hf]; rfl⟩) d_MA_isOpenEnd_59
      · have c_31 : ¬ ks.length ≤ i := mt (nI_leI (by omega) (by omega)).mpr c_31
        refine lv_aload_n hx hb d_MA_isOpenEnd_34 rfl (lv_at hl 1 rfl) ?_
        refine gs_get hx hb ht hown hK hG k_RU r0 2 (by decide) w_501 rfl d_MA_isOpenEnd_35 ?_
        refine lv_iload_n hx hb d_MA_isOpenEnd_38 rfl (lv_at hl 0 rfl) ?_
        obtain ⟨t, ht9⟩ := get_ex (L := ks) (j := i) (by omega)
        obtain ⟨b, hb1, hb2⟩ := rk i t ht9
        refine gs_aald hx hb hK hG 3 r2 rfl (j := i) (by omega) (by omega) d_MA_isOpenEnd_39 ?_
        refine gs_topr (show va_rf (fC i) = .ref b by rw [hb1]; rfl) ?_
        refine gs_get hx hb ht hown hK hG k_IT hb2 8 (by decide) w_465 rfl d_MA_isOpenEnd_40 ?_
        refine lv_aload_n hx hb d_MA_isOpenEnd_43 rfl (lv_at hl 1 rfl) ?_
        refine gs_get hx hb ht hown hK hG k_RU r0 3 (by decide) w_506 rfl d_MA_isOpenEnd_44 ?_
        refine lv_icmp_ne (tgt := 52) hx hb d_MA_isOpenEnd_47 (by decide) (fun c_47 => ?_) (fun c_47 => ?_)
        · refine lv_iinc (v := (nI (i + 1))) (lv' := [(2, .int (nI (i + 1))), (0, .ref a), (1, .int (nI d))]) hx hb d_MA_isOpenEnd_52 hl (k := 0) rfl (by exact nI_1 _) (by decide) rfl (fun ls hl => ?_)
          refine lv_goto (tgt := 26) hx hb d_MA_isOpenEnd_55 (by decide) ?_
          exact ih (i + 1) (by omega) hlast hop (fun j t2 hj h2 => by rcases Nat.lt_or_ge j i with q | q; exact hall j t2 q h2; (have e : j = i := by omega); subst e; rw [ht9] at h2; cases h2; exact c_47) (by omega) H locs hG hS ls (lv_sub hl [0, 1, 2] rfl)
        · refine lv_iconst (v := nI 0) hx hb d_MA_isOpenEnd_50 (by decide) ?_
          have hf : oend hl9 ks t0 d = false := by
            have h2 : ks.all (fun t => decide (t.2.2.2.2 ≠ nI hl9)) = false := by
              simp only [List.all_eq_false]
              exact ⟨t, List.mem_of_getElem? ht9, by simp [c_47]⟩
            simp only [oend, h2, Bool.and_false]
          exact gs_iret (v := (nI 0)) hx hb hr rfl hK hE hz hG hS hlocks (by first | decide | omega | (dsimp only [headSpec]; omega)) (by first | decide | omega | (dsimp only [headSpec]; omega)) (⟨rfl, by rw [hf]; rfl⟩) d_MA_isOpenEnd_51
  refine lv_iload_n hx hb d_MA_isOpenEnd_0 rfl (lv_at hl 1 rfl) ?_
  refine lv_iconst (v := nI 1) hx hb d_MA_isOpenEnd_1 (by decide) ?_
  refine lv_iadd hx hb d_MA_isOpenEnd_2 ?_
  refine gs_top (nI_add d 1) ?_
  refine lv_aload_n hx hb d_MA_isOpenEnd_3 rfl (lv_at hl 0 rfl) ?_
  refine gs_get hx hb ht hown hK hG k_RU r0 3 (by decide) w_506 rfl d_MA_isOpenEnd_4 ?_
  refine lv_icmp_lt (tgt := 22) hx hb d_MA_isOpenEnd_7 (by decide) (fun c_7 => ?_) (fun c_7 => ?_)
  · have c_7 : (d + 1) < hl9 := (nI_ltI (by omega) (by omega)).mp c_7
    refine lv_iconst (v := nI 0) hx hb d_MA_isOpenEnd_22 (by decide) ?_
    have hf : oend hl9 ks t0 d = false := by
      first
      | (simp only [oend, bI_0 c_19, Bool.and_false, Bool.false_and]; done)
      | (simp only [oend, decide_eq_false (show ¬ hl9 ≤ d + 1 by omega), Bool.false_and]; done)
    exact gs_iret (v := (nI 0)) hx hb hr rfl hK hE hz hG hS hlocks (by first | decide | omega | (dsimp only [headSpec]; omega)) (by first | decide | omega | (dsimp only [headSpec]; omega)) (⟨rfl, by rw [hf]; rfl⟩) d_MA_isOpenEnd_23
  · have c_7 : ¬ (d + 1) < hl9 := mt (nI_ltI (by omega) (by omega)).mpr c_7
    refine lv_aload_n hx hb d_MA_isOpenEnd_10 rfl (lv_at hl 0 rfl) ?_
    refine gs_get hx hb ht hown hK hG k_RU r0 1 (by decide) w_499 rfl d_MA_isOpenEnd_11 ?_
    refine lv_iload_n hx hb d_MA_isOpenEnd_14 rfl (lv_at hl 1 rfl) ?_
    refine gs_aald hx hb hK hG 3 r1 rfl (j := d) (by omega) (by omega) d_MA_isOpenEnd_15 ?_
    refine gs_topr (show va_rf (fH d) = .ref e9 by rw [e1]; rfl) ?_
    refine gs_callVi (As := []) (rest := []) ⟨hx, hb, hml, hown, hts⟩ hK hE hz hG hS (c_IT_isOpen l X σ e9 t0 e2 e3) mV_IT_isOpen w_641 e2 rfl rfl hl.1 rfl (Nat.le_of_ble_eq_true rfl) ⟨(by first | decide | omega | (dsimp only [headSpec]; omega)), (by first | decide | omega | (dsimp only [headSpec]; omega))⟩ ⟨(by first | decide | omega | (dsimp only [headSpec]; omega)), (by first | decide | omega | (dsimp only [headSpec]; omega))⟩ d_MA_isOpenEnd_16 (fun r_16 σ_16 H locs hp_16 hG hS => ?_)
    rw [hp_16.1] at hG
    refine gs_top (show r_16 = (bI (opn t0)) from hp_16.2) ?_
    refine lv_if_ne (tgt := 24) hx hb d_MA_isOpenEnd_19 (by decide) (fun c_19 => ?_) (fun c_19 => ?_)
    · refine lv_iconst (v := nI 0) hx hb d_MA_isOpenEnd_24 (by decide) ?_
      refine lv_istore_n (lv' := [(2, .int (nI 0)), (0, .ref a), (1, .int (nI d))]) hx hb d_MA_isOpenEnd_25 rfl hl (by decide) rfl (fun ls hl => ?_)
      exact loop (ks.length + 1) 0 (by omega) (by omega) (bI_n0 c_19) (fun j t hj => absurd hj (Nat.not_lt_zero _)) (by omega) _ _ hG hS ls (lv_sub hl [0, 1, 2] rfl)
    · refine lv_iconst (v := nI 0) hx hb d_MA_isOpenEnd_22 (by decide) ?_
      have hf : oend hl9 ks t0 d = false := by
        first
        | (simp only [oend, bI_0 c_19, Bool.and_false, Bool.false_and]; done)
        | (simp only [oend, decide_eq_false (show ¬ hl9 ≤ d + 1 by omega), Bool.false_and]; done)
      exact gs_iret (v := (nI 0)) hx hb hr rfl hK hE hz hG hS hlocks (by first | decide | omega | (dsimp only [headSpec]; omega)) (by first | decide | omega | (dsimp only [headSpec]; omega)) (⟨rfl, by rw [hf]; rfl⟩) d_MA_isOpenEnd_23
