set_option maxHeartbeats 4000000 in
set_option maxRecDepth 100000 in
/-- RuleBook.leastStratum -/
theorem c_RB_leastStratum (l : Launch) (X : gs_X) (σ : gs_St) (bk co ru sr nr nq : Nat) (sc : Int32) (sf : Nat → Int32) (S : Nat → Nat) (B : Nat) (a : Nat) (R : Rl)
    (b0 : σ bk = some (gs_ob 5 [.ref co, .ref ru, .ref sr, .int (nI nr), .int (nI nq), .int sc])) (b3 : σ sr = some (gs_ia X 12 sf)) (hs : sOK sf S B) (hBB : B < 2 ^ 20) (hR : ruAt X σ a R) (hRB : ruB R) : gs_Mi l X y_RB_leastStratum b_RB_leastStratum 4 (some .int) ({ frames := 1, cells := 0, slots := 0, locals := 40 }) σ [.ref bk, .ref a] (fun r σ' => σ' = σ ∧ r = nI (lst S R)) := by
  refine Met.ofW (cc := b_RB_leastStratum) (maxL := 4) (ret := (some .int)) (by decide) rfl ?_
  intro p e s m args below meth c s₁ B₀ hml hv
  obtain ⟨rfl, hK, hG, hz, hE⟩ := hv
  have hx := B₀.exec
  have hb := B₀.bytes
  have hr := B₀.returns
  have hts := atoms_spec (ws := gs_ws y_RB_leastStratum b_RB_leastStratum 4 (some .int)) B₀.pre
  have ht : ∀ w ∈ gs_w, w.before _ s = true := fun w h => hts w (List.mem_cons_of_mem _ h)
  have hown : s.vm.findClass R_RB = some m.cls := findClass_of_methodNamed B₀.named
  have hlocks := B₀.notSynchronized
  have hA : ∀ q : Nat, s.heap.size ≤ q → gs_A X q := fun q h => Nat.le_trans hz h
  have hS : va_S (gs_A X) s.heap s.heap [] := va_S.rf
  have hl := lv_entry ([.ref bk, .ref a]) (n := 4) (Nat.le_of_ble_eq_true rfl)
  rw [lg_entry_eq]
  generalize (lg_sl ([.ref bk, .ref a]) ++ List.replicate (4 - (lg_sl ([.ref bk, .ref a])).length) Slot.unset).toArray = ls at hl ⊢
  have hl : lv_has ls 4 [(0, .ref bk), (1, .ref a)] := hl
  obtain ⟨hd, ho, ck, kf, fH, fC, r0, r1, r2, r3, rh, rk⟩ := hR
  obtain ⟨g0, g1, g2, g3, g4⟩ := hRB
  have loop2 : ∀ (fl : Nat) (i mx : Nat), (i ≤ R.2.2.length) → (mx = lstK S (lstH S R.2.1) (R.2.2.take i)) → (mx ≤ B + 1) → R.2.2.length - i < fl → ∀ (H : Heap) (locs : List Loc), gs_H X σ H → va_S (gs_A X) s.heap H locs → ∀ ls, lv_has ls 4 [(3, .int (nI i)), (2, .int (nI mx)), (0, .ref bk), (1, .ref a)] → W p l e ({ frames := 1, cells := 0, slots := 0, locals := 40 } : Room) s m ([.ref bk, .ref a] : List Value).toArray below meth c H locs 0 0 (MQ below (va_Qi (fun r σ' => σ' = σ ∧ r = nI (lst S R)) (gs_U X) (gs_A X)) ([.ref bk, .ref a] : List Value).toArray s 0 0 (gs_A X)) (F0 m 39 ls []) := by
    intro fl
    induction fl with
    | zero => intro i mx _ _ _ h9; omega
    | succ fl ih =>
      intro i mx hi hm hmB hmu  H locs hG hS ls hl
      refine lv_iload_n hx hb d_RB_leastStratum_39 rfl (lv_at hl 0 rfl) ?_
      refine lv_aload_n hx hb d_RB_leastStratum_40 rfl (lv_at hl 3 rfl) ?_
      refine gs_get hx hb ht hown hK hG k_RU r0 4 (by decide) w_509 rfl d_RB_leastStratum_41 ?_
      refine lv_icmp_ge (tgt := 87) hx hb d_RB_leastStratum_44 (by decide) (fun c_44 => ?_) (fun c_44 => ?_)
      · have c_44 : R.2.2.length ≤ i := (nI_leI (by omega) (by omega)).mp c_44
        refine lv_iload_n hx hb d_RB_leastStratum_87 rfl (lv_at hl 1 rfl) ?_
        have hie : i = R.2.2.length := by omega
        rw [hie, List.take_length] at hm
        exact gs_iret (v := (nI mx)) hx hb hr rfl hK hE hz hG hS hlocks (by first | decide | omega | (dsimp only [headSpec]; omega)) (by first | decide | omega | (dsimp only [headSpec]; omega)) (⟨rfl, by rw [hm]; rfl⟩) d_RB_leastStratum_88
      · have c_44 : ¬ R.2.2.length ≤ i := mt (nI_leI (by omega) (by omega)).mpr c_44
        refine lv_aload_n hx hb d_RB_leastStratum_47 rfl (lv_at hl 3 rfl) ?_
        refine gs_get hx hb ht hown hK hG k_RU r0 2 (by decide) w_502 rfl d_RB_leastStratum_48 ?_
        refine lv_iload_n hx hb d_RB_leastStratum_51 rfl (lv_at hl 0 rfl) ?_
        obtain ⟨t, ht9⟩ := get_ex (L := R.2.2) (j := i) (by omega)
        obtain ⟨b, hb1, hb2⟩ := rk i t ht9
        have htB := (g4 t (List.mem_of_getElem? ht9)).1
        obtain ⟨hs1, hs2⟩ := hs _ htB.2.1
        have hk3 := htB.1
        have hk4 := htB.2.1
        refine gs_aald hx hb hK hG 3 r3 rfl (j := i) (by omega) (by omega) d_RB_leastStratum_52 ?_
        refine gs_topr (show va_rf (fC i) = .ref b by rw [hb1]; rfl) ?_
        refine gs_get hx hb ht hown hK hG k_IT hb2 0 (by decide) w_446 rfl d_RB_leastStratum_53 ?_
        refine lv_iconst (v := nI 1) hx hb d_RB_leastStratum_56 (by decide) ?_
        refine lv_icmp_ne (tgt := 81) hx hb d_RB_leastStratum_57 (by decide) (fun c_57 => ?_) (fun c_57 => ?_)
        · have c_57 : ¬ t.1.1 = 1 := mt (nI_eq (by omega) (by omega)).mpr c_57
          refine lv_iinc (v := (nI (i + 1))) (lv' := [(3, .int (nI (i + 1))), (2, .int (nI mx)), (0, .ref bk), (1, .ref a)]) hx hb d_RB_leastStratum_81 hl (k := 0) rfl (by exact nI_1 _) (by decide) rfl (fun ls hl => ?_)
          refine lv_goto (tgt := 39) hx hb d_RB_leastStratum_84 (by decide) ?_
          exact ih (i + 1) mx (by omega) (by unfold lstK; rw [foldl_snoc ht9, if_neg c_57]; exact hm) hmB (by omega) H locs hG hS ls (lv_sub hl [0, 1, 2, 3] rfl)
        · have c_57 : t.1.1 = 1 :=  (nI_eq (by omega) (by omega)).mp c_57
          refine lv_iload_n hx hb d_RB_leastStratum_60 rfl (lv_at hl 1 rfl) ?_
          refine lv_aload_n hx hb d_RB_leastStratum_61 rfl (lv_at hl 2 rfl) ?_
          refine gs_get hx hb ht hown hK hG k_RB b0 2 (by decide) w_37 rfl d_RB_leastStratum_62 ?_
          refine lv_aload_n hx hb d_RB_leastStratum_65 rfl (lv_at hl 3 rfl) ?_
          refine gs_get hx hb ht hown hK hG k_RU r0 2 (by decide) w_502 rfl d_RB_leastStratum_66 ?_
          refine lv_iload_n hx hb d_RB_leastStratum_69 rfl (lv_at hl 0 rfl) ?_
          refine gs_aald hx hb hK hG 3 r3 rfl (j := i) (by omega) (by omega) d_RB_leastStratum_70 ?_
          refine gs_topr (show va_rf (fC i) = .ref b by rw [hb1]; rfl) ?_
          refine gs_get hx hb ht hown hK hG k_IT hb2 1 (by decide) w_450 rfl d_RB_leastStratum_71 ?_
          refine gs_iald hx hb hK hG b3 (j := t.1.2.1) (by omega) (by omega) d_RB_leastStratum_74 ?_
          refine gs_top (show (sf t.1.2.1) = (nI (S t.1.2.1)) from hs1) ?_
          refine lv_iconst (v := nI 1) hx hb d_RB_leastStratum_75 (by decide) ?_
          refine lv_iadd hx hb d_RB_leastStratum_76 ?_
          refine gs_top (nI_add (S t.1.2.1) 1) ?_
          refine va_mmax hx hb (hml.trans hl.1.symm) hown (ht _ w_365) (ht _ w_366) (ht _ w_12) (ht _ w_367) (by decide) (by decide) (by first | decide | omega) (by first | decide | omega) d_RB_leastStratum_77 ?_
          refine gs_top (gs_max (a := mx) (b := (S t.1.2.1) + 1) (by omega) (by omega)) ?_
          refine lv_istore_n (lv' := [(2, .int (nI (max mx ((S t.1.2.1) + 1)))), (3, .int (nI i)), (0, .ref bk), (1, .ref a)]) hx hb d_RB_leastStratum_80 rfl hl (by decide) rfl (fun ls hl => ?_)
          refine lv_iinc (v := (nI (i + 1))) (lv' := [(3, .int (nI (i + 1))), (2, .int (nI (max mx ((S t.1.2.1) + 1)))), (0, .ref bk), (1, .ref a)]) hx hb d_RB_leastStratum_81 hl (k := 1) rfl (by exact nI_1 _) (by decide) rfl (fun ls hl => ?_)
          refine lv_goto (tgt := 39) hx hb d_RB_leastStratum_84 (by decide) ?_
          exact ih (i + 1) _ (by omega) (by unfold lstK; rw [foldl_snoc ht9, if_pos c_57, hm]; rfl) (by omega) (by omega) H locs hG hS ls (lv_sub hl [0, 1, 2, 3] rfl)
  have loop1 : ∀ (fl : Nat) (i mx : Nat), (i ≤ R.2.1.length) → (mx = lstH S (R.2.1.take i)) → (mx ≤ B) → R.2.1.length - i < fl → ∀ (H : Heap) (locs : List Loc), gs_H X σ H → va_S (gs_A X) s.heap H locs → ∀ ls, lv_has ls 4 [(3, .int (nI i)), (2, .int (nI mx)), (0, .ref bk), (1, .ref a)] → W p l e ({ frames := 1, cells := 0, slots := 0, locals := 40 } : Room) s m ([.ref bk, .ref a] : List Value).toArray below meth c H locs 0 0 (MQ below (va_Qi (fun r σ' => σ' = σ ∧ r = nI (lst S R)) (gs_U X) (gs_A X)) ([.ref bk, .ref a] : List Value).toArray s 0 0 (gs_A X)) (F0 m 4 ls []) := by
    intro fl
    induction fl with
    | zero => intro i mx _ _ _ h9; omega
    | succ fl ih =>
      intro i mx hi hm hmB hmu  H locs hG hS ls hl
      refine lv_iload_n hx hb d_RB_leastStratum_4 rfl (lv_at hl 0 rfl) ?_
      refine lv_aload_n hx hb d_RB_leastStratum_5 rfl (lv_at hl 3 rfl) ?_
      refine gs_get hx hb ht hown hK hG k_RU r0 3 (by decide) w_504 rfl d_RB_leastStratum_6 ?_
      refine lv_icmp_ge (tgt := 37) hx hb d_RB_leastStratum_9 (by decide) (fun c_9 => ?_) (fun c_9 => ?_)
      · have c_9 : R.2.1.length ≤ i := (nI_leI (by omega) (by omega)).mp c_9
        refine lv_iconst (v := nI 0) hx hb d_RB_leastStratum_37 (by decide) ?_
        refine lv_istore_n (lv' := [(3, .int (nI 0)), (2, .int (nI mx)), (0, .ref bk), (1, .ref a)]) hx hb d_RB_leastStratum_38 rfl hl (by decide) rfl (fun ls hl => ?_)
        have hie : i = R.2.1.length := by omega
        rw [hie, List.take_length] at hm
        exact loop2 (R.2.2.length + 1) 0 mx (by omega) hm (by omega) (by omega) H locs hG hS ls (lv_sub hl [0, 1, 2, 3] rfl)
      · have c_9 : ¬ R.2.1.length ≤ i := mt (nI_leI (by omega) (by omega)).mpr c_9
        refine lv_iload_n hx hb d_RB_leastStratum_12 rfl (lv_at hl 1 rfl) ?_
        refine lv_aload_n hx hb d_RB_leastStratum_13 rfl (lv_at hl 2 rfl) ?_
        refine gs_get hx hb ht hown hK hG k_RB b0 2 (by decide) w_37 rfl d_RB_leastStratum_14 ?_
        refine lv_aload_n hx hb d_RB_leastStratum_17 rfl (lv_at hl 3 rfl) ?_
        refine gs_get hx hb ht hown hK hG k_RU r0 1 (by decide) w_497 rfl d_RB_leastStratum_18 ?_
        refine lv_iload_n hx hb d_RB_leastStratum_21 rfl (lv_at hl 0 rfl) ?_
        obtain ⟨t, ht9⟩ := get_ex (L := R.2.1) (j := i) (by omega)
        obtain ⟨b, hb1, hb2⟩ := rh i t ht9
        have htB := g3 t (List.mem_of_getElem? ht9)
        obtain ⟨hs1, hs2⟩ := hs _ htB.2.1
        have hk3 := htB.1
        have hk4 := htB.2.1
        refine gs_aald hx hb hK hG 3 r2 rfl (j := i) (by omega) (by omega) d_RB_leastStratum_22 ?_
        refine gs_topr (show va_rf (fH i) = .ref b by rw [hb1]; rfl) ?_
        refine gs_get hx hb ht hown hK hG k_IT hb2 1 (by decide) w_450 rfl d_RB_leastStratum_23 ?_
        refine gs_iald hx hb hK hG b3 (j := t.1.2.1) (by omega) (by omega) d_RB_leastStratum_26 ?_
        refine gs_top (show (sf t.1.2.1) = (nI (S t.1.2.1)) from hs1) ?_
        refine va_mmax hx hb (hml.trans hl.1.symm) hown (ht _ w_365) (ht _ w_366) (ht _ w_12) (ht _ w_367) (by decide) (by decide) (by first | decide | omega) (by first | decide | omega) d_RB_leastStratum_27 ?_
        refine gs_top (gs_max (a := mx) (b := S t.1.2.1) (by omega) (by omega)) ?_
        refine lv_istore_n (lv' := [(2, .int (nI (max mx (S t.1.2.1)))), (3, .int (nI i)), (0, .ref bk), (1, .ref a)]) hx hb d_RB_leastStratum_30 rfl hl (by decide) rfl (fun ls hl => ?_)
        refine lv_iinc (v := (nI (i + 1))) (lv' := [(3, .int (nI (i + 1))), (2, .int (nI (max mx (S t.1.2.1)))), (0, .ref bk), (1, .ref a)]) hx hb d_RB_leastStratum_31 hl (k := 1) rfl (by exact nI_1 _) (by decide) rfl (fun ls hl => ?_)
        refine lv_goto (tgt := 4) hx hb d_RB_leastStratum_34 (by decide) ?_
        exact ih (i + 1) _ (by omega) (by unfold lstH; rw [foldl_snoc ht9, hm]; rfl) (by omega) (by omega) H locs hG hS ls (lv_sub hl [0, 1, 2, 3] rfl)
  refine lv_iconst (v := nI 0) hx hb d_RB_leastStratum_0 (by decide) ?_
  refine lv_istore_n (lv' := [(2, .int (nI 0)), (0, .ref bk), (1, .ref a)]) hx hb d_RB_leastStratum_1 rfl hl (by decide) rfl (fun ls hl => ?_)
  refine lv_iconst (v := nI 0) hx hb d_RB_leastStratum_2 (by decide) ?_
  refine lv_istore_n (lv' := [(3, .int (nI 0)), (2, .int (nI 0)), (0, .ref bk), (1, .ref a)]) hx hb d_RB_leastStratum_3 rfl hl (by decide) rfl (fun ls hl => ?_)
  exact loop1 (R.2.1.length + 1) 0 0 (by omega) rfl (by omega) (by omega) _ _ hG hS ls (lv_sub hl [0, 1, 2, 3] rfl)
set_option maxHeartbeats 4000000 in
set_option maxRecDepth 100000 in
/-- RuleBook.greatestStratum -/
theorem c_RB_greatestStratum (l : Launch) (X : gs_X) (σ : gs_St) (bk co ru sr nr nq : Nat) (sc : Int32) (sf : Nat → Int32) (S : Nat → Nat) (B : Nat)
    (b0 : σ bk = some (gs_ob 5 [.ref co, .ref ru, .ref sr, .int (nI nr), .int (nI nq), .int sc])) (b3 : σ sr = some (gs_ia X 12 sf)) (hs : sOK sf S B) (hBB : B < 2 ^ 20) (hnr : nr ≤ 12) : gs_Mi l X y_RB_greatestStratum b_RB_greatestStratum 3 (some .int) ({ frames := 1, cells := 0, slots := 0, locals := 40 }) σ [.ref bk] (fun r σ' => σ' = σ ∧ r + 1 = nI (mxS S nr)) := by
  refine Met.ofW (cc := b_RB_greatestStratum) (maxL := 3) (ret := (some .int)) (by decide) rfl ?_
  intro p e s m args below meth c s₁ B₀ hml hv
  obtain ⟨rfl, hK, hG, hz, hE⟩ := hv
  have hx := B₀.exec
  have hb := B₀.bytes
  have hr := B₀.returns
  have hts := atoms_spec (ws := gs_ws y_RB_greatestStratum b_RB_greatestStratum 3 (some .int)) B₀.pre
  have ht : ∀ w ∈ gs_w, w.before _ s = true := fun w h => hts w (List.mem_cons_of_mem _ h)
  have hown : s.vm.findClass R_RB = some m.cls := findClass_of_methodNamed B₀.named
  have hlocks := B₀.notSynchronized
  have hA : ∀ q : Nat, s.heap.size ≤ q → gs_A X q := fun q h => Nat.le_trans hz h
  have hS : va_S (gs_A X) s.heap s.heap [] := va_S.rf
  have hl := lv_entry ([.ref bk]) (n := 3) (Nat.le_of_ble_eq_true rfl)
  rw [lg_entry_eq]
  generalize (lg_sl ([.ref bk]) ++ List.replicate (3 - (lg_sl ([.ref bk])).length) Slot.unset).toArray = ls at hl ⊢
  have hl : lv_has ls 3 [(0, .ref bk)] := hl
  have loop : ∀ (fl : Nat) (i mx : Nat) (gr : Int32), (i ≤ nr) → (gr + 1 = nI mx) → (mx = mxS S i) → (mx ≤ B + 1) → nr - i < fl → ∀ (H : Heap) (locs : List Loc), gs_H X σ H → va_S (gs_A X) s.heap H locs → ∀ ls, lv_has ls 3 [(2, .int (nI i)), (1, .int gr), (0, .ref bk)] → W p l e ({ frames := 1, cells := 0, slots := 0, locals := 40 } : Room) s m ([.ref bk] : List Value).toArray below meth c H locs 0 0 (MQ below (va_Qi (fun r σ' => σ' = σ ∧ r + 1 = nI (mxS S nr)) (gs_U X) (gs_A X)) ([.ref bk] : List Value).toArray s 0 0 (gs_A X)) (F0 m 4 ls []) := by
    intro fl
    induction fl with
    | zero => intro i mx gr _ _ _ _ h9; omega
    | succ fl ih =>
      intro i mx gr hi hg hm hmB hmu  H locs hG hS ls hl
      refine lv_iload_n hx hb d_RB_greatestStratum_4 rfl (lv_at hl 0 rfl) ?_
      refine lv_aload_n hx hb d_RB_greatestStratum_5 rfl (lv_at hl 2 rfl) ?_
      refine gs_get hx hb ht hown hK hG k_RB b0 3 (by decide) w_40 rfl d_RB_greatestStratum_6 ?_
      refine lv_icmp_ge (tgt := 29) hx hb d_RB_greatestStratum_9 (by decide) (fun c_9 => ?_) (fun c_9 => ?_)
      · have c_9 : nr ≤ i := (nI_leI (by omega) (by omega)).mp c_9
        refine lv_iload_n hx hb d_RB_greatestStratum_29 rfl (lv_at hl 1 rfl) ?_
        have hie : i = nr := by omega
        rw [hie] at hm
        exact gs_iret (v := gr) hx hb hr rfl hK hE hz hG hS hlocks (by first | decide | omega | (dsimp only [headSpec]; omega)) (by first | decide | omega | (dsimp only [headSpec]; omega)) (⟨rfl, by rw [hg, hm]⟩) d_RB_greatestStratum_30
      · have c_9 : ¬ nr ≤ i := mt (nI_leI (by omega) (by omega)).mpr c_9
        refine lv_iload_n hx hb d_RB_greatestStratum_12 rfl (lv_at hl 1 rfl) ?_
        refine lv_aload_n hx hb d_RB_greatestStratum_13 rfl (lv_at hl 2 rfl) ?_
        refine gs_get hx hb ht hown hK hG k_RB b0 2 (by decide) w_37 rfl d_RB_greatestStratum_14 ?_
        refine lv_iload_n hx hb d_RB_greatestStratum_17 rfl (lv_at hl 0 rfl) ?_
        obtain ⟨hs1, hs2⟩ := hs i (by omega)
        refine gs_iald hx hb hK hG b3 (j := i) (by omega) (by omega) d_RB_greatestStratum_18 ?_
        refine gs_top (show (sf i) = (nI (S i)) from hs1) ?_
        refine va_mmax hx hb (hml.trans hl.1.symm) hown (ht _ w_365) (ht _ w_366) (ht _ w_12) (ht _ w_367) (by decide) (by decide) (by first | decide | omega) (by first | decide | omega) d_RB_greatestStratum_19 ?_
        refine lv_topi (fun v_1 ev_1 => ?_)
        refine lv_istore_n (lv' := [(1, .int v_1), (2, .int (nI i)), (0, .ref bk)]) hx hb d_RB_greatestStratum_22 rfl hl (by decide) rfl (fun ls hl => ?_)
        refine lv_iinc (v := (nI (i + 1))) (lv' := [(2, .int (nI (i + 1))), (1, .int v_1), (0, .ref bk)]) hx hb d_RB_greatestStratum_23 hl (k := 1) rfl (by exact nI_1 _) (by decide) rfl (fun ls hl => ?_)
        refine lv_goto (tgt := 4) hx hb d_RB_greatestStratum_26 (by decide) ?_
        exact ih (i + 1) (max mx (S i + 1)) _ (by omega) (by rw [ev_1]; exact mx_step hg (by omega) (by omega)) (by rw [hm]; rfl) (by omega) (by omega) H locs hG hS ls (lv_sub hl [0, 1, 2] rfl)
  refine lv_iconst (v := -1) hx hb d_RB_greatestStratum_0 (by decide) ?_
  refine lv_istore_n (lv' := [(1, .int (-1)), (0, .ref bk)]) hx hb d_RB_greatestStratum_1 rfl hl (by decide) rfl (fun ls hl => ?_)
  refine lv_iconst (v := nI 0) hx hb d_RB_greatestStratum_2 (by decide) ?_
  refine lv_istore_n (lv' := [(2, .int (nI 0)), (1, .int (-1)), (0, .ref bk)]) hx hb d_RB_greatestStratum_3 rfl hl (by decide) rfl (fun ls hl => ?_)
  exact loop (nr + 1) 0 0 (-1) (by omega) (by decide) rfl (by omega) (by omega) _ _ hG hS ls (lv_sub hl [0, 1, 2] rfl)
set_option maxHeartbeats 4000000 in
set_option maxRecDepth 100000 in
/-- RuleBook.raiseHeads -/
theorem c_RB_raiseHeads (l : Launch) (X : gs_X) (σ : gs_St) (bk co ru sr nr : Nat) (sc : Int32) (sf : Nat → Int32) (S : Nat → Nat) (B : Nat) (fR : Nat → Option Nat) (Q : List Rl)
    (b0 : σ bk = some (gs_ob 5 [.ref co, .ref ru, .ref sr, .int (nI nr), .int (nI Q.length), .int sc])) (b3 : σ sr = some (gs_ia X 12 sf)) (hs : sOK sf S B) (hBB : B < 2 ^ 19) (b2 : σ ru = some (gs_qa X 2 24 fR)) (hq : Q.length ≤ 24) (hQ : ∀ i R, Q[i]? = some R → ruB R ∧ ∃ a, fR i = some a ∧ ruAt X σ a R) : gs_Mi l X y_RB_raiseHeads b_RB_raiseHeads 5 (some .boolean) ({ frames := 2, cells := 0, slots := 0, locals := 63 }) σ [.ref bk] (fun r σ' => ∃ sf', σ' = gs_up σ sr (gs_ia X 12 sf') ∧ sOK sf' (stp Q S).1 (B + Q.length) ∧ r = bI (stp Q S).2) := by
  refine Met.ofW (cc := b_RB_raiseHeads) (maxL := 5) (ret := (some .boolean)) (by decide) rfl ?_
  intro p e s m args below meth c s₁ B₀ hml hv
  obtain ⟨rfl, hK, hG, hz, hE⟩ := hv
  have hx := B₀.exec
  have hb := B₀.bytes
  have hr := B₀.returns
  have hts := atoms_spec (ws := gs_ws y_RB_raiseHeads b_RB_raiseHeads 5 (some .boolean)) B₀.pre
  have ht : ∀ w ∈ gs_w, w.before _ s = true := fun w h => hts w (List.mem_cons_of_mem _ h)
  have hown : s.vm.findClass R_RB = some m.cls := findClass_of_methodNamed B₀.named
  have hlocks := B₀.notSynchronized
  have hA : ∀ q : Nat, s.heap.size ≤ q → gs_A X q := fun q h => Nat.le_trans hz h
  have hS : va_S (gs_A X) s.heap s.heap [] := va_S.rf
  have hl := lv_entry ([.ref bk]) (n := 5) (Nat.le_of_ble_eq_true rfl)
  rw [lg_entry_eq]
  generalize (lg_sl ([.ref bk]) ++ List.replicate (5 - (lg_sl ([.ref bk])).length) Slot.unset).toArray = ls at hl ⊢
  have hl : lv_has ls 5 [(0, .ref bk)] := hl
  have loop : ∀ (fl : Nat) (i : Nat) (rz : Bool) (sf1 : Nat → Int32) (S1 : Nat → Nat) (σ1 : gs_St), (i ≤ Q.length) → ((S1, rz) = (Q.take i).foldl rs1 (S, false)) → (sOK sf1 S1 (B + i)) → (σ1 = gs_up σ sr (gs_ia X 12 sf1)) → Q.length - i < fl → (σ1 bk = some (gs_ob 5 [.ref co, .ref ru, .ref sr, .int (nI nr), .int (nI Q.length), .int sc])) → (σ1 ru = some (gs_qa X 2 24 fR)) → (σ1 sr = some (gs_ia X 12 sf1)) → ∀ (H : Heap) (locs : List Loc), gs_H X σ1 H → va_S (gs_A X) s.heap H locs → ∀ ls, lv_has ls 5 [(2, .int (nI i)), (1, .int (bI rz)), (0, .ref bk)] → W p l e ({ frames := 2, cells := 0, slots := 0, locals := 63 } : Room) s m ([.ref bk] : List Value).toArray below meth c H locs 0 0 (MQ below (va_Qi (fun r σ' => ∃ sf', σ' = gs_up σ sr (gs_ia X 12 sf') ∧ sOK sf' (stp Q S).1 (B + Q.length) ∧ r = bI (stp Q S).2) (gs_U X) (gs_A X)) ([.ref bk] : List Value).toArray s 0 0 (gs_A X)) (F0 m 4 ls []) := by
    intro fl
    induction fl with
    | zero => intro i rz sf1 S1 σ1 _ _ _ _ h9; omega
    | succ fl ih =>
      intro i rz sf1 S1 σ1 hi hst hs1 eσ1 hmu a0 a2 a3 H locs hG hS ls hl
      refine lv_iload_n hx hb d_RB_raiseHeads_4 rfl (lv_at hl 0 rfl) ?_
      refine lv_aload_n hx hb d_RB_raiseHeads_5 rfl (lv_at hl 2 rfl) ?_
      refine gs_get hx hb ht hown hK hG k_RB a0 4 (by decide) w_42 rfl d_RB_raiseHeads_6 ?_
      refine lv_icmp_ge (tgt := 64) hx hb d_RB_raiseHeads_9 (by decide) (fun c_9 => ?_) (fun c_9 => ?_)
      · have c_9 : Q.length ≤ i := (nI_leI (by omega) (by omega)).mp c_9
        refine lv_iload_n hx hb d_RB_raiseHeads_64 rfl (lv_at hl 1 rfl) ?_
        have hie : i = Q.length := by omega
        rw [hie, List.take_length] at hst
        have e1 : stp Q S = (S1, rz) := hst.symm
        exact gs_iret (v := (bI rz)) hx hb hr (bI_nar _) hK hE hz hG hS hlocks (by first | decide | omega | (dsimp only [headSpec]; omega)) (by first | decide | omega | (dsimp only [headSpec]; omega)) (⟨sf1, eσ1, (by rw [e1, ← hie]; exact hs1), (by rw [e1])⟩) d_RB_raiseHeads_65
      · have c_9 : ¬ Q.length ≤ i := mt (nI_leI (by omega) (by omega)).mpr c_9
        refine lv_aload_n hx hb d_RB_raiseHeads_12 rfl (lv_at hl 2 rfl) ?_
        refine gs_get hx hb ht hown hK hG k_RB a0 1 (by decide) w_34 rfl d_RB_raiseHeads_13 ?_
        refine lv_iload_n hx hb d_RB_raiseHeads_16 rfl (lv_at hl 0 rfl) ?_
        obtain ⟨R, hR9⟩ := get_ex (L := Q) (j := i) (by omega)
        obtain ⟨hRB, a, ha1, ha2⟩ := hQ i R hR9
        have ha3 : ruAt X σ1 a R := by rw [eσ1]; exact ha2.upi b3
        obtain ⟨hd, ho, ck, kf, fH, fC, r0, r1, r2, r3, rh, rk⟩ := id ha3
        have hrl := hRB.1.2.1
        obtain ⟨q1, q2⟩ := hs1 _ hrl
        have hll := lst_le hs1 hRB
        refine gs_aald hx hb hK hG 2 a2 rfl (j := i) (by omega) (by omega) d_RB_raiseHeads_17 ?_
        refine gs_topr (show va_rf (fR i) = .ref a by rw [ha1]; rfl) ?_
        refine gs_get hx hb ht hown hK hG k_RU r0 0 (by decide) w_495 rfl d_RB_raiseHeads_18 ?_
        refine gs_get hx hb ht hown hK hG k_IT r1 1 (by decide) w_450 rfl d_RB_raiseHeads_21 ?_
        refine lv_istore_n (lv' := [(3, .int (nI R.1.1.2.1)), (2, .int (nI i)), (1, .int (bI rz)), (0, .ref bk)]) hx hb d_RB_raiseHeads_24 rfl hl (by decide) rfl (fun ls hl => ?_)
        refine lv_aload_n hx hb d_RB_raiseHeads_25 rfl (lv_at hl 3 rfl) ?_
        refine lv_aload_n hx hb d_RB_raiseHeads_26 rfl (lv_at hl 3 rfl) ?_
        refine gs_get hx hb ht hown hK hG k_RB a0 1 (by decide) w_34 rfl d_RB_raiseHeads_27 ?_
        refine lv_iload_n hx hb d_RB_raiseHeads_30 rfl (lv_at hl 1 rfl) ?_
        refine gs_aald hx hb hK hG 2 a2 rfl (j := i) (by omega) (by omega) d_RB_raiseHeads_31 ?_
        refine gs_topr (show va_rf (fR i) = .ref a by rw [ha1]; rfl) ?_
        refine gs_callVi (As := [.ref a]) (rest := []) ⟨hx, hb, hml, hown, hts⟩ hK hE hz hG hS (c_RB_leastStratum l X σ1 bk co ru sr nr Q.length sc sf1 S1 (B + i) a R a0 a3 hs1 (by omega) ha3 hRB) mV_RB_leastStratum w_361 a0 rfl rfl hl.1 rfl (Nat.le_of_ble_eq_true rfl) ⟨(by first | decide | omega | (dsimp only [headSpec]; omega)), (by first | decide | omega | (dsimp only [headSpec]; omega))⟩ ⟨(by first | decide | omega | (dsimp only [headSpec]; omega)), (by first | decide | omega | (dsimp only [headSpec]; omega))⟩ d_RB_raiseHeads_32 (fun r_32 σ_32 H locs hp_32 hG hS => ?_)
        rw [hp_32.1] at hG
        refine gs_top (show r_32 = (nI (lst S1 R)) from hp_32.2) ?_
        refine lv_istore (lv' := [(4, .int (nI (lst S1 R))), (3, .int (nI R.1.1.2.1)), (2, .int (nI i)), (1, .int (bI rz)), (0, .ref bk)]) hx hb d_RB_raiseHeads_35 hl (by decide) rfl (fun ls hl => ?_)
        refine lv_aload_n hx hb d_RB_raiseHeads_37 rfl (lv_at hl 4 rfl) ?_
        refine gs_get hx hb ht hown hK hG k_RB a0 2 (by decide) w_37 rfl d_RB_raiseHeads_38 ?_
        refine lv_iload_n hx hb d_RB_raiseHeads_41 rfl (lv_at hl 1 rfl) ?_
        refine gs_iald hx hb hK hG a3 (j := R.1.1.2.1) (by omega) (by omega) d_RB_raiseHeads_42 ?_
        refine gs_top (show (sf1 R.1.1.2.1) = (nI (S1 R.1.1.2.1)) from q1) ?_
        refine lv_iload hx hb d_RB_raiseHeads_43 (lv_at hl 0 rfl) ?_
        refine lv_icmp_ge (tgt := 58) hx hb d_RB_raiseHeads_45 (by decide) (fun c_45 => ?_) (fun c_45 => ?_)
        · have c_45 : (lst S1 R) ≤ (S1 R.1.1.2.1) := (nI_leI (by omega) (by omega)).mp c_45
          refine lv_iinc (v := (nI (i + 1))) (lv' := [(2, .int (nI (i + 1))), (4, .int (nI (lst S1 R))), (3, .int (nI R.1.1.2.1)), (1, .int (bI rz)), (0, .ref bk)]) hx hb d_RB_raiseHeads_58 hl (k := 2) rfl (by exact nI_1 _) (by decide) rfl (fun ls hl => ?_)
          refine lv_goto (tgt := 4) hx hb d_RB_raiseHeads_61 (by decide) ?_
          exact ih (i + 1) rz sf1 S1 σ1 (by omega) (by rw [foldl_snoc hR9, ← hst]; unfold rs1; rw [if_neg (show ¬ S1 R.1.1.2.1 < lst S1 R by omega)]) (sOK_mono hs1 (by omega)) eσ1 (by omega) a0 a2 a3 H locs hG hS ls (lv_sub hl [0, 3, 4] rfl)
        · have c_45 : ¬ (lst S1 R) ≤ (S1 R.1.1.2.1) := mt (nI_leI (by omega) (by omega)).mpr c_45
          refine lv_aload_n hx hb d_RB_raiseHeads_48 rfl (lv_at hl 4 rfl) ?_
          refine gs_get hx hb ht hown hK hG k_RB a0 2 (by decide) w_37 rfl d_RB_raiseHeads_49 ?_
          refine lv_iload_n hx hb d_RB_raiseHeads_52 rfl (lv_at hl 1 rfl) ?_
          refine lv_iload hx hb d_RB_raiseHeads_53 (lv_at hl 0 rfl) ?_
          refine gs_iast hx hb hK hG hS a3 (j := R.1.1.2.1) (by omega) (by omega) d_RB_raiseHeads_55 (fun H locs hG hS => ?_)
          have hG : gs_H X (gs_up σ1 sr (gs_ia X 12 (upd sf1 R.1.1.2.1 (nI (lst S1 R))))) H := hG
          obtain ⟨σ_1, eσ_1⟩ : ∃ zq, zq = gs_up σ1 sr (gs_ia X 12 (upd sf1 R.1.1.2.1 (nI (lst S1 R)))) := ⟨_, rfl⟩
          rw [← eσ_1] at hG
          have hc_2 : σ_1 bk = some (gs_ob 5 [.ref co, .ref ru, .ref sr, .int (nI nr), .int (nI Q.length), .int sc]) := by rw [eσ_1]; exact gs_ku (gs_ne a0 a3 (by simp)) a0
          have hc_3 : σ_1 ru = some (gs_qa X 2 24 fR) := by rw [eσ_1]; exact gs_ku (gs_ne a2 a3 (by simp)) a2
          have hc_4 : σ_1 a = some (gs_ob 4 [.ref hd, .ref ho, .ref ck, .int (nI R.2.1.length), .int (nI R.2.2.length), .ref kf]) := by rw [eσ_1]; exact gs_ku (gs_ne r0 a3 (by simp)) r0
          have hc_5 : σ_1 hd = some (gs_ob 2 [.int (nI R.1.1.1), .int (nI R.1.1.2.1), .int (nI R.1.1.2.2), .int (nI R.1.2.1.1), .int (nI R.1.2.1.2.1), .int (nI R.1.2.1.2.2), .int (nI R.1.2.2.1), .int (nI R.1.2.2.2.1), .int R.1.2.2.2.2]) := by rw [eσ_1]; exact gs_ku (gs_ne r1 a3 (by simp)) r1
          have hc_6 : σ_1 sr = some (gs_ia X 12 (upd sf1 R.1.1.2.1 (nI (lst S1 R)))) := by rw [eσ_1]; exact gs_us
          refine lv_iconst (v := nI 1) hx hb d_RB_raiseHeads_56 (by decide) ?_
          refine lv_istore_n (lv' := [(1, .int (nI 1)), (4, .int (nI (lst S1 R))), (3, .int (nI R.1.1.2.1)), (2, .int (nI i)), (0, .ref bk)]) hx hb d_RB_raiseHeads_57 rfl hl (by decide) rfl (fun ls hl => ?_)
          refine lv_iinc (v := (nI (i + 1))) (lv' := [(2, .int (nI (i + 1))), (1, .int (nI 1)), (4, .int (nI (lst S1 R))), (3, .int (nI R.1.1.2.1)), (0, .ref bk)]) hx hb d_RB_raiseHeads_58 hl (k := 3) rfl (by exact nI_1 _) (by decide) rfl (fun ls hl => ?_)
          refine lv_goto (tgt := 4) hx hb d_RB_raiseHeads_61 (by decide) ?_
          exact ih (i + 1) true _ (va_up S1 R.1.1.2.1 (lst S1 R)) σ_1 (by omega) (by rw [foldl_snoc hR9, ← hst]; unfold rs1; rw [if_pos (show S1 R.1.1.2.1 < lst S1 R by omega)]) (sOK_up hs1 (by omega) (by omega)) (by simp only [*, gs_uu]) (by omega) hc_2 hc_3 hc_6 H locs hG hS ls (lv_sub hl [0, 1, 4] rfl)
  refine lv_iconst (v := nI 0) hx hb d_RB_raiseHeads_0 (by decide) ?_
  refine lv_istore_n (lv' := [(1, .int (nI 0)), (0, .ref bk)]) hx hb d_RB_raiseHeads_1 rfl hl (by decide) rfl (fun ls hl => ?_)
  refine lv_iconst (v := nI 0) hx hb d_RB_raiseHeads_2 (by decide) ?_
  refine lv_istore_n (lv' := [(2, .int (nI 0)), (1, .int (nI 0)), (0, .ref bk)]) hx hb d_RB_raiseHeads_3 rfl hl (by decide) rfl (fun ls hl => ?_)
  exact loop (Q.length + 1) 0 false sf S σ (by omega) rfl hs (gs_usame b3).symm (by omega) b0 b2 b3 _ _ hG hS ls (lv_sub hl [0, 1, 2] rfl)
set_option maxHeartbeats 4000000 in
set_option maxRecDepth 100000 in
/-- RuleBook.findStrata -/
theorem c_RB_findStrata (l : Launch) (X : gs_X) (σ : gs_St) (bk co ru sr nr : Nat) (sc : Int32) (sf : Nat → Int32) (S : Nat → Nat) (B : Nat) (fR : Nat → Option Nat) (Q : List Rl)
    (b0 : σ bk = some (gs_ob 5 [.ref co, .ref ru, .ref sr, .int (nI nr), .int (nI Q.length), .int sc])) (b3 : σ sr = some (gs_ia X 12 sf)) (hs : sOK sf S B) (hBB : B < 2 ^ 20) (b2 : σ ru = some (gs_qa X 2 24 fR)) (hq : Q.length ≤ 24) (hQ : ∀ i R, Q[i]? = some R → ruB R ∧ ∃ a, fR i = some a ∧ ruAt X σ a R) (hnr : nr ≤ 12) (hS0 : ∀ j, nr ≤ j → S j = 0) : gs_Mv l X y_RB_findStrata b_RB_findStrata 3 ({ frames := 3, cells := 0, slots := 0, locals := 87 }) σ [.ref bk] (fun σ' => ∃ sf', σ' = gs_up (gs_up σ sr (gs_ia X 12 sf')) bk (gs_ob 5 [.ref co, .ref ru, .ref sr, .int (nI nr), .int (nI Q.length), .int (scI Q nr)]) ∧ sOK sf' (fst Q nr).1 288) := by
  refine Met.ofW (cc := b_RB_findStrata) (maxL := 3) (ret := none) (by decide) rfl ?_
  intro p e s m args below meth c s₁ B₀ hml hv
  obtain ⟨rfl, hK, hG, hz, hE⟩ := hv
  have hx := B₀.exec
  have hb := B₀.bytes
  have hr := B₀.returns
  have hts := atoms_spec (ws := gs_ws y_RB_findStrata b_RB_findStrata 3 none) B₀.pre
  have ht : ∀ w ∈ gs_w, w.before _ s = true := fun w h => hts w (List.mem_cons_of_mem _ h)
  have hown : s.vm.findClass R_RB = some m.cls := findClass_of_methodNamed B₀.named
  have hlocks := B₀.notSynchronized
  have hA : ∀ q : Nat, s.heap.size ≤ q → gs_A X q := fun q h => Nat.le_trans hz h
  have hS : va_S (gs_A X) s.heap s.heap [] := va_S.rf
  have hl := lv_entry ([.ref bk]) (n := 3) (Nat.le_of_ble_eq_true rfl)
  rw [lg_entry_eq]
  generalize (lg_sl ([.ref bk]) ++ List.replicate (3 - (lg_sl ([.ref bk])).length) Slot.unset).toArray = ls at hl ⊢
  have hl : lv_has ls 3 [(0, .ref bk)] := hl
  have hbs : bk ≠ sr := gs_ne b0 b3 (by simp)
  have loop2 : ∀ (fl : Nat) (i : Nat) (rz : Bool) (sf1 : Nat → Int32) (S1 : Nat → Nat) (σ1 : gs_St), (i ≤ nr) → (fst Q nr = itr Q (nr - i) (S1, rz)) → (sOK sf1 S1 (24 * i)) → (σ1 = gs_up σ sr (gs_ia X 12 sf1)) → nr - i < fl → (σ1 bk = some (gs_ob 5 [.ref co, .ref ru, .ref sr, .int (nI nr), .int (nI Q.length), .int sc])) → (σ1 ru = some (gs_qa X 2 24 fR)) → (σ1 sr = some (gs_ia X 12 sf1)) → ∀ (H : Heap) (locs : List Loc), gs_H X σ1 H → va_S (gs_A X) s.heap H locs → ∀ ls, lv_has ls 3 [(2, .int (nI i)), (1, .int (bI rz)), (0, .ref bk)] → W p l e ({ frames := 3, cells := 0, slots := 0, locals := 87 } : Room) s m ([.ref bk] : List Value).toArray below meth c H locs 0 0 (MQ below (va_Qv (fun σ' => ∃ sf', σ' = gs_up (gs_up σ sr (gs_ia X 12 sf')) bk (gs_ob 5 [.ref co, .ref ru, .ref sr, .int (nI nr), .int (nI Q.length), .int (scI Q nr)]) ∧ sOK sf' (fst Q nr).1 288) (gs_U X) (gs_A X)) ([.ref bk] : List Value).toArray s 0 0 (gs_A X)) (F0 m 38 ls []) := by
    intro fl
    induction fl with
    | zero => intro i rz sf1 S1 σ1 _ _ _ _ h9; omega
    | succ fl ih =>
      intro i rz sf1 S1 σ1 hi hst hs1 eσ1 hmu a0 a2 a3 H locs hG hS ls hl
      refine lv_iload_n hx hb d_RB_findStrata_38 rfl (lv_at hl 0 rfl) ?_
      refine lv_aload_n hx hb d_RB_findStrata_39 rfl (lv_at hl 2 rfl) ?_
      refine gs_get hx hb ht hown hK hG k_RB a0 3 (by decide) w_40 rfl d_RB_findStrata_40 ?_
      refine lv_icmp_ge (tgt := 61) hx hb d_RB_findStrata_43 (by decide) (fun c_43 => ?_) (fun c_43 => ?_)
      · have c_43 : nr ≤ i := (nI_leI (by omega) (by omega)).mp c_43
        refine lv_aload_n hx hb d_RB_findStrata_61 rfl (lv_at hl 2 rfl) ?_
        refine lv_iload_n hx hb d_RB_findStrata_62 rfl (lv_at hl 1 rfl) ?_
        refine lv_if_eq (tgt := 71) hx hb d_RB_findStrata_63 (by decide) (fun c_63 => ?_) (fun c_63 => ?_)
        · refine lv_aload_n hx hb d_RB_findStrata_71 rfl (lv_at hl 2 rfl) ?_
          refine gs_callVi (As := []) (rest := [.ref bk]) ⟨hx, hb, hml, hown, hts⟩ hK hE hz hG hS (c_RB_greatestStratum l X σ1 bk co ru sr nr Q.length sc sf1 S1 (24 * i) a0 a3 hs1 (by omega) hnr) mV_RB_greatestStratum w_368 a0 rfl rfl hl.1 rfl (Nat.le_of_ble_eq_true rfl) ⟨(by first | decide | omega | (dsimp only [headSpec]; omega)), (by first | decide | omega | (dsimp only [headSpec]; omega))⟩ ⟨(by first | decide | omega | (dsimp only [headSpec]; omega)), (by first | decide | omega | (dsimp only [headSpec]; omega))⟩ d_RB_findStrata_72 (fun r_72 σ_72 H locs hp_72 hG hS => ?_)
          rw [hp_72.1] at hG
          refine lv_iconst (v := nI 1) hx hb d_RB_findStrata_75 (by decide) ?_
          refine lv_iadd hx hb d_RB_findStrata_76 ?_
          refine gs_top (show (r_72 + (nI 1)) = (nI (mxS S1 nr)) from hp_72.2) ?_
          refine gs_put hx hb ht hown hK hG hS k_RB a0 5 (by decide) w_45 rfl rfl rfl (Nat.le_of_ble_eq_true rfl) d_RB_findStrata_77 (fun H locs hG hS => ?_)
          have hG : gs_H X (gs_up σ1 bk (gs_ob 5 [.ref co, .ref ru, .ref sr, .int (nI nr), .int (nI Q.length), .int (nI (mxS S1 nr))])) H := hG
          obtain ⟨σ_1, eσ_1⟩ : ∃ zq, zq = gs_up σ1 bk (gs_ob 5 [.ref co, .ref ru, .ref sr, .int (nI nr), .int (nI Q.length), .int (nI (mxS S1 nr))]) := ⟨_, rfl⟩
          rw [← eσ_1] at hG
          have hc_2 : σ_1 ru = some (gs_qa X 2 24 fR) := by rw [eσ_1]; exact gs_ku (gs_ne a2 a0 (by simp)) a2
          have hc_3 : σ_1 sr = some (gs_ia X 12 sf1) := by rw [eσ_1]; exact gs_ku (gs_ne a3 a0 (by simp)) a3
          have hc_4 : σ_1 bk = some (gs_ob 5 [.ref co, .ref ru, .ref sr, .int (nI nr), .int (nI Q.length), .int (nI (mxS S1 nr))]) := by rw [eσ_1]; exact gs_us
          have hfin : fst Q nr = (S1, rz) := by
            first
            | (rw [hst, itr_f Q _ _ (bI_0 c_47)]; done)
            | (rw [hst, show nr - i = 0 by omega]; rfl)
          have hsc : scI Q nr = nI (mxS S1 nr) := by unfold scI; rw [hfin]; rw [if_neg (by rw [bI_0 c_63]; simp)]
          exact gs_vret hx hb hr hK hE hz hG hS hlocks (by first | decide | omega | (dsimp only [headSpec]; omega)) (by first | decide | omega | (dsimp only [headSpec]; omega)) (⟨sf1, (by rw [hsc]; simp only [*]), (by rw [hfin]; exact sOK_mono hs1 (by omega))⟩) d_RB_findStrata_80
        · refine lv_bipush (v := -3) hx hb d_RB_findStrata_66 (by decide) ?_
          refine lv_goto (tgt := 77) hx hb d_RB_findStrata_68 (by decide) ?_
          refine gs_put hx hb ht hown hK hG hS k_RB a0 5 (by decide) w_45 rfl rfl rfl (Nat.le_of_ble_eq_true rfl) d_RB_findStrata_77 (fun H locs hG hS => ?_)
          have hG : gs_H X (gs_up σ1 bk (gs_ob 5 [.ref co, .ref ru, .ref sr, .int (nI nr), .int (nI Q.length), .int (-3)])) H := hG
          obtain ⟨σ_5, eσ_5⟩ : ∃ zq, zq = gs_up σ1 bk (gs_ob 5 [.ref co, .ref ru, .ref sr, .int (nI nr), .int (nI Q.length), .int (-3)]) := ⟨_, rfl⟩
          rw [← eσ_5] at hG
          have hc_6 : σ_5 ru = some (gs_qa X 2 24 fR) := by rw [eσ_5]; exact gs_ku (gs_ne a2 a0 (by simp)) a2
          have hc_7 : σ_5 sr = some (gs_ia X 12 sf1) := by rw [eσ_5]; exact gs_ku (gs_ne a3 a0 (by simp)) a3
          have hc_8 : σ_5 bk = some (gs_ob 5 [.ref co, .ref ru, .ref sr, .int (nI nr), .int (nI Q.length), .int (-3)]) := by rw [eσ_5]; exact gs_us
          have hfin : fst Q nr = (S1, rz) := by
            first
            | (rw [hst, itr_f Q _ _ (bI_0 c_47)]; done)
            | (rw [hst, show nr - i = 0 by omega]; rfl)
          have hsc : scI Q nr = -3 := by unfold scI; rw [hfin]; rw [if_pos (bI_n0 c_63)]
          exact gs_vret hx hb hr hK hE hz hG hS hlocks (by first | decide | omega | (dsimp only [headSpec]; omega)) (by first | decide | omega | (dsimp only [headSpec]; omega)) (⟨sf1, (by rw [hsc]; simp only [*]), (by rw [hfin]; exact sOK_mono hs1 (by omega))⟩) d_RB_findStrata_80
      · have c_43 : ¬ nr ≤ i := mt (nI_leI (by omega) (by omega)).mpr c_43
        refine lv_iload_n hx hb d_RB_findStrata_46 rfl (lv_at hl 1 rfl) ?_
        refine lv_if_eq (tgt := 61) hx hb d_RB_findStrata_47 (by decide) (fun c_47 => ?_) (fun c_47 => ?_)
        · refine lv_aload_n hx hb d_RB_findStrata_61 rfl (lv_at hl 2 rfl) ?_
          refine lv_iload_n hx hb d_RB_findStrata_62 rfl (lv_at hl 1 rfl) ?_
          refine lv_if_eq (tgt := 71) hx hb d_RB_findStrata_63 (by decide) (fun c_63 => ?_) (fun c_63 => ?_)
          · refine lv_aload_n hx hb d_RB_findStrata_71 rfl (lv_at hl 2 rfl) ?_
            refine gs_callVi (As := []) (rest := [.ref bk]) ⟨hx, hb, hml, hown, hts⟩ hK hE hz hG hS (c_RB_greatestStratum l X σ1 bk co ru sr nr Q.length sc sf1 S1 (24 * i) a0 a3 hs1 (by omega) hnr) mV_RB_greatestStratum w_368 a0 rfl rfl hl.1 rfl (Nat.le_of_ble_eq_true rfl) ⟨(by first | decide | omega | (dsimp only [headSpec]; omega)), (by first | decide | omega | (dsimp only [headSpec]; omega))⟩ ⟨(by first | decide | omega | (dsimp only [headSpec]; omega)), (by first | decide | omega | (dsimp only [headSpec]; omega))⟩ d_RB_findStrata_72 (fun r_72 σ_72 H locs hp_72 hG hS => ?_)
            rw [hp_72.1] at hG
            refine lv_iconst (v := nI 1) hx hb d_RB_findStrata_75 (by decide) ?_
            refine lv_iadd hx hb d_RB_findStrata_76 ?_
            refine gs_top (show (r_72 + (nI 1)) = (nI (mxS S1 nr)) from hp_72.2) ?_
            refine gs_put hx hb ht hown hK hG hS k_RB a0 5 (by decide) w_45 rfl rfl rfl (Nat.le_of_ble_eq_true rfl) d_RB_findStrata_77 (fun H locs hG hS => ?_)
            have hG : gs_H X (gs_up σ1 bk (gs_ob 5 [.ref co, .ref ru, .ref sr, .int (nI nr), .int (nI Q.length), .int (nI (mxS S1 nr))])) H := hG
            obtain ⟨σ_9, eσ_9⟩ : ∃ zq, zq = gs_up σ1 bk (gs_ob 5 [.ref co, .ref ru, .ref sr, .int (nI nr), .int (nI Q.length), .int (nI (mxS S1 nr))]) := ⟨_, rfl⟩
            rw [← eσ_9] at hG
            have hc_10 : σ_9 ru = some (gs_qa X 2 24 fR) := by rw [eσ_9]; exact gs_ku (gs_ne a2 a0 (by simp)) a2
            have hc_11 : σ_9 sr = some (gs_ia X 12 sf1) := by rw [eσ_9]; exact gs_ku (gs_ne a3 a0 (by simp)) a3
            have hc_12 : σ_9 bk = some (gs_ob 5 [.ref co, .ref ru, .ref sr, .int (nI nr), .int (nI Q.length), .int (nI (mxS S1 nr))]) := by rw [eσ_9]; exact gs_us
            have hfin : fst Q nr = (S1, rz) := by
              first
              | (rw [hst, itr_f Q _ _ (bI_0 c_47)]; done)
              | (rw [hst, show nr - i = 0 by omega]; rfl)
            have hsc : scI Q nr = nI (mxS S1 nr) := by unfold scI; rw [hfin]; rw [if_neg (by rw [bI_0 c_63]; simp)]
            exact gs_vret hx hb hr hK hE hz hG hS hlocks (by first | decide | omega | (dsimp only [headSpec]; omega)) (by first | decide | omega | (dsimp only [headSpec]; omega)) (⟨sf1, (by rw [hsc]; simp only [*]), (by rw [hfin]; exact sOK_mono hs1 (by omega))⟩) d_RB_findStrata_80
          · refine lv_bipush (v := -3) hx hb d_RB_findStrata_66 (by decide) ?_
            refine lv_goto (tgt := 77) hx hb d_RB_findStrata_68 (by decide) ?_
            refine gs_put hx hb ht hown hK hG hS k_RB a0 5 (by decide) w_45 rfl rfl rfl (Nat.le_of_ble_eq_true rfl) d_RB_findStrata_77 (fun H locs hG hS => ?_)
            have hG : gs_H X (gs_up σ1 bk (gs_ob 5 [.ref co, .ref ru, .ref sr, .int (nI nr), .int (nI Q.length), .int (-3)])) H := hG
            obtain ⟨σ_13, eσ_13⟩ : ∃ zq, zq = gs_up σ1 bk (gs_ob 5 [.ref co, .ref ru, .ref sr, .int (nI nr), .int (nI Q.length), .int (-3)]) := ⟨_, rfl⟩
            rw [← eσ_13] at hG
            have hc_14 : σ_13 ru = some (gs_qa X 2 24 fR) := by rw [eσ_13]; exact gs_ku (gs_ne a2 a0 (by simp)) a2
            have hc_15 : σ_13 sr = some (gs_ia X 12 sf1) := by rw [eσ_13]; exact gs_ku (gs_ne a3 a0 (by simp)) a3
            have hc_16 : σ_13 bk = some (gs_ob 5 [.ref co, .ref ru, .ref sr, .int (nI nr), .int (nI Q.length), .int (-3)]) := by rw [eσ_13]; exact gs_us
            have hfin : fst Q nr = (S1, rz) := by
              first
              | (rw [hst, itr_f Q _ _ (bI_0 c_47)]; done)
              | (rw [hst, show nr - i = 0 by omega]; rfl)
            have hsc : scI Q nr = -3 := by unfold scI; rw [hfin]; rw [if_pos (bI_n0 c_63)]
            exact gs_vret hx hb hr hK hE hz hG hS hlocks (by first | decide | omega | (dsimp only [headSpec]; omega)) (by first | decide | omega | (dsimp only [headSpec]; omega)) (⟨sf1, (by rw [hsc]; simp only [*]), (by rw [hfin]; exact sOK_mono hs1 (by omega))⟩) d_RB_findStrata_80
        · refine lv_aload_n hx hb d_RB_findStrata_50 rfl (lv_at hl 2 rfl) ?_
          refine gs_callVi (As := []) (rest := []) ⟨hx, hb, hml, hown, hts⟩ hK hE hz hG hS (c_RB_raiseHeads l X σ1 bk co ru sr nr sc sf1 S1 (24 * i) fR Q a0 a3 hs1 (by omega) a2 hq (fun j R z => by obtain ⟨g1, a, g2, g3⟩ := hQ j R z; exact ⟨g1, a, g2, by rw [eσ1]; exact g3.upi b3⟩)) mV_RB_raiseHeads w_357 a0 rfl rfl hl.1 rfl (Nat.le_of_ble_eq_true rfl) ⟨(by first | decide | omega | (dsimp only [headSpec]; omega)), (by first | decide | omega | (dsimp only [headSpec]; omega))⟩ ⟨(by first | decide | omega | (dsimp only [headSpec]; omega)), (by first | decide | omega | (dsimp only [headSpec]; omega))⟩ d_RB_findStrata_51 (fun r_51 σ_51 H locs hp_51 hG hS => ?_)
          obtain ⟨sf2, ev2, hs2, er2⟩ := hp_51
          rw [ev2] at hG
          refine gs_top er2 ?_
          have hG : gs_H X (gs_up σ1 sr (gs_ia X 12 sf2)) H := hG
          obtain ⟨σ_17, eσ_17⟩ : ∃ zq, zq = gs_up σ1 sr (gs_ia X 12 sf2) := ⟨_, rfl⟩
          rw [← eσ_17] at hG
          have hc_18 : σ_17 bk = some (gs_ob 5 [.ref co, .ref ru, .ref sr, .int (nI nr), .int (nI Q.length), .int sc]) := by rw [eσ_17]; exact gs_ku (gs_ne a0 a3 (by simp)) a0
          have hc_19 : σ_17 ru = some (gs_qa X 2 24 fR) := by rw [eσ_17]; exact gs_ku (gs_ne a2 a3 (by simp)) a2
          have hc_20 : σ_17 sr = some (gs_ia X 12 sf2) := by rw [eσ_17]; exact gs_us
          refine lv_istore_n (lv' := [(1, .int (bI (stp Q S1).2)), (2, .int (nI i)), (0, .ref bk)]) hx hb d_RB_findStrata_54 rfl hl (by decide) rfl (fun ls hl => ?_)
          refine lv_iinc (v := (nI (i + 1))) (lv' := [(2, .int (nI (i + 1))), (1, .int (bI (stp Q S1).2)), (0, .ref bk)]) hx hb d_RB_findStrata_55 hl (k := 1) rfl (by exact nI_1 _) (by decide) rfl (fun ls hl => ?_)
          refine lv_goto (tgt := 38) hx hb d_RB_findStrata_58 (by decide) ?_
          have e1 := bI_n0 c_47
          obtain ⟨k2, hk2⟩ : ∃ k2, nr - i = k2 + 1 := ⟨nr - i - 1, by omega⟩
          exact ih (i + 1) (stp Q S1).2 sf2 (stp Q S1).1 σ_17 (by omega) (by rw [hst, hk2, show nr - (i + 1) = k2 by omega]; simp only [itr]; rw [if_pos e1]) (sOK_mono hs2 (by omega)) (by simp only [*, gs_uu]) (by omega) hc_18 hc_19 hc_20 H locs hG hS ls (lv_sub hl [0, 1, 2] rfl)
  have loop1 : ∀ (fl : Nat) (i : Nat) (sf1 : Nat → Int32) (σ1 : gs_St), (i ≤ nr) → (sOK sf1 (fun j => if j < i then 0 else S j) B) → (σ1 = gs_up σ sr (gs_ia X 12 sf1)) → nr - i < fl → (σ1 bk = some (gs_ob 5 [.ref co, .ref ru, .ref sr, .int (nI nr), .int (nI Q.length), .int sc])) → (σ1 ru = some (gs_qa X 2 24 fR)) → (σ1 sr = some (gs_ia X 12 sf1)) → ∀ (H : Heap) (locs : List Loc), gs_H X σ1 H → va_S (gs_A X) s.heap H locs → ∀ ls, lv_has ls 3 [(1, .int (nI i)), (0, .ref bk)] → W p l e ({ frames := 3, cells := 0, slots := 0, locals := 87 } : Room) s m ([.ref bk] : List Value).toArray below meth c H locs 0 0 (MQ below (va_Qv (fun σ' => ∃ sf', σ' = gs_up (gs_up σ sr (gs_ia X 12 sf')) bk (gs_ob 5 [.ref co, .ref ru, .ref sr, .int (nI nr), .int (nI Q.length), .int (scI Q nr)]) ∧ sOK sf' (fst Q nr).1 288) (gs_U X) (gs_A X)) ([.ref bk] : List Value).toArray s 0 0 (gs_A X)) (F0 m 2 ls []) := by
    intro fl
    induction fl with
    | zero => intro i sf1 σ1 _ _ _ h9; omega
    | succ fl ih =>
      intro i sf1 σ1 hi hs1 eσ1 hmu a0 a2 a3 H locs hG hS ls hl
      refine lv_iload_n hx hb d_RB_findStrata_2 rfl (lv_at hl 0 rfl) ?_
      refine lv_aload_n hx hb d_RB_findStrata_3 rfl (lv_at hl 1 rfl) ?_
      refine gs_get hx hb ht hown hK hG k_RB a0 3 (by decide) w_40 rfl d_RB_findStrata_4 ?_
      refine lv_icmp_ge (tgt := 23) hx hb d_RB_findStrata_7 (by decide) (fun c_7 => ?_) (fun c_7 => ?_)
      · have c_7 : nr ≤ i := (nI_leI (by omega) (by omega)).mp c_7
        refine lv_aload_n hx hb d_RB_findStrata_23 rfl (lv_at hl 1 rfl) ?_
        refine gs_get hx hb ht hown hK hG k_RB a0 3 (by decide) w_40 rfl d_RB_findStrata_24 ?_
        refine lv_if_le (tgt := 34) hx hb d_RB_findStrata_27 (by decide) (fun c_27 => ?_) (fun c_27 => ?_)
        · have c_27 : nr = 0 := by have := gs_le0 (a := nr) (by omega); exact this.mp c_27
          refine lv_iconst (v := nI 0) hx hb d_RB_findStrata_34 (by decide) ?_
          refine lv_istore_n (lv' := [(1, .int (nI 0)), (0, .ref bk)]) hx hb d_RB_findStrata_35 rfl hl (by decide) rfl (fun ls hl => ?_)
          refine lv_iconst (v := nI 0) hx hb d_RB_findStrata_36 (by decide) ?_
          refine lv_istore_n (lv' := [(2, .int (nI 0)), (1, .int (nI 0)), (0, .ref bk)]) hx hb d_RB_findStrata_37 rfl hl (by decide) rfl (fun ls hl => ?_)
          have hz0 : (fun j => if j < i then 0 else S j) = (fun _ => 0 : Nat → Nat) := by
            funext j
            by_cases e : j < i
            · rw [if_pos e]
            · rw [if_neg e]; exact hS0 j (by omega)
          have hs2 : sOK sf1 (fun _ => 0) 0 := by rw [hz0] at hs1; exact fun j hj => ⟨(hs1 j hj).1, Nat.le_refl _⟩
          exact loop2 (nr + 1) 0 false sf1 (fun _ => 0) σ1 (by omega) (by unfold fst; rw [decide_eq_false (by omega)]; rfl) hs2 eσ1 (by omega) a0 a2 a3 H locs hG hS ls (lv_sub hl [0, 1, 2] rfl)
        · have c_27 : 0 < nr := by have := gs_le0 (a := nr) (by omega); have h9 := mt this.mpr c_27; omega
          refine lv_iconst (v := nI 1) hx hb d_RB_findStrata_30 (by decide) ?_
          refine lv_goto (tgt := 35) hx hb d_RB_findStrata_31 (by decide) ?_
          refine lv_istore_n (lv' := [(1, .int (nI 1)), (0, .ref bk)]) hx hb d_RB_findStrata_35 rfl hl (by decide) rfl (fun ls hl => ?_)
          refine lv_iconst (v := nI 0) hx hb d_RB_findStrata_36 (by decide) ?_
          refine lv_istore_n (lv' := [(2, .int (nI 0)), (1, .int (nI 1)), (0, .ref bk)]) hx hb d_RB_findStrata_37 rfl hl (by decide) rfl (fun ls hl => ?_)
          have hz0 : (fun j => if j < i then 0 else S j) = (fun _ => 0 : Nat → Nat) := by
            funext j
            by_cases e : j < i
            · rw [if_pos e]
            · rw [if_neg e]; exact hS0 j (by omega)
          have hs2 : sOK sf1 (fun _ => 0) 0 := by rw [hz0] at hs1; exact fun j hj => ⟨(hs1 j hj).1, Nat.le_refl _⟩
          exact loop2 (nr + 1) 0 true sf1 (fun _ => 0) σ1 (by omega) (by unfold fst; rw [decide_eq_true (by omega)]; rfl) hs2 eσ1 (by omega) a0 a2 a3 H locs hG hS ls (lv_sub hl [0, 1, 2] rfl)
      · have c_7 : ¬ nr ≤ i := mt (nI_leI (by omega) (by omega)).mpr c_7
        refine lv_aload_n hx hb d_RB_findStrata_10 rfl (lv_at hl 1 rfl) ?_
        refine gs_get hx hb ht hown hK hG k_RB a0 2 (by decide) w_37 rfl d_RB_findStrata_11 ?_
        refine lv_iload_n hx hb d_RB_findStrata_14 rfl (lv_at hl 0 rfl) ?_
        refine lv_iconst (v := nI 0) hx hb d_RB_findStrata_15 (by decide) ?_
        refine gs_iast hx hb hK hG hS a3 (j := i) (by omega) (by omega) d_RB_findStrata_16 (fun H locs hG hS => ?_)
        have hG : gs_H X (gs_up σ1 sr (gs_ia X 12 (upd sf1 i (nI 0)))) H := hG
        obtain ⟨σ_1, eσ_1⟩ : ∃ zq, zq = gs_up σ1 sr (gs_ia X 12 (upd sf1 i (nI 0))) := ⟨_, rfl⟩
        rw [← eσ_1] at hG
        have hc_2 : σ_1 bk = some (gs_ob 5 [.ref co, .ref ru, .ref sr, .int (nI nr), .int (nI Q.length), .int sc]) := by rw [eσ_1]; exact gs_ku (gs_ne a0 a3 (by simp)) a0
        have hc_3 : σ_1 ru = some (gs_qa X 2 24 fR) := by rw [eσ_1]; exact gs_ku (gs_ne a2 a3 (by simp)) a2
        have hc_4 : σ_1 sr = some (gs_ia X 12 (upd sf1 i (nI 0))) := by rw [eσ_1]; exact gs_us
        refine lv_iinc (v := (nI (i + 1))) (lv' := [(1, .int (nI (i + 1))), (0, .ref bk)]) hx hb d_RB_findStrata_17 hl (k := 0) rfl (by exact nI_1 _) (by decide) rfl (fun ls hl => ?_)
        refine lv_goto (tgt := 2) hx hb d_RB_findStrata_20 (by decide) ?_
        exact ih (i + 1) _ σ_1 (by omega) (sOK_z hs1) (by simp only [*, gs_uu]) (by omega) hc_2 hc_3 hc_4 H locs hG hS ls (lv_sub hl [0, 1] rfl)
  refine lv_iconst (v := nI 0) hx hb d_RB_findStrata_0 (by decide) ?_
  refine lv_istore_n (lv' := [(1, .int (nI 0)), (0, .ref bk)]) hx hb d_RB_findStrata_1 rfl hl (by decide) rfl (fun ls hl => ?_)
  exact loop1 (nr + 1) 0 sf σ (by omega) (fun j hj => by simpa using hs j hj) (gs_usame b3).symm (by omega) b0 b2 b3 _ _ hG hS ls (lv_sub hl [0, 1] rfl)
set_option maxHeartbeats 4000000 in
set_option maxRecDepth 100000 in
/-- RuleBook.addRelation -/
theorem c_RB_addRelation (l : Launch) (X : gs_X) (σ : gs_St) (bk co ru sr nr : Nat) (sc : Int32) (sf : Nat → Int32) (S : Nat → Nat) (B : Nat) (fR : Nat → Option Nat) (Q : List Rl) (cf : Nat → Int32) (wd : Nat)
    (b0 : σ bk = some (gs_ob 5 [.ref co, .ref ru, .ref sr, .int (nI nr), .int (nI Q.length), .int sc])) (b3 : σ sr = some (gs_ia X 12 sf)) (hs : sOK sf S B) (hBB : B < 2 ^ 20) (b2 : σ ru = some (gs_qa X 2 24 fR)) (hq : Q.length ≤ 24) (hQ : ∀ i R, Q[i]? = some R → ruB R ∧ ∃ a, fR i = some a ∧ ruAt X σ a R) (b1 : σ co = some (gs_ia X 12 cf)) (ncs : co ≠ sr) (hnr : nr < 12) (hS0 : ∀ j, nr ≤ j → S j = 0) : gs_Mv l X y_RB_addRelation b_RB_addRelation 2 ({ frames := 4, cells := 0, slots := 0, locals := 109 }) σ [.ref bk, .int (nI wd)] (fun σ' => ∃ sf', σ' = gs_up (gs_up (gs_up σ co (gs_ia X 12 (upd cf nr (nI wd)))) sr (gs_ia X 12 sf')) bk (gs_ob 5 [.ref co, .ref ru, .ref sr, .int (nI (nr + 1)), .int (nI Q.length), .int (scI Q (nr + 1))]) ∧ sOK sf' (fst Q (nr + 1)).1 288) := by
  refine Met.ofW (cc := b_RB_addRelation) (maxL := 2) (ret := none) (by decide) rfl ?_
  intro p e s m args below meth c s₁ B₀ hml hv
  obtain ⟨rfl, hK, hG, hz, hE⟩ := hv
  have hx := B₀.exec
  have hb := B₀.bytes
  have hr := B₀.returns
  have hts := atoms_spec (ws := gs_ws y_RB_addRelation b_RB_addRelation 2 none) B₀.pre
  have ht : ∀ w ∈ gs_w, w.before _ s = true := fun w h => hts w (List.mem_cons_of_mem _ h)
  have hown : s.vm.findClass R_RB = some m.cls := findClass_of_methodNamed B₀.named
  have hlocks := B₀.notSynchronized
  have hA : ∀ q : Nat, s.heap.size ≤ q → gs_A X q := fun q h => Nat.le_trans hz h
  have hS : va_S (gs_A X) s.heap s.heap [] := va_S.rf
  have hl := lv_entry ([.ref bk, .int (nI wd)]) (n := 2) (Nat.le_of_ble_eq_true rfl)
  rw [lg_entry_eq]
  generalize (lg_sl ([.ref bk, .int (nI wd)]) ++ List.replicate (2 - (lg_sl ([.ref bk, .int (nI wd)])).length) Slot.unset).toArray = ls at hl ⊢
  have hl : lv_has ls 2 [(0, .ref bk), (1, .int (nI wd))] := hl
  refine lv_aload_n hx hb d_RB_addRelation_0 rfl (lv_at hl 0 rfl) ?_
  refine gs_get hx hb ht hown hK hG k_RB b0 3 (by decide) w_40 rfl d_RB_addRelation_1 ?_
  refine lv_bipush (v := nI 12) hx hb d_RB_addRelation_4 (by decide) ?_
  refine lv_icmp_ge (tgt := 33) hx hb d_RB_addRelation_6 (by decide) (fun c_6 => ?_) (fun c_6 => ?_)
  · have c_6 : 12 ≤ nr := (nI_leI (by omega) (by omega)).mp c_6
    exact absurd c_6 (by omega)
  · have c_6 : ¬ 12 ≤ nr := mt (nI_leI (by omega) (by omega)).mpr c_6
    refine lv_aload_n hx hb d_RB_addRelation_9 rfl (lv_at hl 0 rfl) ?_
    refine gs_get hx hb ht hown hK hG k_RB b0 0 (by decide) w_32 rfl d_RB_addRelation_10 ?_
    refine lv_aload_n hx hb d_RB_addRelation_13 rfl (lv_at hl 0 rfl) ?_
    refine gs_get hx hb ht hown hK hG k_RB b0 3 (by decide) w_40 rfl d_RB_addRelation_14 ?_
    refine lv_iload_n hx hb d_RB_addRelation_17 rfl (lv_at hl 1 rfl) ?_
    refine gs_iast hx hb hK hG hS b1 (j := nr) (by omega) (by omega) d_RB_addRelation_18 (fun H locs hG hS => ?_)
    have hG : gs_H X (gs_up σ co (gs_ia X 12 (upd cf nr (nI wd)))) H := hG
    obtain ⟨σ_1, eσ_1⟩ : ∃ zq, zq = gs_up σ co (gs_ia X 12 (upd cf nr (nI wd))) := ⟨_, rfl⟩
    rw [← eσ_1] at hG
    have hc_2 : σ_1 bk = some (gs_ob 5 [.ref co, .ref ru, .ref sr, .int (nI nr), .int (nI Q.length), .int sc]) := by rw [eσ_1]; exact gs_ku (gs_ne b0 b1 (by simp)) b0
    have hc_3 : σ_1 sr = some (gs_ia X 12 sf) := by rw [eσ_1]; exact gs_ku (Ne.symm ncs) b3
    have hc_4 : σ_1 ru = some (gs_qa X 2 24 fR) := by rw [eσ_1]; exact gs_ku (gs_ne b2 b1 (by simp)) b2
    have hc_5 : σ_1 co = some (gs_ia X 12 (upd cf nr (nI wd))) := by rw [eσ_1]; exact gs_us
    refine lv_aload_n hx hb d_RB_addRelation_19 rfl (lv_at hl 0 rfl) ?_
    refine lv_dup hx hb d_RB_addRelation_20 rfl ?_
    refine gs_get hx hb ht hown hK hG k_RB hc_2 3 (by decide) w_40 rfl d_RB_addRelation_21 ?_
    refine lv_iconst (v := nI 1) hx hb d_RB_addRelation_24 (by decide) ?_
    refine lv_iadd hx hb d_RB_addRelation_25 ?_
    refine gs_top (nI_add nr 1) ?_
    refine gs_put hx hb ht hown hK hG hS k_RB hc_2 3 (by decide) w_40 rfl rfl rfl (Nat.le_of_ble_eq_true rfl) d_RB_addRelation_26 (fun H locs hG hS => ?_)
    have hG : gs_H X (gs_up σ_1 bk (gs_ob 5 [.ref co, .ref ru, .ref sr, .int (nI (nr + 1)), .int (nI Q.length), .int sc])) H := hG
    obtain ⟨σ_6, eσ_6⟩ : ∃ zq, zq = gs_up σ_1 bk (gs_ob 5 [.ref co, .ref ru, .ref sr, .int (nI (nr + 1)), .int (nI Q.length), .int sc]) := ⟨_, rfl⟩
    rw [← eσ_6] at hG
    have hc_7 : σ_6 sr = some (gs_ia X 12 sf) := by rw [eσ_6]; exact gs_ku (gs_ne hc_3 hc_2 (by simp)) hc_3
    have hc_8 : σ_6 ru = some (gs_qa X 2 24 fR) := by rw [eσ_6]; exact gs_ku (gs_ne hc_4 hc_2 (by simp)) hc_4
    have hc_9 : σ_6 co = some (gs_ia X 12 (upd cf nr (nI wd))) := by rw [eσ_6]; exact gs_ku (gs_ne hc_5 hc_2 (by simp)) hc_5
    have hc_10 : σ_6 bk = some (gs_ob 5 [.ref co, .ref ru, .ref sr, .int (nI (nr + 1)), .int (nI Q.length), .int sc]) := by rw [eσ_6]; exact gs_us
    refine lv_aload_n hx hb d_RB_addRelation_29 rfl (lv_at hl 0 rfl) ?_
    refine gs_callVv (As := []) (rest := []) ⟨hx, hb, hml, hown, hts⟩ hK hE hz hG hS (c_RB_findStrata l X σ_6 bk co ru sr (nr + 1) sc sf S B fR Q hc_10 hc_7 hs hBB hc_8 (by first | omega | (simp; omega)) (fun j R z => by obtain ⟨g1, a, g2, g3⟩ := hQ j R z; exact ⟨g1, a, g2, by simp only [*]; exact (g3.upi b1).upo (gs_ku (gs_ne b0 b1 (by simp)) b0) (by decide) (by decide)⟩) (by omega) (fun j hj => hS0 j (by omega))) mV_RB_findStrata w_353 hc_10 rfl rfl hl.1 rfl (Nat.le_of_ble_eq_true rfl) ⟨(by first | decide | omega | (dsimp only [headSpec]; omega)), (by first | decide | omega | (dsimp only [headSpec]; omega))⟩ ⟨(by first | decide | omega | (dsimp only [headSpec]; omega)), (by first | decide | omega | (dsimp only [headSpec]; omega))⟩ d_RB_addRelation_30 (fun σ_30 H locs hp_30 hG hS => ?_)
    obtain ⟨sf2, ev2, hs2⟩ := hp_30
    rw [ev2] at hG
    exact gs_vret hx hb hr hK hE hz hG hS hlocks (by first | decide | omega | (dsimp only [headSpec]; omega)) (by first | decide | omega | (dsimp only [headSpec]; omega)) (⟨sf2, (by simp only [*]; exact rb_fold (gs_ne b0 b3 (by simp))), hs2⟩) d_RB_addRelation_33
set_option maxHeartbeats 4000000 in
set_option maxRecDepth 100000 in
/-- RuleBook.addRule -/
theorem c_RB_addRule (l : Launch) (X : gs_X) (σ : gs_St) (bk co ru sr nr : Nat) (sc : Int32) (sf : Nat → Int32) (S : Nat → Nat) (B : Nat) (fR : Nat → Option Nat) (Q : List Rl) (a : Nat) (R : Rl)
    (b0 : σ bk = some (gs_ob 5 [.ref co, .ref ru, .ref sr, .int (nI nr), .int (nI Q.length), .int sc])) (b3 : σ sr = some (gs_ia X 12 sf)) (hs : sOK sf S B) (hBB : B < 2 ^ 20) (b2 : σ ru = some (gs_qa X 2 24 fR)) (hq : Q.length < 24) (hQ : ∀ i R, Q[i]? = some R → ruB R ∧ ∃ a, fR i = some a ∧ ruAt X σ a R) (hnr : nr ≤ 12) (hS0 : ∀ j, nr ≤ j → S j = 0) (hX : X.2.1 3 ≠ X.2.1 2) (hR : ruAt X σ a R) (hRB : ruB R) : gs_Mv l X y_RB_addRule b_RB_addRule 2 ({ frames := 4, cells := 0, slots := 0, locals := 109 }) σ [.ref bk, .ref a] (fun σ' => ∃ sf', σ' = gs_up (gs_up (gs_up σ ru (gs_qa X 2 24 (va_up fR Q.length (some a)))) sr (gs_ia X 12 sf')) bk (gs_ob 5 [.ref co, .ref ru, .ref sr, .int (nI nr), .int (nI ((Q ++ [R]).length)), .int (scI (Q ++ [R]) nr)]) ∧ sOK sf' (fst (Q ++ [R]) nr).1 288) := by
  refine Met.ofW (cc := b_RB_addRule) (maxL := 2) (ret := none) (by decide) rfl ?_
  intro p e s m args below meth c s₁ B₀ hml hv
  obtain ⟨rfl, hK, hG, hz, hE⟩ := hv
  have hx := B₀.exec
  have hb := B₀.bytes
  have hr := B₀.returns
  have hts := atoms_spec (ws := gs_ws y_RB_addRule b_RB_addRule 2 none) B₀.pre
  have ht : ∀ w ∈ gs_w, w.before _ s = true := fun w h => hts w (List.mem_cons_of_mem _ h)
  have hown : s.vm.findClass R_RB = some m.cls := findClass_of_methodNamed B₀.named
  have hlocks := B₀.notSynchronized
  have hA : ∀ q : Nat, s.heap.size ≤ q → gs_A X q := fun q h => Nat.le_trans hz h
  have hS : va_S (gs_A X) s.heap s.heap [] := va_S.rf
  have hl := lv_entry ([.ref bk, .ref a]) (n := 2) (Nat.le_of_ble_eq_true rfl)
  rw [lg_entry_eq]
  generalize (lg_sl ([.ref bk, .ref a]) ++ List.replicate (2 - (lg_sl ([.ref bk, .ref a])).length) Slot.unset).toArray = ls at hl ⊢
  have hl : lv_has ls 2 [(0, .ref bk), (1, .ref a)] := hl
  obtain ⟨hd, ho, ck, kf, fH, fC, r0, r1, r2, r3, rh, rk⟩ := id hR
  have hlen : (Q ++ [R]).length = Q.length + 1 := by simp
  refine lv_aload_n hx hb d_RB_addRule_0 rfl (lv_at hl 0 rfl) ?_
  refine gs_get hx hb ht hown hK hG k_RB b0 4 (by decide) w_42 rfl d_RB_addRule_1 ?_
  refine lv_bipush (v := nI 24) hx hb d_RB_addRule_4 (by decide) ?_
  refine lv_icmp_ge (tgt := 33) hx hb d_RB_addRule_6 (by decide) (fun c_6 => ?_) (fun c_6 => ?_)
  · have c_6 : 24 ≤ Q.length := (nI_leI (by omega) (by omega)).mp c_6
    exact absurd c_6 (by omega)
  · have c_6 : ¬ 24 ≤ Q.length := mt (nI_leI (by omega) (by omega)).mpr c_6
    refine lv_aload_n hx hb d_RB_addRule_9 rfl (lv_at hl 0 rfl) ?_
    refine gs_get hx hb ht hown hK hG k_RB b0 1 (by decide) w_34 rfl d_RB_addRule_10 ?_
    refine lv_aload_n hx hb d_RB_addRule_13 rfl (lv_at hl 0 rfl) ?_
    refine gs_get hx hb ht hown hK hG k_RB b0 4 (by decide) w_42 rfl d_RB_addRule_14 ?_
    refine lv_aload_n hx hb d_RB_addRule_17 rfl (lv_at hl 1 rfl) ?_
    refine gs_aast hx hb hK hG hS 2 4 b2 rfl r0 rfl (j := Q.length) (by omega) (by omega) d_RB_addRule_18 (fun H locs hG hS => ?_)
    have hG : gs_H X (gs_up σ ru (gs_qa X 2 24 (va_up fR Q.length (some a)))) H := hG
    obtain ⟨σ_1, eσ_1⟩ : ∃ zq, zq = gs_up σ ru (gs_qa X 2 24 (va_up fR Q.length (some a))) := ⟨_, rfl⟩
    rw [← eσ_1] at hG
    have hc_2 : σ_1 bk = some (gs_ob 5 [.ref co, .ref ru, .ref sr, .int (nI nr), .int (nI Q.length), .int sc]) := by rw [eσ_1]; exact gs_ku (gs_ne b0 b2 (by simp)) b0
    have hc_3 : σ_1 sr = some (gs_ia X 12 sf) := by rw [eσ_1]; exact gs_ku (gs_ne b3 b2 (by simp)) b3
    have hc_4 : σ_1 a = some (gs_ob 4 [.ref hd, .ref ho, .ref ck, .int (nI R.2.1.length), .int (nI R.2.2.length), .ref kf]) := by rw [eσ_1]; exact gs_ku (gs_ne r0 b2 (by simp)) r0
    have hc_5 : σ_1 ru = some (gs_qa X 2 24 (va_up fR Q.length (some a))) := by rw [eσ_1]; exact gs_us
    refine lv_aload_n hx hb d_RB_addRule_19 rfl (lv_at hl 0 rfl) ?_
    refine lv_dup hx hb d_RB_addRule_20 rfl ?_
    refine gs_get hx hb ht hown hK hG k_RB hc_2 4 (by decide) w_42 rfl d_RB_addRule_21 ?_
    refine lv_iconst (v := nI 1) hx hb d_RB_addRule_24 (by decide) ?_
    refine lv_iadd hx hb d_RB_addRule_25 ?_
    refine gs_top (nI_add Q.length 1) ?_
    refine gs_put hx hb ht hown hK hG hS k_RB hc_2 4 (by decide) w_42 rfl rfl rfl (Nat.le_of_ble_eq_true rfl) d_RB_addRule_26 (fun H locs hG hS => ?_)
    have hG : gs_H X (gs_up σ_1 bk (gs_ob 5 [.ref co, .ref ru, .ref sr, .int (nI nr), .int (nI (Q.length + 1)), .int sc])) H := hG
    obtain ⟨σ_6, eσ_6⟩ : ∃ zq, zq = gs_up σ_1 bk (gs_ob 5 [.ref co, .ref ru, .ref sr, .int (nI nr), .int (nI (Q.length + 1)), .int sc]) := ⟨_, rfl⟩
    rw [← eσ_6] at hG
    have hc_7 : σ_6 sr = some (gs_ia X 12 sf) := by rw [eσ_6]; exact gs_ku (gs_ne hc_3 hc_2 (by simp)) hc_3
    have hc_8 : σ_6 a = some (gs_ob 4 [.ref hd, .ref ho, .ref ck, .int (nI R.2.1.length), .int (nI R.2.2.length), .ref kf]) := by rw [eσ_6]; exact gs_ku (gs_ne hc_4 hc_2 (by simp)) hc_4
    have hc_9 : σ_6 ru = some (gs_qa X 2 24 (va_up fR Q.length (some a))) := by rw [eσ_6]; exact gs_ku (gs_ne hc_5 hc_2 (by simp)) hc_5
    have hc_10 : σ_6 bk = some (gs_ob 5 [.ref co, .ref ru, .ref sr, .int (nI nr), .int (nI (Q.length + 1)), .int sc]) := by rw [eσ_6]; exact gs_us
    have hz9 : ∀ a0 R0, ruAt X σ a0 R0 → ruAt X σ_6 a0 R0 := fun a0 R0 z => by simp only [*]; exact (z.upq b2 hX).upo (gs_ku (gs_ne b0 b2 (by simp)) b0) (by decide) (by decide)
    have hQ2 : ∀ j R0, (Q ++ [R])[j]? = some R0 → ruB R0 ∧ ∃ a0, (va_up fR Q.length (some a)) j = some a0 ∧ ruAt X σ_6 a0 R0 := fun j R0 z => by
      by_cases e : j < Q.length
      · rw [List.getElem?_append_left e] at z
        obtain ⟨g1, a0, g2, g3⟩ := hQ j R0 z
        exact ⟨g1, a0, by simp only [va_up, if_neg (show j ≠ Q.length by omega)]; exact g2, hz9 _ _ g3⟩
      · have e2 : j = Q.length := by have := (List.getElem?_eq_some_iff.mp z).1; simp at this; omega
        subst e2
        simp at z
        subst z
        exact ⟨hRB, a, by simp [va_up], hz9 _ _ hR⟩
    rw [← hlen] at hc_10
    refine lv_aload_n hx hb d_RB_addRule_29 rfl (lv_at hl 0 rfl) ?_
    refine gs_callVv (As := []) (rest := []) ⟨hx, hb, hml, hown, hts⟩ hK hE hz hG hS (c_RB_findStrata l X σ_6 bk co ru sr nr sc sf S B (va_up fR Q.length (some a)) (Q ++ [R]) hc_10 hc_7 hs hBB hc_9 (by first | omega | (simp; omega)) hQ2 (by omega) (fun j hj => hS0 j (by omega))) mV_RB_findStrata w_353 hc_10 rfl rfl hl.1 rfl (Nat.le_of_ble_eq_true rfl) ⟨(by first | decide | omega | (dsimp only [headSpec]; omega)), (by first | decide | omega | (dsimp only [headSpec]; omega))⟩ ⟨(by first | decide | omega | (dsimp only [headSpec]; omega)), (by first | decide | omega | (dsimp only [headSpec]; omega))⟩ d_RB_addRule_30 (fun σ_30 H locs hp_30 hG hS => ?_)
    obtain ⟨sf2, ev2, hs2⟩ := hp_30
    rw [ev2] at hG
    exact gs_vret hx hb hr hK hE hz hG hS hlocks (by first | decide | omega | (dsimp only [headSpec]; omega)) (by first | decide | omega | (dsimp only [headSpec]; omega)) (⟨sf2, (by simp only [*]; exact rb_fold (gs_ne b0 b3 (by simp))), hs2⟩) d_RB_addRule_33
set_option maxHeartbeats 4000000 in
set_option maxRecDepth 100000 in
/-- RuleBook() -/
theorem c_RB_init (l : Launch) (X : gs_X) (σ : gs_St) (bk : Nat)
    (h0 : σ bk = some (gs_ob 5 [.null, .null, .null, .int 0, .int 0, .int 0])) : gs_Mv l X y_RB_init b_RB_init 1 ({ frames := 1, cells := 3, slots := 48, locals := 12 }) σ [.ref bk] (fun σ' => ∃ co ru sr, σ co = none ∧ σ ru = none ∧ σ sr = none ∧ co ≠ ru ∧ co ≠ sr ∧ ru ≠ sr ∧ σ' = gs_up (gs_up (gs_up (gs_up σ co (gs_ia X 12 (fun _ => 0))) ru (gs_qa X 2 24 (fun _ => none))) sr (gs_ia X 12 (fun _ => 0))) bk (gs_ob 5 [.ref co, .ref ru, .ref sr, .int (nI 0), .int (nI 0), .int (nI 0)])) := by
  refine Met.ofW (cc := b_RB_init) (maxL := 1) (ret := none) (by decide) rfl ?_
  intro p e s m args below meth c s₁ B₀ hml hv
  obtain ⟨rfl, hK, hG, hz, hE⟩ := hv
  have hx := B₀.exec
  have hb := B₀.bytes
  have hr := B₀.returns
  have hts := atoms_spec (ws := gs_ws y_RB_init b_RB_init 1 none) B₀.pre
  have ht : ∀ w ∈ gs_w, w.before _ s = true := fun w h => hts w (List.mem_cons_of_mem _ h)
  have hown : s.vm.findClass R_RB = some m.cls := findClass_of_methodNamed B₀.named
  have hlocks := B₀.notSynchronized
  have hin : meth.name = "<init>" := (name_of_methodNamed B₀.named B₀.method).1
  have hA : ∀ q : Nat, s.heap.size ≤ q → gs_A X q := fun q h => Nat.le_trans hz h
  have hS : va_S (gs_A X) s.heap s.heap [] := va_S.rf
  have hl := lv_entry ([.ref bk]) (n := 1) (Nat.le_of_ble_eq_true rfl)
  rw [lg_entry_eq]
  generalize (lg_sl ([.ref bk]) ++ List.replicate (1 - (lg_sl ([.ref bk])).length) Slot.unset).toArray = ls at hl ⊢
  have hl : lv_has ls 1 [(0, .ref bk)] := hl
  refine lv_aload_n hx hb d_RB_init_0 rfl (lv_at hl 0 rfl) ?_
  refine W.objInit hx hb hown (ht _ w_29) (ht _ w_22) (ht _ w_23) rfl (by rw [hml]; exact hl.1) rfl d_RB_init_1 (Nat.le_of_ble_eq_true rfl) (Nat.le_of_ble_eq_true rfl) ?_
  refine W.eq (g2 := F0 m 4 ls []) rfl ?_
  refine lv_aload_n hx hb d_RB_init_4 rfl (lv_at hl 0 rfl) ?_
  refine lv_bipush (v := nI 12) hx hb d_RB_init_5 (by decide) ?_
  refine gs_newi hx hb ht hK hG hS hA w_61 (by decide) (by first | decide | omega) (by first | decide | omega) d_RB_init_7 (fun q_1 H hq_1 hG hS => ?_)
  obtain ⟨σ_2, eσ_2⟩ : ∃ zq, zq = gs_up σ q_1 (gs_ia X 12 (fun _ => 0)) := ⟨_, rfl⟩
  have hG : gs_H X (gs_up σ q_1 (gs_ia X 12 (fun _ => 0))) H := hG
  rw [← eσ_2] at hG
  have hne_4 : bk ≠ q_1 := fun z => by rw [z, hq_1] at h0; cases h0
  have hc_3 : σ_2 bk = some (gs_ob 5 [.null, .null, .null, .int 0, .int 0, .int 0]) := by rw [eσ_2]; exact gs_ku hne_4 h0
  have hc_5 : σ_2 q_1 = some (gs_ia X 12 (fun _ => 0)) := by rw [eσ_2]; exact gs_us
  refine gs_putF hx hb ht hown hK hG hS k_RB hc_3 0 (by decide) w_32 rfl hin rfl rfl rfl (Nat.le_of_ble_eq_true rfl) d_RB_init_9 (fun H locs hG hS => ?_)
  have hG : gs_H X (gs_up σ_2 bk (gs_ob 5 [.ref q_1, .null, .null, .int 0, .int 0, .int 0])) H := hG
  obtain ⟨σ_6, eσ_6⟩ : ∃ zq, zq = gs_up σ_2 bk (gs_ob 5 [.ref q_1, .null, .null, .int 0, .int 0, .int 0]) := ⟨_, rfl⟩
  rw [← eσ_6] at hG
  have hc_7 : σ_6 q_1 = some (gs_ia X 12 (fun _ => 0)) := by rw [eσ_6]; exact gs_ku (Ne.symm hne_4) hc_5
  have hc_8 : σ_6 bk = some (gs_ob 5 [.ref q_1, .null, .null, .int 0, .int 0, .int 0]) := by rw [eσ_6]; exact gs_us
  refine lv_aload_n hx hb d_RB_init_12 rfl (lv_at hl 0 rfl) ?_
  refine lv_bipush (v := nI 24) hx hb d_RB_init_13 (by decide) ?_
  refine gs_newq hx hb ht 2 hown hK hG hS hA w_30 hK.2.2.1 rfl (by decide) (by first | decide | omega) (by first | decide | omega) d_RB_init_15 (fun q_9 H hq_9 hG hS => ?_)
  obtain ⟨σ_10, eσ_10⟩ : ∃ zq, zq = gs_up σ_6 q_9 (gs_qa X 2 24 (fun _ => none)) := ⟨_, rfl⟩
  have hG : gs_H X (gs_up σ_6 q_9 (gs_qa X 2 24 (fun _ => none))) H := hG
  rw [← eσ_10] at hG
  have hne_12 : q_1 ≠ q_9 := fun z => by rw [z, hq_9] at hc_7; cases hc_7
  have hc_11 : σ_10 q_1 = some (gs_ia X 12 (fun _ => 0)) := by rw [eσ_10]; exact gs_ku hne_12 hc_7
  have hne_14 : bk ≠ q_9 := fun z => by rw [z, hq_9] at hc_8; cases hc_8
  have hc_13 : σ_10 bk = some (gs_ob 5 [.ref q_1, .null, .null, .int 0, .int 0, .int 0]) := by rw [eσ_10]; exact gs_ku hne_14 hc_8
  have hc_15 : σ_10 q_9 = some (gs_qa X 2 24 (fun _ => none)) := by rw [eσ_10]; exact gs_us
  refine gs_putF hx hb ht hown hK hG hS k_RB hc_13 1 (by decide) w_34 rfl hin rfl rfl rfl (Nat.le_of_ble_eq_true rfl) d_RB_init_18 (fun H locs hG hS => ?_)
  have hG : gs_H X (gs_up σ_10 bk (gs_ob 5 [.ref q_1, .ref q_9, .null, .int 0, .int 0, .int 0])) H := hG
  obtain ⟨σ_16, eσ_16⟩ : ∃ zq, zq = gs_up σ_10 bk (gs_ob 5 [.ref q_1, .ref q_9, .null, .int 0, .int 0, .int 0]) := ⟨_, rfl⟩
  rw [← eσ_16] at hG
  have hc_17 : σ_16 q_1 = some (gs_ia X 12 (fun _ => 0)) := by rw [eσ_16]; exact gs_ku (Ne.symm hne_4) hc_11
  have hc_18 : σ_16 q_9 = some (gs_qa X 2 24 (fun _ => none)) := by rw [eσ_16]; exact gs_ku (Ne.symm hne_14) hc_15
  have hc_19 : σ_16 bk = some (gs_ob 5 [.ref q_1, .ref q_9, .null, .int 0, .int 0, .int 0]) := by rw [eσ_16]; exact gs_us
  refine lv_aload_n hx hb d_RB_init_21 rfl (lv_at hl 0 rfl) ?_
  refine lv_bipush (v := nI 12) hx hb d_RB_init_22 (by decide) ?_
  refine gs_newi hx hb ht hK hG hS hA w_61 (by decide) (by first | decide | omega) (by first | decide | omega) d_RB_init_24 (fun q_20 H hq_20 hG hS => ?_)
  obtain ⟨σ_21, eσ_21⟩ : ∃ zq, zq = gs_up σ_16 q_20 (gs_ia X 12 (fun _ => 0)) := ⟨_, rfl⟩
  have hG : gs_H X (gs_up σ_16 q_20 (gs_ia X 12 (fun _ => 0))) H := hG
  rw [← eσ_21] at hG
  have hne_23 : q_1 ≠ q_20 := fun z => by rw [z, hq_20] at hc_17; cases hc_17
  have hc_22 : σ_21 q_1 = some (gs_ia X 12 (fun _ => 0)) := by rw [eσ_21]; exact gs_ku hne_23 hc_17
  have hne_25 : q_9 ≠ q_20 := fun z => by rw [z, hq_20] at hc_18; cases hc_18
  have hc_24 : σ_21 q_9 = some (gs_qa X 2 24 (fun _ => none)) := by rw [eσ_21]; exact gs_ku hne_25 hc_18
  have hne_27 : bk ≠ q_20 := fun z => by rw [z, hq_20] at hc_19; cases hc_19
  have hc_26 : σ_21 bk = some (gs_ob 5 [.ref q_1, .ref q_9, .null, .int 0, .int 0, .int 0]) := by rw [eσ_21]; exact gs_ku hne_27 hc_19
  have hc_28 : σ_21 q_20 = some (gs_ia X 12 (fun _ => 0)) := by rw [eσ_21]; exact gs_us
  refine gs_putF hx hb ht hown hK hG hS k_RB hc_26 2 (by decide) w_37 rfl hin rfl rfl rfl (Nat.le_of_ble_eq_true rfl) d_RB_init_26 (fun H locs hG hS => ?_)
  have hG : gs_H X (gs_up σ_21 bk (gs_ob 5 [.ref q_1, .ref q_9, .ref q_20, .int 0, .int 0, .int 0])) H := hG
  obtain ⟨σ_29, eσ_29⟩ : ∃ zq, zq = gs_up σ_21 bk (gs_ob 5 [.ref q_1, .ref q_9, .ref q_20, .int 0, .int 0, .int 0]) := ⟨_, rfl⟩
  rw [← eσ_29] at hG
  have hc_30 : σ_29 q_1 = some (gs_ia X 12 (fun _ => 0)) := by rw [eσ_29]; exact gs_ku (Ne.symm hne_4) hc_22
  have hc_31 : σ_29 q_9 = some (gs_qa X 2 24 (fun _ => none)) := by rw [eσ_29]; exact gs_ku (Ne.symm hne_14) hc_24
  have hc_32 : σ_29 q_20 = some (gs_ia X 12 (fun _ => 0)) := by rw [eσ_29]; exact gs_ku (Ne.symm hne_27) hc_28
  have hc_33 : σ_29 bk = some (gs_ob 5 [.ref q_1, .ref q_9, .ref q_20, .int 0, .int 0, .int 0]) := by rw [eσ_29]; exact gs_us
  refine lv_aload_n hx hb d_RB_init_29 rfl (lv_at hl 0 rfl) ?_
  refine lv_iconst (v := nI 0) hx hb d_RB_init_30 (by decide) ?_
  refine gs_put hx hb ht hown hK hG hS k_RB hc_33 3 (by decide) w_40 rfl rfl rfl (Nat.le_of_ble_eq_true rfl) d_RB_init_31 (fun H locs hG hS => ?_)
  have hG : gs_H X (gs_up σ_29 bk (gs_ob 5 [.ref q_1, .ref q_9, .ref q_20, .int (nI 0), .int 0, .int 0])) H := hG
  obtain ⟨σ_34, eσ_34⟩ : ∃ zq, zq = gs_up σ_29 bk (gs_ob 5 [.ref q_1, .ref q_9, .ref q_20, .int (nI 0), .int 0, .int 0]) := ⟨_, rfl⟩
  rw [← eσ_34] at hG
  have hc_35 : σ_34 q_1 = some (gs_ia X 12 (fun _ => 0)) := by rw [eσ_34]; exact gs_ku (Ne.symm hne_4) hc_30
  have hc_36 : σ_34 q_9 = some (gs_qa X 2 24 (fun _ => none)) := by rw [eσ_34]; exact gs_ku (Ne.symm hne_14) hc_31
  have hc_37 : σ_34 q_20 = some (gs_ia X 12 (fun _ => 0)) := by rw [eσ_34]; exact gs_ku (Ne.symm hne_27) hc_32
  have hc_38 : σ_34 bk = some (gs_ob 5 [.ref q_1, .ref q_9, .ref q_20, .int (nI 0), .int 0, .int 0]) := by rw [eσ_34]; exact gs_us
  refine lv_aload_n hx hb d_RB_init_34 rfl (lv_at hl 0 rfl) ?_
  refine lv_iconst (v := nI 0) hx hb d_RB_init_35 (by decide) ?_
  refine gs_put hx hb ht hown hK hG hS k_RB hc_38 4 (by decide) w_42 rfl rfl rfl (Nat.le_of_ble_eq_true rfl) d_RB_init_36 (fun H locs hG hS => ?_)
  have hG : gs_H X (gs_up σ_34 bk (gs_ob 5 [.ref q_1, .ref q_9, .ref q_20, .int (nI 0), .int (nI 0), .int 0])) H := hG
  obtain ⟨σ_39, eσ_39⟩ : ∃ zq, zq = gs_up σ_34 bk (gs_ob 5 [.ref q_1, .ref q_9, .ref q_20, .int (nI 0), .int (nI 0), .int 0]) := ⟨_, rfl⟩
  rw [← eσ_39] at hG
  have hc_40 : σ_39 q_1 = some (gs_ia X 12 (fun _ => 0)) := by rw [eσ_39]; exact gs_ku (Ne.symm hne_4) hc_35
  have hc_41 : σ_39 q_9 = some (gs_qa X 2 24 (fun _ => none)) := by rw [eσ_39]; exact gs_ku (Ne.symm hne_14) hc_36
  have hc_42 : σ_39 q_20 = some (gs_ia X 12 (fun _ => 0)) := by rw [eσ_39]; exact gs_ku (Ne.symm hne_27) hc_37
  have hc_43 : σ_39 bk = some (gs_ob 5 [.ref q_1, .ref q_9, .ref q_20, .int (nI 0), .int (nI 0), .int 0]) := by rw [eσ_39]; exact gs_us
  refine lv_aload_n hx hb d_RB_init_39 rfl (lv_at hl 0 rfl) ?_
  refine lv_iconst (v := nI 0) hx hb d_RB_init_40 (by decide) ?_
  refine gs_put hx hb ht hown hK hG hS k_RB hc_43 5 (by decide) w_45 rfl rfl rfl (Nat.le_of_ble_eq_true rfl) d_RB_init_41 (fun H locs hG hS => ?_)
  have hG : gs_H X (gs_up σ_39 bk (gs_ob 5 [.ref q_1, .ref q_9, .ref q_20, .int (nI 0), .int (nI 0), .int (nI 0)])) H := hG
  obtain ⟨σ_44, eσ_44⟩ : ∃ zq, zq = gs_up σ_39 bk (gs_ob 5 [.ref q_1, .ref q_9, .ref q_20, .int (nI 0), .int (nI 0), .int (nI 0)]) := ⟨_, rfl⟩
  rw [← eσ_44] at hG
  have hc_45 : σ_44 q_1 = some (gs_ia X 12 (fun _ => 0)) := by rw [eσ_44]; exact gs_ku (Ne.symm hne_4) hc_40
  have hc_46 : σ_44 q_9 = some (gs_qa X 2 24 (fun _ => none)) := by rw [eσ_44]; exact gs_ku (Ne.symm hne_14) hc_41
  have hc_47 : σ_44 q_20 = some (gs_ia X 12 (fun _ => 0)) := by rw [eσ_44]; exact gs_ku (Ne.symm hne_27) hc_42
  have hc_48 : σ_44 bk = some (gs_ob 5 [.ref q_1, .ref q_9, .ref q_20, .int (nI 0), .int (nI 0), .int (nI 0)]) := by rw [eσ_44]; exact gs_us
  have z1 : σ q_1 = none := hq_1
  have z2 : σ q_9 = none := by have z := hq_9; simp only [*] at z; exact gs_none1 (gs_none1 z)
  have z3 : σ q_20 = none := by have z := hq_20; simp only [*] at z; exact gs_none1 (gs_none1 (gs_none1 (gs_none1 z)))
  exact gs_vret hx hb hr hK hE hz hG hS hlocks (by first | decide | omega | (dsimp only [headSpec]; omega)) (by first | decide | omega | (dsimp only [headSpec]; omega)) (⟨q_1, q_9, q_20, z1, z2, z3, hne_12, hne_23, hne_25, (by simp only [*]; exact rb_init)⟩) d_RB_init_44
