set_option maxHeartbeats 4000000 in
set_option maxRecDepth 100000 in
/-- Tuples.placeOf: how many codes lie below -/
theorem c_TU_placeOf (l : Launch) (X : gs_X) (σ : gs_St) (h ac ai ab : Nat) (L : List Nat) (cs : Nat → Int32) (cd : Nat)
    (hs : L.Pairwise (· ≤ ·)) (hn : L.length ≤ 301) (hcs : ∀ j x, L[j]? = some x → cs j = nI x ∧ x < 2 ^ 30) (hcd : cd < 2 ^ 30) (h0 : σ h = some (gs_ob 6 [.ref ac, .ref ai, .ref ab, .int (nI L.length)])) (h1 : σ ac = some (gs_ia X 301 cs)) : gs_Mi l X y_TU_placeOf b_TU_placeOf 5 (some .int) ({ frames := 0, cells := 0, slots := 0, locals := 0 }) σ [.ref h, .int (nI cd)] (fun r σ' => σ' = σ ∧ r = nI (cb L cd)) := by
  refine Met.ofW (cc := b_TU_placeOf) (maxL := 5) (ret := (some .int)) (by decide) rfl ?_
  intro p e s m args below meth c s₁ B₀ hml hv
  obtain ⟨rfl, hK, hG, hz, hE⟩ := hv
  have hx := B₀.exec
  have hb := B₀.bytes
  have hr := B₀.returns
  have hts := atoms_spec (ws := gs_ws y_TU_placeOf b_TU_placeOf 5 (some .int)) B₀.pre
  have ht : ∀ w ∈ gs_w, w.before _ s = true := fun w h => hts w (List.mem_cons_of_mem _ h)
  have hown : s.vm.findClass R_TU = some m.cls := findClass_of_methodNamed B₀.named
  have hlocks := B₀.notSynchronized
  have hA : ∀ q : Nat, s.heap.size ≤ q → gs_A X q := fun q h => Nat.le_trans hz h
  have hS : va_S (gs_A X) s.heap s.heap [] := va_S.rf
  have hl := lv_entry ([.ref h, .int (nI cd)]) (n := 5) (Nat.le_of_ble_eq_true rfl)
  rw [lg_entry_eq]
  generalize (lg_sl ([.ref h, .int (nI cd)]) ++ List.replicate (5 - (lg_sl ([.ref h, .int (nI cd)])).length) Slot.unset).toArray = ls at hl ⊢
  have hl : lv_has ls 5 [(0, .ref h), (1, .int (nI cd))] := hl
  have hcl := cb_le L cd
  have loop : ∀ (fl : Nat) (i pl st : Nat), (i ≤ 9) → (st = 2 ^ i / 2) → (pl ≤ cb L cd) → (cb L cd < pl + 2 ^ i) → i < fl → ∀ ls, lv_has ls 5 [(3, .int (nI st)), (2, .int (nI pl)), (0, .ref h), (1, .int (nI cd))] → W p l e ({ frames := 0, cells := 0, slots := 0, locals := 0 } : Room) s m ([.ref h, .int (nI cd)] : List Value).toArray below meth c s.heap [] 0 0 (MQ below (va_Qi (fun r σ' => σ' = σ ∧ r = nI (cb L cd)) (gs_U X) (gs_A X)) ([.ref h, .int (nI cd)] : List Value).toArray s 0 0 (gs_A X)) (F0 m 6 ls []) := by
    intro fl
    induction fl with
    | zero => intro i pl st _ _ _ _ h9; omega
    | succ fl ih =>
      intro i pl st hi hst h2 h3 hmu  ls hl
      have hpw : 2 ^ i ≤ 512 := Nat.pow_le_pow_right (by decide) (show i ≤ 9 from hi)
      refine lv_iload_n hx hb d_TU_placeOf_6 rfl (lv_at hl 0 rfl) ?_
      refine lv_if_le (tgt := 47) hx hb d_TU_placeOf_7 (by decide) (fun c_7 => ?_) (fun c_7 => ?_)
      · have c_7 : st = 0 := by have := gs_le0 (a := st) (by omega); exact this.mp c_7
        refine lv_iload_n hx hb d_TU_placeOf_47 rfl (lv_at hl 1 rfl) ?_
        exact gs_iret (v := (nI pl)) hx hb hr rfl hK hE hz hG hS hlocks (by first | decide | omega | (dsimp only [headSpec]; omega)) (by first | decide | omega | (dsimp only [headSpec]; omega)) (⟨rfl, congrArg nI (show pl = cb L cd from by
            have hi0 : i = 0 := by
              cases i with
              | zero => rfl
              | succ k => have := Nat.pow_succ 2 k; have := Nat.pos_of_ne_zero (show 2 ^ k ≠ 0 from by simp); omega
            subst hi0; omega)⟩) d_TU_placeOf_48
      · have c_7 : 0 < st := by have := gs_le0 (a := st) (by omega); have h9 := mt this.mpr c_7; omega
        obtain ⟨k, rfl⟩ : ∃ k, i = k + 1 := by
          cases i with
          | zero => simp at hst; omega
          | succ k => exact ⟨k, rfl⟩
        have hp2 : 2 ^ (k + 1) = 2 ^ k * 2 := Nat.pow_succ 2 k
        have hst2 : st = 2 ^ k := by omega
        refine lv_iload_n hx hb d_TU_placeOf_10 rfl (lv_at hl 1 rfl) ?_
        refine lv_iload_n hx hb d_TU_placeOf_11 rfl (lv_at hl 0 rfl) ?_
        refine lv_iadd hx hb d_TU_placeOf_12 ?_
        refine gs_top (nI_add pl st) ?_
        refine lv_istore (lv' := [(4, .int (nI (pl + st))), (3, .int (nI st)), (2, .int (nI pl)), (0, .ref h), (1, .int (nI cd))]) hx hb d_TU_placeOf_13 hl (by decide) rfl (fun ls hl => ?_)
        refine lv_iload hx hb d_TU_placeOf_15 (lv_at hl 0 rfl) ?_
        refine lv_aload_n hx hb d_TU_placeOf_17 rfl (lv_at hl 3 rfl) ?_
        refine gs_get hx hb ht hown hK hG k_TU h0 3 (by decide) w_77 rfl d_TU_placeOf_18 ?_
        refine lv_icmp_gt (tgt := 40) hx hb d_TU_placeOf_21 (by decide) (fun c_21 => ?_) (fun c_21 => ?_)
        · have c_21 : L.length < (pl + st) := (nI_ltI (by omega) (by omega)).mp c_21
          refine lv_iload_n hx hb d_TU_placeOf_40 rfl (lv_at hl 1 rfl) ?_
          refine lv_iconst (v := nI 2) hx hb d_TU_placeOf_41 (by decide) ?_
          refine lv_idiv hx hb d_TU_placeOf_42 (by decide) ?_
          refine gs_top (pk_div (a := st) (d := 2) (by omega) (by omega) (by omega)) ?_
          refine lv_istore_n (lv' := [(3, .int (nI (st / 2))), (4, .int (nI (pl + st))), (2, .int (nI pl)), (0, .ref h), (1, .int (nI cd))]) hx hb d_TU_placeOf_43 rfl hl (by decide) rfl (fun ls hl => ?_)
          refine lv_goto (tgt := 6) hx hb d_TU_placeOf_44 (by decide) ?_
          exact ih k pl (st / 2) (by omega) (by omega) (by omega) (by omega) (by omega) ls (lv_sub hl [0, 2, 3, 4] rfl)
        · have c_21 : ¬ L.length < (pl + st) := mt (nI_ltI (by omega) (by omega)).mpr c_21
          refine lv_aload_n hx hb d_TU_placeOf_24 rfl (lv_at hl 3 rfl) ?_
          refine gs_get hx hb ht hown hK hG k_TU h0 0 (by decide) w_68 rfl d_TU_placeOf_25 ?_
          refine lv_iload hx hb d_TU_placeOf_28 (lv_at hl 0 rfl) ?_
          refine lv_iconst (v := nI 1) hx hb d_TU_placeOf_30 (by decide) ?_
          refine lv_isub hx hb d_TU_placeOf_31 ?_
          refine gs_top (pk_sub (a := (pl + st)) (b := 1) (by omega)) ?_
          obtain ⟨x, hx9⟩ := get_ex (L := L) (j := pl + st - 1) (by omega)
          obtain ⟨hx1, hx2⟩ := hcs _ _ hx9
          have hx3 := cb_iff L hs cd _ _ hx9
          refine gs_iald hx hb hK hG h1 (j := (pl + st) - 1) (by omega) (by omega) d_TU_placeOf_32 ?_
          refine gs_top (show (cs ((pl + st) - 1)) = (nI x) from hx1) ?_
          refine lv_iload_n hx hb d_TU_placeOf_33 rfl (lv_at hl 4 rfl) ?_
          refine lv_icmp_ge (tgt := 40) hx hb d_TU_placeOf_34 (by decide) (fun c_34 => ?_) (fun c_34 => ?_)
          · have c_34 : cd ≤ x := (nI_leI (by omega) (by omega)).mp c_34
            refine lv_iload_n hx hb d_TU_placeOf_40 rfl (lv_at hl 1 rfl) ?_
            refine lv_iconst (v := nI 2) hx hb d_TU_placeOf_41 (by decide) ?_
            refine lv_idiv hx hb d_TU_placeOf_42 (by decide) ?_
            refine gs_top (pk_div (a := st) (d := 2) (by omega) (by omega) (by omega)) ?_
            refine lv_istore_n (lv' := [(3, .int (nI (st / 2))), (4, .int (nI (pl + st))), (2, .int (nI pl)), (0, .ref h), (1, .int (nI cd))]) hx hb d_TU_placeOf_43 rfl hl (by decide) rfl (fun ls hl => ?_)
            refine lv_goto (tgt := 6) hx hb d_TU_placeOf_44 (by decide) ?_
            exact ih k pl (st / 2) (by omega) (by omega) (by omega) (by omega) (by omega) ls (lv_sub hl [0, 2, 3, 4] rfl)
          · have c_34 : ¬ cd ≤ x := mt (nI_leI (by omega) (by omega)).mpr c_34
            refine lv_iload hx hb d_TU_placeOf_37 (lv_at hl 0 rfl) ?_
            refine lv_istore_n (lv' := [(2, .int (nI (pl + st))), (4, .int (nI (pl + st))), (3, .int (nI st)), (0, .ref h), (1, .int (nI cd))]) hx hb d_TU_placeOf_39 rfl hl (by decide) rfl (fun ls hl => ?_)
            refine lv_iload_n hx hb d_TU_placeOf_40 rfl (lv_at hl 2 rfl) ?_
            refine lv_iconst (v := nI 2) hx hb d_TU_placeOf_41 (by decide) ?_
            refine lv_idiv hx hb d_TU_placeOf_42 (by decide) ?_
            refine gs_top (pk_div (a := st) (d := 2) (by omega) (by omega) (by omega)) ?_
            refine lv_istore_n (lv' := [(3, .int (nI (st / 2))), (2, .int (nI (pl + st))), (4, .int (nI (pl + st))), (0, .ref h), (1, .int (nI cd))]) hx hb d_TU_placeOf_43 rfl hl (by decide) rfl (fun ls hl => ?_)
            refine lv_goto (tgt := 6) hx hb d_TU_placeOf_44 (by decide) ?_
            exact ih k (pl + st) (st / 2) (by omega) (by omega) (by omega) (by omega) (by omega) ls (lv_sub hl [0, 1, 3, 4] rfl)
  refine lv_iconst (v := nI 0) hx hb d_TU_placeOf_0 (by decide) ?_
  refine lv_istore_n (lv' := [(2, .int (nI 0)), (0, .ref h), (1, .int (nI cd))]) hx hb d_TU_placeOf_1 rfl hl (by decide) rfl (fun ls hl => ?_)
  refine lv_sipush (v := nI 256) hx hb d_TU_placeOf_2 (by decide) ?_
  refine lv_istore_n (lv' := [(3, .int (nI 256)), (2, .int (nI 0)), (0, .ref h), (1, .int (nI cd))]) hx hb d_TU_placeOf_5 rfl hl (by decide) rfl (fun ls hl => ?_)
  exact loop 10 9 0 256 (by decide) (by decide) (by omega) (by omega) (by decide) ls (lv_sub hl [0, 1, 2, 3] rfl)
set_option maxHeartbeats 4000000 in
set_option maxRecDepth 100000 in
/-- Tuples.contains -/
theorem c_TU_contains (l : Launch) (X : gs_X) (σ : gs_St) (h ac ai ab : Nat) (L : List Nat) (cs : Nat → Int32) (cd : Nat)
    (hs : L.Pairwise (· ≤ ·)) (hn : L.length ≤ 301) (hcs : ∀ j x, L[j]? = some x → cs j = nI x ∧ x < 2 ^ 30) (hcd : cd < 2 ^ 30) (h0 : σ h = some (gs_ob 6 [.ref ac, .ref ai, .ref ab, .int (nI L.length)])) (h1 : σ ac = some (gs_ia X 301 cs)) : gs_Mi l X y_TU_contains b_TU_contains 3 (some .boolean) ({ frames := 1, cells := 0, slots := 0, locals := 24 }) σ [.ref h, .int (nI cd)] (fun r σ' => σ' = σ ∧ r = bI (decide (cd ∈ L))) := by
  refine Met.ofW (cc := b_TU_contains) (maxL := 3) (ret := (some .boolean)) (by decide) rfl ?_
  intro p e s m args below meth c s₁ B₀ hml hv
  obtain ⟨rfl, hK, hG, hz, hE⟩ := hv
  have hx := B₀.exec
  have hb := B₀.bytes
  have hr := B₀.returns
  have hts := atoms_spec (ws := gs_ws y_TU_contains b_TU_contains 3 (some .boolean)) B₀.pre
  have ht : ∀ w ∈ gs_w, w.before _ s = true := fun w h => hts w (List.mem_cons_of_mem _ h)
  have hown : s.vm.findClass R_TU = some m.cls := findClass_of_methodNamed B₀.named
  have hlocks := B₀.notSynchronized
  have hA : ∀ q : Nat, s.heap.size ≤ q → gs_A X q := fun q h => Nat.le_trans hz h
  have hS : va_S (gs_A X) s.heap s.heap [] := va_S.rf
  have hl := lv_entry ([.ref h, .int (nI cd)]) (n := 3) (Nat.le_of_ble_eq_true rfl)
  rw [lg_entry_eq]
  generalize (lg_sl ([.ref h, .int (nI cd)]) ++ List.replicate (3 - (lg_sl ([.ref h, .int (nI cd)])).length) Slot.unset).toArray = ls at hl ⊢
  have hl : lv_has ls 3 [(0, .ref h), (1, .int (nI cd))] := hl
  have hcl := cb_le L cd
  have hmem := mem_cb hs cd
  refine lv_aload_n hx hb d_TU_contains_0 rfl (lv_at hl 0 rfl) ?_
  refine lv_iload_n hx hb d_TU_contains_1 rfl (lv_at hl 1 rfl) ?_
  refine gs_callVi (As := [.int (nI cd)]) (rest := []) ⟨hx, hb, hml, hown, hts⟩ hK hE hz hG hS (c_TU_placeOf l X σ h ac ai ab L cs cd hs hn hcs hcd h0 h1) mV_TU_placeOf w_200 h0 rfl rfl hl.1 rfl (Nat.le_of_ble_eq_true rfl) ⟨(by first | decide | omega | (dsimp only [headSpec]; omega)), (by first | decide | omega | (dsimp only [headSpec]; omega))⟩ ⟨(by first | decide | omega | (dsimp only [headSpec]; omega)), (by first | decide | omega | (dsimp only [headSpec]; omega))⟩ d_TU_contains_2 (fun r_2 σ_2 H locs hp_2 hG hS => ?_)
  rw [hp_2.1] at hG
  refine gs_top (show r_2 = (nI (cb L cd)) from hp_2.2) ?_
  refine lv_istore_n (lv' := [(2, .int (nI (cb L cd))), (0, .ref h), (1, .int (nI cd))]) hx hb d_TU_contains_5 rfl hl (by decide) rfl (fun ls hl => ?_)
  refine lv_iload_n hx hb d_TU_contains_6 rfl (lv_at hl 0 rfl) ?_
  refine lv_aload_n hx hb d_TU_contains_7 rfl (lv_at hl 1 rfl) ?_
  refine gs_get hx hb ht hown hK hG k_TU h0 3 (by decide) w_77 rfl d_TU_contains_8 ?_
  refine lv_icmp_ge (tgt := 28) hx hb d_TU_contains_11 (by decide) (fun c_11 => ?_) (fun c_11 => ?_)
  · have c_11 : L.length ≤ (cb L cd) := (nI_leI (by omega) (by omega)).mp c_11
    refine lv_iconst (v := nI 0) hx hb d_TU_contains_28 (by decide) ?_
    exact gs_iret (v := (nI 0)) hx hb hr rfl hK hE hz hG hS hlocks (by first | decide | omega | (dsimp only [headSpec]; omega)) (by first | decide | omega | (dsimp only [headSpec]; omega)) (⟨rfl, by rw [decide_eq_false (fun z => by have z2 := hmem.mp z; first | (rw [List.getElem?_eq_none (by omega)] at z2; cases z2) | (rw [hx9] at z2; exact c_21 (Option.some.inj z2)))]; rfl⟩) d_TU_contains_29
  · have c_11 : ¬ L.length ≤ (cb L cd) := mt (nI_leI (by omega) (by omega)).mpr c_11
    refine lv_aload_n hx hb d_TU_contains_14 rfl (lv_at hl 1 rfl) ?_
    refine gs_get hx hb ht hown hK hG k_TU h0 0 (by decide) w_68 rfl d_TU_contains_15 ?_
    refine lv_iload_n hx hb d_TU_contains_18 rfl (lv_at hl 0 rfl) ?_
    obtain ⟨x, hx9⟩ := get_ex (L := L) (j := cb L cd) (by omega)
    obtain ⟨hx1, hx2⟩ := hcs _ _ hx9
    refine gs_iald hx hb hK hG h1 (j := cb L cd) (by omega) (by omega) d_TU_contains_19 ?_
    refine gs_top (show (cs (cb L cd)) = (nI x) from hx1) ?_
    refine lv_iload_n hx hb d_TU_contains_20 rfl (lv_at hl 2 rfl) ?_
    refine lv_icmp_ne (tgt := 28) hx hb d_TU_contains_21 (by decide) (fun c_21 => ?_) (fun c_21 => ?_)
    · have c_21 : ¬ x = cd := mt (nI_eq (by omega) (by omega)).mpr c_21
      refine lv_iconst (v := nI 0) hx hb d_TU_contains_28 (by decide) ?_
      exact gs_iret (v := (nI 0)) hx hb hr rfl hK hE hz hG hS hlocks (by first | decide | omega | (dsimp only [headSpec]; omega)) (by first | decide | omega | (dsimp only [headSpec]; omega)) (⟨rfl, by rw [decide_eq_false (fun z => by have z2 := hmem.mp z; first | (rw [List.getElem?_eq_none (by omega)] at z2; cases z2) | (rw [hx9] at z2; exact c_21 (Option.some.inj z2)))]; rfl⟩) d_TU_contains_29
    · have c_21 : x = cd :=  (nI_eq (by omega) (by omega)).mp c_21
      refine lv_iconst (v := nI 1) hx hb d_TU_contains_24 (by decide) ?_
      refine lv_goto (tgt := 29) hx hb d_TU_contains_25 (by decide) ?_
      exact gs_iret (v := (nI 1)) hx hb hr rfl hK hE hz hG hS hlocks (by first | decide | omega | (dsimp only [headSpec]; omega)) (by first | decide | omega | (dsimp only [headSpec]; omega)) (⟨rfl, by rw [decide_eq_true (hmem.mpr (by rw [hx9, c_21]))]; rfl⟩) d_TU_contains_29
set_option maxHeartbeats 4000000 in
set_option maxRecDepth 100000 in
/-- Tuples.containsFact -/
theorem c_TU_containsFact (l : Launch) (X : gs_X) (σ : gs_St) (h ac ai ab : Nat) (E : List En) (cs ci cr : Nat → Int32) (cd : Nat)
    (hst9 : (cds E).Pairwise (· < ·)) (hB : tuB E) (hR : tuR E cs ci cr) (hcd : cd < 2 ^ 30) (h0 : σ h = some (gs_ob 6 [.ref ac, .ref ai, .ref ab, .int (nI E.length)])) (h1 : σ ac = some (gs_ia X 301 cs)) (h2 : σ ai = some (gs_ia X 301 ci)) : gs_Mi l X y_TU_containsFact b_TU_containsFact 3 (some .boolean) ({ frames := 1, cells := 0, slots := 0, locals := 24 }) σ [.ref h, .int (nI cd)] (fun r σ' => σ' = σ ∧ r = bI (decide (∃ x ∈ E, x.1 = cd ∧ x.2.1 = 0))) := by
  refine Met.ofW (cc := b_TU_containsFact) (maxL := 3) (ret := (some .boolean)) (by decide) rfl ?_
  intro p e s m args below meth c s₁ B₀ hml hv
  obtain ⟨rfl, hK, hG, hz, hE⟩ := hv
  have hx := B₀.exec
  have hb := B₀.bytes
  have hr := B₀.returns
  have hts := atoms_spec (ws := gs_ws y_TU_containsFact b_TU_containsFact 3 (some .boolean)) B₀.pre
  have ht : ∀ w ∈ gs_w, w.before _ s = true := fun w h => hts w (List.mem_cons_of_mem _ h)
  have hown : s.vm.findClass R_TU = some m.cls := findClass_of_methodNamed B₀.named
  have hlocks := B₀.notSynchronized
  have hA : ∀ q : Nat, s.heap.size ≤ q → gs_A X q := fun q h => Nat.le_trans hz h
  have hS : va_S (gs_A X) s.heap s.heap [] := va_S.rf
  have hl := lv_entry ([.ref h, .int (nI cd)]) (n := 3) (Nat.le_of_ble_eq_true rfl)
  rw [lg_entry_eq]
  generalize (lg_sl ([.ref h, .int (nI cd)]) ++ List.replicate (3 - (lg_sl ([.ref h, .int (nI cd)])).length) Slot.unset).toArray = ls at hl ⊢
  have hl : lv_has ls 3 [(0, .ref h), (1, .int (nI cd))] := hl
  have hcl : cb (cds E) cd ≤ E.length := by simpa using cb_le (cds E) cd
  have hmem := mem_cb hB.1 cd
  have hlen := hB.2.1
  refine lv_aload_n hx hb d_TU_containsFact_0 rfl (lv_at hl 0 rfl) ?_
  refine lv_iload_n hx hb d_TU_containsFact_1 rfl (lv_at hl 1 rfl) ?_
  refine gs_callVi (As := [.int (nI cd)]) (rest := []) ⟨hx, hb, hml, hown, hts⟩ hK hE hz hG hS (c_TU_placeOf l X σ h ac ai ab (cds E) cs cd hB.1 (by simpa using hB.2.1) (hR.cds hB.2.2) hcd (by simpa using h0) h1) mV_TU_placeOf w_200 h0 rfl rfl hl.1 rfl (Nat.le_of_ble_eq_true rfl) ⟨(by first | decide | omega | (dsimp only [headSpec]; omega)), (by first | decide | omega | (dsimp only [headSpec]; omega))⟩ ⟨(by first | decide | omega | (dsimp only [headSpec]; omega)), (by first | decide | omega | (dsimp only [headSpec]; omega))⟩ d_TU_containsFact_2 (fun r_2 σ_2 H locs hp_2 hG hS => ?_)
  rw [hp_2.1] at hG
  refine gs_top (show r_2 = (nI (cb (cds E) cd)) from hp_2.2) ?_
  refine lv_istore_n (lv' := [(2, .int (nI (cb (cds E) cd))), (0, .ref h), (1, .int (nI cd))]) hx hb d_TU_containsFact_5 rfl hl (by decide) rfl (fun ls hl => ?_)
  refine lv_iload_n hx hb d_TU_containsFact_6 rfl (lv_at hl 0 rfl) ?_
  refine lv_aload_n hx hb d_TU_containsFact_7 rfl (lv_at hl 1 rfl) ?_
  refine gs_get hx hb ht hown hK hG k_TU h0 3 (by decide) w_77 rfl d_TU_containsFact_8 ?_
  refine lv_icmp_ge (tgt := 37) hx hb d_TU_containsFact_11 (by decide) (fun c_11 => ?_) (fun c_11 => ?_)
  · have c_11 : E.length ≤ (cb (cds E) cd) := (nI_leI (by omega) (by omega)).mp c_11
    refine lv_iconst (v := nI 0) hx hb d_TU_containsFact_37 (by decide) ?_
    have hno : ¬ (∃ x ∈ E, x.1 = cd ∧ x.2.1 = 0) := by
      rintro ⟨y, z1, z2, z3⟩
      have z4 := hmem.mp (List.mem_map.mpr ⟨y, z1, z2⟩)
      first
      | (rw [List.getElem?_eq_none (by rw [List.length_map]; omega)] at z4; cases z4; done)
      | (rw [hx5] at z4; exact c_21 (Option.some.inj z4))
      | (obtain ⟨j, hj⟩ := List.getElem?_of_mem z1
         have z6 : (cds E)[j]? = some cd := by rw [List.getElem?_map, hj, ← z2]; rfl
         have z7 := cb_uniq hst9 z6
         rw [z7, hj] at hx9
         cases hx9
         exact c_30 z3)
    exact gs_iret (v := (nI 0)) hx hb hr rfl hK hE hz hG hS hlocks (by first | decide | omega | (dsimp only [headSpec]; omega)) (by first | decide | omega | (dsimp only [headSpec]; omega)) (⟨rfl, by rw [decide_eq_false hno]; rfl⟩) d_TU_containsFact_38
  · have c_11 : ¬ E.length ≤ (cb (cds E) cd) := mt (nI_leI (by omega) (by omega)).mpr c_11
    refine lv_aload_n hx hb d_TU_containsFact_14 rfl (lv_at hl 1 rfl) ?_
    refine gs_get hx hb ht hown hK hG k_TU h0 0 (by decide) w_68 rfl d_TU_containsFact_15 ?_
    refine lv_iload_n hx hb d_TU_containsFact_18 rfl (lv_at hl 0 rfl) ?_
    obtain ⟨x, hx9⟩ := get_ex (L := E) (j := cb (cds E) cd) (by omega)
    obtain ⟨hx1, hx2, hx3⟩ := hR _ _ hx9
    have hx4 := hB.2.2 x (List.mem_of_getElem? hx9)
    have hx5 : (cds E)[cb (cds E) cd]? = some x.1 := by rw [List.getElem?_map, hx9]; rfl
    refine gs_iald hx hb hK hG h1 (j := cb (cds E) cd) (by omega) (by omega) d_TU_containsFact_19 ?_
    refine gs_top (show (cs (cb (cds E) cd)) = (nI x.1) from hx1) ?_
    refine lv_iload_n hx hb d_TU_containsFact_20 rfl (lv_at hl 2 rfl) ?_
    refine lv_icmp_ne (tgt := 37) hx hb d_TU_containsFact_21 (by decide) (fun c_21 => ?_) (fun c_21 => ?_)
    · have c_21 : ¬ x.1 = cd := mt (nI_eq (by omega) (by omega)).mpr c_21
      refine lv_iconst (v := nI 0) hx hb d_TU_containsFact_37 (by decide) ?_
      have hno : ¬ (∃ x ∈ E, x.1 = cd ∧ x.2.1 = 0) := by
        rintro ⟨y, z1, z2, z3⟩
        have z4 := hmem.mp (List.mem_map.mpr ⟨y, z1, z2⟩)
        first
        | (rw [List.getElem?_eq_none (by rw [List.length_map]; omega)] at z4; cases z4; done)
        | (rw [hx5] at z4; exact c_21 (Option.some.inj z4))
        | (obtain ⟨j, hj⟩ := List.getElem?_of_mem z1
           have z6 : (cds E)[j]? = some cd := by rw [List.getElem?_map, hj, ← z2]; rfl
           have z7 := cb_uniq hst9 z6
           rw [z7, hj] at hx9
           cases hx9
           exact c_30 z3)
      exact gs_iret (v := (nI 0)) hx hb hr rfl hK hE hz hG hS hlocks (by first | decide | omega | (dsimp only [headSpec]; omega)) (by first | decide | omega | (dsimp only [headSpec]; omega)) (⟨rfl, by rw [decide_eq_false hno]; rfl⟩) d_TU_containsFact_38
    · have c_21 : x.1 = cd :=  (nI_eq (by omega) (by omega)).mp c_21
      refine lv_aload_n hx hb d_TU_containsFact_24 rfl (lv_at hl 1 rfl) ?_
      refine gs_get hx hb ht hown hK hG k_TU h0 1 (by decide) w_72 rfl d_TU_containsFact_25 ?_
      refine lv_iload_n hx hb d_TU_containsFact_28 rfl (lv_at hl 0 rfl) ?_
      refine gs_iald hx hb hK hG h2 (j := cb (cds E) cd) (by omega) (by omega) d_TU_containsFact_29 ?_
      refine gs_top (show (ci (cb (cds E) cd)) = (nI x.2.1) from hx2) ?_
      refine lv_if_ne (tgt := 37) hx hb d_TU_containsFact_30 (by decide) (fun c_30 => ?_) (fun c_30 => ?_)
      · have c_30 : ¬ x.2.1 = 0 := gs_zn (by omega) c_30
        refine lv_iconst (v := nI 0) hx hb d_TU_containsFact_37 (by decide) ?_
        have hno : ¬ (∃ x ∈ E, x.1 = cd ∧ x.2.1 = 0) := by
          rintro ⟨y, z1, z2, z3⟩
          have z4 := hmem.mp (List.mem_map.mpr ⟨y, z1, z2⟩)
          first
          | (rw [List.getElem?_eq_none (by rw [List.length_map]; omega)] at z4; cases z4; done)
          | (rw [hx5] at z4; exact c_21 (Option.some.inj z4))
          | (obtain ⟨j, hj⟩ := List.getElem?_of_mem z1
             have z6 : (cds E)[j]? = some cd := by rw [List.getElem?_map, hj, ← z2]; rfl
             have z7 := cb_uniq hst9 z6
             rw [z7, hj] at hx9
             cases hx9
             exact c_30 z3)
        exact gs_iret (v := (nI 0)) hx hb hr rfl hK hE hz hG hS hlocks (by first | decide | omega | (dsimp only [headSpec]; omega)) (by first | decide | omega | (dsimp only [headSpec]; omega)) (⟨rfl, by rw [decide_eq_false hno]; rfl⟩) d_TU_containsFact_38
      · have c_30 : x.2.1 = 0 := gs_z (by omega) c_30
        refine lv_iconst (v := nI 1) hx hb d_TU_containsFact_33 (by decide) ?_
        refine lv_goto (tgt := 38) hx hb d_TU_containsFact_34 (by decide) ?_
        exact gs_iret (v := (nI 1)) hx hb hr rfl hK hE hz hG hS hlocks (by first | decide | omega | (dsimp only [headSpec]; omega)) (by first | decide | omega | (dsimp only [headSpec]; omega)) (⟨rfl, by rw [decide_eq_true ⟨x, List.mem_of_getElem? hx9, c_21, c_30⟩]; rfl⟩) d_TU_containsFact_38
set_option maxHeartbeats 4000000 in
set_option maxRecDepth 100000 in
/-- Tuples.move -/
theorem c_TU_move (l : Launch) (X : gs_X) (σ : gs_St) (h ac ai ab n fr to_ : Nat) (cs ci cr : Nat → Int32)
    (n1 : ac ≠ ai) (n2 : ac ≠ ab) (n3 : ai ≠ ab) (hn : n ≤ 301) (hf : fr ≤ n) (hto : to_ + (n - fr) ≤ 301) (h0 : σ h = some (gs_ob 6 [.ref ac, .ref ai, .ref ab, .int (nI n)])) (h1 : σ ac = some (gs_ia X 301 cs)) (h2 : σ ai = some (gs_ia X 301 ci)) (h3 : σ ab = some (gs_ia X 301 cr)) : gs_Mv l X y_TU_move b_TU_move 4 ({ frames := 1, cells := 0, slots := 0, locals := 40 }) σ [.ref h, .int (nI fr), .int (nI to_)] (fun σ' => σ' = gs_up (gs_up (gs_up σ ac (gs_ia X 301 (va_cpy cs cs fr to_ (n - fr)))) ai (gs_ia X 301 (va_cpy ci ci fr to_ (n - fr)))) ab (gs_ia X 301 (va_cpy cr cr fr to_ (n - fr)))) := by
  refine Met.ofW (cc := b_TU_move) (maxL := 4) (ret := none) (by decide) rfl ?_
  intro p e s m args below meth c s₁ B₀ hml hv
  obtain ⟨rfl, hK, hG, hz, hE⟩ := hv
  have hx := B₀.exec
  have hb := B₀.bytes
  have hr := B₀.returns
  have hts := atoms_spec (ws := gs_ws y_TU_move b_TU_move 4 none) B₀.pre
  have ht : ∀ w ∈ gs_w, w.before _ s = true := fun w h => hts w (List.mem_cons_of_mem _ h)
  have hown : s.vm.findClass R_TU = some m.cls := findClass_of_methodNamed B₀.named
  have hlocks := B₀.notSynchronized
  have hA : ∀ q : Nat, s.heap.size ≤ q → gs_A X q := fun q h => Nat.le_trans hz h
  have hS : va_S (gs_A X) s.heap s.heap [] := va_S.rf
  have hl := lv_entry ([.ref h, .int (nI fr), .int (nI to_)]) (n := 4) (Nat.le_of_ble_eq_true rfl)
  rw [lg_entry_eq]
  generalize (lg_sl ([.ref h, .int (nI fr), .int (nI to_)]) ++ List.replicate (4 - (lg_sl ([.ref h, .int (nI fr), .int (nI to_)])).length) Slot.unset).toArray = ls at hl ⊢
  have hl : lv_has ls 4 [(0, .ref h), (1, .int (nI fr)), (2, .int (nI to_))] := hl
  refine lv_aload_n hx hb d_TU_move_0 rfl (lv_at hl 0 rfl) ?_
  refine gs_get hx hb ht hown hK hG k_TU h0 3 (by decide) w_77 rfl d_TU_move_1 ?_
  refine lv_iload_n hx hb d_TU_move_4 rfl (lv_at hl 1 rfl) ?_
  refine lv_isub hx hb d_TU_move_5 ?_
  refine gs_top (pk_sub (a := n) (b := fr) (by omega)) ?_
  refine lv_istore_n (lv' := [(3, .int (nI (n - fr))), (0, .ref h), (1, .int (nI fr)), (2, .int (nI to_))]) hx hb d_TU_move_6 rfl hl (by decide) rfl (fun ls hl => ?_)
  refine lv_aload_n hx hb d_TU_move_7 rfl (lv_at hl 1 rfl) ?_
  refine gs_get hx hb ht hown hK hG k_TU h0 0 (by decide) w_68 rfl d_TU_move_8 ?_
  refine lv_iload_n hx hb d_TU_move_11 rfl (lv_at hl 2 rfl) ?_
  refine lv_aload_n hx hb d_TU_move_12 rfl (lv_at hl 1 rfl) ?_
  refine gs_get hx hb ht hown hK hG k_TU h0 0 (by decide) w_68 rfl d_TU_move_13 ?_
  refine lv_iload_n hx hb d_TU_move_16 rfl (lv_at hl 3 rfl) ?_
  refine lv_iload_n hx hb d_TU_move_17 rfl (lv_at hl 0 rfl) ?_
  refine gs_copyi hx hb (hml.trans hl.1.symm) ht hown w_222 w_224 w_223 w_13 hK hG hS h1 h1 (sp := fr) (dp := to_) (n := n - fr) (by omega) (by omega) (by omega) (by omega) (by decide) (by decide) d_TU_move_18 (fun H locs hG hS => ?_)
  have hG : gs_H X (gs_up σ ac (gs_ia X 301 (va_cpy cs cs fr to_ (n - fr)))) H := hG
  obtain ⟨σ_1, eσ_1⟩ : ∃ zq, zq = gs_up σ ac (gs_ia X 301 (va_cpy cs cs fr to_ (n - fr))) := ⟨_, rfl⟩
  rw [← eσ_1] at hG
  have hc_2 : σ_1 h = some (gs_ob 6 [.ref ac, .ref ai, .ref ab, .int (nI n)]) := by rw [eσ_1]; exact gs_ku (gs_ne h0 h1 (by simp)) h0
  have hc_3 : σ_1 ai = some (gs_ia X 301 ci) := by rw [eσ_1]; exact gs_ku (Ne.symm n1) h2
  have hc_4 : σ_1 ab = some (gs_ia X 301 cr) := by rw [eσ_1]; exact gs_ku (Ne.symm n2) h3
  have hc_5 : σ_1 ac = some (gs_ia X 301 (va_cpy cs cs fr to_ (n - fr))) := by rw [eσ_1]; exact gs_us
  refine lv_aload_n hx hb d_TU_move_21 rfl (lv_at hl 1 rfl) ?_
  refine gs_get hx hb ht hown hK hG k_TU hc_2 1 (by decide) w_72 rfl d_TU_move_22 ?_
  refine lv_iload_n hx hb d_TU_move_25 rfl (lv_at hl 2 rfl) ?_
  refine lv_aload_n hx hb d_TU_move_26 rfl (lv_at hl 1 rfl) ?_
  refine gs_get hx hb ht hown hK hG k_TU hc_2 1 (by decide) w_72 rfl d_TU_move_27 ?_
  refine lv_iload_n hx hb d_TU_move_30 rfl (lv_at hl 3 rfl) ?_
  refine lv_iload_n hx hb d_TU_move_31 rfl (lv_at hl 0 rfl) ?_
  refine gs_copyi hx hb (hml.trans hl.1.symm) ht hown w_222 w_224 w_223 w_13 hK hG hS hc_3 hc_3 (sp := fr) (dp := to_) (n := n - fr) (by omega) (by omega) (by omega) (by omega) (by decide) (by decide) d_TU_move_32 (fun H locs hG hS => ?_)
  have hG : gs_H X (gs_up σ_1 ai (gs_ia X 301 (va_cpy ci ci fr to_ (n - fr)))) H := hG
  obtain ⟨σ_6, eσ_6⟩ : ∃ zq, zq = gs_up σ_1 ai (gs_ia X 301 (va_cpy ci ci fr to_ (n - fr))) := ⟨_, rfl⟩
  rw [← eσ_6] at hG
  have hc_7 : σ_6 h = some (gs_ob 6 [.ref ac, .ref ai, .ref ab, .int (nI n)]) := by rw [eσ_6]; exact gs_ku (gs_ne hc_2 hc_3 (by simp)) hc_2
  have hc_8 : σ_6 ab = some (gs_ia X 301 cr) := by rw [eσ_6]; exact gs_ku (Ne.symm n3) hc_4
  have hc_9 : σ_6 ac = some (gs_ia X 301 (va_cpy cs cs fr to_ (n - fr))) := by rw [eσ_6]; exact gs_ku n1 hc_5
  have hc_10 : σ_6 ai = some (gs_ia X 301 (va_cpy ci ci fr to_ (n - fr))) := by rw [eσ_6]; exact gs_us
  refine lv_aload_n hx hb d_TU_move_35 rfl (lv_at hl 1 rfl) ?_
  refine gs_get hx hb ht hown hK hG k_TU hc_7 2 (by decide) w_74 rfl d_TU_move_36 ?_
  refine lv_iload_n hx hb d_TU_move_39 rfl (lv_at hl 2 rfl) ?_
  refine lv_aload_n hx hb d_TU_move_40 rfl (lv_at hl 1 rfl) ?_
  refine gs_get hx hb ht hown hK hG k_TU hc_7 2 (by decide) w_74 rfl d_TU_move_41 ?_
  refine lv_iload_n hx hb d_TU_move_44 rfl (lv_at hl 3 rfl) ?_
  refine lv_iload_n hx hb d_TU_move_45 rfl (lv_at hl 0 rfl) ?_
  refine gs_copyi hx hb (hml.trans hl.1.symm) ht hown w_222 w_224 w_223 w_13 hK hG hS hc_8 hc_8 (sp := fr) (dp := to_) (n := n - fr) (by omega) (by omega) (by omega) (by omega) (by decide) (by decide) d_TU_move_46 (fun H locs hG hS => ?_)
  have hG : gs_H X (gs_up σ_6 ab (gs_ia X 301 (va_cpy cr cr fr to_ (n - fr)))) H := hG
  obtain ⟨σ_11, eσ_11⟩ : ∃ zq, zq = gs_up σ_6 ab (gs_ia X 301 (va_cpy cr cr fr to_ (n - fr))) := ⟨_, rfl⟩
  rw [← eσ_11] at hG
  have hc_12 : σ_11 h = some (gs_ob 6 [.ref ac, .ref ai, .ref ab, .int (nI n)]) := by rw [eσ_11]; exact gs_ku (gs_ne hc_7 hc_8 (by simp)) hc_7
  have hc_13 : σ_11 ac = some (gs_ia X 301 (va_cpy cs cs fr to_ (n - fr))) := by rw [eσ_11]; exact gs_ku n2 hc_9
  have hc_14 : σ_11 ai = some (gs_ia X 301 (va_cpy ci ci fr to_ (n - fr))) := by rw [eσ_11]; exact gs_ku n3 hc_10
  have hc_15 : σ_11 ab = some (gs_ia X 301 (va_cpy cr cr fr to_ (n - fr))) := by rw [eσ_11]; exact gs_us
  exact gs_vret hx hb hr hK hE hz hG hS hlocks (by first | decide | omega | (dsimp only [headSpec]; omega)) (by first | decide | omega | (dsimp only [headSpec]; omega)) (by first | (subst_eqs; rfl) | (simp only [*])) d_TU_move_49
set_option maxHeartbeats 4000000 in
set_option maxRecDepth 100000 in
/-- Tuples.insert -/
theorem c_TU_insert (l : Launch) (X : gs_X) (σ : gs_St) (h ac ai ab : Nat) (E : List En) (cs ci cr : Nat → Int32) (cd rd : Nat) (ru : Int32)
    (n1 : ac ≠ ai) (n2 : ac ≠ ab) (n3 : ai ≠ ab) (hB : tuB E) (hR : tuR E cs ci cr) (hn : E.length ≤ 300) (hcd : cd < 2 ^ 30) (h0 : σ h = some (gs_ob 6 [.ref ac, .ref ai, .ref ab, .int (nI E.length)])) (h1 : σ ac = some (gs_ia X 301 cs)) (h2 : σ ai = some (gs_ia X 301 ci)) (h3 : σ ab = some (gs_ia X 301 cr)) : gs_Mv l X y_TU_insert b_TU_insert 5 ({ frames := 2, cells := 0, slots := 0, locals := 63 }) σ [.ref h, .int (nI cd), .int (nI rd), .int ru] (fun σ' => ∃ cs' ci' cr', σ' = tu4 X σ h ac ai ab (E.length + 1) cs' ci' cr' ∧ tuR (insE E (cd, rd, ru)) cs' ci' cr') := by
  refine Met.ofW (cc := b_TU_insert) (maxL := 5) (ret := none) (by decide) rfl ?_
  intro p e s m args below meth c s₁ B₀ hml hv
  obtain ⟨rfl, hK, hG, hz, hE⟩ := hv
  have hx := B₀.exec
  have hb := B₀.bytes
  have hr := B₀.returns
  have hts := atoms_spec (ws := gs_ws y_TU_insert b_TU_insert 5 none) B₀.pre
  have ht : ∀ w ∈ gs_w, w.before _ s = true := fun w h => hts w (List.mem_cons_of_mem _ h)
  have hown : s.vm.findClass R_TU = some m.cls := findClass_of_methodNamed B₀.named
  have hlocks := B₀.notSynchronized
  have hA : ∀ q : Nat, s.heap.size ≤ q → gs_A X q := fun q h => Nat.le_trans hz h
  have hS : va_S (gs_A X) s.heap s.heap [] := va_S.rf
  have hl := lv_entry ([.ref h, .int (nI cd), .int (nI rd), .int ru]) (n := 5) (Nat.le_of_ble_eq_true rfl)
  rw [lg_entry_eq]
  generalize (lg_sl ([.ref h, .int (nI cd), .int (nI rd), .int ru]) ++ List.replicate (5 - (lg_sl ([.ref h, .int (nI cd), .int (nI rd), .int ru])).length) Slot.unset).toArray = ls at hl ⊢
  have hl : lv_has ls 5 [(0, .ref h), (1, .int (nI cd)), (2, .int (nI rd)), (3, .int ru)] := hl
  have hcl : cb (cds E) cd ≤ E.length := by simpa using cb_le (cds E) cd
  have hlen := hB.2.1
  refine lv_aload_n hx hb d_TU_insert_0 rfl (lv_at hl 0 rfl) ?_
  refine gs_get hx hb ht hown hK hG k_TU h0 3 (by decide) w_77 rfl d_TU_insert_1 ?_
  refine lv_sipush (v := nI 301) hx hb d_TU_insert_4 (by decide) ?_
  refine lv_icmp_lt (tgt := 11) hx hb d_TU_insert_7 (by decide) (fun c_7 => ?_) (fun c_7 => ?_)
  · have c_7 : E.length < 301 := (nI_ltI (by omega) (by omega)).mp c_7
    refine lv_aload_n hx hb d_TU_insert_11 rfl (lv_at hl 0 rfl) ?_
    refine lv_iload_n hx hb d_TU_insert_12 rfl (lv_at hl 1 rfl) ?_
    refine gs_callVi (As := [.int (nI cd)]) (rest := []) ⟨hx, hb, hml, hown, hts⟩ hK hE hz hG hS (c_TU_placeOf l X σ h ac ai ab (cds E) cs cd hB.1 (by simpa using hB.2.1) (hR.cds hB.2.2) hcd (by simpa using h0) h1) mV_TU_placeOf w_200 h0 rfl rfl hl.1 rfl (Nat.le_of_ble_eq_true rfl) ⟨(by first | decide | omega | (dsimp only [headSpec]; omega)), (by first | decide | omega | (dsimp only [headSpec]; omega))⟩ ⟨(by first | decide | omega | (dsimp only [headSpec]; omega)), (by first | decide | omega | (dsimp only [headSpec]; omega))⟩ d_TU_insert_13 (fun r_13 σ_13 H locs hp_13 hG hS => ?_)
    rw [hp_13.1] at hG
    refine gs_top (show r_13 = (nI (cb (cds E) cd)) from hp_13.2) ?_
    refine lv_istore (lv' := [(4, .int (nI (cb (cds E) cd))), (0, .ref h), (1, .int (nI cd)), (2, .int (nI rd)), (3, .int ru)]) hx hb d_TU_insert_16 hl (by decide) rfl (fun ls hl => ?_)
    refine lv_aload_n hx hb d_TU_insert_18 rfl (lv_at hl 1 rfl) ?_
    refine lv_iload hx hb d_TU_insert_19 (lv_at hl 0 rfl) ?_
    refine lv_iload hx hb d_TU_insert_21 (lv_at hl 0 rfl) ?_
    refine lv_iconst (v := nI 1) hx hb d_TU_insert_23 (by decide) ?_
    refine lv_iadd hx hb d_TU_insert_24 ?_
    refine gs_top (nI_add (cb (cds E) cd) 1) ?_
    refine gs_callVv (As := [.int (nI (cb (cds E) cd)), .int (nI ((cb (cds E) cd) + 1))]) (rest := []) ⟨hx, hb, hml, hown, hts⟩ hK hE hz hG hS (c_TU_move l X σ h ac ai ab E.length (cb (cds E) cd) ((cb (cds E) cd) + 1) cs ci cr n1 n2 n3 (by omega) (by omega) (by omega) h0 h1 h2 h3) mV_TU_move w_218 h0 rfl rfl hl.1 rfl (Nat.le_of_ble_eq_true rfl) ⟨(by first | decide | omega | (dsimp only [headSpec]; omega)), (by first | decide | omega | (dsimp only [headSpec]; omega))⟩ ⟨(by first | decide | omega | (dsimp only [headSpec]; omega)), (by first | decide | omega | (dsimp only [headSpec]; omega))⟩ d_TU_insert_25 (fun σ_25 H locs hp_25 hG hS => ?_)
    rw [hp_25] at hG
    obtain ⟨σ_1, eσ_1⟩ : ∃ zq, zq = gs_up σ ac (gs_ia X 301 (va_cpy cs cs (cb (cds E) cd) ((cb (cds E) cd) + 1) (E.length - (cb (cds E) cd)))) := ⟨_, rfl⟩
    have hc_2 : σ_1 h = some (gs_ob 6 [.ref ac, .ref ai, .ref ab, .int (nI E.length)]) := by rw [eσ_1]; exact gs_ku (gs_ne h0 h1 (by simp)) h0
    have hc_3 : σ_1 ai = some (gs_ia X 301 ci) := by rw [eσ_1]; exact gs_ku (Ne.symm n1) h2
    have hc_4 : σ_1 ab = some (gs_ia X 301 cr) := by rw [eσ_1]; exact gs_ku (Ne.symm n2) h3
    have hc_5 : σ_1 ac = some (gs_ia X 301 (va_cpy cs cs (cb (cds E) cd) ((cb (cds E) cd) + 1) (E.length - (cb (cds E) cd)))) := by rw [eσ_1]; exact gs_us
    obtain ⟨σ_6, eσ_6⟩ : ∃ zq, zq = gs_up σ_1 ai (gs_ia X 301 (va_cpy ci ci (cb (cds E) cd) ((cb (cds E) cd) + 1) (E.length - (cb (cds E) cd)))) := ⟨_, rfl⟩
    have hc_7 : σ_6 h = some (gs_ob 6 [.ref ac, .ref ai, .ref ab, .int (nI E.length)]) := by rw [eσ_6]; exact gs_ku (gs_ne hc_2 hc_3 (by simp)) hc_2
    have hc_8 : σ_6 ab = some (gs_ia X 301 cr) := by rw [eσ_6]; exact gs_ku (Ne.symm n3) hc_4
    have hc_9 : σ_6 ac = some (gs_ia X 301 (va_cpy cs cs (cb (cds E) cd) ((cb (cds E) cd) + 1) (E.length - (cb (cds E) cd)))) := by rw [eσ_6]; exact gs_ku n1 hc_5
    have hc_10 : σ_6 ai = some (gs_ia X 301 (va_cpy ci ci (cb (cds E) cd) ((cb (cds E) cd) + 1) (E.length - (cb (cds E) cd)))) := by rw [eσ_6]; exact gs_us
    obtain ⟨σ_11, eσ_11⟩ : ∃ zq, zq = gs_up σ_6 ab (gs_ia X 301 (va_cpy cr cr (cb (cds E) cd) ((cb (cds E) cd) + 1) (E.length - (cb (cds E) cd)))) := ⟨_, rfl⟩
    have hc_12 : σ_11 h = some (gs_ob 6 [.ref ac, .ref ai, .ref ab, .int (nI E.length)]) := by rw [eσ_11]; exact gs_ku (gs_ne hc_7 hc_8 (by simp)) hc_7
    have hc_13 : σ_11 ac = some (gs_ia X 301 (va_cpy cs cs (cb (cds E) cd) ((cb (cds E) cd) + 1) (E.length - (cb (cds E) cd)))) := by rw [eσ_11]; exact gs_ku n2 hc_9
    have hc_14 : σ_11 ai = some (gs_ia X 301 (va_cpy ci ci (cb (cds E) cd) ((cb (cds E) cd) + 1) (E.length - (cb (cds E) cd)))) := by rw [eσ_11]; exact gs_ku n3 hc_10
    have hc_15 : σ_11 ab = some (gs_ia X 301 (va_cpy cr cr (cb (cds E) cd) ((cb (cds E) cd) + 1) (E.length - (cb (cds E) cd)))) := by rw [eσ_11]; exact gs_us
    rw [← eσ_1, ← eσ_6, ← eσ_11] at hG
    refine lv_aload_n hx hb d_TU_insert_28 rfl (lv_at hl 1 rfl) ?_
    refine gs_get hx hb ht hown hK hG k_TU hc_12 0 (by decide) w_68 rfl d_TU_insert_29 ?_
    refine lv_iload hx hb d_TU_insert_32 (lv_at hl 0 rfl) ?_
    refine lv_iload_n hx hb d_TU_insert_34 rfl (lv_at hl 2 rfl) ?_
    refine gs_iast hx hb hK hG hS hc_13 (j := cb (cds E) cd) (by omega) (by omega) d_TU_insert_35 (fun H locs hG hS => ?_)
    have hG : gs_H X (gs_up σ_11 ac (gs_ia X 301 (upd (va_cpy cs cs (cb (cds E) cd) ((cb (cds E) cd) + 1) (E.length - (cb (cds E) cd))) (cb (cds E) cd) (nI cd)))) H := hG
    obtain ⟨σ_16, eσ_16⟩ : ∃ zq, zq = gs_up σ_11 ac (gs_ia X 301 (upd (va_cpy cs cs (cb (cds E) cd) ((cb (cds E) cd) + 1) (E.length - (cb (cds E) cd))) (cb (cds E) cd) (nI cd))) := ⟨_, rfl⟩
    rw [← eσ_16] at hG
    have hc_17 : σ_16 h = some (gs_ob 6 [.ref ac, .ref ai, .ref ab, .int (nI E.length)]) := by rw [eσ_16]; exact gs_ku (gs_ne hc_12 hc_13 (by simp)) hc_12
    have hc_18 : σ_16 ai = some (gs_ia X 301 (va_cpy ci ci (cb (cds E) cd) ((cb (cds E) cd) + 1) (E.length - (cb (cds E) cd)))) := by rw [eσ_16]; exact gs_ku (Ne.symm n1) hc_14
    have hc_19 : σ_16 ab = some (gs_ia X 301 (va_cpy cr cr (cb (cds E) cd) ((cb (cds E) cd) + 1) (E.length - (cb (cds E) cd)))) := by rw [eσ_16]; exact gs_ku (Ne.symm n2) hc_15
    have hc_20 : σ_16 ac = some (gs_ia X 301 (upd (va_cpy cs cs (cb (cds E) cd) ((cb (cds E) cd) + 1) (E.length - (cb (cds E) cd))) (cb (cds E) cd) (nI cd))) := by rw [eσ_16]; exact gs_us
    refine lv_aload_n hx hb d_TU_insert_36 rfl (lv_at hl 1 rfl) ?_
    refine gs_get hx hb ht hown hK hG k_TU hc_17 1 (by decide) w_72 rfl d_TU_insert_37 ?_
    refine lv_iload hx hb d_TU_insert_40 (lv_at hl 0 rfl) ?_
    refine lv_iload_n hx hb d_TU_insert_42 rfl (lv_at hl 3 rfl) ?_
    refine gs_iast hx hb hK hG hS hc_18 (j := cb (cds E) cd) (by omega) (by omega) d_TU_insert_43 (fun H locs hG hS => ?_)
    have hG : gs_H X (gs_up σ_16 ai (gs_ia X 301 (upd (va_cpy ci ci (cb (cds E) cd) ((cb (cds E) cd) + 1) (E.length - (cb (cds E) cd))) (cb (cds E) cd) (nI rd)))) H := hG
    obtain ⟨σ_21, eσ_21⟩ : ∃ zq, zq = gs_up σ_16 ai (gs_ia X 301 (upd (va_cpy ci ci (cb (cds E) cd) ((cb (cds E) cd) + 1) (E.length - (cb (cds E) cd))) (cb (cds E) cd) (nI rd))) := ⟨_, rfl⟩
    rw [← eσ_21] at hG
    have hc_22 : σ_21 h = some (gs_ob 6 [.ref ac, .ref ai, .ref ab, .int (nI E.length)]) := by rw [eσ_21]; exact gs_ku (gs_ne hc_17 hc_18 (by simp)) hc_17
    have hc_23 : σ_21 ab = some (gs_ia X 301 (va_cpy cr cr (cb (cds E) cd) ((cb (cds E) cd) + 1) (E.length - (cb (cds E) cd)))) := by rw [eσ_21]; exact gs_ku (Ne.symm n3) hc_19
    have hc_24 : σ_21 ac = some (gs_ia X 301 (upd (va_cpy cs cs (cb (cds E) cd) ((cb (cds E) cd) + 1) (E.length - (cb (cds E) cd))) (cb (cds E) cd) (nI cd))) := by rw [eσ_21]; exact gs_ku n1 hc_20
    have hc_25 : σ_21 ai = some (gs_ia X 301 (upd (va_cpy ci ci (cb (cds E) cd) ((cb (cds E) cd) + 1) (E.length - (cb (cds E) cd))) (cb (cds E) cd) (nI rd))) := by rw [eσ_21]; exact gs_us
    refine lv_aload_n hx hb d_TU_insert_44 rfl (lv_at hl 1 rfl) ?_
    refine gs_get hx hb ht hown hK hG k_TU hc_22 2 (by decide) w_74 rfl d_TU_insert_45 ?_
    refine lv_iload hx hb d_TU_insert_48 (lv_at hl 0 rfl) ?_
    refine lv_iload_n hx hb d_TU_insert_50 rfl (lv_at hl 4 rfl) ?_
    refine gs_iast hx hb hK hG hS hc_23 (j := cb (cds E) cd) (by omega) (by omega) d_TU_insert_51 (fun H locs hG hS => ?_)
    have hG : gs_H X (gs_up σ_21 ab (gs_ia X 301 (upd (va_cpy cr cr (cb (cds E) cd) ((cb (cds E) cd) + 1) (E.length - (cb (cds E) cd))) (cb (cds E) cd) ru))) H := hG
    obtain ⟨σ_26, eσ_26⟩ : ∃ zq, zq = gs_up σ_21 ab (gs_ia X 301 (upd (va_cpy cr cr (cb (cds E) cd) ((cb (cds E) cd) + 1) (E.length - (cb (cds E) cd))) (cb (cds E) cd) ru)) := ⟨_, rfl⟩
    rw [← eσ_26] at hG
    have hc_27 : σ_26 h = some (gs_ob 6 [.ref ac, .ref ai, .ref ab, .int (nI E.length)]) := by rw [eσ_26]; exact gs_ku (gs_ne hc_22 hc_23 (by simp)) hc_22
    have hc_28 : σ_26 ac = some (gs_ia X 301 (upd (va_cpy cs cs (cb (cds E) cd) ((cb (cds E) cd) + 1) (E.length - (cb (cds E) cd))) (cb (cds E) cd) (nI cd))) := by rw [eσ_26]; exact gs_ku n2 hc_24
    have hc_29 : σ_26 ai = some (gs_ia X 301 (upd (va_cpy ci ci (cb (cds E) cd) ((cb (cds E) cd) + 1) (E.length - (cb (cds E) cd))) (cb (cds E) cd) (nI rd))) := by rw [eσ_26]; exact gs_ku n3 hc_25
    have hc_30 : σ_26 ab = some (gs_ia X 301 (upd (va_cpy cr cr (cb (cds E) cd) ((cb (cds E) cd) + 1) (E.length - (cb (cds E) cd))) (cb (cds E) cd) ru)) := by rw [eσ_26]; exact gs_us
    refine lv_aload_n hx hb d_TU_insert_52 rfl (lv_at hl 1 rfl) ?_
    refine lv_dup hx hb d_TU_insert_53 rfl ?_
    refine gs_get hx hb ht hown hK hG k_TU hc_27 3 (by decide) w_77 rfl d_TU_insert_54 ?_
    refine lv_iconst (v := nI 1) hx hb d_TU_insert_57 (by decide) ?_
    refine lv_iadd hx hb d_TU_insert_58 ?_
    refine gs_top (nI_add E.length 1) ?_
    refine gs_put hx hb ht hown hK hG hS k_TU hc_27 3 (by decide) w_77 rfl rfl rfl (Nat.le_of_ble_eq_true rfl) d_TU_insert_59 (fun H locs hG hS => ?_)
    have hG : gs_H X (gs_up σ_26 h (gs_ob 6 [.ref ac, .ref ai, .ref ab, .int (nI (E.length + 1))])) H := hG
    obtain ⟨σ_31, eσ_31⟩ : ∃ zq, zq = gs_up σ_26 h (gs_ob 6 [.ref ac, .ref ai, .ref ab, .int (nI (E.length + 1))]) := ⟨_, rfl⟩
    rw [← eσ_31] at hG
    have hc_32 : σ_31 ac = some (gs_ia X 301 (upd (va_cpy cs cs (cb (cds E) cd) ((cb (cds E) cd) + 1) (E.length - (cb (cds E) cd))) (cb (cds E) cd) (nI cd))) := by rw [eσ_31]; exact gs_ku (gs_ne hc_28 hc_27 (by simp)) hc_28
    have hc_33 : σ_31 ai = some (gs_ia X 301 (upd (va_cpy ci ci (cb (cds E) cd) ((cb (cds E) cd) + 1) (E.length - (cb (cds E) cd))) (cb (cds E) cd) (nI rd))) := by rw [eσ_31]; exact gs_ku (gs_ne hc_29 hc_27 (by simp)) hc_29
    have hc_34 : σ_31 ab = some (gs_ia X 301 (upd (va_cpy cr cr (cb (cds E) cd) ((cb (cds E) cd) + 1) (E.length - (cb (cds E) cd))) (cb (cds E) cd) ru)) := by rw [eσ_31]; exact gs_ku (gs_ne hc_30 hc_27 (by simp)) hc_30
    have hc_35 : σ_31 h = some (gs_ob 6 [.ref ac, .ref ai, .ref ab, .int (nI (E.length + 1))]) := by rw [eσ_31]; exact gs_us
    exact gs_vret hx hb hr hK hE hz hG hS hlocks (by first | decide | omega | (dsimp only [headSpec]; omega)) (by first | decide | omega | (dsimp only [headSpec]; omega)) (⟨_, _, _, (by simp only [*]; exact tu4_fold n1 n2 n3), tuR_ins hR (cd, rd, ru) rfl rfl⟩) d_TU_insert_62
  · have c_7 : ¬ E.length < 301 := mt (nI_ltI (by omega) (by omega)).mpr c_7
    exact absurd c_7 (by omega)
set_option maxHeartbeats 4000000 in
set_option maxRecDepth 100000 in
/-- Tuples.remove -/
theorem c_TU_remove (l : Launch) (X : gs_X) (σ : gs_St) (h ac ai ab : Nat) (E : List En) (cs ci cr : Nat → Int32) (cd : Nat)
    (n1 : ac ≠ ai) (n2 : ac ≠ ab) (n3 : ai ≠ ab) (hB : tuB E) (hR : tuR E cs ci cr) (hin0 : cd ∈ cds E) (hcd : cd < 2 ^ 30) (h0 : σ h = some (gs_ob 6 [.ref ac, .ref ai, .ref ab, .int (nI E.length)])) (h1 : σ ac = some (gs_ia X 301 cs)) (h2 : σ ai = some (gs_ia X 301 ci)) (h3 : σ ab = some (gs_ia X 301 cr)) : gs_Mv l X y_TU_remove b_TU_remove 3 ({ frames := 2, cells := 0, slots := 0, locals := 63 }) σ [.ref h, .int (nI cd)] (fun σ' => ∃ cs' ci' cr', σ' = tu4 X σ h ac ai ab (E.length - 1) cs' ci' cr' ∧ tuR (delE E (cb (cds E) cd)) cs' ci' cr') := by
  refine Met.ofW (cc := b_TU_remove) (maxL := 3) (ret := none) (by decide) rfl ?_
  intro p e s m args below meth c s₁ B₀ hml hv
  obtain ⟨rfl, hK, hG, hz, hE⟩ := hv
  have hx := B₀.exec
  have hb := B₀.bytes
  have hr := B₀.returns
  have hts := atoms_spec (ws := gs_ws y_TU_remove b_TU_remove 3 none) B₀.pre
  have ht : ∀ w ∈ gs_w, w.before _ s = true := fun w h => hts w (List.mem_cons_of_mem _ h)
  have hown : s.vm.findClass R_TU = some m.cls := findClass_of_methodNamed B₀.named
  have hlocks := B₀.notSynchronized
  have hA : ∀ q : Nat, s.heap.size ≤ q → gs_A X q := fun q h => Nat.le_trans hz h
  have hS : va_S (gs_A X) s.heap s.heap [] := va_S.rf
  have hl := lv_entry ([.ref h, .int (nI cd)]) (n := 3) (Nat.le_of_ble_eq_true rfl)
  rw [lg_entry_eq]
  generalize (lg_sl ([.ref h, .int (nI cd)]) ++ List.replicate (3 - (lg_sl ([.ref h, .int (nI cd)])).length) Slot.unset).toArray = ls at hl ⊢
  have hl : lv_has ls 3 [(0, .ref h), (1, .int (nI cd))] := hl
  have hmem := (mem_cb hB.1 cd).mp hin0
  have hcl : cb (cds E) cd < E.length := by have := (List.getElem?_eq_some_iff.mp hmem).1; rwa [List.length_map] at this
  have hlen := hB.2.1
  obtain ⟨x, hx9, hx0⟩ := cds_get hmem
  obtain ⟨hx1, hx2, hx3⟩ := hR _ _ hx9
  rw [hx0] at hx1
  refine lv_aload_n hx hb d_TU_remove_0 rfl (lv_at hl 0 rfl) ?_
  refine lv_iload_n hx hb d_TU_remove_1 rfl (lv_at hl 1 rfl) ?_
  refine gs_callVi (As := [.int (nI cd)]) (rest := []) ⟨hx, hb, hml, hown, hts⟩ hK hE hz hG hS (c_TU_placeOf l X σ h ac ai ab (cds E) cs cd hB.1 (by simpa using hB.2.1) (hR.cds hB.2.2) hcd (by simpa using h0) h1) mV_TU_placeOf w_200 h0 rfl rfl hl.1 rfl (Nat.le_of_ble_eq_true rfl) ⟨(by first | decide | omega | (dsimp only [headSpec]; omega)), (by first | decide | omega | (dsimp only [headSpec]; omega))⟩ ⟨(by first | decide | omega | (dsimp only [headSpec]; omega)), (by first | decide | omega | (dsimp only [headSpec]; omega))⟩ d_TU_remove_2 (fun r_2 σ_2 H locs hp_2 hG hS => ?_)
  rw [hp_2.1] at hG
  refine gs_top (show r_2 = (nI (cb (cds E) cd)) from hp_2.2) ?_
  refine lv_istore_n (lv' := [(2, .int (nI (cb (cds E) cd))), (0, .ref h), (1, .int (nI cd))]) hx hb d_TU_remove_5 rfl hl (by decide) rfl (fun ls hl => ?_)
  refine lv_iload_n hx hb d_TU_remove_6 rfl (lv_at hl 0 rfl) ?_
  refine lv_aload_n hx hb d_TU_remove_7 rfl (lv_at hl 1 rfl) ?_
  refine gs_get hx hb ht hown hK hG k_TU h0 3 (by decide) w_77 rfl d_TU_remove_8 ?_
  refine lv_icmp_ge (tgt := 42) hx hb d_TU_remove_11 (by decide) (fun c_11 => ?_) (fun c_11 => ?_)
  · have c_11 : E.length ≤ (cb (cds E) cd) := (nI_leI (by omega) (by omega)).mp c_11
    exact absurd c_11 (by omega)
  · have c_11 : ¬ E.length ≤ (cb (cds E) cd) := mt (nI_leI (by omega) (by omega)).mpr c_11
    refine lv_aload_n hx hb d_TU_remove_14 rfl (lv_at hl 1 rfl) ?_
    refine gs_get hx hb ht hown hK hG k_TU h0 0 (by decide) w_68 rfl d_TU_remove_15 ?_
    refine lv_iload_n hx hb d_TU_remove_18 rfl (lv_at hl 0 rfl) ?_
    refine gs_iald hx hb hK hG h1 (j := cb (cds E) cd) (by omega) (by omega) d_TU_remove_19 ?_
    refine gs_top (show (cs (cb (cds E) cd)) = (nI cd) from hx1) ?_
    refine lv_iload_n hx hb d_TU_remove_20 rfl (lv_at hl 2 rfl) ?_
    refine lv_icmp_ne (tgt := 42) hx hb d_TU_remove_21 (by decide) (fun c_21 => ?_) (fun c_21 => ?_)
    · have c_21 : ¬ cd = cd := mt (nI_eq (by omega) (by omega)).mpr c_21
      exact absurd rfl c_21
    · have c_21 : cd = cd :=  (nI_eq (by omega) (by omega)).mp c_21
      refine lv_aload_n hx hb d_TU_remove_24 rfl (lv_at hl 1 rfl) ?_
      refine lv_iload_n hx hb d_TU_remove_25 rfl (lv_at hl 0 rfl) ?_
      refine lv_iconst (v := nI 1) hx hb d_TU_remove_26 (by decide) ?_
      refine lv_iadd hx hb d_TU_remove_27 ?_
      refine gs_top (nI_add (cb (cds E) cd) 1) ?_
      refine lv_iload_n hx hb d_TU_remove_28 rfl (lv_at hl 0 rfl) ?_
      refine gs_callVv (As := [.int (nI ((cb (cds E) cd) + 1)), .int (nI (cb (cds E) cd))]) (rest := []) ⟨hx, hb, hml, hown, hts⟩ hK hE hz hG hS (c_TU_move l X σ h ac ai ab E.length ((cb (cds E) cd) + 1) (cb (cds E) cd) cs ci cr n1 n2 n3 (by omega) (by omega) (by omega) h0 h1 h2 h3) mV_TU_move w_218 h0 rfl rfl hl.1 rfl (Nat.le_of_ble_eq_true rfl) ⟨(by first | decide | omega | (dsimp only [headSpec]; omega)), (by first | decide | omega | (dsimp only [headSpec]; omega))⟩ ⟨(by first | decide | omega | (dsimp only [headSpec]; omega)), (by first | decide | omega | (dsimp only [headSpec]; omega))⟩ d_TU_remove_29 (fun σ_29 H locs hp_29 hG hS => ?_)
      rw [hp_29] at hG
      obtain ⟨σ_1, eσ_1⟩ : ∃ zq, zq = gs_up σ ac (gs_ia X 301 (va_cpy cs cs ((cb (cds E) cd) + 1) (cb (cds E) cd) (E.length - ((cb (cds E) cd) + 1)))) := ⟨_, rfl⟩
      have hc_2 : σ_1 h = some (gs_ob 6 [.ref ac, .ref ai, .ref ab, .int (nI E.length)]) := by rw [eσ_1]; exact gs_ku (gs_ne h0 h1 (by simp)) h0
      have hc_3 : σ_1 ai = some (gs_ia X 301 ci) := by rw [eσ_1]; exact gs_ku (Ne.symm n1) h2
      have hc_4 : σ_1 ab = some (gs_ia X 301 cr) := by rw [eσ_1]; exact gs_ku (Ne.symm n2) h3
      have hc_5 : σ_1 ac = some (gs_ia X 301 (va_cpy cs cs ((cb (cds E) cd) + 1) (cb (cds E) cd) (E.length - ((cb (cds E) cd) + 1)))) := by rw [eσ_1]; exact gs_us
      obtain ⟨σ_6, eσ_6⟩ : ∃ zq, zq = gs_up σ_1 ai (gs_ia X 301 (va_cpy ci ci ((cb (cds E) cd) + 1) (cb (cds E) cd) (E.length - ((cb (cds E) cd) + 1)))) := ⟨_, rfl⟩
      have hc_7 : σ_6 h = some (gs_ob 6 [.ref ac, .ref ai, .ref ab, .int (nI E.length)]) := by rw [eσ_6]; exact gs_ku (gs_ne hc_2 hc_3 (by simp)) hc_2
      have hc_8 : σ_6 ab = some (gs_ia X 301 cr) := by rw [eσ_6]; exact gs_ku (Ne.symm n3) hc_4
      have hc_9 : σ_6 ac = some (gs_ia X 301 (va_cpy cs cs ((cb (cds E) cd) + 1) (cb (cds E) cd) (E.length - ((cb (cds E) cd) + 1)))) := by rw [eσ_6]; exact gs_ku n1 hc_5
      have hc_10 : σ_6 ai = some (gs_ia X 301 (va_cpy ci ci ((cb (cds E) cd) + 1) (cb (cds E) cd) (E.length - ((cb (cds E) cd) + 1)))) := by rw [eσ_6]; exact gs_us
      obtain ⟨σ_11, eσ_11⟩ : ∃ zq, zq = gs_up σ_6 ab (gs_ia X 301 (va_cpy cr cr ((cb (cds E) cd) + 1) (cb (cds E) cd) (E.length - ((cb (cds E) cd) + 1)))) := ⟨_, rfl⟩
      have hc_12 : σ_11 h = some (gs_ob 6 [.ref ac, .ref ai, .ref ab, .int (nI E.length)]) := by rw [eσ_11]; exact gs_ku (gs_ne hc_7 hc_8 (by simp)) hc_7
      have hc_13 : σ_11 ac = some (gs_ia X 301 (va_cpy cs cs ((cb (cds E) cd) + 1) (cb (cds E) cd) (E.length - ((cb (cds E) cd) + 1)))) := by rw [eσ_11]; exact gs_ku n2 hc_9
      have hc_14 : σ_11 ai = some (gs_ia X 301 (va_cpy ci ci ((cb (cds E) cd) + 1) (cb (cds E) cd) (E.length - ((cb (cds E) cd) + 1)))) := by rw [eσ_11]; exact gs_ku n3 hc_10
      have hc_15 : σ_11 ab = some (gs_ia X 301 (va_cpy cr cr ((cb (cds E) cd) + 1) (cb (cds E) cd) (E.length - ((cb (cds E) cd) + 1)))) := by rw [eσ_11]; exact gs_us
      rw [← eσ_1, ← eσ_6, ← eσ_11] at hG
      refine lv_aload_n hx hb d_TU_remove_32 rfl (lv_at hl 1 rfl) ?_
      refine lv_dup hx hb d_TU_remove_33 rfl ?_
      refine gs_get hx hb ht hown hK hG k_TU hc_12 3 (by decide) w_77 rfl d_TU_remove_34 ?_
      refine lv_iconst (v := nI 1) hx hb d_TU_remove_37 (by decide) ?_
      refine lv_isub hx hb d_TU_remove_38 ?_
      refine gs_top (pk_sub (a := E.length) (b := 1) (by omega)) ?_
      refine gs_put hx hb ht hown hK hG hS k_TU hc_12 3 (by decide) w_77 rfl rfl rfl (Nat.le_of_ble_eq_true rfl) d_TU_remove_39 (fun H locs hG hS => ?_)
      have hG : gs_H X (gs_up σ_11 h (gs_ob 6 [.ref ac, .ref ai, .ref ab, .int (nI (E.length - 1))])) H := hG
      obtain ⟨σ_16, eσ_16⟩ : ∃ zq, zq = gs_up σ_11 h (gs_ob 6 [.ref ac, .ref ai, .ref ab, .int (nI (E.length - 1))]) := ⟨_, rfl⟩
      rw [← eσ_16] at hG
      have hc_17 : σ_16 ac = some (gs_ia X 301 (va_cpy cs cs ((cb (cds E) cd) + 1) (cb (cds E) cd) (E.length - ((cb (cds E) cd) + 1)))) := by rw [eσ_16]; exact gs_ku (gs_ne hc_13 hc_12 (by simp)) hc_13
      have hc_18 : σ_16 ai = some (gs_ia X 301 (va_cpy ci ci ((cb (cds E) cd) + 1) (cb (cds E) cd) (E.length - ((cb (cds E) cd) + 1)))) := by rw [eσ_16]; exact gs_ku (gs_ne hc_14 hc_12 (by simp)) hc_14
      have hc_19 : σ_16 ab = some (gs_ia X 301 (va_cpy cr cr ((cb (cds E) cd) + 1) (cb (cds E) cd) (E.length - ((cb (cds E) cd) + 1)))) := by rw [eσ_16]; exact gs_ku (gs_ne hc_15 hc_12 (by simp)) hc_15
      have hc_20 : σ_16 h = some (gs_ob 6 [.ref ac, .ref ai, .ref ab, .int (nI (E.length - 1))]) := by rw [eσ_16]; exact gs_us
      exact gs_vret hx hb hr hK hE hz hG hS hlocks (by first | decide | omega | (dsimp only [headSpec]; omega)) (by first | decide | omega | (dsimp only [headSpec]; omega)) (⟨_, _, _, (by simp only [*]; rfl), tuR_del hR hcl rfl⟩) d_TU_remove_42
set_option maxHeartbeats 4000000 in
set_option maxRecDepth 100000 in
/-- Tuples.copyCodes -/
theorem c_TU_copyCodes (l : Launch) (X : gs_X) (σ : gs_St) (h ac ai ab n g gc gi gb k : Nat) (cs ds : Nat → Int32)
    (n0 : h ≠ g) (n1 : ac ≠ gc) (hm : k ≤ 301) (h0 : σ h = some (gs_ob 6 [.ref ac, .ref ai, .ref ab, .int (nI n)])) (h1 : σ ac = some (gs_ia X 301 cs)) (g0 : σ g = some (gs_ob 6 [.ref gc, .ref gi, .ref gb, .int (nI k)])) (g1 : σ gc = some (gs_ia X 301 ds)) : gs_Mv l X y_TU_copyCodes b_TU_copyCodes 2 ({ frames := 1, cells := 0, slots := 0, locals := 40 }) σ [.ref h, .ref g] (fun σ' => σ' = gs_up (gs_up σ ac (gs_ia X 301 (va_cpy ds cs 0 0 k))) h (gs_ob 6 [.ref ac, .ref ai, .ref ab, .int (nI k)])) := by
  refine Met.ofW (cc := b_TU_copyCodes) (maxL := 2) (ret := none) (by decide) rfl ?_
  intro p e s m args below meth c s₁ B₀ hml hv
  obtain ⟨rfl, hK, hG, hz, hE⟩ := hv
  have hx := B₀.exec
  have hb := B₀.bytes
  have hr := B₀.returns
  have hts := atoms_spec (ws := gs_ws y_TU_copyCodes b_TU_copyCodes 2 none) B₀.pre
  have ht : ∀ w ∈ gs_w, w.before _ s = true := fun w h => hts w (List.mem_cons_of_mem _ h)
  have hown : s.vm.findClass R_TU = some m.cls := findClass_of_methodNamed B₀.named
  have hlocks := B₀.notSynchronized
  have hA : ∀ q : Nat, s.heap.size ≤ q → gs_A X q := fun q h => Nat.le_trans hz h
  have hS : va_S (gs_A X) s.heap s.heap [] := va_S.rf
  have hl := lv_entry ([.ref h, .ref g]) (n := 2) (Nat.le_of_ble_eq_true rfl)
  rw [lg_entry_eq]
  generalize (lg_sl ([.ref h, .ref g]) ++ List.replicate (2 - (lg_sl ([.ref h, .ref g])).length) Slot.unset).toArray = ls at hl ⊢
  have hl : lv_has ls 2 [(0, .ref h), (1, .ref g)] := hl
  refine lv_aload_n hx hb d_TU_copyCodes_0 rfl (lv_at hl 1 rfl) ?_
  refine gs_get hx hb ht hown hK hG k_TU g0 0 (by decide) w_68 rfl d_TU_copyCodes_1 ?_
  refine lv_iconst (v := nI 0) hx hb d_TU_copyCodes_4 (by decide) ?_
  refine lv_aload_n hx hb d_TU_copyCodes_5 rfl (lv_at hl 0 rfl) ?_
  refine gs_get hx hb ht hown hK hG k_TU h0 0 (by decide) w_68 rfl d_TU_copyCodes_6 ?_
  refine lv_iconst (v := nI 0) hx hb d_TU_copyCodes_9 (by decide) ?_
  refine lv_aload_n hx hb d_TU_copyCodes_10 rfl (lv_at hl 1 rfl) ?_
  refine gs_get hx hb ht hown hK hG k_TU g0 3 (by decide) w_77 rfl d_TU_copyCodes_11 ?_
  refine gs_copyi hx hb (hml.trans hl.1.symm) ht hown w_222 w_224 w_223 w_13 hK hG hS g1 h1 (sp := 0) (dp := 0) (n := k) (by omega) (by omega) (by omega) (by omega) (by decide) (by decide) d_TU_copyCodes_14 (fun H locs hG hS => ?_)
  have hG : gs_H X (gs_up σ ac (gs_ia X 301 (va_cpy ds cs 0 0 k))) H := hG
  obtain ⟨σ_1, eσ_1⟩ : ∃ zq, zq = gs_up σ ac (gs_ia X 301 (va_cpy ds cs 0 0 k)) := ⟨_, rfl⟩
  rw [← eσ_1] at hG
  have hc_2 : σ_1 h = some (gs_ob 6 [.ref ac, .ref ai, .ref ab, .int (nI n)]) := by rw [eσ_1]; exact gs_ku (gs_ne h0 h1 (by simp)) h0
  have hc_3 : σ_1 g = some (gs_ob 6 [.ref gc, .ref gi, .ref gb, .int (nI k)]) := by rw [eσ_1]; exact gs_ku (gs_ne g0 h1 (by simp)) g0
  have hc_4 : σ_1 gc = some (gs_ia X 301 ds) := by rw [eσ_1]; exact gs_ku (Ne.symm n1) g1
  have hc_5 : σ_1 ac = some (gs_ia X 301 (va_cpy ds cs 0 0 k)) := by rw [eσ_1]; exact gs_us
  refine lv_aload_n hx hb d_TU_copyCodes_17 rfl (lv_at hl 0 rfl) ?_
  refine lv_aload_n hx hb d_TU_copyCodes_18 rfl (lv_at hl 1 rfl) ?_
  refine gs_get hx hb ht hown hK hG k_TU hc_3 3 (by decide) w_77 rfl d_TU_copyCodes_19 ?_
  refine gs_put hx hb ht hown hK hG hS k_TU hc_2 3 (by decide) w_77 rfl rfl rfl (Nat.le_of_ble_eq_true rfl) d_TU_copyCodes_22 (fun H locs hG hS => ?_)
  have hG : gs_H X (gs_up σ_1 h (gs_ob 6 [.ref ac, .ref ai, .ref ab, .int (nI k)])) H := hG
  obtain ⟨σ_6, eσ_6⟩ : ∃ zq, zq = gs_up σ_1 h (gs_ob 6 [.ref ac, .ref ai, .ref ab, .int (nI k)]) := ⟨_, rfl⟩
  rw [← eσ_6] at hG
  have hc_7 : σ_6 g = some (gs_ob 6 [.ref gc, .ref gi, .ref gb, .int (nI k)]) := by rw [eσ_6]; exact gs_ku (Ne.symm n0) hc_3
  have hc_8 : σ_6 gc = some (gs_ia X 301 ds) := by rw [eσ_6]; exact gs_ku (gs_ne hc_4 hc_2 (by simp)) hc_4
  have hc_9 : σ_6 ac = some (gs_ia X 301 (va_cpy ds cs 0 0 k)) := by rw [eσ_6]; exact gs_ku (gs_ne hc_5 hc_2 (by simp)) hc_5
  have hc_10 : σ_6 h = some (gs_ob 6 [.ref ac, .ref ai, .ref ab, .int (nI k)]) := by rw [eσ_6]; exact gs_us
  exact gs_vret hx hb hr hK hE hz hG hS hlocks (by first | decide | omega | (dsimp only [headSpec]; omega)) (by first | decide | omega | (dsimp only [headSpec]; omega)) (by simp only [*]) d_TU_copyCodes_25
set_option maxHeartbeats 4000000 in
set_option maxRecDepth 100000 in
/-- Tuples.keepFacts -/
theorem c_TU_keepFacts (l : Launch) (X : gs_X) (σ : gs_St) (h ac ai ab : Nat) (E : List En) (cs ci cr : Nat → Int32)
    (n1 : ac ≠ ai) (n2 : ac ≠ ab) (n3 : ai ≠ ab) (hB : tuB E) (hR : tuR E cs ci cr) (h0 : σ h = some (gs_ob 6 [.ref ac, .ref ai, .ref ab, .int (nI E.length)])) (h1 : σ ac = some (gs_ia X 301 cs)) (h2 : σ ai = some (gs_ia X 301 ci)) (h3 : σ ab = some (gs_ia X 301 cr)) : gs_Mv l X y_TU_keepFacts b_TU_keepFacts 3 ({ frames := 0, cells := 0, slots := 0, locals := 0 }) σ [.ref h] (fun σ' => ∃ cs' ci' cr', σ' = tu4 X σ h ac ai ab (keepE E).length cs' ci' cr' ∧ tuR (keepE E) cs' ci' cr') := by
  refine Met.ofW (cc := b_TU_keepFacts) (maxL := 3) (ret := none) (by decide) rfl ?_
  intro p e s m args below meth c s₁ B₀ hml hv
  obtain ⟨rfl, hK, hG, hz, hE⟩ := hv
  have hx := B₀.exec
  have hb := B₀.bytes
  have hr := B₀.returns
  have hts := atoms_spec (ws := gs_ws y_TU_keepFacts b_TU_keepFacts 3 none) B₀.pre
  have ht : ∀ w ∈ gs_w, w.before _ s = true := fun w h => hts w (List.mem_cons_of_mem _ h)
  have hown : s.vm.findClass R_TU = some m.cls := findClass_of_methodNamed B₀.named
  have hlocks := B₀.notSynchronized
  have hA : ∀ q : Nat, s.heap.size ≤ q → gs_A X q := fun q h => Nat.le_trans hz h
  have hS : va_S (gs_A X) s.heap s.heap [] := va_S.rf
  have hl := lv_entry ([.ref h]) (n := 3) (Nat.le_of_ble_eq_true rfl)
  rw [lg_entry_eq]
  generalize (lg_sl ([.ref h]) ++ List.replicate (3 - (lg_sl ([.ref h])).length) Slot.unset).toArray = ls at hl ⊢
  have hl : lv_has ls 3 [(0, .ref h)] := hl
  have hlen := hB.2.1
  have hkl := keepE_len E
  have loop : ∀ (fl : Nat) (i k : Nat) (cs1 ci1 cr1 : Nat → Int32) (σ1 : gs_St), (i ≤ E.length) → (k = (keepE (E.take i)).length) → (tuR (keepE (E.take i)) cs1 ci1 cr1) → (∀ j, i ≤ j → cs1 j = cs j ∧ ci1 j = ci j) → (σ1 = gs_up (gs_up (gs_up σ ac (gs_ia X 301 cs1)) ai (gs_ia X 301 ci1)) ab (gs_ia X 301 cr1)) → E.length - i < fl → (σ1 h = some (gs_ob 6 [.ref ac, .ref ai, .ref ab, .int (nI E.length)])) → (σ1 ac = some (gs_ia X 301 cs1)) → (σ1 ai = some (gs_ia X 301 ci1)) → (σ1 ab = some (gs_ia X 301 cr1)) → ∀ (H : Heap) (locs : List Loc), gs_H X σ1 H → va_S (gs_A X) s.heap H locs → ∀ ls, lv_has ls 3 [(2, .int (nI i)), (1, .int (nI k)), (0, .ref h)] → W p l e ({ frames := 0, cells := 0, slots := 0, locals := 0 } : Room) s m ([.ref h] : List Value).toArray below meth c H locs 0 0 (MQ below (va_Qv (fun σ' => ∃ cs' ci' cr', σ' = tu4 X σ h ac ai ab (keepE E).length cs' ci' cr' ∧ tuR (keepE E) cs' ci' cr') (gs_U X) (gs_A X)) ([.ref h] : List Value).toArray s 0 0 (gs_A X)) (F0 m 4 ls []) := by
    intro fl
    induction fl with
    | zero => intro i k cs1 ci1 cr1 σ1 _ _ _ _ _ h9; omega
    | succ fl ih =>
      intro i k cs1 ci1 cr1 σ1 hi hk hR1 hrest eσ1 hmu a0 a1 a2 a3 H locs hG hS ls hl
      have hkl2 := keepE_len (E.take i)
      have htl : (E.take i).length ≤ i := by simp; omega
      refine lv_iload_n hx hb d_TU_keepFacts_4 rfl (lv_at hl 0 rfl) ?_
      refine lv_aload_n hx hb d_TU_keepFacts_5 rfl (lv_at hl 2 rfl) ?_
      refine gs_get hx hb ht hown hK hG k_TU a0 3 (by decide) w_77 rfl d_TU_keepFacts_6 ?_
      refine lv_icmp_ge (tgt := 56) hx hb d_TU_keepFacts_9 (by decide) (fun c_9 => ?_) (fun c_9 => ?_)
      · have c_9 : E.length ≤ i := (nI_leI (by omega) (by omega)).mp c_9
        refine lv_aload_n hx hb d_TU_keepFacts_56 rfl (lv_at hl 2 rfl) ?_
        refine lv_iload_n hx hb d_TU_keepFacts_57 rfl (lv_at hl 1 rfl) ?_
        refine gs_put hx hb ht hown hK hG hS k_TU a0 3 (by decide) w_77 rfl rfl rfl (Nat.le_of_ble_eq_true rfl) d_TU_keepFacts_58 (fun H locs hG hS => ?_)
        have hG : gs_H X (gs_up σ1 h (gs_ob 6 [.ref ac, .ref ai, .ref ab, .int (nI k)])) H := hG
        obtain ⟨σ_1, eσ_1⟩ : ∃ zq, zq = gs_up σ1 h (gs_ob 6 [.ref ac, .ref ai, .ref ab, .int (nI k)]) := ⟨_, rfl⟩
        rw [← eσ_1] at hG
        have hc_2 : σ_1 ac = some (gs_ia X 301 cs1) := by rw [eσ_1]; exact gs_ku (gs_ne a1 a0 (by simp)) a1
        have hc_3 : σ_1 ai = some (gs_ia X 301 ci1) := by rw [eσ_1]; exact gs_ku (gs_ne a2 a0 (by simp)) a2
        have hc_4 : σ_1 ab = some (gs_ia X 301 cr1) := by rw [eσ_1]; exact gs_ku (gs_ne a3 a0 (by simp)) a3
        have hc_5 : σ_1 h = some (gs_ob 6 [.ref ac, .ref ai, .ref ab, .int (nI k)]) := by rw [eσ_1]; exact gs_us
        have hie : i = E.length := by omega
        have hts : keepE (E.take i) = keepE E := by rw [hie, List.take_length]
        rw [hts] at hR1 hk
        exact gs_vret hx hb hr hK hE hz hG hS hlocks (by first | decide | omega | (dsimp only [headSpec]; omega)) (by first | decide | omega | (dsimp only [headSpec]; omega)) (⟨cs1, ci1, cr1, (by simp only [*]; rfl), hR1⟩) d_TU_keepFacts_61
      · have c_9 : ¬ E.length ≤ i := mt (nI_leI (by omega) (by omega)).mpr c_9
        refine lv_aload_n hx hb d_TU_keepFacts_12 rfl (lv_at hl 2 rfl) ?_
        refine gs_get hx hb ht hown hK hG k_TU a0 1 (by decide) w_72 rfl d_TU_keepFacts_13 ?_
        refine lv_iload_n hx hb d_TU_keepFacts_16 rfl (lv_at hl 0 rfl) ?_
        obtain ⟨x, hx9⟩ := get_ex (L := E) (j := i) (by omega)
        obtain ⟨hx1, hx2, hx3⟩ := hR _ _ hx9
        have hx4 := hB.2.2 x (List.mem_of_getElem? hx9)
        rw [← (hrest i (Nat.le_refl i)).1] at hx1
        rw [← (hrest i (Nat.le_refl i)).2] at hx2
        refine gs_iald hx hb hK hG a2 (j := i) (by omega) (by omega) d_TU_keepFacts_17 ?_
        refine gs_top (show (ci1 i) = (nI x.2.1) from hx2) ?_
        refine lv_if_ne (tgt := 50) hx hb d_TU_keepFacts_18 (by decide) (fun c_18 => ?_) (fun c_18 => ?_)
        · have c_18 : ¬ x.2.1 = 0 := gs_zn (by omega) c_18
          refine lv_iinc (v := (nI (i + 1))) (lv' := [(2, .int (nI (i + 1))), (1, .int (nI k)), (0, .ref h)]) hx hb d_TU_keepFacts_50 hl (k := 0) rfl (by exact nI_1 _) (by decide) rfl (fun ls hl => ?_)
          refine lv_goto (tgt := 4) hx hb d_TU_keepFacts_53 (by decide) ?_
          have hts : keepE (E.take (i + 1)) = keepE (E.take i) := by rw [take_snoc hx9, keepE_snoc, if_neg c_18, List.append_nil]
          exact ih (i + 1) k cs1 ci1 cr1 σ1 (by omega) (by rw [hts]; exact hk) (by rw [hts]; exact hR1) (fun j hj => hrest j (by omega)) eσ1 (by omega) a0 a1 a2 a3 H locs hG hS ls (lv_sub hl [0, 1, 2] rfl)
        · have c_18 : x.2.1 = 0 := gs_z (by omega) c_18
          refine lv_aload_n hx hb d_TU_keepFacts_21 rfl (lv_at hl 2 rfl) ?_
          refine gs_get hx hb ht hown hK hG k_TU a0 0 (by decide) w_68 rfl d_TU_keepFacts_22 ?_
          refine lv_iload_n hx hb d_TU_keepFacts_25 rfl (lv_at hl 1 rfl) ?_
          refine lv_aload_n hx hb d_TU_keepFacts_26 rfl (lv_at hl 2 rfl) ?_
          refine gs_get hx hb ht hown hK hG k_TU a0 0 (by decide) w_68 rfl d_TU_keepFacts_27 ?_
          refine lv_iload_n hx hb d_TU_keepFacts_30 rfl (lv_at hl 0 rfl) ?_
          refine gs_iald hx hb hK hG a1 (j := i) (by omega) (by omega) d_TU_keepFacts_31 ?_
          refine gs_top (show (cs1 i) = (nI x.1) from hx1) ?_
          refine gs_iast hx hb hK hG hS a1 (j := k) (by omega) (by omega) d_TU_keepFacts_32 (fun H locs hG hS => ?_)
          have hG : gs_H X (gs_up σ1 ac (gs_ia X 301 (upd cs1 k (nI x.1)))) H := hG
          obtain ⟨σ_6, eσ_6⟩ : ∃ zq, zq = gs_up σ1 ac (gs_ia X 301 (upd cs1 k (nI x.1))) := ⟨_, rfl⟩
          rw [← eσ_6] at hG
          have hc_7 : σ_6 h = some (gs_ob 6 [.ref ac, .ref ai, .ref ab, .int (nI E.length)]) := by rw [eσ_6]; exact gs_ku (gs_ne a0 a1 (by simp)) a0
          have hc_8 : σ_6 ai = some (gs_ia X 301 ci1) := by rw [eσ_6]; exact gs_ku (Ne.symm n1) a2
          have hc_9 : σ_6 ab = some (gs_ia X 301 cr1) := by rw [eσ_6]; exact gs_ku (Ne.symm n2) a3
          have hc_10 : σ_6 ac = some (gs_ia X 301 (upd cs1 k (nI x.1))) := by rw [eσ_6]; exact gs_us
          refine lv_aload_n hx hb d_TU_keepFacts_33 rfl (lv_at hl 2 rfl) ?_
          refine gs_get hx hb ht hown hK hG k_TU hc_7 1 (by decide) w_72 rfl d_TU_keepFacts_34 ?_
          refine lv_iload_n hx hb d_TU_keepFacts_37 rfl (lv_at hl 1 rfl) ?_
          refine lv_iconst (v := nI 0) hx hb d_TU_keepFacts_38 (by decide) ?_
          refine gs_iast hx hb hK hG hS hc_8 (j := k) (by omega) (by omega) d_TU_keepFacts_39 (fun H locs hG hS => ?_)
          have hG : gs_H X (gs_up σ_6 ai (gs_ia X 301 (upd ci1 k (nI 0)))) H := hG
          obtain ⟨σ_11, eσ_11⟩ : ∃ zq, zq = gs_up σ_6 ai (gs_ia X 301 (upd ci1 k (nI 0))) := ⟨_, rfl⟩
          rw [← eσ_11] at hG
          have hc_12 : σ_11 h = some (gs_ob 6 [.ref ac, .ref ai, .ref ab, .int (nI E.length)]) := by rw [eσ_11]; exact gs_ku (gs_ne hc_7 hc_8 (by simp)) hc_7
          have hc_13 : σ_11 ab = some (gs_ia X 301 cr1) := by rw [eσ_11]; exact gs_ku (Ne.symm n3) hc_9
          have hc_14 : σ_11 ac = some (gs_ia X 301 (upd cs1 k (nI x.1))) := by rw [eσ_11]; exact gs_ku n1 hc_10
          have hc_15 : σ_11 ai = some (gs_ia X 301 (upd ci1 k (nI 0))) := by rw [eσ_11]; exact gs_us
          refine lv_aload_n hx hb d_TU_keepFacts_40 rfl (lv_at hl 2 rfl) ?_
          refine gs_get hx hb ht hown hK hG k_TU hc_12 2 (by decide) w_74 rfl d_TU_keepFacts_41 ?_
          refine lv_iload_n hx hb d_TU_keepFacts_44 rfl (lv_at hl 1 rfl) ?_
          refine lv_iconst (v := -1) hx hb d_TU_keepFacts_45 (by decide) ?_
          refine gs_iast hx hb hK hG hS hc_13 (j := k) (by omega) (by omega) d_TU_keepFacts_46 (fun H locs hG hS => ?_)
          have hG : gs_H X (gs_up σ_11 ab (gs_ia X 301 (upd cr1 k (-1)))) H := hG
          obtain ⟨σ_16, eσ_16⟩ : ∃ zq, zq = gs_up σ_11 ab (gs_ia X 301 (upd cr1 k (-1))) := ⟨_, rfl⟩
          rw [← eσ_16] at hG
          have hc_17 : σ_16 h = some (gs_ob 6 [.ref ac, .ref ai, .ref ab, .int (nI E.length)]) := by rw [eσ_16]; exact gs_ku (gs_ne hc_12 hc_13 (by simp)) hc_12
          have hc_18 : σ_16 ac = some (gs_ia X 301 (upd cs1 k (nI x.1))) := by rw [eσ_16]; exact gs_ku n2 hc_14
          have hc_19 : σ_16 ai = some (gs_ia X 301 (upd ci1 k (nI 0))) := by rw [eσ_16]; exact gs_ku n3 hc_15
          have hc_20 : σ_16 ab = some (gs_ia X 301 (upd cr1 k (-1))) := by rw [eσ_16]; exact gs_us
          refine lv_iinc (v := (nI (k + 1))) (lv' := [(1, .int (nI (k + 1))), (2, .int (nI i)), (0, .ref h)]) hx hb d_TU_keepFacts_47 hl (k := 1) rfl (by exact nI_1 _) (by decide) rfl (fun ls hl => ?_)
          refine lv_iinc (v := (nI (i + 1))) (lv' := [(2, .int (nI (i + 1))), (1, .int (nI (k + 1))), (0, .ref h)]) hx hb d_TU_keepFacts_50 hl (k := 1) rfl (by exact nI_1 _) (by decide) rfl (fun ls hl => ?_)
          refine lv_goto (tgt := 4) hx hb d_TU_keepFacts_53 (by decide) ?_
          have hts : keepE (E.take (i + 1)) = keepE (E.take i) ++ [(x.1, 0, -1)] := by rw [take_snoc hx9, keepE_snoc, if_pos c_18]
          exact ih (i + 1) (k + 1) _ _ _ σ_16 (by omega) (by rw [hts]; simp; omega) (by rw [hts]; exact tuR_snoc hR1 (x.1, 0, -1) hk) (fun j hj => by simp only [upd, if_neg (show j ≠ k by omega)]; exact hrest j (by omega)) (by simp only [*]; exact tu3_fold n1 n2 n3) (by omega) hc_17 hc_18 hc_19 hc_20 H locs hG hS ls (lv_sub hl [0, 1, 2] rfl)
  refine lv_iconst (v := nI 0) hx hb d_TU_keepFacts_0 (by decide) ?_
  refine lv_istore_n (lv' := [(1, .int (nI 0)), (0, .ref h)]) hx hb d_TU_keepFacts_1 rfl hl (by decide) rfl (fun ls hl => ?_)
  refine lv_iconst (v := nI 0) hx hb d_TU_keepFacts_2 (by decide) ?_
  refine lv_istore_n (lv' := [(2, .int (nI 0)), (1, .int (nI 0)), (0, .ref h)]) hx hb d_TU_keepFacts_3 rfl hl (by decide) rfl (fun ls hl => ?_)
  exact loop (E.length + 1) 0 0 cs ci cr σ (by omega) (by simp [keepE]) (fun j x hx => by simp [keepE] at hx) (fun j _ => ⟨rfl, rfl⟩) (by rw [gs_usame h1, gs_usame h2, gs_usame h3]) (by omega) h0 h1 h2 h3 _ _ hG hS ls (lv_sub hl [0, 1, 2] rfl)
set_option maxHeartbeats 4000000 in
set_option maxRecDepth 100000 in
/-- Tuples() -/
theorem c_TU_init (l : Launch) (X : gs_X) (σ : gs_St) (h : Nat)
    (h0 : σ h = some (gs_ob 6 [.null, .null, .null, .int 0])) : gs_Mv l X y_TU_init b_TU_init 1 ({ frames := 1, cells := 3, slots := 903, locals := 12 }) σ [.ref h] (fun σ' => ∃ ac ai ab, σ ac = none ∧ σ ai = none ∧ σ ab = none ∧ ac ≠ ai ∧ ac ≠ ab ∧ ai ≠ ab ∧ σ' = tu4 X σ h ac ai ab 0 (fun _ => 0) (fun _ => 0) (fun _ => 0)) := by
  refine Met.ofW (cc := b_TU_init) (maxL := 1) (ret := none) (by decide) rfl ?_
  intro p e s m args below meth c s₁ B₀ hml hv
  obtain ⟨rfl, hK, hG, hz, hE⟩ := hv
  have hx := B₀.exec
  have hb := B₀.bytes
  have hr := B₀.returns
  have hts := atoms_spec (ws := gs_ws y_TU_init b_TU_init 1 none) B₀.pre
  have ht : ∀ w ∈ gs_w, w.before _ s = true := fun w h => hts w (List.mem_cons_of_mem _ h)
  have hown : s.vm.findClass R_TU = some m.cls := findClass_of_methodNamed B₀.named
  have hlocks := B₀.notSynchronized
  have hin : meth.name = "<init>" := (name_of_methodNamed B₀.named B₀.method).1
  have hA : ∀ q : Nat, s.heap.size ≤ q → gs_A X q := fun q h => Nat.le_trans hz h
  have hS : va_S (gs_A X) s.heap s.heap [] := va_S.rf
  have hl := lv_entry ([.ref h]) (n := 1) (Nat.le_of_ble_eq_true rfl)
  rw [lg_entry_eq]
  generalize (lg_sl ([.ref h]) ++ List.replicate (1 - (lg_sl ([.ref h])).length) Slot.unset).toArray = ls at hl ⊢
  have hl : lv_has ls 1 [(0, .ref h)] := hl
  refine lv_aload_n hx hb d_TU_init_0 rfl (lv_at hl 0 rfl) ?_
  refine W.objInit hx hb hown (ht _ w_67) (ht _ w_22) (ht _ w_23) rfl (by rw [hml]; exact hl.1) rfl d_TU_init_1 (Nat.le_of_ble_eq_true rfl) (Nat.le_of_ble_eq_true rfl) ?_
  refine W.eq (g2 := F0 m 4 ls []) rfl ?_
  refine lv_aload_n hx hb d_TU_init_4 rfl (lv_at hl 0 rfl) ?_
  refine lv_sipush (v := nI 301) hx hb d_TU_init_5 (by decide) ?_
  refine gs_newi hx hb ht hK hG hS hA w_61 (by decide) (by first | decide | omega) (by first | decide | omega) d_TU_init_8 (fun q_1 H hq_1 hG hS => ?_)
  obtain ⟨σ_2, eσ_2⟩ : ∃ zq, zq = gs_up σ q_1 (gs_ia X 301 (fun _ => 0)) := ⟨_, rfl⟩
  have hG : gs_H X (gs_up σ q_1 (gs_ia X 301 (fun _ => 0))) H := hG
  rw [← eσ_2] at hG
  have hne_4 : h ≠ q_1 := fun z => by rw [z, hq_1] at h0; cases h0
  have hc_3 : σ_2 h = some (gs_ob 6 [.null, .null, .null, .int 0]) := by rw [eσ_2]; exact gs_ku hne_4 h0
  have hc_5 : σ_2 q_1 = some (gs_ia X 301 (fun _ => 0)) := by rw [eσ_2]; exact gs_us
  refine gs_putF hx hb ht hown hK hG hS k_TU hc_3 0 (by decide) w_68 rfl hin rfl rfl rfl (Nat.le_of_ble_eq_true rfl) d_TU_init_10 (fun H locs hG hS => ?_)
  have hG : gs_H X (gs_up σ_2 h (gs_ob 6 [.ref q_1, .null, .null, .int 0])) H := hG
  obtain ⟨σ_6, eσ_6⟩ : ∃ zq, zq = gs_up σ_2 h (gs_ob 6 [.ref q_1, .null, .null, .int 0]) := ⟨_, rfl⟩
  rw [← eσ_6] at hG
  have hc_7 : σ_6 q_1 = some (gs_ia X 301 (fun _ => 0)) := by rw [eσ_6]; exact gs_ku (Ne.symm hne_4) hc_5
  have hc_8 : σ_6 h = some (gs_ob 6 [.ref q_1, .null, .null, .int 0]) := by rw [eσ_6]; exact gs_us
  refine lv_aload_n hx hb d_TU_init_13 rfl (lv_at hl 0 rfl) ?_
  refine lv_sipush (v := nI 301) hx hb d_TU_init_14 (by decide) ?_
  refine gs_newi hx hb ht hK hG hS hA w_61 (by decide) (by first | decide | omega) (by first | decide | omega) d_TU_init_17 (fun q_9 H hq_9 hG hS => ?_)
  obtain ⟨σ_10, eσ_10⟩ : ∃ zq, zq = gs_up σ_6 q_9 (gs_ia X 301 (fun _ => 0)) := ⟨_, rfl⟩
  have hG : gs_H X (gs_up σ_6 q_9 (gs_ia X 301 (fun _ => 0))) H := hG
  rw [← eσ_10] at hG
  have hne_12 : q_1 ≠ q_9 := fun z => by rw [z, hq_9] at hc_7; cases hc_7
  have hc_11 : σ_10 q_1 = some (gs_ia X 301 (fun _ => 0)) := by rw [eσ_10]; exact gs_ku hne_12 hc_7
  have hne_14 : h ≠ q_9 := fun z => by rw [z, hq_9] at hc_8; cases hc_8
  have hc_13 : σ_10 h = some (gs_ob 6 [.ref q_1, .null, .null, .int 0]) := by rw [eσ_10]; exact gs_ku hne_14 hc_8
  have hc_15 : σ_10 q_9 = some (gs_ia X 301 (fun _ => 0)) := by rw [eσ_10]; exact gs_us
  refine gs_putF hx hb ht hown hK hG hS k_TU hc_13 1 (by decide) w_72 rfl hin rfl rfl rfl (Nat.le_of_ble_eq_true rfl) d_TU_init_19 (fun H locs hG hS => ?_)
  have hG : gs_H X (gs_up σ_10 h (gs_ob 6 [.ref q_1, .ref q_9, .null, .int 0])) H := hG
  obtain ⟨σ_16, eσ_16⟩ : ∃ zq, zq = gs_up σ_10 h (gs_ob 6 [.ref q_1, .ref q_9, .null, .int 0]) := ⟨_, rfl⟩
  rw [← eσ_16] at hG
  have hc_17 : σ_16 q_1 = some (gs_ia X 301 (fun _ => 0)) := by rw [eσ_16]; exact gs_ku (Ne.symm hne_4) hc_11
  have hc_18 : σ_16 q_9 = some (gs_ia X 301 (fun _ => 0)) := by rw [eσ_16]; exact gs_ku (Ne.symm hne_14) hc_15
  have hc_19 : σ_16 h = some (gs_ob 6 [.ref q_1, .ref q_9, .null, .int 0]) := by rw [eσ_16]; exact gs_us
  refine lv_aload_n hx hb d_TU_init_22 rfl (lv_at hl 0 rfl) ?_
  refine lv_sipush (v := nI 301) hx hb d_TU_init_23 (by decide) ?_
  refine gs_newi hx hb ht hK hG hS hA w_61 (by decide) (by first | decide | omega) (by first | decide | omega) d_TU_init_26 (fun q_20 H hq_20 hG hS => ?_)
  obtain ⟨σ_21, eσ_21⟩ : ∃ zq, zq = gs_up σ_16 q_20 (gs_ia X 301 (fun _ => 0)) := ⟨_, rfl⟩
  have hG : gs_H X (gs_up σ_16 q_20 (gs_ia X 301 (fun _ => 0))) H := hG
  rw [← eσ_21] at hG
  have hne_23 : q_1 ≠ q_20 := fun z => by rw [z, hq_20] at hc_17; cases hc_17
  have hc_22 : σ_21 q_1 = some (gs_ia X 301 (fun _ => 0)) := by rw [eσ_21]; exact gs_ku hne_23 hc_17
  have hne_25 : q_9 ≠ q_20 := fun z => by rw [z, hq_20] at hc_18; cases hc_18
  have hc_24 : σ_21 q_9 = some (gs_ia X 301 (fun _ => 0)) := by rw [eσ_21]; exact gs_ku hne_25 hc_18
  have hne_27 : h ≠ q_20 := fun z => by rw [z, hq_20] at hc_19; cases hc_19
  have hc_26 : σ_21 h = some (gs_ob 6 [.ref q_1, .ref q_9, .null, .int 0]) := by rw [eσ_21]; exact gs_ku hne_27 hc_19
  have hc_28 : σ_21 q_20 = some (gs_ia X 301 (fun _ => 0)) := by rw [eσ_21]; exact gs_us
  refine gs_putF hx hb ht hown hK hG hS k_TU hc_26 2 (by decide) w_74 rfl hin rfl rfl rfl (Nat.le_of_ble_eq_true rfl) d_TU_init_28 (fun H locs hG hS => ?_)
  have hG : gs_H X (gs_up σ_21 h (gs_ob 6 [.ref q_1, .ref q_9, .ref q_20, .int 0])) H := hG
  obtain ⟨σ_29, eσ_29⟩ : ∃ zq, zq = gs_up σ_21 h (gs_ob 6 [.ref q_1, .ref q_9, .ref q_20, .int 0]) := ⟨_, rfl⟩
  rw [← eσ_29] at hG
  have hc_30 : σ_29 q_1 = some (gs_ia X 301 (fun _ => 0)) := by rw [eσ_29]; exact gs_ku (Ne.symm hne_4) hc_22
  have hc_31 : σ_29 q_9 = some (gs_ia X 301 (fun _ => 0)) := by rw [eσ_29]; exact gs_ku (Ne.symm hne_14) hc_24
  have hc_32 : σ_29 q_20 = some (gs_ia X 301 (fun _ => 0)) := by rw [eσ_29]; exact gs_ku (Ne.symm hne_27) hc_28
  have hc_33 : σ_29 h = some (gs_ob 6 [.ref q_1, .ref q_9, .ref q_20, .int 0]) := by rw [eσ_29]; exact gs_us
  refine lv_aload_n hx hb d_TU_init_31 rfl (lv_at hl 0 rfl) ?_
  refine lv_iconst (v := nI 0) hx hb d_TU_init_32 (by decide) ?_
  refine gs_put hx hb ht hown hK hG hS k_TU hc_33 3 (by decide) w_77 rfl rfl rfl (Nat.le_of_ble_eq_true rfl) d_TU_init_33 (fun H locs hG hS => ?_)
  have hG : gs_H X (gs_up σ_29 h (gs_ob 6 [.ref q_1, .ref q_9, .ref q_20, .int (nI 0)])) H := hG
  obtain ⟨σ_34, eσ_34⟩ : ∃ zq, zq = gs_up σ_29 h (gs_ob 6 [.ref q_1, .ref q_9, .ref q_20, .int (nI 0)]) := ⟨_, rfl⟩
  rw [← eσ_34] at hG
  have hc_35 : σ_34 q_1 = some (gs_ia X 301 (fun _ => 0)) := by rw [eσ_34]; exact gs_ku (Ne.symm hne_4) hc_30
  have hc_36 : σ_34 q_9 = some (gs_ia X 301 (fun _ => 0)) := by rw [eσ_34]; exact gs_ku (Ne.symm hne_14) hc_31
  have hc_37 : σ_34 q_20 = some (gs_ia X 301 (fun _ => 0)) := by rw [eσ_34]; exact gs_ku (Ne.symm hne_27) hc_32
  have hc_38 : σ_34 h = some (gs_ob 6 [.ref q_1, .ref q_9, .ref q_20, .int (nI 0)]) := by rw [eσ_34]; exact gs_us
  have hb1 : σ q_1 = none := hq_1
  have z2 : σ q_9 = none := by have z := hq_9; simp only [*] at z; exact gs_none1 (gs_none1 z)
  have z3 : σ q_20 = none := by have z := hq_20; simp only [*] at z; exact gs_none1 (gs_none1 (gs_none1 (gs_none1 z)))
  exact gs_vret hx hb hr hK hE hz hG hS hlocks (by first | decide | omega | (dsimp only [headSpec]; omega)) (by first | decide | omega | (dsimp only [headSpec]; omega)) (⟨q_1, q_9, q_20, hb1, z2, z3, hne_12, hne_23, hne_25, (by simp only [*]; exact tu4_init hne_4 hne_14 hne_27)⟩) d_TU_init_36
set_option maxHeartbeats 4000000 in
set_option maxRecDepth 100000 in
/-- Tuples.insert where there is no room -/
theorem c_TU_insert_full (l : Launch) (X : gs_X) (σ : gs_St) (h ac ai ab : Nat) (cd rd : Nat) (ru : Int32)
    (h0 : σ h = some (gs_ob 6 [.ref ac, .ref ai, .ref ab, .int (nI 301)])) : gs_Mv l X y_TU_insert b_TU_insert 5 ({ frames := 2, cells := 0, slots := 0, locals := 63 }) σ [.ref h, .int (nI cd), .int (nI rd), .int ru] (fun σ' => σ' = σ) := by
  refine Met.ofW (cc := b_TU_insert) (maxL := 5) (ret := none) (by decide) rfl ?_
  intro p e s m args below meth c s₁ B₀ hml hv
  obtain ⟨rfl, hK, hG, hz, hE⟩ := hv
  have hx := B₀.exec
  have hb := B₀.bytes
  have hr := B₀.returns
  have hts := atoms_spec (ws := gs_ws y_TU_insert b_TU_insert 5 none) B₀.pre
  have ht : ∀ w ∈ gs_w, w.before _ s = true := fun w h => hts w (List.mem_cons_of_mem _ h)
  have hown : s.vm.findClass R_TU = some m.cls := findClass_of_methodNamed B₀.named
  have hlocks := B₀.notSynchronized
  have hA : ∀ q : Nat, s.heap.size ≤ q → gs_A X q := fun q h => Nat.le_trans hz h
  have hS : va_S (gs_A X) s.heap s.heap [] := va_S.rf
  have hl := lv_entry ([.ref h, .int (nI cd), .int (nI rd), .int ru]) (n := 5) (Nat.le_of_ble_eq_true rfl)
  rw [lg_entry_eq]
  generalize (lg_sl ([.ref h, .int (nI cd), .int (nI rd), .int ru]) ++ List.replicate (5 - (lg_sl ([.ref h, .int (nI cd), .int (nI rd), .int ru])).length) Slot.unset).toArray = ls at hl ⊢
  have hl : lv_has ls 5 [(0, .ref h), (1, .int (nI cd)), (2, .int (nI rd)), (3, .int ru)] := hl
  refine lv_aload_n hx hb d_TU_insert_0 rfl (lv_at hl 0 rfl) ?_
  refine gs_get hx hb ht hown hK hG k_TU h0 3 (by decide) w_77 rfl d_TU_insert_1 ?_
  refine lv_sipush (v := nI 301) hx hb d_TU_insert_4 (by decide) ?_
  refine lv_icmp_lt (tgt := 11) hx hb d_TU_insert_7 (by decide) (fun c_7 => ?_) (fun c_7 => ?_)
  · exact absurd c_7 (by decide)
  · have c_7 : ¬ 301 < 301 := mt (nI_ltI (by omega) (by omega)).mpr c_7
    exact gs_vret hx hb hr hK hE hz hG hS hlocks (by first | decide | omega | (dsimp only [headSpec]; omega)) (by first | decide | omega | (dsimp only [headSpec]; omega)) (rfl) d_TU_insert_10
/-- Tuples.insert -/
theorem c_TU_insertG (l : Launch) (X : gs_X) (σ : gs_St) (h ac ai ab : Nat) (E : List En) (cs ci cr : Nat → Int32) (cd rd : Nat) (ru : Int32)
    (n1 : ac ≠ ai) (n2 : ac ≠ ab) (n3 : ai ≠ ab) (hB : tuB E) (hR : tuR E cs ci cr) (hcd : cd < 2 ^ 30) (h0 : σ h = some (gs_ob 6 [.ref ac, .ref ai, .ref ab, .int (nI E.length)])) (h1 : σ ac = some (gs_ia X 301 cs)) (h2 : σ ai = some (gs_ia X 301 ci)) (h3 : σ ab = some (gs_ia X 301 cr)) : gs_Mv l X y_TU_insert b_TU_insert 5 ({ frames := 2, cells := 0, slots := 0, locals := 63 }) σ [.ref h, .int (nI cd), .int (nI rd), .int ru] (fun σ' => ∃ cs' ci' cr', σ' = tu4 X σ h ac ai ab (insG E (cd, rd, ru)).length cs' ci' cr' ∧ tuR (insG E (cd, rd, ru)) cs' ci' cr') := by
  by_cases hn : E.length ≤ 300
  · have := c_TU_insert l X σ h ac ai ab E cs ci cr cd rd ru n1 n2 n3 hB hR hn hcd h0 h1 h2 h3
    rw [show insG E (cd, rd, ru) = insE E (cd, rd, ru) from if_pos hn, insE_len]
    exact this
  · have e : E.length = 301 := by have := hB.2.1; omega
    have hz := c_TU_insert_full l X σ h ac ai ab cd rd ru (by rw [h0, e])
    rw [show insG E (cd, rd, ru) = E from if_neg hn]
    exact gs_Mv_post hz (fun σ' hs => ⟨cs, ci, cr, by rw [hs]; exact (tu4_same h0 h1 h2 h3).symm, hR⟩)
