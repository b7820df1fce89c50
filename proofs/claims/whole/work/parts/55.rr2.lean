set_option maxHeartbeats 4000000 in
set_option maxRecDepth 100000 in
/-- Tuples.placeOf writes nothing -/
theorem c_TU_placeOf_p (l : Launch) (X : gs_X) (σ : gs_St) (h ac ai ab : Nat) (L : List Nat) (cs : Nat → Int32) (cd : Nat)
    (hs : L.Pairwise (· ≤ ·)) (hn : L.length ≤ 301) (hcs : ∀ j x, L[j]? = some x → cs j = nI x ∧ x < 2 ^ 30) (hcd : cd < 2 ^ 30) (h0 : σ h = some (gs_ob 6 [.ref ac, .ref ai, .ref ab, .int (nI L.length)])) (h1 : σ ac = some (gs_ia X 301 cs)) : gs_Mp l X y_TU_placeOf b_TU_placeOf 5 (some .int) ({ frames := 0, cells := 0, slots := 0, locals := 0 }) σ [.ref h, .int (nI cd)] (fun r => r = nI (cb L cd)) := by
  refine Met.ofW (cc := b_TU_placeOf) (maxL := 5) (ret := (some .int)) (by decide) rfl ?_
  intro p e s m args below meth c s₁ B₀ hml hv
  obtain ⟨rfl, hK, hG, hz, hE⟩ := hv
  have hx := B₀.exec
  have hb := B₀.bytes
  have hr := B₀.returns
  have hts := atoms_spec (ws := gs_ws y_TU_placeOf b_TU_placeOf 5 (some .int)) B₀.pre
  have ht : ∀ w ∈ gs_w, w.before _ s = true := fun w h => hts w (List.mem_cons_of_mem _ h)
  have hown : s.vm.findClass R_TU = some m.cls := findClass_of_methodNamed B₀.named
  have hlocks := B₀.notSynchronized
  have hA : ∀ q : Nat, s.heap.size ≤ q → gs_A X q := fun q h => Nat.le_trans hz h
  have hS : va_S (gs_A X) s.heap s.heap [] := va_S.rf
  have hl := lv_entry ([.ref h, .int (nI cd)]) (n := 5) (Nat.le_of_ble_eq_true rfl)
  rw [lg_entry_eq]
  generalize (lg_sl ([.ref h, .int (nI cd)]) ++ List.replicate (5 - (lg_sl ([.ref h, .int (nI cd)])).length) Slot.unset).toArray = ls at hl ⊢
  have hl : lv_has ls 5 [(0, .ref h), (1, .int (nI cd))] := hl
  have hcl := cb_le L cd
  have loop : ∀ (fl : Nat) (i pl st : Nat), (i ≤ 9) → (st = 2 ^ i / 2) → (pl ≤ cb L cd) → (cb L cd < pl + 2 ^ i) → i < fl → ∀ ls, lv_has ls 5 [(3, .int (nI st)), (2, .int (nI pl)), (0, .ref h), (1, .int (nI cd))] → W p l e ({ frames := 0, cells := 0, slots := 0, locals := 0 } : Room) s m ([.ref h, .int (nI cd)] : List Value).toArray below meth c s.heap [] 0 0 (MQ below (gs_Qp (fun r => r = nI (cb L cd))) ([.ref h, .int (nI cd)] : List Value).toArray s 0 0 (fun _ => False)) (F0 m 6 ls []) := by
    intro fl
    induction fl with
    | zero => intro i pl st _ _ _ _ h9; omega
    | succ fl ih =>
      intro i pl st hi hst h2 h3 hmu  ls hl
      have hpw : 2 ^ i ≤ 512 := Nat.pow_le_pow_right (by decide) (show i ≤ 9 from hi)
      refine lv_iload_n hx hb d_TU_placeOf_6 rfl (lv_at hl 0 rfl) ?_
      refine lv_if_le (tgt := 47) hx hb d_TU_placeOf_7 (by decide) (fun c_7 => ?_) (fun c_7 => ?_)
      · have c_7 : st = 0 := by have := gs_le0 (a := st) (by omega); exact this.mp c_7
        refine lv_iload_n hx hb d_TU_placeOf_47 rfl (lv_at hl 1 rfl) ?_
        exact gs_iretp (v := (nI pl)) hx hb hr rfl hlocks (Nat.zero_le _) (Nat.zero_le _) (congrArg nI (show pl = cb L cd from by
            have hi0 : i = 0 := by
              cases i with
              | zero => rfl
              | succ k => have := Nat.pow_succ 2 k; have := Nat.pos_of_ne_zero (show 2 ^ k ≠ 0 from by simp); omega
            subst hi0; omega)) d_TU_placeOf_48
      · have c_7 : 0 < st := by have := gs_le0 (a := st) (by omega); have h9 := mt this.mpr c_7; omega
        obtain ⟨k, rfl⟩ : ∃ k, i = k + 1 := by
          cases i with
          | zero => simp at hst; omega
          | succ k => exact ⟨k, rfl⟩
        have hp2 : 2 ^ (k + 1) = 2 ^ k * 2 := Nat.pow_succ 2 k
        have hst2 : st = 2 ^ k := by omega
        refine lv_iload_n hx hb d_TU_placeOf_10 rfl (lv_at hl 1 rfl) ?_
        refine lv_iload_n hx hb d_TU_placeOf_11 rfl (lv_at hl 0 rfl) ?_
        refine lv_iadd hx hb d_TU_placeOf_12 ?_
        refine gs_top (nI_add pl st) ?_
        refine lv_istore (lv' := [(4, .int (nI (pl + st))), (3, .int (nI st)), (2, .int (nI pl)), (0, .ref h), (1, .int (nI cd))]) hx hb d_TU_placeOf_13 hl (by decide) rfl (fun ls hl => ?_)
        refine lv_iload hx hb d_TU_placeOf_15 (lv_at hl 0 rfl) ?_
        refine lv_aload_n hx hb d_TU_placeOf_17 rfl (lv_at hl 3 rfl) ?_
        refine gs_get hx hb ht hown hK hG k_TU h0 3 (by decide) w_77 rfl d_TU_placeOf_18 ?_
        refine lv_icmp_gt (tgt := 40) hx hb d_TU_placeOf_21 (by decide) (fun c_21 => ?_) (fun c_21 => ?_)
        · have c_21 : L.length < (pl + st) := (nI_ltI (by omega) (by omega)).mp c_21
          refine lv_iload_n hx hb d_TU_placeOf_40 rfl (lv_at hl 1 rfl) ?_
          refine lv_iconst (v := nI 2) hx hb d_TU_placeOf_41 (by decide) ?_
          refine lv_idiv hx hb d_TU_placeOf_42 (by decide) ?_
          refine gs_top (pk_div (a := st) (d := 2) (by omega) (by omega) (by omega)) ?_
          refine lv_istore_n (lv' := [(3, .int (nI (st / 2))), (4, .int (nI (pl + st))), (2, .int (nI pl)), (0, .ref h), (1, .int (nI cd))]) hx hb d_TU_placeOf_43 rfl hl (by decide) rfl (fun ls hl => ?_)
          refine lv_goto (tgt := 6) hx hb d_TU_placeOf_44 (by decide) ?_
          exact ih k pl (st / 2) (by omega) (by omega) (by omega) (by omega) (by omega) ls (lv_sub hl [0, 2, 3, 4] rfl)
        · have c_21 : ¬ L.length < (pl + st) := mt (nI_ltI (by omega) (by omega)).mpr c_21
          refine lv_aload_n hx hb d_TU_placeOf_24 rfl (lv_at hl 3 rfl) ?_
          refine gs_get hx hb ht hown hK hG k_TU h0 0 (by decide) w_68 rfl d_TU_placeOf_25 ?_
          refine lv_iload hx hb d_TU_placeOf_28 (lv_at hl 0 rfl) ?_
          refine lv_iconst (v := nI 1) hx hb d_TU_placeOf_30 (by decide) ?_
          refine lv_isub hx hb d_TU_placeOf_31 ?_
          refine gs_top (pk_sub (a := (pl + st)) (b := 1) (by omega)) ?_
          obtain ⟨x, hx9⟩ := get_ex (L := L) (j := pl + st - 1) (by omega)
          obtain ⟨hx1, hx2⟩ := hcs _ _ hx9
          have hx3 := cb_iff L hs cd _ _ hx9
          refine gs_iald hx hb hK hG h1 (j := (pl + st) - 1) (by omega) (by omega) d_TU_placeOf_32 ?_
          refine gs_top (show (cs ((pl + st) - 1)) = (nI x) from hx1) ?_
          refine lv_iload_n hx hb d_TU_placeOf_33 rfl (lv_at hl 4 rfl) ?_
          refine lv_icmp_ge (tgt := 40) hx hb d_TU_placeOf_34 (by decide) (fun c_34 => ?_) (fun c_34 => ?_)
          · have c_34 : cd ≤ x := (nI_leI (by omega) (by omega)).mp c_34
            refine lv_iload_n hx hb d_TU_placeOf_40 rfl (lv_at hl 1 rfl) ?_
            refine lv_iconst (v := nI 2) hx hb d_TU_placeOf_41 (by decide) ?_
            refine lv_idiv hx hb d_TU_placeOf_42 (by decide) ?_
            refine gs_top (pk_div (a := st) (d := 2) (by omega) (by omega) (by omega)) ?_
            refine lv_istore_n (lv' := [(3, .int (nI (st / 2))), (4, .int (nI (pl + st))), (2, .int (nI pl)), (0, .ref h), (1, .int (nI cd))]) hx hb d_TU_placeOf_43 rfl hl (by decide) rfl (fun ls hl => ?_)
            refine lv_goto (tgt := 6) hx hb d_TU_placeOf_44 (by decide) ?_
            exact ih k pl (st / 2) (by omega) (by omega) (by omega) (by omega) (by omega) ls (lv_sub hl [0, 2, 3, 4] rfl)
          · have c_34 : ¬ cd ≤ x := mt (nI_leI (by omega) (by omega)).mpr c_34
            refine lv_iload hx hb d_TU_placeOf_37 (lv_at hl 0 rfl) ?_
            refine lv_istore_n (lv' := [(2, .int (nI (pl + st))), (4, .int (nI (pl + st))), (3, .int (nI st)), (0, .ref h), (1, .int (nI cd))]) hx hb d_TU_placeOf_39 rfl hl (by decide) rfl (fun ls hl => ?_)
            refine lv_iload_n hx hb d_TU_placeOf_40 rfl (lv_at hl 2 rfl) ?_
            refine lv_iconst (v := nI 2) hx hb d_TU_placeOf_41 (by decide) ?_
            refine lv_idiv hx hb d_TU_placeOf_42 (by decide) ?_
            refine gs_top (pk_div (a := st) (d := 2) (by omega) (by omega) (by omega)) ?_
            refine lv_istore_n (lv' := [(3, .int (nI (st / 2))), (2, .int (nI (pl + st))), (4, .int (nI (pl + st))), (0, .ref h), (1, .int (nI cd))]) hx hb d_TU_placeOf_43 rfl hl (by decide) rfl (fun ls hl => ?_)
            refine lv_goto (tgt := 6) hx hb d_TU_placeOf_44 (by decide) ?_
            exact ih k (pl + st) (st / 2) (by omega) (by omega) (by omega) (by omega) (by omega) ls (lv_sub hl [0, 1, 3, 4] rfl)
  refine lv_iconst (v := nI 0) hx hb d_TU_placeOf_0 (by decide) ?_
  refine lv_istore_n (lv' := [(2, .int (nI 0)), (0, .ref h), (1, .int (nI cd))]) hx hb d_TU_placeOf_1 rfl hl (by decide) rfl (fun ls hl => ?_)
  refine lv_sipush (v := nI 256) hx hb d_TU_placeOf_2 (by decide) ?_
  refine lv_istore_n (lv' := [(3, .int (nI 256)), (2, .int (nI 0)), (0, .ref h), (1, .int (nI cd))]) hx hb d_TU_placeOf_5 rfl hl (by decide) rfl (fun ls hl => ?_)
  exact loop 10 9 0 256 (by decide) (by decide) (by omega) (by omega) (by decide) ls (lv_sub hl [0, 1, 2, 3] rfl)
set_option maxHeartbeats 4000000 in
set_option maxRecDepth 100000 in
/-- Tuples.containsFact writes nothing -/
theorem c_TU_containsFact_p (l : Launch) (X : gs_X) (σ : gs_St) (h ac ai ab : Nat) (E : List En) (cs ci cr : Nat → Int32) (cd : Nat)
    (hst9 : (cds E).Pairwise (· < ·)) (hB : tuB E) (hR : tuR E cs ci cr) (hcd : cd < 2 ^ 30) (h0 : σ h = some (gs_ob 6 [.ref ac, .ref ai, .ref ab, .int (nI E.length)])) (h1 : σ ac = some (gs_ia X 301 cs)) (h2 : σ ai = some (gs_ia X 301 ci)) : gs_Mp l X y_TU_containsFact b_TU_containsFact 3 (some .boolean) ({ frames := 1, cells := 0, slots := 0, locals := 24 }) σ [.ref h, .int (nI cd)] (fun r => r = bI (decide (∃ x ∈ E, x.1 = cd ∧ x.2.1 = 0))) := by
  refine Met.ofW (cc := b_TU_containsFact) (maxL := 3) (ret := (some .boolean)) (by decide) rfl ?_
  intro p e s m args below meth c s₁ B₀ hml hv
  obtain ⟨rfl, hK, hG, hz, hE⟩ := hv
  have hx := B₀.exec
  have hb := B₀.bytes
  have hr := B₀.returns
  have hts := atoms_spec (ws := gs_ws y_TU_containsFact b_TU_containsFact 3 (some .boolean)) B₀.pre
  have ht : ∀ w ∈ gs_w, w.before _ s = true := fun w h => hts w (List.mem_cons_of_mem _ h)
  have hown : s.vm.findClass R_TU = some m.cls := findClass_of_methodNamed B₀.named
  have hlocks := B₀.notSynchronized
  have hA : ∀ q : Nat, s.heap.size ≤ q → gs_A X q := fun q h => Nat.le_trans hz h
  have hS : va_S (gs_A X) s.heap s.heap [] := va_S.rf
  have hl := lv_entry ([.ref h, .int (nI cd)]) (n := 3) (Nat.le_of_ble_eq_true rfl)
  rw [lg_entry_eq]
  generalize (lg_sl ([.ref h, .int (nI cd)]) ++ List.replicate (3 - (lg_sl ([.ref h, .int (nI cd)])).length) Slot.unset).toArray = ls at hl ⊢
  have hl : lv_has ls 3 [(0, .ref h), (1, .int (nI cd))] := hl
  have hcl : cb (cds E) cd ≤ E.length := by simpa using cb_le (cds E) cd
  have hmem := mem_cb hB.1 cd
  have hlen := hB.2.1
  refine lv_aload_n hx hb d_TU_containsFact_0 rfl (lv_at hl 0 rfl) ?_
  refine lv_iload_n hx hb d_TU_containsFact_1 rfl (lv_at hl 1 rfl) ?_
  refine gs_callVp (As := [.int (nI cd)]) (rest := []) ⟨hx, hb, hml, hown, hts⟩ hK hE hz hG hS (c_TU_placeOf_p l X σ h ac ai ab (cds E) cs cd hB.1 (by simpa using hB.2.1) (hR.cds hB.2.2) hcd (by simpa using h0) h1) ⟨rfl, rfl⟩ mV_TU_placeOf w_200 h0 rfl rfl hl.1 rfl (Nat.le_of_ble_eq_true rfl) ⟨(by first | decide | omega | (dsimp only [headSpec]; omega)), (by first | decide | omega | (dsimp only [headSpec]; omega))⟩ ⟨(by first | decide | omega | (dsimp only [headSpec]; omega)), (by first | decide | omega | (dsimp only [headSpec]; omega))⟩ d_TU_containsFact_2 (fun r_2 hp_2 => ?_)
  refine gs_top (show r_2 = (nI (cb (cds E) cd)) from hp_2) ?_
  refine lv_istore_n (lv' := [(2, .int (nI (cb (cds E) cd))), (0, .ref h), (1, .int (nI cd))]) hx hb d_TU_containsFact_5 rfl hl (by decide) rfl (fun ls hl => ?_)
  refine lv_iload_n hx hb d_TU_containsFact_6 rfl (lv_at hl 0 rfl) ?_
  refine lv_aload_n hx hb d_TU_containsFact_7 rfl (lv_at hl 1 rfl) ?_
  refine gs_get hx hb ht hown hK hG k_TU h0 3 (by decide) w_77 rfl d_TU_containsFact_8 ?_
  refine lv_icmp_ge (tgt := 37) hx hb d_TU_containsFact_11 (by decide) (fun c_11 => ?_) (fun c_11 => ?_)
  · have c_11 : E.length ≤ (cb (cds E) cd) := (nI_leI (by omega) (by omega)).mp c_11
    refine lv_iconst (v := nI 0) hx hb d_TU_containsFact_37 (by decide) ?_
    have hno : ¬ (∃ x ∈ E, x.1 = cd ∧ x.2.1 = 0) := by
      rintro ⟨y, z1, z2, z3⟩
      have z4 := hmem.mp (List.mem_map.mpr ⟨y, z1, z2⟩)
      first
      | (rw [List.getElem?_eq_none (by rw [List.length_map]; omega)] at z4; cases z4; done)
      | (rw [hx5] at z4; exact c_21 (Option.some.inj z4))
      | (obtain ⟨j, hj⟩ := List.getElem?_of_mem z1
         have z6 : (cds E)[j]? = some cd := by rw [List.getElem?_map, hj, ← z2]; rfl
         have z7 := cb_uniq hst9 z6
         rw [z7, hj] at hx9
         cases hx9
         exact c_30 z3)
    exact gs_iretp (v := (nI 0)) hx hb hr rfl hlocks (Nat.zero_le _) (Nat.zero_le _) (by rw [decide_eq_false hno]; rfl) d_TU_containsFact_38
  · have c_11 : ¬ E.length ≤ (cb (cds E) cd) := mt (nI_leI (by omega) (by omega)).mpr c_11
    refine lv_aload_n hx hb d_TU_containsFact_14 rfl (lv_at hl 1 rfl) ?_
    refine gs_get hx hb ht hown hK hG k_TU h0 0 (by decide) w_68 rfl d_TU_containsFact_15 ?_
    refine lv_iload_n hx hb d_TU_containsFact_18 rfl (lv_at hl 0 rfl) ?_
    obtain ⟨x, hx9⟩ := get_ex (L := E) (j := cb (cds E) cd) (by omega)
    obtain ⟨hx1, hx2, hx3⟩ := hR _ _ hx9
    have hx4 := hB.2.2 x (List.mem_of_getElem? hx9)
    have hx5 : (cds E)[cb (cds E) cd]? = some x.1 := by rw [List.getElem?_map, hx9]; rfl
    refine gs_iald hx hb hK hG h1 (j := cb (cds E) cd) (by omega) (by omega) d_TU_containsFact_19 ?_
    refine gs_top (show (cs (cb (cds E) cd)) = (nI x.1) from hx1) ?_
    refine lv_iload_n hx hb d_TU_containsFact_20 rfl (lv_at hl 2 rfl) ?_
    refine lv_icmp_ne (tgt := 37) hx hb d_TU_containsFact_21 (by decide) (fun c_21 => ?_) (fun c_21 => ?_)
    · have c_21 : ¬ x.1 = cd := mt (nI_eq (by omega) (by omega)).mpr c_21
      refine lv_iconst (v := nI 0) hx hb d_TU_containsFact_37 (by decide) ?_
      have hno : ¬ (∃ x ∈ E, x.1 = cd ∧ x.2.1 = 0) := by
        rintro ⟨y, z1, z2, z3⟩
        have z4 := hmem.mp (List.mem_map.mpr ⟨y, z1, z2⟩)
        first
        | (rw [List.getElem?_eq_none (by rw [List.length_map]; omega)] at z4; cases z4; done)
        | (rw [hx5] at z4; exact c_21 (Option.some.inj z4))
        | (obtain ⟨j, hj⟩ := List.getElem?_of_mem z1
           have z6 : (cds E)[j]? = some cd := by rw [List.getElem?_map, hj, ← z2]; rfl
           have z7 := cb_uniq hst9 z6
           rw [z7, hj] at hx9
           cases hx9
           exact c_30 z3)
      exact gs_iretp (v := (nI 0)) hx hb hr rfl hlocks (Nat.zero_le _) (Nat.zero_le _) (by rw [decide_eq_false hno]; rfl) d_TU_containsFact_38
    · have c_21 : x.1 = cd :=  (nI_eq (by omega) (by omega)).mp c_21
      refine lv_aload_n hx hb d_TU_containsFact_24 rfl (lv_at hl 1 rfl) ?_
      refine gs_get hx hb ht hown hK hG k_TU h0 1 (by decide) w_72 rfl d_TU_containsFact_25 ?_
      refine lv_iload_n hx hb d_TU_containsFact_28 rfl (lv_at hl 0 rfl) ?_
      refine gs_iald hx hb hK hG h2 (j := cb (cds E) cd) (by omega) (by omega) d_TU_containsFact_29 ?_
      refine gs_top (show (ci (cb (cds E) cd)) = (nI x.2.1) from hx2) ?_
      refine lv_if_ne (tgt := 37) hx hb d_TU_containsFact_30 (by decide) (fun c_30 => ?_) (fun c_30 => ?_)
      · have c_30 : ¬ x.2.1 = 0 := gs_zn (by omega) c_30
        refine lv_iconst (v := nI 0) hx hb d_TU_containsFact_37 (by decide) ?_
        have hno : ¬ (∃ x ∈ E, x.1 = cd ∧ x.2.1 = 0) := by
          rintro ⟨y, z1, z2, z3⟩
          have z4 := hmem.mp (List.mem_map.mpr ⟨y, z1, z2⟩)
          first
          | (rw [List.getElem?_eq_none (by rw [List.length_map]; omega)] at z4; cases z4; done)
          | (rw [hx5] at z4; exact c_21 (Option.some.inj z4))
          | (obtain ⟨j, hj⟩ := List.getElem?_of_mem z1
             have z6 : (cds E)[j]? = some cd := by rw [List.getElem?_map, hj, ← z2]; rfl
             have z7 := cb_uniq hst9 z6
             rw [z7, hj] at hx9
             cases hx9
             exact c_30 z3)
        exact gs_iretp (v := (nI 0)) hx hb hr rfl hlocks (Nat.zero_le _) (Nat.zero_le _) (by rw [decide_eq_false hno]; rfl) d_TU_containsFact_38
      · have c_30 : x.2.1 = 0 := gs_z (by omega) c_30
        refine lv_iconst (v := nI 1) hx hb d_TU_containsFact_33 (by decide) ?_
        refine lv_goto (tgt := 38) hx hb d_TU_containsFact_34 (by decide) ?_
        exact gs_iretp (v := (nI 1)) hx hb hr rfl hlocks (Nat.zero_le _) (Nat.zero_le _) (by rw [decide_eq_true ⟨x, List.mem_of_getElem? hx9, c_21, c_30⟩]; rfl) d_TU_containsFact_38
set_option maxHeartbeats 4000000 in
set_option maxRecDepth 100000 in
theorem c_RU_itemCount_p (l : Launch) (X : gs_X) (σ : gs_St) (a hd ho ck kf n k : Nat)
    (r0 : σ a = some (gs_ob 4 [.ref hd, .ref ho, .ref ck, .int (nI n), .int (nI k), .ref kf])) : gs_Mp l X y_RU_itemCount b_RU_itemCount 1 (some .int) ({ frames := 0, cells := 0, slots := 0, locals := 0 }) σ [.ref a] (fun r => r = nI (n + k)) := by
  refine Met.ofW (cc := b_RU_itemCount) (maxL := 1) (ret := (some .int)) (by decide) rfl ?_
  intro p e s m args below meth c s₁ B₀ hml hv
  obtain ⟨rfl, hK, hG, hz, hE⟩ := hv
  have hx := B₀.exec
  have hb := B₀.bytes
  have hr := B₀.returns
  have hts := atoms_spec (ws := gs_ws y_RU_itemCount b_RU_itemCount 1 (some .int)) B₀.pre
  have ht : ∀ w ∈ gs_w, w.before _ s = true := fun w h => hts w (List.mem_cons_of_mem _ h)
  have hown : s.vm.findClass R_RU = some m.cls := findClass_of_methodNamed B₀.named
  have hlocks := B₀.notSynchronized
  have hA : ∀ q : Nat, s.heap.size ≤ q → gs_A X q := fun q h => Nat.le_trans hz h
  have hS : va_S (gs_A X) s.heap s.heap [] := va_S.rf
  have hl := lv_entry ([.ref a]) (n := 1) (Nat.le_of_ble_eq_true rfl)
  rw [lg_entry_eq]
  generalize (lg_sl ([.ref a]) ++ List.replicate (1 - (lg_sl ([.ref a])).length) Slot.unset).toArray = ls at hl ⊢
  have hl : lv_has ls 1 [(0, .ref a)] := hl
  refine lv_aload_n hx hb d_RU_itemCount_0 rfl (lv_at hl 0 rfl) ?_
  refine gs_get hx hb ht hown hK hG k_RU r0 3 (by decide) w_503 rfl d_RU_itemCount_1 ?_
  refine lv_aload_n hx hb d_RU_itemCount_4 rfl (lv_at hl 0 rfl) ?_
  refine gs_get hx hb ht hown hK hG k_RU r0 4 (by decide) w_507 rfl d_RU_itemCount_5 ?_
  refine lv_iadd hx hb d_RU_itemCount_8 ?_
  refine gs_top (nI_add n k) ?_
  exact gs_iretp (v := (nI (n + k))) hx hb hr rfl hlocks (Nat.zero_le _) (Nat.zero_le _) (rfl) d_RU_itemCount_9
set_option maxHeartbeats 4000000 in
set_option maxRecDepth 100000 in
theorem c_RU_hasRoomFor_p (l : Launch) (X : gs_X) (σ : gs_St) (a hd ho ck kf n k : Nat) (kd : Nat)
    (r0 : σ a = some (gs_ob 4 [.ref hd, .ref ho, .ref ck, .int (nI n), .int (nI k), .ref kf])) (hn : n ≤ 6) (hk : k ≤ 6) (hkd : kd ≤ 3) : gs_Mp l X y_RU_hasRoomFor b_RU_hasRoomFor 2 (some .boolean) ({ frames := 1, cells := 0, slots := 0, locals := 20 }) σ [.ref a, .int (nI kd)] (fun r => r = bI (decide (n + k < 6 ∧ (kd ≠ 0 ∨ n < 3)))) := by
  refine Met.ofW (cc := b_RU_hasRoomFor) (maxL := 2) (ret := (some .boolean)) (by decide) rfl ?_
  intro p e s m args below meth c s₁ B₀ hml hv
  obtain ⟨rfl, hK, hG, hz, hE⟩ := hv
  have hx := B₀.exec
  have hb := B₀.bytes
  have hr := B₀.returns
  have hts := atoms_spec (ws := gs_ws y_RU_hasRoomFor b_RU_hasRoomFor 2 (some .boolean)) B₀.pre
  have ht : ∀ w ∈ gs_w, w.before _ s = true := fun w h => hts w (List.mem_cons_of_mem _ h)
  have hown : s.vm.findClass R_RU = some m.cls := findClass_of_methodNamed B₀.named
  have hlocks := B₀.notSynchronized
  have hA : ∀ q : Nat, s.heap.size ≤ q → gs_A X q := fun q h => Nat.le_trans hz h
  have hS : va_S (gs_A X) s.heap s.heap [] := va_S.rf
  have hl := lv_entry ([.ref a, .int (nI kd)]) (n := 2) (Nat.le_of_ble_eq_true rfl)
  rw [lg_entry_eq]
  generalize (lg_sl ([.ref a, .int (nI kd)]) ++ List.replicate (2 - (lg_sl ([.ref a, .int (nI kd)])).length) Slot.unset).toArray = ls at hl ⊢
  have hl : lv_has ls 2 [(0, .ref a), (1, .int (nI kd))] := hl
  refine lv_aload_n hx hb d_RU_hasRoomFor_0 rfl (lv_at hl 0 rfl) ?_
  refine gs_callVp (As := []) (rest := []) ⟨hx, hb, hml, hown, hts⟩ hK hE hz hG hS (c_RU_itemCount_p l X σ a hd ho ck kf n k r0) ⟨rfl, rfl⟩ mV_RU_itemCount w_541 r0 rfl rfl hl.1 rfl (Nat.le_of_ble_eq_true rfl) ⟨(by first | decide | omega | (dsimp only [headSpec]; omega)), (by first | decide | omega | (dsimp only [headSpec]; omega))⟩ ⟨(by first | decide | omega | (dsimp only [headSpec]; omega)), (by first | decide | omega | (dsimp only [headSpec]; omega))⟩ d_RU_hasRoomFor_1 (fun r_1 hp_1 => ?_)
  refine gs_top (show r_1 = (nI (n + k)) from hp_1) ?_
  refine lv_bipush (v := nI 6) hx hb d_RU_hasRoomFor_4 (by decide) ?_
  refine lv_icmp_ge (tgt := 25) hx hb d_RU_hasRoomFor_6 (by decide) (fun c_6 => ?_) (fun c_6 => ?_)
  · have c_6 : 6 ≤ (n + k) := (nI_leI (by omega) (by omega)).mp c_6
    refine lv_iconst (v := nI 0) hx hb d_RU_hasRoomFor_25 (by decide) ?_
    exact gs_iretp (v := (nI 0)) hx hb hr rfl hlocks (Nat.zero_le _) (Nat.zero_le _) (by rw [decide_eq_false (by omega)]; rfl) d_RU_hasRoomFor_26
  · have c_6 : ¬ 6 ≤ (n + k) := mt (nI_leI (by omega) (by omega)).mpr c_6
    refine lv_iload_n hx hb d_RU_hasRoomFor_9 rfl (lv_at hl 1 rfl) ?_
    refine lv_if_ne (tgt := 21) hx hb d_RU_hasRoomFor_10 (by decide) (fun c_10 => ?_) (fun c_10 => ?_)
    · have c_10 : ¬ kd = 0 := gs_zn (by omega) c_10
      refine lv_iconst (v := nI 1) hx hb d_RU_hasRoomFor_21 (by decide) ?_
      refine lv_goto (tgt := 26) hx hb d_RU_hasRoomFor_22 (by decide) ?_
      exact gs_iretp (v := (nI 1)) hx hb hr rfl hlocks (Nat.zero_le _) (Nat.zero_le _) (by rw [decide_eq_true (by omega)]; rfl) d_RU_hasRoomFor_26
    · have c_10 : kd = 0 := gs_z (by omega) c_10
      refine lv_aload_n hx hb d_RU_hasRoomFor_13 rfl (lv_at hl 0 rfl) ?_
      refine gs_get hx hb ht hown hK hG k_RU r0 3 (by decide) w_503 rfl d_RU_hasRoomFor_14 ?_
      refine lv_iconst (v := nI 3) hx hb d_RU_hasRoomFor_17 (by decide) ?_
      refine lv_icmp_ge (tgt := 25) hx hb d_RU_hasRoomFor_18 (by decide) (fun c_18 => ?_) (fun c_18 => ?_)
      · have c_18 : 3 ≤ n := (nI_leI (by omega) (by omega)).mp c_18
        refine lv_iconst (v := nI 0) hx hb d_RU_hasRoomFor_25 (by decide) ?_
        exact gs_iretp (v := (nI 0)) hx hb hr rfl hlocks (Nat.zero_le _) (Nat.zero_le _) (by rw [decide_eq_false (by omega)]; rfl) d_RU_hasRoomFor_26
      · have c_18 : ¬ 3 ≤ n := mt (nI_leI (by omega) (by omega)).mpr c_18
        refine lv_iconst (v := nI 1) hx hb d_RU_hasRoomFor_21 (by decide) ?_
        refine lv_goto (tgt := 26) hx hb d_RU_hasRoomFor_22 (by decide) ?_
        exact gs_iretp (v := (nI 1)) hx hb hr rfl hlocks (Nat.zero_le _) (Nat.zero_le _) (by rw [decide_eq_true (by omega)]; rfl) d_RU_hasRoomFor_26
set_option maxHeartbeats 4000000 in
set_option maxRecDepth 100000 in
/-- RuleRounds.sizeOf -/
theorem c_RR_sizeOf (l : Launch) (X : gs_X) (σ : gs_St) (rr bk tu ma dv fc : Nat) (dw : Value) (ac ai ab : Nat) (L : List Nat) (cs : Nat → Int32) (rl : Nat)
    (x0 : σ rr = some (gs_ob 0 [.ref bk, .ref tu, .ref ma, .ref dv, .int (nI fc), dw])) (hs : L.Pairwise (· ≤ ·)) (hn : L.length ≤ 301) (hcs : ∀ j x, L[j]? = some x → cs j = nI x ∧ x < 2 ^ 30) (h0 : σ tu = some (gs_ob 6 [.ref ac, .ref ai, .ref ab, .int (nI L.length)])) (h1 : σ ac = some (gs_ia X 301 cs)) (hrl : rl < 12) : gs_Mp l X y_RR_sizeOf b_RR_sizeOf 2 (some .int) ({ frames := 1, cells := 0, slots := 0, locals := 24 }) σ [.ref rr, .int (nI rl)] (fun r => r = nI (cb L ((rl + 1) * 262144) - cb L (rl * 262144))) := by
  refine Met.ofW (cc := b_RR_sizeOf) (maxL := 2) (ret := (some .int)) (by decide) rfl ?_
  intro p e s m args below meth c s₁ B₀ hml hv
  obtain ⟨rfl, hK, hG, hz, hE⟩ := hv
  have hx := B₀.exec
  have hb := B₀.bytes
  have hr := B₀.returns
  have hts := atoms_spec (ws := gs_ws y_RR_sizeOf b_RR_sizeOf 2 (some .int)) B₀.pre
  have ht : ∀ w ∈ gs_w, w.before _ s = true := fun w h => hts w (List.mem_cons_of_mem _ h)
  have hown : s.vm.findClass R_RR = some m.cls := findClass_of_methodNamed B₀.named
  have hlocks := B₀.notSynchronized
  have hA : ∀ q : Nat, s.heap.size ≤ q → gs_A X q := fun q h => Nat.le_trans hz h
  have hS : va_S (gs_A X) s.heap s.heap [] := va_S.rf
  have hl := lv_entry ([.ref rr, .int (nI rl)]) (n := 2) (Nat.le_of_ble_eq_true rfl)
  rw [lg_entry_eq]
  generalize (lg_sl ([.ref rr, .int (nI rl)]) ++ List.replicate (2 - (lg_sl ([.ref rr, .int (nI rl)])).length) Slot.unset).toArray = ls at hl ⊢
  have hl : lv_has ls 2 [(0, .ref rr), (1, .int (nI rl))] := hl
  have hmo : cb L (rl * 262144) ≤ cb L ((rl + 1) * 262144) := cb_mono (by omega)
  refine lv_aload_n hx hb d_RR_sizeOf_0 rfl (lv_at hl 0 rfl) ?_
  refine gs_get hx hb ht hown hK hG k_RR x0 1 (by decide) w_138 rfl d_RR_sizeOf_1 ?_
  refine lv_iload_n hx hb d_RR_sizeOf_4 rfl (lv_at hl 1 rfl) ?_
  refine lv_iconst (v := nI 1) hx hb d_RR_sizeOf_5 (by decide) ?_
  refine lv_iadd hx hb d_RR_sizeOf_6 ?_
  refine gs_top (nI_add rl 1) ?_
  refine lv_iconst (v := nI 0) hx hb d_RR_sizeOf_7 (by decide) ?_
  refine lv_iconst (v := nI 0) hx hb d_RR_sizeOf_8 (by decide) ?_
  refine lv_iconst (v := nI 0) hx hb d_RR_sizeOf_9 (by decide) ?_
  refine gs_callSp (As := [.int (nI (rl + 1)), .int (nI 0), .int (nI 0), .int (nI 0)]) (rest := [.ref tu]) ⟨hx, hb, hml, hown, hts⟩ hK hE hz hG hS (c_RR_codeOf l X σ (rl + 1) 0 0 0) ⟨rfl, rfl⟩ mS_RR_codeOf w_403 rfl hl.1 rfl (Nat.le_of_ble_eq_true rfl) ⟨(by first | decide | omega | (dsimp only [headSpec]; omega)), (by first | decide | omega | (dsimp only [headSpec]; omega))⟩ ⟨(by first | decide | omega | (dsimp only [headSpec]; omega)), (by first | decide | omega | (dsimp only [headSpec]; omega))⟩ d_RR_sizeOf_10 (fun r_10 hp_10 => ?_)
  refine gs_top (show r_10 = (nI ((((rl + 1) * 64 + 0) * 64 + 0) * 64 + 0)) from hp_10) ?_
  refine gs_top (show nI ((((rl + 1) * 64 + 0) * 64 + 0) * 64 + 0) = nI ((rl + 1) * 262144) from congrArg nI (by omega)) ?_
  refine gs_callVp (As := [.int (nI ((rl + 1) * 262144))]) (rest := []) ⟨hx, hb, hml, hown, hts⟩ hK hE hz hG hS (c_TU_placeOf_p l X σ tu ac ai ab L cs ((rl + 1) * 262144) hs hn hcs (by omega) h0 h1) ⟨rfl, rfl⟩ mV_TU_placeOf w_601 h0 rfl rfl hl.1 rfl (Nat.le_of_ble_eq_true rfl) ⟨(by first | decide | omega | (dsimp only [headSpec]; omega)), (by first | decide | omega | (dsimp only [headSpec]; omega))⟩ ⟨(by first | decide | omega | (dsimp only [headSpec]; omega)), (by first | decide | omega | (dsimp only [headSpec]; omega))⟩ d_RR_sizeOf_13 (fun r_13 hp_13 => ?_)
  refine gs_top (show r_13 = (nI (cb L ((rl + 1) * 262144))) from hp_13) ?_
  refine lv_aload_n hx hb d_RR_sizeOf_16 rfl (lv_at hl 0 rfl) ?_
  refine gs_get hx hb ht hown hK hG k_RR x0 1 (by decide) w_138 rfl d_RR_sizeOf_17 ?_
  refine lv_iload_n hx hb d_RR_sizeOf_20 rfl (lv_at hl 1 rfl) ?_
  refine lv_iconst (v := nI 0) hx hb d_RR_sizeOf_21 (by decide) ?_
  refine lv_iconst (v := nI 0) hx hb d_RR_sizeOf_22 (by decide) ?_
  refine lv_iconst (v := nI 0) hx hb d_RR_sizeOf_23 (by decide) ?_
  refine gs_callSp (As := [.int (nI rl), .int (nI 0), .int (nI 0), .int (nI 0)]) (rest := [.ref tu, .int (nI (cb L ((rl + 1) * 262144)))]) ⟨hx, hb, hml, hown, hts⟩ hK hE hz hG hS (c_RR_codeOf l X σ rl 0 0 0) ⟨rfl, rfl⟩ mS_RR_codeOf w_403 rfl hl.1 rfl (Nat.le_of_ble_eq_true rfl) ⟨(by first | decide | omega | (dsimp only [headSpec]; omega)), (by first | decide | omega | (dsimp only [headSpec]; omega))⟩ ⟨(by first | decide | omega | (dsimp only [headSpec]; omega)), (by first | decide | omega | (dsimp only [headSpec]; omega))⟩ d_RR_sizeOf_24 (fun r_24 hp_24 => ?_)
  refine gs_top (show r_24 = (nI (((rl * 64 + 0) * 64 + 0) * 64 + 0)) from hp_24) ?_
  refine gs_top (show nI (((rl * 64 + 0) * 64 + 0) * 64 + 0) = nI (rl * 262144) from congrArg nI (by omega)) ?_
  refine gs_callVp (As := [.int (nI (rl * 262144))]) (rest := [.int (nI (cb L ((rl + 1) * 262144)))]) ⟨hx, hb, hml, hown, hts⟩ hK hE hz hG hS (c_TU_placeOf_p l X σ tu ac ai ab L cs (rl * 262144) hs hn hcs (by omega) h0 h1) ⟨rfl, rfl⟩ mV_TU_placeOf w_601 h0 rfl rfl hl.1 rfl (Nat.le_of_ble_eq_true rfl) ⟨(by first | decide | omega | (dsimp only [headSpec]; omega)), (by first | decide | omega | (dsimp only [headSpec]; omega))⟩ ⟨(by first | decide | omega | (dsimp only [headSpec]; omega)), (by first | decide | omega | (dsimp only [headSpec]; omega))⟩ d_RR_sizeOf_27 (fun r_27 hp_27 => ?_)
  refine gs_top (show r_27 = (nI (cb L (rl * 262144))) from hp_27) ?_
  refine lv_isub hx hb d_RR_sizeOf_30 ?_
  refine gs_top (pk_sub (a := (cb L ((rl + 1) * 262144))) (b := (cb L (rl * 262144))) (by omega)) ?_
  exact gs_iretp (v := (nI ((cb L ((rl + 1) * 262144)) - (cb L (rl * 262144))))) hx hb hr rfl hlocks (Nat.zero_le _) (Nat.zero_le _) (rfl) d_RR_sizeOf_31
