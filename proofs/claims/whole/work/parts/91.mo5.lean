set_option maxHeartbeats 4000000 in
set_option maxRecDepth 100000 in
/-- the reference: set three terms -/
theorem c_MO_sett (l : Launch) (X : gs_X) (σ : gs_St) (mo : Nat) (A Z : Nat → Nat) (f23 : Nat → Int32) (k : Nat) (x y z : Int32)
    (m0 : σ mo = some (moE A Z)) (m23 : σ (A 23) = some (gs_ia X 450 f23)) (hk : k < 150) : gs_Mv l X y_MO_sett b_MO_sett 5 ({ frames := 0, cells := 0, slots := 0, locals := 0 }) σ [.ref mo, .int (nI k), .int x, .int y, .int z] (fun σ' => σ' = gs_up σ (A 23) (gs_ia X 450 (up3 f23 k x y z))) := by
  refine Met.ofW (cc := b_MO_sett) (maxL := 5) (ret := none) (by decide) rfl ?_
  intro p e s m args below meth c s₁ B₀ hml hv
  obtain ⟨rfl, hK, hG, hz, hE⟩ := hv
  have hx := B₀.exec
  have hb := B₀.bytes
  have hr := B₀.returns
  have hts := atoms_spec (ws := gs_ws y_MO_sett b_MO_sett 5 none) B₀.pre
  have ht : ∀ w ∈ gs_w, w.before _ s = true := fun w h => hts w (List.mem_cons_of_mem _ h)
  have hown : s.vm.findClass R_MO = some m.cls := findClass_of_methodNamed B₀.named
  have hlocks := B₀.notSynchronized
  have hA : ∀ q : Nat, s.heap.size ≤ q → gs_A X q := fun q h => Nat.le_trans hz h
  have hS : va_S (gs_A X) s.heap s.heap [] := va_S.rf
  have hl := lv_entry ([.ref mo, .int (nI k), .int x, .int y, .int z]) (n := 5) (Nat.le_of_ble_eq_true rfl)
  rw [lg_entry_eq]
  generalize (lg_sl ([.ref mo, .int (nI k), .int x, .int y, .int z]) ++ List.replicate (5 - (lg_sl ([.ref mo, .int (nI k), .int x, .int y, .int z])).length) Slot.unset).toArray = ls at hl ⊢
  have hl : lv_has ls 5 [(0, .ref mo), (1, .int (nI k)), (2, .int x), (3, .int y), (4, .int z)] := hl
  refine lv_aload_n hx hb d_MO_sett_0 rfl (lv_at hl 0 rfl) ?_
  refine gs_get (v := .ref (A 23)) hx hb ht hown hK hG k_MO m0 23 (by decide) w_685 rfl d_MO_sett_1 ?_
  refine lv_iconst (v := nI 3) hx hb d_MO_sett_4 (by decide) ?_
  refine lv_iload_n hx hb d_MO_sett_5 rfl (lv_at hl 1 rfl) ?_
  refine lv_imul hx hb d_MO_sett_6 ?_
  refine gs_top (pk_mul 3 k) ?_
  refine lv_iload_n hx hb d_MO_sett_7 rfl (lv_at hl 2 rfl) ?_
  refine gs_iast hx hb hK hG hS m23 (j := 3 * k) (by omega) (by omega) d_MO_sett_8 (fun H locs hG hS => ?_)
  have hG : gs_H X (gs_up σ (A 23) (gs_ia X 450 (upd f23 (3 * k) x))) H := hG
  obtain ⟨σ_1, eσ_1⟩ : ∃ zq, zq = gs_up σ (A 23) (gs_ia X 450 (upd f23 (3 * k) x)) := ⟨_, rfl⟩
  rw [← eσ_1] at hG
  have hc_2 : σ_1 mo = some (moE A Z) := by rw [eσ_1]; exact gs_ku (gs_ne m0 m23 (by simp)) m0
  have hc_3 : σ_1 (A 23) = some (gs_ia X 450 (upd f23 (3 * k) x)) := by rw [eσ_1]; exact gs_us
  refine lv_aload_n hx hb d_MO_sett_9 rfl (lv_at hl 0 rfl) ?_
  refine gs_get (v := .ref (A 23)) hx hb ht hown hK hG k_MO hc_2 23 (by decide) w_685 rfl d_MO_sett_10 ?_
  refine lv_iconst (v := nI 3) hx hb d_MO_sett_13 (by decide) ?_
  refine lv_iload_n hx hb d_MO_sett_14 rfl (lv_at hl 1 rfl) ?_
  refine lv_imul hx hb d_MO_sett_15 ?_
  refine gs_top (pk_mul 3 k) ?_
  refine lv_iconst (v := nI 1) hx hb d_MO_sett_16 (by decide) ?_
  refine lv_iadd hx hb d_MO_sett_17 ?_
  refine gs_top (nI_add (3 * k) 1) ?_
  refine lv_iload_n hx hb d_MO_sett_18 rfl (lv_at hl 3 rfl) ?_
  refine gs_iast hx hb hK hG hS hc_3 (j := (3 * k) + 1) (by omega) (by omega) d_MO_sett_19 (fun H locs hG hS => ?_)
  have hG : gs_H X (gs_up σ_1 (A 23) (gs_ia X 450 (upd (upd f23 (3 * k) x) ((3 * k) + 1) y))) H := hG
  obtain ⟨σ_4, eσ_4⟩ : ∃ zq, zq = gs_up σ_1 (A 23) (gs_ia X 450 (upd (upd f23 (3 * k) x) ((3 * k) + 1) y)) := ⟨_, rfl⟩
  rw [← eσ_4] at hG
  have hc_5 : σ_4 mo = some (moE A Z) := by rw [eσ_4]; exact gs_ku (gs_ne hc_2 hc_3 (by simp)) hc_2
  have hc_6 : σ_4 (A 23) = some (gs_ia X 450 (upd (upd f23 (3 * k) x) ((3 * k) + 1) y)) := by rw [eσ_4]; exact gs_us
  refine lv_aload_n hx hb d_MO_sett_20 rfl (lv_at hl 0 rfl) ?_
  refine gs_get (v := .ref (A 23)) hx hb ht hown hK hG k_MO hc_5 23 (by decide) w_685 rfl d_MO_sett_21 ?_
  refine lv_iconst (v := nI 3) hx hb d_MO_sett_24 (by decide) ?_
  refine lv_iload_n hx hb d_MO_sett_25 rfl (lv_at hl 1 rfl) ?_
  refine lv_imul hx hb d_MO_sett_26 ?_
  refine gs_top (pk_mul 3 k) ?_
  refine lv_iconst (v := nI 2) hx hb d_MO_sett_27 (by decide) ?_
  refine lv_iadd hx hb d_MO_sett_28 ?_
  refine gs_top (nI_add (3 * k) 2) ?_
  refine lv_iload hx hb d_MO_sett_29 (lv_at hl 4 rfl) ?_
  refine gs_iast hx hb hK hG hS hc_6 (j := (3 * k) + 2) (by omega) (by omega) d_MO_sett_31 (fun H locs hG hS => ?_)
  have hG : gs_H X (gs_up σ_4 (A 23) (gs_ia X 450 (upd (upd (upd f23 (3 * k) x) ((3 * k) + 1) y) ((3 * k) + 2) z))) H := hG
  obtain ⟨σ_7, eσ_7⟩ : ∃ zq, zq = gs_up σ_4 (A 23) (gs_ia X 450 (upd (upd (upd f23 (3 * k) x) ((3 * k) + 1) y) ((3 * k) + 2) z)) := ⟨_, rfl⟩
  rw [← eσ_7] at hG
  have hc_8 : σ_7 mo = some (moE A Z) := by rw [eσ_7]; exact gs_ku (gs_ne hc_5 hc_6 (by simp)) hc_5
  have hc_9 : σ_7 (A 23) = some (gs_ia X 450 (upd (upd (upd f23 (3 * k) x) ((3 * k) + 1) y) ((3 * k) + 2) z)) := by rw [eσ_7]; exact gs_us
  exact gs_vret hx hb hr hK hE hz hG hS hlocks (by first | decide | omega | (dsimp only [headSpec]; omega)) (by first | decide | omega | (dsimp only [headSpec]; omega)) (by simp only [*, gs_uu]; rfl) d_MO_sett_32
set_option maxHeartbeats 4000000 in
set_option maxRecDepth 100000 in
/-- the reference: holds -/
theorem c_MO_holds (l : Launch) (X : gs_X) (σ : gs_St) (mo : Nat) (A Z : Nat → Nat) (f18 f19 f20 f21 f22 f23 : Nat → Int32) (q : Nat) (R : MR)
    (m0 : σ mo = some (moE A Z)) (m20 : σ (A 20) = some (gs_ia X 25 f20)) (m21 : σ (A 21) = some (gs_ia X 150 f21)) (hR : rAt f18 f19 f20 f21 f22 f23 q R) (hq : q < 25) (hRl : R.2.length ≤ 6) (hRk : ∀ x ∈ R.2, x.1 ≤ 3) : gs_Mp l X y_MO_holds b_MO_holds 4 (some .int) ({ frames := 0, cells := 0, slots := 0, locals := 0 }) σ [.ref mo, .int (nI q)] (fun z => z = nI (hl0 R)) := by
  refine Met.ofW (cc := b_MO_holds) (maxL := 4) (ret := (some .int)) (by decide) rfl ?_
  intro p e s m args below meth c s₁ B₀ hml hv
  obtain ⟨rfl, hK, hG, hz, hE⟩ := hv
  have hx := B₀.exec
  have hb := B₀.bytes
  have hr := B₀.returns
  have hts := atoms_spec (ws := gs_ws y_MO_holds b_MO_holds 4 (some .int)) B₀.pre
  have ht : ∀ w ∈ gs_w, w.before _ s = true := fun w h => hts w (List.mem_cons_of_mem _ h)
  have hown : s.vm.findClass R_MO = some m.cls := findClass_of_methodNamed B₀.named
  have hlocks := B₀.notSynchronized
  have hA : ∀ q : Nat, s.heap.size ≤ q → gs_A X q := fun q h => Nat.le_trans hz h
  have hS : va_S (gs_A X) s.heap s.heap [] := va_S.rf
  have hl := lv_entry ([.ref mo, .int (nI q)]) (n := 4) (Nat.le_of_ble_eq_true rfl)
  rw [lg_entry_eq]
  generalize (lg_sl ([.ref mo, .int (nI q)]) ++ List.replicate (4 - (lg_sl ([.ref mo, .int (nI q)])).length) Slot.unset).toArray = ls at hl ⊢
  have hl : lv_has ls 4 [(0, .ref mo), (1, .int (nI q))] := hl
  have loop : ∀ (fl : Nat) (i : Nat), (i ≤ R.2.length) → R.2.length - i < fl → ∀ ls, lv_has ls 4 [(3, .int (nI i)), (2, .int (nI (hlT R i))), (0, .ref mo), (1, .int (nI q))] → W p l e ({ frames := 0, cells := 0, slots := 0, locals := 0 } : Room) s m ([.ref mo, .int (nI q)] : List Value).toArray below meth c s.heap [] 0 0 (MQ below (gs_Qp (fun z => z = nI (hl0 R))) ([.ref mo, .int (nI q)] : List Value).toArray s 0 0 (fun _ => False)) (F0 m 4 ls []) := by
    intro fl
    induction fl with
    | zero => intro i _ h9; omega
    | succ fl ih =>
      intro i hi hmu  ls hl
      refine lv_iload_n hx hb d_MO_holds_4 rfl (lv_at hl 0 rfl) ?_
      refine lv_aload_n hx hb d_MO_holds_5 rfl (lv_at hl 2 rfl) ?_
      refine gs_get (v := .ref (A 20)) hx hb ht hown hK hG k_MO m0 20 (by decide) w_682 rfl d_MO_holds_6 ?_
      refine lv_iload_n hx hb d_MO_holds_9 rfl (lv_at hl 3 rfl) ?_
      refine gs_iald hx hb hK hG m20 (j := q) (by omega) (by omega) d_MO_holds_10 ?_
      refine gs_top (show (f20 q) = (nI R.2.length) from hR.2.2.1) ?_
      refine lv_icmp_ge (tgt := 42) hx hb d_MO_holds_11 (by decide) (fun c_11 => ?_) (fun c_11 => ?_)
      · have c_11 : R.2.length ≤ i := (nI_leI (by omega) (by omega)).mp c_11
        refine lv_iload_n hx hb d_MO_holds_42 rfl (lv_at hl 1 rfl) ?_
        exact gs_iretp (v := (nI (hlT R i))) hx hb hr rfl hlocks (Nat.zero_le _) (Nat.zero_le _) (by rw [show i = R.2.length by omega]; unfold hlT hl0; rw [List.take_length]) d_MO_holds_43
      · have c_11 : ¬ R.2.length ≤ i := mt (nI_leI (by omega) (by omega)).mpr c_11
        have hiR : i < R.2.length := by omega
        obtain ⟨x, hx9⟩ := get_ex (L := R.2) (j := i) hiR
        obtain ⟨hx1, hx2, hx3⟩ := hR.2.2.2 _ _ hx9
        have hx4 := hRk _ (List.mem_of_getElem? hx9)
        have hcs := hlT_s hx9
        refine lv_iload_n hx hb d_MO_holds_14 rfl (lv_at hl 1 rfl) ?_
        refine lv_aload_n hx hb d_MO_holds_15 rfl (lv_at hl 2 rfl) ?_
        refine gs_get (v := .ref (A 21)) hx hb ht hown hK hG k_MO m0 21 (by decide) w_683 rfl d_MO_holds_16 ?_
        refine lv_bipush (v := nI 6) hx hb d_MO_holds_19 (by decide) ?_
        refine lv_iload_n hx hb d_MO_holds_21 rfl (lv_at hl 3 rfl) ?_
        refine lv_imul hx hb d_MO_holds_22 ?_
        refine gs_top (pk_mul 6 q) ?_
        refine lv_iload_n hx hb d_MO_holds_23 rfl (lv_at hl 0 rfl) ?_
        refine lv_iadd hx hb d_MO_holds_24 ?_
        refine gs_top (nI_add (6 * q) i) ?_
        refine gs_iald hx hb hK hG m21 (j := (6 * q) + i) (by omega) (by omega) d_MO_holds_25 ?_
        refine gs_top (show (f21 ((6 * q) + i)) = (nI x.1) from hx1) ?_
        refine lv_if_ne (tgt := 33) hx hb d_MO_holds_26 (by decide) (fun c_26 => ?_) (fun c_26 => ?_)
        · have c_26 : ¬ x.1 = 0 := gs_zn (by omega) c_26
          refine lv_iconst (v := nI 0) hx hb d_MO_holds_33 (by decide) ?_
          refine lv_iadd hx hb d_MO_holds_34 ?_
          refine gs_top (nI_add (hlT R i) 0) ?_
          refine lv_istore_n (lv' := [(2, .int (nI ((hlT R i) + 0))), (3, .int (nI i)), (0, .ref mo), (1, .int (nI q))]) hx hb d_MO_holds_35 rfl hl (by decide) rfl (fun ls hl => ?_)
          refine lv_iinc (v := (nI (i + 1))) (lv' := [(3, .int (nI (i + 1))), (2, .int (nI ((hlT R i) + 0))), (0, .ref mo), (1, .int (nI q))]) hx hb d_MO_holds_36 hl (k := 1) rfl (by exact nI_1 _) (by decide) rfl (fun ls hl => ?_)
          refine lv_goto (tgt := 4) hx hb d_MO_holds_39 (by decide) ?_
          exact ih (i + 1) (by omega) (by omega) ls (by rw [show hlT R (i + 1) = (hlT R i) + 0 from by rw [hcs]; first | rw [if_pos c_26] | rw [if_neg c_26]]; exact (lv_sub hl [0, 1, 2, 3] rfl))
        · have c_26 : x.1 = 0 := gs_z (by omega) c_26
          refine lv_iconst (v := nI 1) hx hb d_MO_holds_29 (by decide) ?_
          refine lv_goto (tgt := 34) hx hb d_MO_holds_30 (by decide) ?_
          refine lv_iadd hx hb d_MO_holds_34 ?_
          refine gs_top (nI_add (hlT R i) 1) ?_
          refine lv_istore_n (lv' := [(2, .int (nI ((hlT R i) + 1))), (3, .int (nI i)), (0, .ref mo), (1, .int (nI q))]) hx hb d_MO_holds_35 rfl hl (by decide) rfl (fun ls hl => ?_)
          refine lv_iinc (v := (nI (i + 1))) (lv' := [(3, .int (nI (i + 1))), (2, .int (nI ((hlT R i) + 1))), (0, .ref mo), (1, .int (nI q))]) hx hb d_MO_holds_36 hl (k := 1) rfl (by exact nI_1 _) (by decide) rfl (fun ls hl => ?_)
          refine lv_goto (tgt := 4) hx hb d_MO_holds_39 (by decide) ?_
          exact ih (i + 1) (by omega) (by omega) ls (by rw [show hlT R (i + 1) = (hlT R i) + 1 from by rw [hcs]; first | rw [if_pos c_26] | rw [if_neg c_26]]; exact (lv_sub hl [0, 1, 2, 3] rfl))
  refine lv_iconst (v := nI 0) hx hb d_MO_holds_0 (by decide) ?_
  refine lv_istore_n (lv' := [(2, .int (nI 0)), (0, .ref mo), (1, .int (nI q))]) hx hb d_MO_holds_1 rfl hl (by decide) rfl (fun ls hl => ?_)
  refine lv_iconst (v := nI 0) hx hb d_MO_holds_2 (by decide) ?_
  refine lv_istore_n (lv' := [(3, .int (nI 0)), (2, .int (nI 0)), (0, .ref mo), (1, .int (nI q))]) hx hb d_MO_holds_3 rfl hl (by decide) rfl (fun ls hl => ?_)
  exact loop (R.2.length + 1) 0 (by omega) (by omega) ls (lv_sub hl [0, 1, 2, 3] rfl)
set_option maxHeartbeats 4000000 in
set_option maxRecDepth 100000 in
/-- the reference: isHeld -/
theorem c_MO_isHeld (l : Launch) (X : gs_X) (σ : gs_St) (mo : Nat) (A Z : Nat → Nat) (f18 f19 f20 f21 f22 f23 : Nat → Int32) (nr : Nat) (R : MR) (v : Nat)
    (m0 : σ mo = some (moE A Z)) (m20 : σ (A 20) = some (gs_ia X 25 f20)) (m21 : σ (A 21) = some (gs_ia X 150 f21)) (m23 : σ (A 23) = some (gs_ia X 450 f23)) (hR : rAt f18 f19 f20 f21 f22 f23 24 R) (hRB : mrB nr R) (hv : v < 72) : gs_Mp l X y_MO_isHeld b_MO_isHeld 6 (some .boolean) ({ frames := 0, cells := 0, slots := 0, locals := 0 }) σ [.ref mo, .int (nI v)] (fun z => z = bI (hdB R v)) := by
  refine Met.ofW (cc := b_MO_isHeld) (maxL := 6) (ret := (some .boolean)) (by decide) rfl ?_
  intro p e s m args below meth c s₁ B₀ hml hv
  obtain ⟨rfl, hK, hG, hz, hE⟩ := hv
  have hx := B₀.exec
  have hb := B₀.bytes
  have hr := B₀.returns
  have hts := atoms_spec (ws := gs_ws y_MO_isHeld b_MO_isHeld 6 (some .boolean)) B₀.pre
  have ht : ∀ w ∈ gs_w, w.before _ s = true := fun w h => hts w (List.mem_cons_of_mem _ h)
  have hown : s.vm.findClass R_MO = some m.cls := findClass_of_methodNamed B₀.named
  have hlocks := B₀.notSynchronized
  have hA : ∀ q : Nat, s.heap.size ≤ q → gs_A X q := fun q h => Nat.le_trans hz h
  have hS : va_S (gs_A X) s.heap s.heap [] := va_S.rf
  have hl := lv_entry ([.ref mo, .int (nI v)]) (n := 6) (Nat.le_of_ble_eq_true rfl)
  rw [lg_entry_eq]
  generalize (lg_sl ([.ref mo, .int (nI v)]) ++ List.replicate (6 - (lg_sl ([.ref mo, .int (nI v)])).length) Slot.unset).toArray = ls at hl ⊢
  have hl : lv_has ls 6 [(0, .ref mo), (1, .int (nI v))] := hl
  have hRl := hRB.2.2.1
  have loop : ∀ (fl : Nat) (i : Nat), (i ≤ R.2.length) → R.2.length - i < fl → ∀ ls, lv_has ls 6 [(3, .int (nI i)), (2, .int (bI (decide (v < 64) || (R.2.take i).any (fun x => hdJ x v 3)))), (0, .ref mo), (1, .int (nI v))] → W p l e ({ frames := 0, cells := 0, slots := 0, locals := 0 } : Room) s m ([.ref mo, .int (nI v)] : List Value).toArray below meth c s.heap [] 0 0 (MQ below (gs_Qp (fun z => z = bI (hdB R v))) ([.ref mo, .int (nI v)] : List Value).toArray s 0 0 (fun _ => False)) (F0 m 14 ls []) := by
    intro fl
    induction fl with
    | zero => intro i _ h9; omega
    | succ fl ih =>
      intro i hi hmu  ls hl
      refine lv_iload_n hx hb d_MO_isHeld_14 rfl (lv_at hl 0 rfl) ?_
      refine lv_aload_n hx hb d_MO_isHeld_15 rfl (lv_at hl 2 rfl) ?_
      refine gs_get (v := .ref (A 20)) hx hb ht hown hK hG k_MO m0 20 (by decide) w_682 rfl d_MO_isHeld_16 ?_
      refine lv_bipush (v := nI 24) hx hb d_MO_isHeld_19 (by decide) ?_
      refine gs_iald hx hb hK hG m20 (j := 24) (by omega) (by omega) d_MO_isHeld_21 ?_
      refine gs_top (show (f20 24) = (nI R.2.length) from hR.2.2.1) ?_
      refine lv_icmp_ge (tgt := 89) hx hb d_MO_isHeld_22 (by decide) (fun c_22 => ?_) (fun c_22 => ?_)
      · have c_22 : R.2.length ≤ i := (nI_leI (by omega) (by omega)).mp c_22
        refine lv_iload_n hx hb d_MO_isHeld_89 rfl (lv_at hl 1 rfl) ?_
        exact gs_iretp (v := (bI (decide (v < 64) || (R.2.take i).any (fun x => hdJ x v 3)))) hx hb hr (bI_nar _) hlocks (Nat.zero_le _) (Nat.zero_le _) (by rw [show i = R.2.length by omega, List.take_length]; rfl) d_MO_isHeld_90
      · have c_22 : ¬ R.2.length ≤ i := mt (nI_leI (by omega) (by omega)).mpr c_22
        have hiR : i < R.2.length := by omega
        obtain ⟨x, hx9⟩ := get_ex (L := R.2) (j := i) hiR
        obtain ⟨hx1, hx2, hx3⟩ := hR.2.2.2 _ _ hx9
        have hx4 := hRB.2.2.2.2 _ (List.mem_of_getElem? hx9)
        refine lv_sipush (v := nI 144) hx hb d_MO_isHeld_25 (by decide) ?_
        refine lv_iload_n hx hb d_MO_isHeld_28 rfl (lv_at hl 0 rfl) ?_
        refine lv_iadd hx hb d_MO_isHeld_29 ?_
        refine gs_top (nI_add 144 i) ?_
        refine lv_istore (lv' := [(4, .int (nI (144 + i))), (3, .int (nI i)), (2, .int (bI (decide (v < 64) || (R.2.take i).any (fun x => hdJ x v 3)))), (0, .ref mo), (1, .int (nI v))]) hx hb d_MO_isHeld_30 hl (by decide) rfl (fun ls hl => ?_)
        refine lv_iconst (v := nI 0) hx hb d_MO_isHeld_32 (by decide) ?_
        refine lv_istore (lv' := [(5, .int (nI 0)), (4, .int (nI (144 + i))), (3, .int (nI i)), (2, .int (bI (decide (v < 64) || (R.2.take i).any (fun x => hdJ x v 3)))), (0, .ref mo), (1, .int (nI v))]) hx hb d_MO_isHeld_33 hl (by decide) rfl (fun ls hl => ?_)
        have k83 : ∀ ls, lv_has ls 6 [(3, .int (nI i)), (2, .int (bI (decide (v < 64) || (R.2.take (i + 1)).any (fun x => hdJ x v 3)))), (0, .ref mo), (1, .int (nI v))] → W p l e ({ frames := 0, cells := 0, slots := 0, locals := 0 } : Room) s m ([.ref mo, .int (nI v)] : List Value).toArray below meth c s.heap [] 0 0 (MQ below (gs_Qp (fun z => z = bI (hdB R v))) ([.ref mo, .int (nI v)] : List Value).toArray s 0 0 (fun _ => False)) (F0 m 83 ls []) := by
          intro ls hl
          refine lv_iinc (v := (nI (i + 1))) (lv' := [(3, .int (nI (i + 1))), (2, .int (bI (decide (v < 64) || (R.2.take (i + 1)).any (fun x => hdJ x v 3)))), (0, .ref mo), (1, .int (nI v))]) hx hb d_MO_isHeld_83 hl (k := 0) rfl (by exact nI_1 _) (by decide) rfl (fun ls hl => ?_)
          refine lv_goto (tgt := 14) hx hb d_MO_isHeld_86 (by decide) ?_
          exact ih (i + 1) (by omega) (by omega) ls (lv_sub hl [0, 1, 2, 3] rfl)
        have loopj : ∀ (fl : Nat) (j : Nat), (j ≤ 3) → 3 - j < fl → ∀ ls, lv_has ls 6 [(5, .int (nI j)), (4, .int (nI (144 + i))), (3, .int (nI i)), (2, .int (bI ((decide (v < 64) || (R.2.take i).any (fun x => hdJ x v 3)) || hdJ x v j))), (0, .ref mo), (1, .int (nI v))] → W p l e ({ frames := 0, cells := 0, slots := 0, locals := 0 } : Room) s m ([.ref mo, .int (nI v)] : List Value).toArray below meth c s.heap [] 0 0 (MQ below (gs_Qp (fun z => z = bI (hdB R v))) ([.ref mo, .int (nI v)] : List Value).toArray s 0 0 (fun _ => False)) (F0 m 35 ls []) := by
          intro fl
          induction fl with
          | zero => intro j _ h9; omega
          | succ fl ih =>
            intro j hj hmu  ls hl
            refine lv_iload hx hb d_MO_isHeld_35 (lv_at hl 0 rfl) ?_
            refine lv_iconst (v := nI 3) hx hb d_MO_isHeld_37 (by decide) ?_
            refine lv_icmp_ge (tgt := 83) hx hb d_MO_isHeld_38 (by decide) (fun c_38 => ?_) (fun c_38 => ?_)
            · have c_38 : 3 ≤ j := (nI_leI (by omega) (by omega)).mp c_38
              have hje : j = 3 := by omega
              subst hje
              exact k83 ls (by rw [any_snoc hx9, ← Bool.or_assoc]; exact (lv_sub hl [2, 3, 4, 5] rfl))
            · have c_38 : ¬ 3 ≤ j := mt (nI_leI (by omega) (by omega)).mpr c_38
              have hj3 : j < 3 := by omega
              have hx5 := hx3 j hj3
              have hx6 := hx4.2.2.2 j
              refine lv_iload_n hx hb d_MO_isHeld_41 rfl (lv_at hl 3 rfl) ?_
              refine lv_if_ne (tgt := 71) hx hb d_MO_isHeld_42 (by decide) (fun c_42 => ?_) (fun c_42 => ?_)
              · refine lv_iconst (v := nI 1) hx hb d_MO_isHeld_71 (by decide) ?_
                refine lv_goto (tgt := 76) hx hb d_MO_isHeld_72 (by decide) ?_
                refine lv_istore_n (lv' := [(2, .int (nI 1)), (5, .int (nI j)), (4, .int (nI (144 + i))), (3, .int (nI i)), (0, .ref mo), (1, .int (nI v))]) hx hb d_MO_isHeld_76 rfl hl (by decide) rfl (fun ls hl => ?_)
                refine lv_iinc (v := (nI (j + 1))) (lv' := [(5, .int (nI (j + 1))), (2, .int (nI 1)), (4, .int (nI (144 + i))), (3, .int (nI i)), (0, .ref mo), (1, .int (nI v))]) hx hb d_MO_isHeld_77 hl (k := 1) rfl (by exact nI_1 _) (by decide) rfl (fun ls hl => ?_)
                refine lv_goto (tgt := 35) hx hb d_MO_isHeld_80 (by decide) ?_
                exact ih (j + 1) (by omega) (by omega) ls (by rw [show bI ((decide (v < 64) || (R.2.take i).any (fun x => hdJ x v 3)) || hdJ x v (j + 1)) = nI 1 from by rw [hdJ_s, ← Bool.or_assoc]; first | (rw [bI_n0 c_42]; rfl) | (rw [decide_eq_true c_52, decide_eq_true c_68, Bool.and_self, Bool.or_true]; rfl)]; exact (lv_sub hl [0, 2, 3, 1, 4, 5] rfl))
              · refine lv_aload_n hx hb d_MO_isHeld_45 rfl (lv_at hl 4 rfl) ?_
                refine gs_get (v := .ref (A 21)) hx hb ht hown hK hG k_MO m0 21 (by decide) w_683 rfl d_MO_isHeld_46 ?_
                refine lv_iload hx hb d_MO_isHeld_49 (lv_at hl 1 rfl) ?_
                refine gs_iald hx hb hK hG m21 (j := 144 + i) (by omega) (by omega) d_MO_isHeld_51 ?_
                refine gs_top (show (f21 (144 + i)) = (nI x.1) from hx1) ?_
                refine lv_if_ne (tgt := 75) hx hb d_MO_isHeld_52 (by decide) (fun c_52 => ?_) (fun c_52 => ?_)
                · have c_52 : ¬ x.1 = 0 := gs_zn (by omega) c_52
                  refine lv_iconst (v := nI 0) hx hb d_MO_isHeld_75 (by decide) ?_
                  refine lv_istore_n (lv' := [(2, .int (nI 0)), (5, .int (nI j)), (4, .int (nI (144 + i))), (3, .int (nI i)), (0, .ref mo), (1, .int (nI v))]) hx hb d_MO_isHeld_76 rfl hl (by decide) rfl (fun ls hl => ?_)
                  refine lv_iinc (v := (nI (j + 1))) (lv' := [(5, .int (nI (j + 1))), (2, .int (nI 0)), (4, .int (nI (144 + i))), (3, .int (nI i)), (0, .ref mo), (1, .int (nI v))]) hx hb d_MO_isHeld_77 hl (k := 1) rfl (by exact nI_1 _) (by decide) rfl (fun ls hl => ?_)
                  refine lv_goto (tgt := 35) hx hb d_MO_isHeld_80 (by decide) ?_
                  exact ih (j + 1) (by omega) (by omega) ls (by rw [show bI ((decide (v < 64) || (R.2.take i).any (fun x => hdJ x v 3)) || hdJ x v (j + 1)) = nI 0 from by rw [hdJ_s, ← Bool.or_assoc]; first | (rw [bI_0 c_42, decide_eq_false c_52]; rfl) | (rw [bI_0 c_42, decide_eq_false c_68, Bool.and_false]; rfl)]; exact (lv_sub hl [0, 2, 3, 1, 4, 5] rfl))
                · have c_52 : x.1 = 0 := gs_z (by omega) c_52
                  refine lv_aload_n hx hb d_MO_isHeld_55 rfl (lv_at hl 4 rfl) ?_
                  refine gs_get (v := .ref (A 23)) hx hb ht hown hK hG k_MO m0 23 (by decide) w_685 rfl d_MO_isHeld_56 ?_
                  refine lv_iconst (v := nI 3) hx hb d_MO_isHeld_59 (by decide) ?_
                  refine lv_iload hx hb d_MO_isHeld_60 (lv_at hl 1 rfl) ?_
                  refine lv_imul hx hb d_MO_isHeld_62 ?_
                  refine gs_top (pk_mul 3 (144 + i)) ?_
                  refine lv_iload hx hb d_MO_isHeld_63 (lv_at hl 0 rfl) ?_
                  refine lv_iadd hx hb d_MO_isHeld_65 ?_
                  refine gs_top (nI_add (3 * (144 + i)) j) ?_
                  refine gs_iald hx hb hK hG m23 (j := (3 * (144 + i)) + j) (by omega) (by omega) d_MO_isHeld_66 ?_
                  refine gs_top (show (f23 ((3 * (144 + i)) + j)) = (nI (t3 x.2.2 j)) from hx5) ?_
                  refine lv_iload_n hx hb d_MO_isHeld_67 rfl (lv_at hl 5 rfl) ?_
                  refine lv_icmp_ne (tgt := 75) hx hb d_MO_isHeld_68 (by decide) (fun c_68 => ?_) (fun c_68 => ?_)
                  · have c_68 : ¬ (t3 x.2.2 j) = v := mt (nI_eq (by omega) (by omega)).mpr c_68
                    refine lv_iconst (v := nI 0) hx hb d_MO_isHeld_75 (by decide) ?_
                    refine lv_istore_n (lv' := [(2, .int (nI 0)), (5, .int (nI j)), (4, .int (nI (144 + i))), (3, .int (nI i)), (0, .ref mo), (1, .int (nI v))]) hx hb d_MO_isHeld_76 rfl hl (by decide) rfl (fun ls hl => ?_)
                    refine lv_iinc (v := (nI (j + 1))) (lv' := [(5, .int (nI (j + 1))), (2, .int (nI 0)), (4, .int (nI (144 + i))), (3, .int (nI i)), (0, .ref mo), (1, .int (nI v))]) hx hb d_MO_isHeld_77 hl (k := 1) rfl (by exact nI_1 _) (by decide) rfl (fun ls hl => ?_)
                    refine lv_goto (tgt := 35) hx hb d_MO_isHeld_80 (by decide) ?_
                    exact ih (j + 1) (by omega) (by omega) ls (by rw [show bI ((decide (v < 64) || (R.2.take i).any (fun x => hdJ x v 3)) || hdJ x v (j + 1)) = nI 0 from by rw [hdJ_s, ← Bool.or_assoc]; first | (rw [bI_0 c_42, decide_eq_false c_52]; rfl) | (rw [bI_0 c_42, decide_eq_false c_68, Bool.and_false]; rfl)]; exact (lv_sub hl [0, 2, 3, 1, 4, 5] rfl))
                  · have c_68 : (t3 x.2.2 j) = v :=  (nI_eq (by omega) (by omega)).mp c_68
                    refine lv_iconst (v := nI 1) hx hb d_MO_isHeld_71 (by decide) ?_
                    refine lv_goto (tgt := 76) hx hb d_MO_isHeld_72 (by decide) ?_
                    refine lv_istore_n (lv' := [(2, .int (nI 1)), (5, .int (nI j)), (4, .int (nI (144 + i))), (3, .int (nI i)), (0, .ref mo), (1, .int (nI v))]) hx hb d_MO_isHeld_76 rfl hl (by decide) rfl (fun ls hl => ?_)
                    refine lv_iinc (v := (nI (j + 1))) (lv' := [(5, .int (nI (j + 1))), (2, .int (nI 1)), (4, .int (nI (144 + i))), (3, .int (nI i)), (0, .ref mo), (1, .int (nI v))]) hx hb d_MO_isHeld_77 hl (k := 1) rfl (by exact nI_1 _) (by decide) rfl (fun ls hl => ?_)
                    refine lv_goto (tgt := 35) hx hb d_MO_isHeld_80 (by decide) ?_
                    exact ih (j + 1) (by omega) (by omega) ls (by rw [show bI ((decide (v < 64) || (R.2.take i).any (fun x => hdJ x v 3)) || hdJ x v (j + 1)) = nI 1 from by rw [hdJ_s, ← Bool.or_assoc]; first | (rw [bI_n0 c_42]; rfl) | (rw [decide_eq_true c_52, decide_eq_true c_68, Bool.and_self, Bool.or_true]; rfl)]; exact (lv_sub hl [0, 2, 3, 1, 4, 5] rfl))
        exact loopj 4 0 (by omega) (by omega) ls (by rw [show hdJ x v 0 = false from by unfold hdJ; simp, Bool.or_false]; exact (lv_sub hl [0, 1, 2, 3, 4, 5] rfl))
  refine lv_iload_n hx hb d_MO_isHeld_0 rfl (lv_at hl 1 rfl) ?_
  refine lv_bipush (v := nI 64) hx hb d_MO_isHeld_1 (by decide) ?_
  refine lv_icmp_ge (tgt := 10) hx hb d_MO_isHeld_3 (by decide) (fun c_3 => ?_) (fun c_3 => ?_)
  · have c_3 : 64 ≤ v := (nI_leI (by omega) (by omega)).mp c_3
    refine lv_iconst (v := nI 0) hx hb d_MO_isHeld_10 (by decide) ?_
    refine lv_istore_n (lv' := [(2, .int (nI 0)), (0, .ref mo), (1, .int (nI v))]) hx hb d_MO_isHeld_11 rfl hl (by decide) rfl (fun ls hl => ?_)
    refine lv_iconst (v := nI 0) hx hb d_MO_isHeld_12 (by decide) ?_
    refine lv_istore_n (lv' := [(3, .int (nI 0)), (2, .int (nI 0)), (0, .ref mo), (1, .int (nI v))]) hx hb d_MO_isHeld_13 rfl hl (by decide) rfl (fun ls hl => ?_)
    exact loop (R.2.length + 1) 0 (by omega) (by omega) ls (by rw [show bI (decide (v < 64) || (R.2.take 0).any (fun x => hdJ x v 3)) = nI 0 from by first | (rw [decide_eq_true (by omega)]; rfl) | (rw [decide_eq_false (by omega)]; rfl)]; exact (lv_sub hl [0, 1, 2, 3] rfl))
  · have c_3 : ¬ 64 ≤ v := mt (nI_leI (by omega) (by omega)).mpr c_3
    refine lv_iconst (v := nI 1) hx hb d_MO_isHeld_6 (by decide) ?_
    refine lv_goto (tgt := 11) hx hb d_MO_isHeld_7 (by decide) ?_
    refine lv_istore_n (lv' := [(2, .int (nI 1)), (0, .ref mo), (1, .int (nI v))]) hx hb d_MO_isHeld_11 rfl hl (by decide) rfl (fun ls hl => ?_)
    refine lv_iconst (v := nI 0) hx hb d_MO_isHeld_12 (by decide) ?_
    refine lv_istore_n (lv' := [(3, .int (nI 0)), (2, .int (nI 1)), (0, .ref mo), (1, .int (nI v))]) hx hb d_MO_isHeld_13 rfl hl (by decide) rfl (fun ls hl => ?_)
    exact loop (R.2.length + 1) 0 (by omega) (by omega) ls (by rw [show bI (decide (v < 64) || (R.2.take 0).any (fun x => hdJ x v 3)) = nI 1 from by first | (rw [decide_eq_true (by omega)]; rfl) | (rw [decide_eq_false (by omega)]; rfl)]; exact (lv_sub hl [0, 1, 2, 3] rfl))
