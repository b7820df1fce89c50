set_option maxHeartbeats 4000000 in
set_option maxRecDepth 100000 in
/-- Tuples.placeOf: how many codes lie below -/
theorem c_TU_placeOf (l : Launch) (X : gs_X) (σ : gs_St) (h ac ai ab : Nat) (L : List Nat) (cs : Nat → Int32) (cd : Nat)
    (hs : L.Pairwise (· < ·)) (hn : L.length ≤ 301) (hcs : ∀ j x, L[j]? = some x → cs j = nI x ∧ x < 2 ^ 30) (hcd : cd < 2 ^ 30) (h0 : σ h = some (gs_ob 6 [.ref ac, .ref ai, .ref ab, .int (nI L.length)])) (h1 : σ ac = some (gs_ia X 301 cs)) : gs_Mi l X y_TU_placeOf b_TU_placeOf 5 (some .int) ({ frames := 0, cells := 0, slots := 0, locals := 0 }) σ [.ref h, .int (nI cd)] (fun r σ' => σ' = σ ∧ r = nI (cb L cd)) := by
  refine Met.ofW (cc := b_TU_placeOf) (maxL := 5) (ret := (some .int)) (by decide) rfl ?_
  intro p e s m args below meth c s₁ B hml hv
  obtain ⟨rfl, hK, hG, hz, hE⟩ := hv
  have hx := B.exec
  have hb := B.bytes
  have hr := B.returns
  have hts := atoms_spec (ws := gs_ws y_TU_placeOf b_TU_placeOf 5 (some .int)) B.pre
  have ht : ∀ w ∈ gs_w, w.before _ s = true := fun w h => hts w (List.mem_cons_of_mem _ h)
  have hown : s.vm.findClass R_TU = some m.cls := findClass_of_methodNamed B.named
  have hlocks := B.notSynchronized
  have hA : ∀ q : Nat, s.heap.size ≤ q → gs_A X q := fun q h => Nat.le_trans hz h
  have hS : va_S (gs_A X) s.heap s.heap [] := va_S.rf
  have hl := lv_entry ([.ref h, .int (nI cd)]) (n := 5) (Nat.le_of_ble_eq_true rfl)
  rw [lg_entry_eq]
  generalize (lg_sl ([.ref h, .int (nI cd)]) ++ List.replicate (5 - (lg_sl ([.ref h, .int (nI cd)])).length) Slot.unset).toArray = ls at hl ⊢
  have hl : lv_has ls 5 [(0, .ref h), (1, .int (nI cd))] := hl
  have hcl := cb_le L cd
  have loop : ∀ (n i pl st : Nat), i ≤ 9 → st = 2 ^ i / 2 → pl ≤ cb L cd → cb L cd < pl + 2 ^ i → i < n → ∀ ls, lv_has ls 5 [(3, .int (nI st)), (2, .int (nI pl)), (0, .ref h), (1, .int (nI cd))] → W p l e ({ frames := 0, cells := 0, slots := 0, locals := 0 } : Room) s m ([.ref h, .int (nI cd)] : List Value).toArray below meth c s.heap [] 0 0 (MQ below (va_Qi (fun r σ' => σ' = σ ∧ r = nI (cb L cd)) (gs_U X) (gs_A X)) ([.ref h, .int (nI cd)] : List Value).toArray s 0 0 (gs_A X)) (F0 m 6 ls []) := by
    intro n
    induction n with
    | zero => intro i pl st _ _ _ _ h9; omega
    | succ n ih =>
      intro i pl st hi hst h2 h3 hlt ls hl
      have hpw : 2 ^ i ≤ 512 := Nat.pow_le_pow_right (by decide) (show i ≤ 9 from hi)
      refine lv_iload_n hx hb d_TU_placeOf_6 rfl (lv_at hl 0 rfl) ?_
      refine lv_if_le (tgt := 47) hx hb d_TU_placeOf_7 (by decide) (fun c_7 => ?_) (fun c_7 => ?_)
      · have c_7 : st = 0 := by have := gs_le0 (a := st) (by omega); exact this.mp c_7
        refine lv_iload_n hx hb d_TU_placeOf_47 rfl (lv_at hl 1 rfl) ?_
        exact gs_iret (v := (nI pl)) hx hb hr rfl hK hE hz hG hS hlocks (by first | decide | omega) (by first | decide | omega) (⟨rfl, congrArg nI (show pl = cb L cd from by
            have hi0 : i = 0 := by
              cases i with
              | zero => rfl
              | succ k => have := Nat.pow_succ 2 k; have := Nat.pos_of_ne_zero (show 2 ^ k ≠ 0 from by simp); omega
            subst hi0; omega)⟩) d_TU_placeOf_48
      · have c_7 : 0 < st := by have := gs_le0 (a := st) (by omega); have h9 := mt this.mpr c_7; omega
        obtain ⟨k, rfl⟩ : ∃ k, i = k + 1 := by
          cases i with
          | zero => simp at hst; omega
          | succ k => exact ⟨k, rfl⟩
        have hp2 : 2 ^ (k + 1) = 2 ^ k * 2 := Nat.pow_succ 2 k
        have hst2 : st = 2 ^ k := by omega
        refine lv_iload_n hx hb d_TU_placeOf_10 rfl (lv_at hl 1 rfl) ?_
        refine lv_iload_n hx hb d_TU_placeOf_11 rfl (lv_at hl 0 rfl) ?_
        refine lv_iadd hx hb d_TU_placeOf_12 ?_
        refine gs_top (nI_add pl st) ?_
        refine lv_istore (lv' := [(4, .int (nI (pl + st))), (3, .int (nI st)), (2, .int (nI pl)), (0, .ref h), (1, .int (nI cd))]) hx hb d_TU_placeOf_13 hl (by decide) rfl (fun ls hl => ?_)
        refine lv_iload hx hb d_TU_placeOf_15 (lv_at hl 0 rfl) ?_
        refine lv_aload_n hx hb d_TU_placeOf_17 rfl (lv_at hl 3 rfl) ?_
        refine gs_get hx hb ht hown hK hG k_TU h0 3 (by decide) w_77 rfl d_TU_placeOf_18 ?_
        refine lv_icmp_gt (tgt := 40) hx hb d_TU_placeOf_21 (by decide) (fun c_21 => ?_) (fun c_21 => ?_)
        · have c_21 : L.length < (pl + st) := (nI_ltI (by omega) (by omega)).mp c_21
          refine lv_iload_n hx hb d_TU_placeOf_40 rfl (lv_at hl 1 rfl) ?_
          refine lv_iconst (v := nI 2) hx hb d_TU_placeOf_41 (by decide) ?_
          refine lv_idiv hx hb d_TU_placeOf_42 (by decide) ?_
          refine gs_top (pk_div (a := st) (d := 2) (by omega) (by omega) (by omega)) ?_
          refine lv_istore_n (lv' := [(3, .int (nI (st / 2))), (4, .int (nI (pl + st))), (2, .int (nI pl)), (0, .ref h), (1, .int (nI cd))]) hx hb d_TU_placeOf_43 rfl hl (by decide) rfl (fun ls hl => ?_)
          refine lv_goto (tgt := 6) hx hb d_TU_placeOf_44 (by decide) ?_
          exact ih k pl (st / 2) (by omega) (by omega) (by omega) (by omega) (by omega) ls (lv_sub hl [0, 2, 3, 4] rfl)
        · have c_21 : ¬ L.length < (pl + st) := mt (nI_ltI (by omega) (by omega)).mpr c_21
          refine lv_aload_n hx hb d_TU_placeOf_24 rfl (lv_at hl 3 rfl) ?_
          refine gs_get hx hb ht hown hK hG k_TU h0 0 (by decide) w_68 rfl d_TU_placeOf_25 ?_
          refine lv_iload hx hb d_TU_placeOf_28 (lv_at hl 0 rfl) ?_
          refine lv_iconst (v := nI 1) hx hb d_TU_placeOf_30 (by decide) ?_
          refine lv_isub hx hb d_TU_placeOf_31 ?_
          refine gs_top (pk_sub (a := (pl + st)) (b := 1) (by omega)) ?_
          obtain ⟨x, hx9⟩ := get_ex (L := L) (j := pl + st - 1) (by omega)
          obtain ⟨hx1, hx2⟩ := hcs _ _ hx9
          have hx3 := cb_iff L hs cd _ _ hx9
          refine gs_iald hx hb hK hG h1 (j := (pl + st) - 1) (by omega) (by omega) d_TU_placeOf_32 ?_
          refine gs_top (show (cs ((pl + st) - 1)) = (nI x) from hx1) ?_
          refine lv_iload_n hx hb d_TU_placeOf_33 rfl (lv_at hl 4 rfl) ?_
          refine lv_icmp_ge (tgt := 40) hx hb d_TU_placeOf_34 (by decide) (fun c_34 => ?_) (fun c_34 => ?_)
          · have c_34 : cd ≤ x := (nI_leI (by omega) (by omega)).mp c_34
            refine lv_iload_n hx hb d_TU_placeOf_40 rfl (lv_at hl 1 rfl) ?_
            refine lv_iconst (v := nI 2) hx hb d_TU_placeOf_41 (by decide) ?_
            refine lv_idiv hx hb d_TU_placeOf_42 (by decide) ?_
            refine gs_top (pk_div (a := st) (d := 2) (by omega) (by omega) (by omega)) ?_
            refine lv_istore_n (lv' := [(3, .int (nI (st / 2))), (4, .int (nI (pl + st))), (2, .int (nI pl)), (0, .ref h), (1, .int (nI cd))]) hx hb d_TU_placeOf_43 rfl hl (by decide) rfl (fun ls hl => ?_)
            refine lv_goto (tgt := 6) hx hb d_TU_placeOf_44 (by decide) ?_
            exact ih k pl (st / 2) (by omega) (by omega) (by omega) (by omega) (by omega) ls (lv_sub hl [0, 2, 3, 4] rfl)
          · have c_34 : ¬ cd ≤ x := mt (nI_leI (by omega) (by omega)).mpr c_34
            refine lv_iload hx hb d_TU_placeOf_37 (lv_at hl 0 rfl) ?_
            refine lv_istore_n (lv' := [(2, .int (nI (pl + st))), (4, .int (nI (pl + st))), (3, .int (nI st)), (0, .ref h), (1, .int (nI cd))]) hx hb d_TU_placeOf_39 rfl hl (by decide) rfl (fun ls hl => ?_)
            refine lv_iload_n hx hb d_TU_placeOf_40 rfl (lv_at hl 2 rfl) ?_
            refine lv_iconst (v := nI 2) hx hb d_TU_placeOf_41 (by decide) ?_
            refine lv_idiv hx hb d_TU_placeOf_42 (by decide) ?_
            refine gs_top (pk_div (a := st) (d := 2) (by omega) (by omega) (by omega)) ?_
            refine lv_istore_n (lv' := [(3, .int (nI (st / 2))), (2, .int (nI (pl + st))), (4, .int (nI (pl + st))), (0, .ref h), (1, .int (nI cd))]) hx hb d_TU_placeOf_43 rfl hl (by decide) rfl (fun ls hl => ?_)
            refine lv_goto (tgt := 6) hx hb d_TU_placeOf_44 (by decide) ?_
            exact ih k (pl + st) (st / 2) (by omega) (by omega) (by omega) (by omega) (by omega) ls (lv_sub hl [0, 1, 3, 4] rfl)
  refine lv_iconst (v := nI 0) hx hb d_TU_placeOf_0 (by decide) ?_
  refine lv_istore_n (lv' := [(2, .int (nI 0)), (0, .ref h), (1, .int (nI cd))]) hx hb d_TU_placeOf_1 rfl hl (by decide) rfl (fun ls hl => ?_)
  refine lv_sipush (v := nI 256) hx hb d_TU_placeOf_2 (by decide) ?_
  refine lv_istore_n (lv' := [(3, .int (nI 256)), (2, .int (nI 0)), (0, .ref h), (1, .int (nI cd))]) hx hb d_TU_placeOf_5 rfl hl (by decide) rfl (fun ls hl => ?_)
  exact loop 10 9 0 256 (by decide) (by decide) (by omega) (by omega) (by decide) ls (lv_sub hl [0, 1, 2, 3] rfl)
