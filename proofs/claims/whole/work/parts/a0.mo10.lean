set_option maxHeartbeats 4000000 in
set_option maxRecDepth 100000 in
/-- the reference: binds -/
theorem c_MO_binds (l : Launch) (X : gs_X) (σ : gs_St) (mo : Nat) (A Z : Nat → Nat) (f24 : Nat → Int32) (ov : OV) (f23 : Nat → Int32) (fm w t : Nat) (ts : Nat → Nat)
    (m0 : σ mo = some (moE A Z)) (hN : (aL A).Nodup) (m24 : σ (A 24) = some (gs_ia X 8 f24)) (m23 : σ (A 23) = some (gs_ia X 450 f23)) (hv : vO f24 ov) (hw : w ≤ 3) (hfm : fm + 3 ≤ 450) (ht9 : t < 262144) (hts1 : ∀ j, j < 3 → f23 (fm + j) = nI (ts j)) (hts2 : ∀ j, ts j < 72) : gs_Mi l X y_MO_binds b_MO_binds 9 (some .int) ({ frames := 1, cells := 0, slots := 0, locals := 22 }) σ [.ref mo, .int (nI fm), .int (nI w), .int (nI t)] (fun r σ' => ∃ f', σ' = gs_up σ (A 24) (gs_ia X 8 f') ∧ (((bdF ts t ov w).2.2 = true ∧ vO f' (bdF ts t ov w).1 ∧ r = nI (bdF ts t ov w).2.1) ∨ ((bdF ts t ov w).2.2 = false ∧ vO f' ov ∧ r = -1))) := by
  refine Met.ofW (cc := b_MO_binds) (maxL := 9) (ret := (some .int)) (by decide) rfl ?_
  intro p e s m args below meth c s₁ B₀ hml hv
  obtain ⟨rfl, hK, hG, hz, hE⟩ := hv
  have hx := B₀.exec
  have hb := B₀.bytes
  have hr := B₀.returns
  have hts := atoms_spec (ws := gs_ws y_MO_binds b_MO_binds 9 (some .int)) B₀.pre
  have ht : ∀ w ∈ gs_w, w.before _ s = true := fun w h => hts w (List.mem_cons_of_mem _ h)
  have hown : s.vm.findClass R_MO = some m.cls := findClass_of_methodNamed B₀.named
  have hlocks := B₀.notSynchronized
  have hA : ∀ q : Nat, s.heap.size ≤ q → gs_A X q := fun q h => Nat.le_trans hz h
  have hS : va_S (gs_A X) s.heap s.heap [] := va_S.rf
  have hl := lv_entry ([.ref mo, .int (nI fm), .int (nI w), .int (nI t)]) (n := 9) (Nat.le_of_ble_eq_true rfl)
  rw [lg_entry_eq]
  generalize (lg_sl ([.ref mo, .int (nI fm), .int (nI w), .int (nI t)]) ++ List.replicate (9 - (lg_sl ([.ref mo, .int (nI fm), .int (nI w), .int (nI t)])).length) Slot.unset).toArray = ls at hl ⊢
  have hl : lv_has ls 9 [(0, .ref mo), (1, .int (nI fm)), (2, .int (nI w)), (3, .int (nI t))] := hl
  have loop : ∀ (fl : Nat) (j : Nat) (f1 : Nat → Int32) (σ1 : gs_St), (j ≤ w) → (σ1 = gs_up σ (A 24) (gs_ia X 8 f1)) → (vO f1 (bdF ts t ov j).1) → w - j < fl → (σ1 mo = some (moE A Z)) → (σ1 (A 23) = some (gs_ia X 450 f23)) → (σ1 (A 24) = some (gs_ia X 8 f1)) → ∀ (H : Heap) (locs : List Loc), gs_H X σ1 H → va_S (gs_A X) s.heap H locs → ∀ ls, lv_has ls 9 [(6, .int (nI j)), (5, .int (bI (bdF ts t ov j).2.2)), (4, .int (nI ((bdF ts t ov j).2.1))), (0, .ref mo), (1, .int (nI fm)), (2, .int (nI w)), (3, .int (nI t))] → W p l e ({ frames := 1, cells := 0, slots := 0, locals := 22 } : Room) s m ([.ref mo, .int (nI fm), .int (nI w), .int (nI t)] : List Value).toArray below meth c H locs 0 0 (MQ below (va_Qi (fun r σ' => ∃ f', σ' = gs_up σ (A 24) (gs_ia X 8 f') ∧ (((bdF ts t ov w).2.2 = true ∧ vO f' (bdF ts t ov w).1 ∧ r = nI (bdF ts t ov w).2.1) ∨ ((bdF ts t ov w).2.2 = false ∧ vO f' ov ∧ r = -1))) (gs_U X) (gs_A X)) ([.ref mo, .int (nI fm), .int (nI w), .int (nI t)] : List Value).toArray s 0 0 (gs_A X)) (F0 m 9 ls []) := by
    intro fl
    induction fl with
    | zero => intro j f1 σ1 _ _ _ h9; omega
    | succ fl ih =>
      intro j f1 σ1 hj e1 hv1 hmu y_mo y_23 y_24 H locs hG hS ls hl
      obtain ⟨hbb, _, _⟩ := bdF_inv (t := t) (ov := ov) hts2 j
      refine lv_iload hx hb d_MO_binds_9 (lv_at hl 0 rfl) ?_
      refine lv_iload_n hx hb d_MO_binds_11 rfl (lv_at hl 5 rfl) ?_
      refine lv_icmp_ge (tgt := 123) hx hb d_MO_binds_12 (by decide) (fun c_12 => ?_) (fun c_12 => ?_)
      · have c_12 : w ≤ j := (nI_leI (by omega) (by omega)).mp c_12
        refine lv_iload hx hb d_MO_binds_123 (lv_at hl 1 rfl) ?_
        refine lv_if_ne (tgt := 134) hx hb d_MO_binds_125 (by decide) (fun c_125 => ?_) (fun c_125 => ?_)
        · refine lv_iload hx hb d_MO_binds_134 (lv_at hl 1 rfl) ?_
          refine lv_if_eq (tgt := 144) hx hb d_MO_binds_136 (by decide) (fun c_136 => ?_) (fun c_136 => ?_)
          · exact absurd c_136 c_125
          · refine lv_iload hx hb d_MO_binds_139 (lv_at hl 2 rfl) ?_
            refine lv_goto (tgt := 145) hx hb d_MO_binds_141 (by decide) ?_
            have hjw : j = w := by omega
            subst hjw
            exact gs_iret (v := (nI ((bdF ts t ov j).2.1))) hx hb hr rfl hK hE hz hG hS hlocks (by first | decide | omega | (dsimp only [headSpec]; omega)) (by first | decide | omega | (dsimp only [headSpec]; omega)) (⟨f1, e1, Or.inl ⟨bI_n0 c_125, hv1, rfl⟩⟩) d_MO_binds_145
        · refine lv_aload_n hx hb d_MO_binds_128 rfl (lv_at hl 3 rfl) ?_
          refine lv_iload hx hb d_MO_binds_129 (lv_at hl 2 rfl) ?_
          refine gs_callVv (As := [.int (nI ((bdF ts t ov j).2.1))]) (rest := []) ⟨hx, hb, hml, hown, hts⟩ hK hE hz hG hS (c_MO_frees l X σ1 mo A Z f1 (bdF ts t ov j).1 (bdF ts t ov j).2.1 y_mo y_24 hv1 hbb) mV_MO_frees w_856 y_mo rfl rfl hl.1 rfl (Nat.le_of_ble_eq_true rfl) ⟨(by first | decide | omega | (dsimp only [headSpec]; omega)), (by first | decide | omega | (dsimp only [headSpec]; omega))⟩ ⟨(by first | decide | omega | (dsimp only [headSpec]; omega)), (by first | decide | omega | (dsimp only [headSpec]; omega))⟩ d_MO_binds_131 (fun σ_131 H locs hp_131 hG hS => ?_)
          rw [hp_131] at hG
          have hG : gs_H X (gs_up σ1 (A 24) (gs_ia X 8 (frF f1 (bdF ts t ov j).2.1 8))) H := hG
          obtain ⟨σ_1, eσ_1⟩ : ∃ zq, zq = gs_up σ1 (A 24) (gs_ia X 8 (frF f1 (bdF ts t ov j).2.1 8)) := ⟨_, rfl⟩
          rw [← eσ_1] at hG
          have hc_2 : σ_1 mo = some (moE A Z) := by rw [eσ_1]; exact gs_ku (gs_ne y_mo y_24 (by simp)) y_mo
          have hc_3 : σ_1 (A 23) = some (gs_ia X 450 f23) := by rw [eσ_1]; exact gs_ku (ndp hN 15 16 (by decide) rfl rfl) y_23
          have hc_4 : σ_1 (A 24) = some (gs_ia X 8 (frF f1 (bdF ts t ov j).2.1 8)) := by rw [eσ_1]; exact gs_us
          refine lv_iload hx hb d_MO_binds_134 (lv_at hl 1 rfl) ?_
          refine lv_if_eq (tgt := 144) hx hb d_MO_binds_136 (by decide) (fun c_136 => ?_) (fun c_136 => ?_)
          · refine lv_iconst (v := -1) hx hb d_MO_binds_144 (by decide) ?_
            have hjw : j = w := by omega
            subst hjw
            have hvf := vO_fr (b := (bdF ts t ov j).2.1) hv1
            rw [fr_bdF hts2] at hvf
            exact gs_iret (v := (-1)) hx hb hr rfl hK hE hz hG hS hlocks (by first | decide | omega | (dsimp only [headSpec]; omega)) (by first | decide | omega | (dsimp only [headSpec]; omega)) (⟨_, (by rw [eσ_1, e1, gs_uu]), Or.inr ⟨bI_0 c_125, hvf, rfl⟩⟩) d_MO_binds_145
          · exact absurd c_125 c_136
      · have c_12 : ¬ w ≤ j := mt (nI_leI (by omega) (by omega)).mpr c_12
        have hjw : j < w := by omega
        have hcl : clM t j < 64 := clM_lt ht9
        have htj := hts2 j
        have hlo : ∀ n, ofO (bdF ts t ov j).1 (ts j) = some n → n < 64 := fun n z => ofO_lt hv1 htj z
        have k50 : ∀ ls, lv_has ls 9 [(7, .int (nI (clM t j))), (6, .int (nI j)), (5, .int (bI (bdF ts t ov j).2.2)), (4, .int (nI ((bdF ts t ov j).2.1))), (0, .ref mo), (1, .int (nI fm)), (2, .int (nI w)), (3, .int (nI t))] → W p l e ({ frames := 1, cells := 0, slots := 0, locals := 22 } : Room) s m ([.ref mo, .int (nI fm), .int (nI w), .int (nI t)] : List Value).toArray below meth c H locs 0 0 (MQ below (va_Qi (fun r σ' => ∃ f', σ' = gs_up σ (A 24) (gs_ia X 8 f') ∧ (((bdF ts t ov w).2.2 = true ∧ vO f' (bdF ts t ov w).1 ∧ r = nI (bdF ts t ov w).2.1) ∨ ((bdF ts t ov w).2.2 = false ∧ vO f' ov ∧ r = -1))) (gs_U X) (gs_A X)) ([.ref mo, .int (nI fm), .int (nI w), .int (nI t)] : List Value).toArray s 0 0 (gs_A X)) (F0 m 50 ls []) := by
          intro ls hl
          refine lv_aload_n hx hb d_MO_binds_50 rfl (lv_at hl 4 rfl) ?_
          refine gs_get (v := .ref (A 23)) hx hb ht hown hK hG k_MO y_mo 23 (by decide) w_685 rfl d_MO_binds_51 ?_
          refine lv_iload_n hx hb d_MO_binds_54 rfl (lv_at hl 5 rfl) ?_
          refine lv_iload hx hb d_MO_binds_55 (lv_at hl 1 rfl) ?_
          refine lv_iadd hx hb d_MO_binds_57 ?_
          refine gs_top (nI_add fm j) ?_
          refine gs_iald hx hb hK hG y_23 (j := fm + j) (by omega) (by omega) d_MO_binds_58 ?_
          refine gs_top (show (f23 (fm + j)) = (nI (ts j)) from hts1 j (by omega)) ?_
          refine lv_istore (lv' := [(8, .int (nI (ts j))), (7, .int (nI (clM t j))), (6, .int (nI j)), (5, .int (bI (bdF ts t ov j).2.2)), (4, .int (nI ((bdF ts t ov j).2.1))), (0, .ref mo), (1, .int (nI fm)), (2, .int (nI w)), (3, .int (nI t))]) hx hb d_MO_binds_59 hl (by decide) rfl (fun ls hl => ?_)
          refine lv_aload_n hx hb d_MO_binds_61 rfl (lv_at hl 5 rfl) ?_
          refine lv_iload hx hb d_MO_binds_62 (lv_at hl 0 rfl) ?_
          refine gs_callVp (As := [.int (nI (ts j))]) (rest := []) ⟨hx, hb, hml, hown, hts⟩ hK hE hz hG hS (c_MO_of l X σ1 mo A Z f1 ((bdF ts t ov j).1) (ts j) y_mo y_24 hv1 (hts2 j)) ⟨rfl, rfl⟩ mV_MO_of w_852 y_mo rfl rfl hl.1 rfl (Nat.le_of_ble_eq_true rfl) ⟨(by first | decide | omega | (dsimp only [headSpec]; omega)), (by first | decide | omega | (dsimp only [headSpec]; omega))⟩ ⟨(by first | decide | omega | (dsimp only [headSpec]; omega)), (by first | decide | omega | (dsimp only [headSpec]; omega))⟩ d_MO_binds_64 (fun r_64 hp_64 => ?_)
          refine gs_top (show r_64 = (rdI (ofO ((bdF ts t ov j).1) (ts j))) from hp_64) ?_
          refine lv_if_ge (tgt := 94) hx hb d_MO_binds_67 (by decide) (fun c_67 => ?_) (fun c_67 => ?_)
          · refine lv_iload hx hb d_MO_binds_94 (lv_at hl 3 rfl) ?_
            refine lv_if_eq (tgt := 114) hx hb d_MO_binds_96 (by decide) (fun c_96 => ?_) (fun c_96 => ?_)
            · refine lv_iconst (v := nI 0) hx hb d_MO_binds_114 (by decide) ?_
              refine lv_istore (lv' := [(5, .int (nI 0)), (8, .int (nI (ts j))), (7, .int (nI (clM t j))), (6, .int (nI j)), (4, .int (nI ((bdF ts t ov j).2.1))), (0, .ref mo), (1, .int (nI fm)), (2, .int (nI w)), (3, .int (nI t))]) hx hb d_MO_binds_115 hl (by decide) rfl (fun ls hl => ?_)
              refine lv_iinc (v := (nI (j + 1))) (lv' := [(6, .int (nI (j + 1))), (5, .int (nI 0)), (8, .int (nI (ts j))), (7, .int (nI (clM t j))), (4, .int (nI ((bdF ts t ov j).2.1))), (0, .ref mo), (1, .int (nI fm)), (2, .int (nI w)), (3, .int (nI t))]) hx hb d_MO_binds_117 hl (k := 3) rfl (by exact nI_1 _) (by decide) rfl (fun ls hl => ?_)
              refine lv_goto (tgt := 9) hx hb d_MO_binds_120 (by decide) ?_
              have hnn : ¬ ofO (bdF ts t ov j).1 (ts j) = none := fun z => absurd ((rdI_0 hlo).mpr z) (Int32.not_lt.mpr c_67)
              have es : bdF ts t ov (j + 1) = ((bdF ts t ov j).1, (bdF ts t ov j).2.1, (bdF ts t ov j).2.2 && decide (ofO (bdF ts t ov j).1 (ts j) = some (clM t j))) := by rw [bdF_s]; unfold bd1; rw [if_neg hnn]
              exact ih (j + 1) f1 σ1 (by omega) (by exact e1) (by rw [es]; exact hv1) (by omega) y_mo y_23 y_24 H locs hG hS ls (by rw [es]; dsimp only; rw [show bI ((bdF ts t ov j).2.2 && decide (ofO (bdF ts t ov j).1 (ts j) = some (clM t j))) = nI 0 from by first | (rw [bI_0 c_96]; rfl) | (rw [decide_eq_false (fun z => c_107 ((rdI_eq hlo hcl).mpr z)), Bool.and_false]; rfl)]; exact (lv_sub hl [0, 1, 4, 5, 6, 7, 8] rfl))
            · refine lv_aload_n hx hb d_MO_binds_99 rfl (lv_at hl 5 rfl) ?_
              refine lv_iload hx hb d_MO_binds_100 (lv_at hl 0 rfl) ?_
              refine gs_callVp (As := [.int (nI (ts j))]) (rest := []) ⟨hx, hb, hml, hown, hts⟩ hK hE hz hG hS (c_MO_of l X σ1 mo A Z f1 ((bdF ts t ov j).1) (ts j) y_mo y_24 hv1 (hts2 j)) ⟨rfl, rfl⟩ mV_MO_of w_852 y_mo rfl rfl hl.1 rfl (Nat.le_of_ble_eq_true rfl) ⟨(by first | decide | omega | (dsimp only [headSpec]; omega)), (by first | decide | omega | (dsimp only [headSpec]; omega))⟩ ⟨(by first | decide | omega | (dsimp only [headSpec]; omega)), (by first | decide | omega | (dsimp only [headSpec]; omega))⟩ d_MO_binds_102 (fun r_102 hp_102 => ?_)
              refine gs_top (show r_102 = (rdI (ofO ((bdF ts t ov j).1) (ts j))) from hp_102) ?_
              refine lv_iload hx hb d_MO_binds_105 (lv_at hl 1 rfl) ?_
              refine lv_icmp_ne (tgt := 114) hx hb d_MO_binds_107 (by decide) (fun c_107 => ?_) (fun c_107 => ?_)
              · refine lv_iconst (v := nI 0) hx hb d_MO_binds_114 (by decide) ?_
                refine lv_istore (lv' := [(5, .int (nI 0)), (8, .int (nI (ts j))), (7, .int (nI (clM t j))), (6, .int (nI j)), (4, .int (nI ((bdF ts t ov j).2.1))), (0, .ref mo), (1, .int (nI fm)), (2, .int (nI w)), (3, .int (nI t))]) hx hb d_MO_binds_115 hl (by decide) rfl (fun ls hl => ?_)
                refine lv_iinc (v := (nI (j + 1))) (lv' := [(6, .int (nI (j + 1))), (5, .int (nI 0)), (8, .int (nI (ts j))), (7, .int (nI (clM t j))), (4, .int (nI ((bdF ts t ov j).2.1))), (0, .ref mo), (1, .int (nI fm)), (2, .int (nI w)), (3, .int (nI t))]) hx hb d_MO_binds_117 hl (k := 3) rfl (by exact nI_1 _) (by decide) rfl (fun ls hl => ?_)
                refine lv_goto (tgt := 9) hx hb d_MO_binds_120 (by decide) ?_
                have hnn : ¬ ofO (bdF ts t ov j).1 (ts j) = none := fun z => absurd ((rdI_0 hlo).mpr z) (Int32.not_lt.mpr c_67)
                have es : bdF ts t ov (j + 1) = ((bdF ts t ov j).1, (bdF ts t ov j).2.1, (bdF ts t ov j).2.2 && decide (ofO (bdF ts t ov j).1 (ts j) = some (clM t j))) := by rw [bdF_s]; unfold bd1; rw [if_neg hnn]
                exact ih (j + 1) f1 σ1 (by omega) (by exact e1) (by rw [es]; exact hv1) (by omega) y_mo y_23 y_24 H locs hG hS ls (by rw [es]; dsimp only; rw [show bI ((bdF ts t ov j).2.2 && decide (ofO (bdF ts t ov j).1 (ts j) = some (clM t j))) = nI 0 from by first | (rw [bI_0 c_96]; rfl) | (rw [decide_eq_false (fun z => c_107 ((rdI_eq hlo hcl).mpr z)), Bool.and_false]; rfl)]; exact (lv_sub hl [0, 1, 4, 5, 6, 7, 8] rfl))
              · refine lv_iconst (v := nI 1) hx hb d_MO_binds_110 (by decide) ?_
                refine lv_goto (tgt := 115) hx hb d_MO_binds_111 (by decide) ?_
                refine lv_istore (lv' := [(5, .int (nI 1)), (8, .int (nI (ts j))), (7, .int (nI (clM t j))), (6, .int (nI j)), (4, .int (nI ((bdF ts t ov j).2.1))), (0, .ref mo), (1, .int (nI fm)), (2, .int (nI w)), (3, .int (nI t))]) hx hb d_MO_binds_115 hl (by decide) rfl (fun ls hl => ?_)
                refine lv_iinc (v := (nI (j + 1))) (lv' := [(6, .int (nI (j + 1))), (5, .int (nI 1)), (8, .int (nI (ts j))), (7, .int (nI (clM t j))), (4, .int (nI ((bdF ts t ov j).2.1))), (0, .ref mo), (1, .int (nI fm)), (2, .int (nI w)), (3, .int (nI t))]) hx hb d_MO_binds_117 hl (k := 3) rfl (by exact nI_1 _) (by decide) rfl (fun ls hl => ?_)
                refine lv_goto (tgt := 9) hx hb d_MO_binds_120 (by decide) ?_
                have hnn : ¬ ofO (bdF ts t ov j).1 (ts j) = none := fun z => absurd ((rdI_0 hlo).mpr z) (Int32.not_lt.mpr c_67)
                have es : bdF ts t ov (j + 1) = ((bdF ts t ov j).1, (bdF ts t ov j).2.1, (bdF ts t ov j).2.2 && decide (ofO (bdF ts t ov j).1 (ts j) = some (clM t j))) := by rw [bdF_s]; unfold bd1; rw [if_neg hnn]
                exact ih (j + 1) f1 σ1 (by omega) (by exact e1) (by rw [es]; exact hv1) (by omega) y_mo y_23 y_24 H locs hG hS ls (by rw [es]; dsimp only; rw [show bI ((bdF ts t ov j).2.2 && decide (ofO (bdF ts t ov j).1 (ts j) = some (clM t j))) = nI 1 from by (rw [bI_n0 c_96, decide_eq_true ((rdI_eq hlo hcl).mp c_107)]; rfl)]; exact (lv_sub hl [0, 1, 4, 5, 6, 7, 8] rfl))
          · have hnn : ofO (bdF ts t ov j).1 (ts j) = none := (rdI_0 hlo).mp (Int32.not_le.mp c_67)
            have h64 : 64 ≤ ts j := by
              unfold ofO at hnn
              by_cases q : ts j < 64
              · rw [if_pos q] at hnn; cases hnn
              · omega
            have es : bdF ts t ov (j + 1) = (va_up (bdF ts t ov j).1 (ts j - 64) (some (clM t j)), (bdF ts t ov j).2.1 ||| 2 ^ (ts j - 64), (bdF ts t ov j).2.2) := by rw [bdF_s]; unfold bd1; rw [if_pos hnn]
            have eof : ofO (va_up (bdF ts t ov j).1 (ts j - 64) (some (clM t j))) (ts j) = some (clM t j) := by unfold ofO va_up; rw [if_neg (by omega), if_pos rfl]
            refine lv_aload_n hx hb d_MO_binds_70 rfl (lv_at hl 5 rfl) ?_
            refine gs_get (v := .ref (A 24)) hx hb ht hown hK hG k_MO y_mo 24 (by decide) w_686 rfl d_MO_binds_71 ?_
            refine lv_iload hx hb d_MO_binds_74 (lv_at hl 0 rfl) ?_
            refine lv_bipush (v := nI 64) hx hb d_MO_binds_76 (by decide) ?_
            refine lv_isub hx hb d_MO_binds_78 ?_
            refine gs_top (pk_sub (a := (ts j)) (b := 64) (by omega)) ?_
            refine lv_iload hx hb d_MO_binds_79 (lv_at hl 1 rfl) ?_
            refine gs_iast hx hb hK hG hS y_24 (j := (ts j) - 64) (by omega) (by omega) d_MO_binds_81 (fun H locs hG hS => ?_)
            have hG : gs_H X (gs_up σ1 (A 24) (gs_ia X 8 (upd f1 ((ts j) - 64) (nI (clM t j))))) H := hG
            obtain ⟨σ_5, eσ_5⟩ : ∃ zq, zq = gs_up σ1 (A 24) (gs_ia X 8 (upd f1 ((ts j) - 64) (nI (clM t j)))) := ⟨_, rfl⟩
            rw [← eσ_5] at hG
            have hc_6 : σ_5 mo = some (moE A Z) := by rw [eσ_5]; exact gs_ku (gs_ne y_mo y_24 (by simp)) y_mo
            have hc_7 : σ_5 (A 23) = some (gs_ia X 450 f23) := by rw [eσ_5]; exact gs_ku (ndp hN 15 16 (by decide) rfl rfl) y_23
            have hc_8 : σ_5 (A 24) = some (gs_ia X 8 (upd f1 ((ts j) - 64) (nI (clM t j)))) := by rw [eσ_5]; exact gs_us
            refine lv_iload hx hb d_MO_binds_82 (lv_at hl 4 rfl) ?_
            refine lv_iconst (v := nI 1) hx hb d_MO_binds_84 (by decide) ?_
            refine lv_iload hx hb d_MO_binds_85 (lv_at hl 0 rfl) ?_
            refine lv_bipush (v := nI 64) hx hb d_MO_binds_87 (by decide) ?_
            refine lv_isub hx hb d_MO_binds_89 ?_
            refine gs_top (pk_sub (a := (ts j)) (b := 64) (by omega)) ?_
            refine lv_ishl hx hb d_MO_binds_90 ?_
            refine lv_ior hx hb d_MO_binds_91 ?_
            refine gs_top (show ((nI ((bdF ts t ov j).2.1)) ||| ((nI 1) <<< ((nI ((ts j) - 64)) &&& 31))) = (nI ((bdF ts t ov j).2.1 ||| 2 ^ (ts j - 64))) from or8_I hbb (by omega)) ?_
            refine lv_istore (lv' := [(4, .int (nI ((bdF ts t ov j).2.1 ||| 2 ^ (ts j - 64)))), (8, .int (nI (ts j))), (7, .int (nI (clM t j))), (6, .int (nI j)), (5, .int (bI (bdF ts t ov j).2.2)), (0, .ref mo), (1, .int (nI fm)), (2, .int (nI w)), (3, .int (nI t))]) hx hb d_MO_binds_92 hl (by decide) rfl (fun ls hl => ?_)
            refine lv_iload hx hb d_MO_binds_94 (lv_at hl 4 rfl) ?_
            refine lv_if_eq (tgt := 114) hx hb d_MO_binds_96 (by decide) (fun c_96 => ?_) (fun c_96 => ?_)
            · refine lv_iconst (v := nI 0) hx hb d_MO_binds_114 (by decide) ?_
              refine lv_istore (lv' := [(5, .int (nI 0)), (4, .int (nI ((bdF ts t ov j).2.1 ||| 2 ^ (ts j - 64)))), (8, .int (nI (ts j))), (7, .int (nI (clM t j))), (6, .int (nI j)), (0, .ref mo), (1, .int (nI fm)), (2, .int (nI w)), (3, .int (nI t))]) hx hb d_MO_binds_115 hl (by decide) rfl (fun ls hl => ?_)
              refine lv_iinc (v := (nI (j + 1))) (lv' := [(6, .int (nI (j + 1))), (5, .int (nI 0)), (4, .int (nI ((bdF ts t ov j).2.1 ||| 2 ^ (ts j - 64)))), (8, .int (nI (ts j))), (7, .int (nI (clM t j))), (0, .ref mo), (1, .int (nI fm)), (2, .int (nI w)), (3, .int (nI t))]) hx hb d_MO_binds_117 hl (k := 4) rfl (by exact nI_1 _) (by decide) rfl (fun ls hl => ?_)
              refine lv_goto (tgt := 9) hx hb d_MO_binds_120 (by decide) ?_
              exact ih (j + 1) (upd f1 ((ts j) - 64) (nI (clM t j))) σ_5 (by omega) (by simp only [*, gs_uu]) (by rw [es]; exact vO_up hv1 hcl) (by omega) hc_6 hc_7 hc_8 H locs hG hS ls (by rw [es]; dsimp only; rw [show bI (bdF ts t ov j).2.2 = nI 0 from by first | (rw [bI_0 c_96]; rfl) | (exact absurd (by rw [eof]; rfl) c_107)]; exact (lv_sub hl [0, 1, 2, 5, 6, 7, 8] rfl))
            · refine lv_aload_n hx hb d_MO_binds_99 rfl (lv_at hl 5 rfl) ?_
              refine lv_iload hx hb d_MO_binds_100 (lv_at hl 1 rfl) ?_
              refine gs_callVp (As := [.int (nI (ts j))]) (rest := []) ⟨hx, hb, hml, hown, hts⟩ hK hE hz hG hS (c_MO_of l X σ_5 mo A Z (upd f1 ((ts j) - 64) (nI (clM t j))) (va_up (bdF ts t ov j).1 (ts j - 64) (some (clM t j))) (ts j) hc_6 hc_8 (vO_up hv1 hcl) (hts2 j)) ⟨rfl, rfl⟩ mV_MO_of w_852 hc_6 rfl rfl hl.1 rfl (Nat.le_of_ble_eq_true rfl) ⟨(by first | decide | omega | (dsimp only [headSpec]; omega)), (by first | decide | omega | (dsimp only [headSpec]; omega))⟩ ⟨(by first | decide | omega | (dsimp only [headSpec]; omega)), (by first | decide | omega | (dsimp only [headSpec]; omega))⟩ d_MO_binds_102 (fun r_102 hp_102 => ?_)
              refine gs_top (show r_102 = (rdI (ofO (va_up (bdF ts t ov j).1 (ts j - 64) (some (clM t j))) (ts j))) from hp_102) ?_
              refine lv_iload hx hb d_MO_binds_105 (lv_at hl 2 rfl) ?_
              refine lv_icmp_ne (tgt := 114) hx hb d_MO_binds_107 (by decide) (fun c_107 => ?_) (fun c_107 => ?_)
              · refine lv_iconst (v := nI 0) hx hb d_MO_binds_114 (by decide) ?_
                refine lv_istore (lv' := [(5, .int (nI 0)), (4, .int (nI ((bdF ts t ov j).2.1 ||| 2 ^ (ts j - 64)))), (8, .int (nI (ts j))), (7, .int (nI (clM t j))), (6, .int (nI j)), (0, .ref mo), (1, .int (nI fm)), (2, .int (nI w)), (3, .int (nI t))]) hx hb d_MO_binds_115 hl (by decide) rfl (fun ls hl => ?_)
                refine lv_iinc (v := (nI (j + 1))) (lv' := [(6, .int (nI (j + 1))), (5, .int (nI 0)), (4, .int (nI ((bdF ts t ov j).2.1 ||| 2 ^ (ts j - 64)))), (8, .int (nI (ts j))), (7, .int (nI (clM t j))), (0, .ref mo), (1, .int (nI fm)), (2, .int (nI w)), (3, .int (nI t))]) hx hb d_MO_binds_117 hl (k := 4) rfl (by exact nI_1 _) (by decide) rfl (fun ls hl => ?_)
                refine lv_goto (tgt := 9) hx hb d_MO_binds_120 (by decide) ?_
                exact ih (j + 1) (upd f1 ((ts j) - 64) (nI (clM t j))) σ_5 (by omega) (by simp only [*, gs_uu]) (by rw [es]; exact vO_up hv1 hcl) (by omega) hc_6 hc_7 hc_8 H locs hG hS ls (by rw [es]; dsimp only; rw [show bI (bdF ts t ov j).2.2 = nI 0 from by first | (rw [bI_0 c_96]; rfl) | (exact absurd (by rw [eof]; rfl) c_107)]; exact (lv_sub hl [0, 1, 2, 5, 6, 7, 8] rfl))
              · refine lv_iconst (v := nI 1) hx hb d_MO_binds_110 (by decide) ?_
                refine lv_goto (tgt := 115) hx hb d_MO_binds_111 (by decide) ?_
                refine lv_istore (lv' := [(5, .int (nI 1)), (4, .int (nI ((bdF ts t ov j).2.1 ||| 2 ^ (ts j - 64)))), (8, .int (nI (ts j))), (7, .int (nI (clM t j))), (6, .int (nI j)), (0, .ref mo), (1, .int (nI fm)), (2, .int (nI w)), (3, .int (nI t))]) hx hb d_MO_binds_115 hl (by decide) rfl (fun ls hl => ?_)
                refine lv_iinc (v := (nI (j + 1))) (lv' := [(6, .int (nI (j + 1))), (5, .int (nI 1)), (4, .int (nI ((bdF ts t ov j).2.1 ||| 2 ^ (ts j - 64)))), (8, .int (nI (ts j))), (7, .int (nI (clM t j))), (0, .ref mo), (1, .int (nI fm)), (2, .int (nI w)), (3, .int (nI t))]) hx hb d_MO_binds_117 hl (k := 4) rfl (by exact nI_1 _) (by decide) rfl (fun ls hl => ?_)
                refine lv_goto (tgt := 9) hx hb d_MO_binds_120 (by decide) ?_
                exact ih (j + 1) (upd f1 ((ts j) - 64) (nI (clM t j))) σ_5 (by omega) (by simp only [*, gs_uu]) (by rw [es]; exact vO_up hv1 hcl) (by omega) hc_6 hc_7 hc_8 H locs hG hS ls (by rw [es]; dsimp only; rw [show bI (bdF ts t ov j).2.2 = nI 1 from by (rw [bI_n0 c_96]; rfl)]; exact (lv_sub hl [0, 1, 2, 5, 6, 7, 8] rfl))
        refine lv_iload hx hb d_MO_binds_15 (lv_at hl 0 rfl) ?_
        refine lv_if_ne (tgt := 28) hx hb d_MO_binds_17 (by decide) (fun c_17 => ?_) (fun c_17 => ?_)
        · have c_17 : ¬ j = 0 := gs_zn (by omega) c_17
          refine lv_iload hx hb d_MO_binds_28 (lv_at hl 0 rfl) ?_
          refine lv_iconst (v := nI 1) hx hb d_MO_binds_30 (by decide) ?_
          refine lv_icmp_ne (tgt := 44) hx hb d_MO_binds_31 (by decide) (fun c_31 => ?_) (fun c_31 => ?_)
          · have c_31 : ¬ j = 1 := mt (nI_eq (by omega) (by omega)).mpr c_31
            refine lv_iload_n hx hb d_MO_binds_44 rfl (lv_at hl 6 rfl) ?_
            refine lv_bipush (v := nI 64) hx hb d_MO_binds_45 (by decide) ?_
            refine lv_irem hx hb d_MO_binds_47 (by decide) ?_
            refine gs_top (pk_rem (a := t) (d := 64) (by omega) (by omega) (by omega)) ?_
            refine lv_istore (lv' := [(7, .int (nI (t % 64))), (6, .int (nI j)), (5, .int (bI (bdF ts t ov j).2.2)), (4, .int (nI ((bdF ts t ov j).2.1))), (0, .ref mo), (1, .int (nI fm)), (2, .int (nI w)), (3, .int (nI t))]) hx hb d_MO_binds_48 hl (by decide) rfl (fun ls hl => ?_)
            exact k50 ls (by rw [show clM t j = t % 64 from by unfold clM; first | rw [if_pos c_17] | rw [if_neg c_17, if_pos c_31] | rw [if_neg c_17, if_neg c_31]]; exact (lv_sub hl [0, 1, 2, 3, 4, 5, 6, 7] rfl))
          · have c_31 : j = 1 :=  (nI_eq (by omega) (by omega)).mp c_31
            refine lv_iload_n hx hb d_MO_binds_34 rfl (lv_at hl 6 rfl) ?_
            refine lv_bipush (v := nI 64) hx hb d_MO_binds_35 (by decide) ?_
            refine lv_idiv hx hb d_MO_binds_37 (by decide) ?_
            refine gs_top (pk_div (a := t) (d := 64) (by omega) (by omega) (by omega)) ?_
            refine lv_bipush (v := nI 64) hx hb d_MO_binds_38 (by decide) ?_
            refine lv_irem hx hb d_MO_binds_40 (by decide) ?_
            refine gs_top (pk_rem (a := (t / 64)) (d := 64) (by omega) (by omega) (by omega)) ?_
            refine lv_goto (tgt := 48) hx hb d_MO_binds_41 (by decide) ?_
            refine lv_istore (lv' := [(7, .int (nI ((t / 64) % 64))), (6, .int (nI j)), (5, .int (bI (bdF ts t ov j).2.2)), (4, .int (nI ((bdF ts t ov j).2.1))), (0, .ref mo), (1, .int (nI fm)), (2, .int (nI w)), (3, .int (nI t))]) hx hb d_MO_binds_48 hl (by decide) rfl (fun ls hl => ?_)
            exact k50 ls (by rw [show clM t j = (t / 64) % 64 from by unfold clM; first | rw [if_pos c_17] | rw [if_neg c_17, if_pos c_31] | rw [if_neg c_17, if_neg c_31]]; exact (lv_sub hl [0, 1, 2, 3, 4, 5, 6, 7] rfl))
        · have c_17 : j = 0 := gs_z (by omega) c_17
          refine lv_iload_n hx hb d_MO_binds_20 rfl (lv_at hl 6 rfl) ?_
          refine lv_sipush (v := nI 4096) hx hb d_MO_binds_21 (by decide) ?_
          refine lv_idiv hx hb d_MO_binds_24 (by decide) ?_
          refine gs_top (pk_div (a := t) (d := 4096) (by omega) (by omega) (by omega)) ?_
          refine lv_goto (tgt := 48) hx hb d_MO_binds_25 (by decide) ?_
          refine lv_istore (lv' := [(7, .int (nI (t / 4096))), (6, .int (nI j)), (5, .int (bI (bdF ts t ov j).2.2)), (4, .int (nI ((bdF ts t ov j).2.1))), (0, .ref mo), (1, .int (nI fm)), (2, .int (nI w)), (3, .int (nI t))]) hx hb d_MO_binds_48 hl (by decide) rfl (fun ls hl => ?_)
          exact k50 ls (by rw [show clM t j = t / 4096 from by unfold clM; first | rw [if_pos c_17] | rw [if_neg c_17, if_pos c_31] | rw [if_neg c_17, if_neg c_31]]; exact (lv_sub hl [0, 1, 2, 3, 4, 5, 6, 7] rfl))
  refine lv_iconst (v := nI 0) hx hb d_MO_binds_0 (by decide) ?_
  refine lv_istore (lv' := [(4, .int (nI 0)), (0, .ref mo), (1, .int (nI fm)), (2, .int (nI w)), (3, .int (nI t))]) hx hb d_MO_binds_1 hl (by decide) rfl (fun ls hl => ?_)
  refine lv_iconst (v := nI 1) hx hb d_MO_binds_3 (by decide) ?_
  refine lv_istore (lv' := [(5, .int (nI 1)), (4, .int (nI 0)), (0, .ref mo), (1, .int (nI fm)), (2, .int (nI w)), (3, .int (nI t))]) hx hb d_MO_binds_4 hl (by decide) rfl (fun ls hl => ?_)
  refine lv_iconst (v := nI 0) hx hb d_MO_binds_6 (by decide) ?_
  refine lv_istore (lv' := [(6, .int (nI 0)), (5, .int (nI 1)), (4, .int (nI 0)), (0, .ref mo), (1, .int (nI fm)), (2, .int (nI w)), (3, .int (nI t))]) hx hb d_MO_binds_7 hl (by decide) rfl (fun ls hl => ?_)
  exact loop (w + 1) 0 f24 σ (by omega) (gs_usame m24).symm hv (by omega) m0 m23 m24 _ _ hG hS ls (lv_sub hl [0, 1, 2, 3, 4, 5, 6] rfl)
set_option maxHeartbeats 4000000 in
set_option maxRecDepth 100000 in
/-- the reference: asked -/
theorem c_MO_asked (l : Launch) (X : gs_X) (σ : gs_St) (mo : Nat) (A Z : Nat → Nat) (f18 f19 f20 f21 f22 f23 f24 : Nat → Int32) (g : Nat → Int64) (ov : OV) (P : List Nat) (nr q : Nat) (R : MR)
    (m0 : σ mo = some (moE A Z)) (m12 : σ (A 12) = some (gs_la X 49152 g)) (m20 : σ (A 20) = some (gs_ia X 25 f20)) (m21 : σ (A 21) = some (gs_ia X 150 f21)) (m22 : σ (A 22) = some (gs_ia X 150 f22)) (m23 : σ (A 23) = some (gs_ia X 450 f23)) (m24 : σ (A 24) = some (gs_ia X 8 f24)) (hR : rAt f18 f19 f20 f21 f22 f23 q R) (hRB : mrB nr R) (hq : q < 25) (hv : vO f24 ov) (hal : ∀ x ∈ R.2, alB ov x.2.2) (hbi : bO g P) : gs_Mp l X y_MO_asked b_MO_asked 7 (some .boolean) ({ frames := 1, cells := 0, slots := 0, locals := 22 }) σ [.ref mo, .int (nI q)] (fun r => r = bI (askO ov P R)) := by
  refine Met.ofW (cc := b_MO_asked) (maxL := 7) (ret := (some .boolean)) (by decide) rfl ?_
  intro p e s m args below meth c s₁ B₀ hml hv
  obtain ⟨rfl, hK, hG, hz, hE⟩ := hv
  have hx := B₀.exec
  have hb := B₀.bytes
  have hr := B₀.returns
  have hts := atoms_spec (ws := gs_ws y_MO_asked b_MO_asked 7 (some .boolean)) B₀.pre
  have ht : ∀ w ∈ gs_w, w.before _ s = true := fun w h => hts w (List.mem_cons_of_mem _ h)
  have hown : s.vm.findClass R_MO = some m.cls := findClass_of_methodNamed B₀.named
  have hlocks := B₀.notSynchronized
  have hA : ∀ q : Nat, s.heap.size ≤ q → gs_A X q := fun q h => Nat.le_trans hz h
  have hS : va_S (gs_A X) s.heap s.heap [] := va_S.rf
  have hl := lv_entry ([.ref mo, .int (nI q)]) (n := 7) (Nat.le_of_ble_eq_true rfl)
  rw [lg_entry_eq]
  generalize (lg_sl ([.ref mo, .int (nI q)]) ++ List.replicate (7 - (lg_sl ([.ref mo, .int (nI q)])).length) Slot.unset).toArray = ls at hl ⊢
  have hl : lv_has ls 7 [(0, .ref mo), (1, .int (nI q))] := hl
  have hRl := hRB.2.2.1
  have loop : ∀ (fl : Nat) (i : Nat), (i ≤ R.2.length) → R.2.length - i < fl → ∀ ls, lv_has ls 7 [(3, .int (nI i)), (2, .int (bI ((R.2.take i).all (askX ov P)))), (0, .ref mo), (1, .int (nI q))] → W p l e ({ frames := 1, cells := 0, slots := 0, locals := 22 } : Room) s m ([.ref mo, .int (nI q)] : List Value).toArray below meth c s.heap [] 0 0 (MQ below (gs_Qp (fun r => r = bI (askO ov P R))) ([.ref mo, .int (nI q)] : List Value).toArray s 0 0 (fun _ => False)) (F0 m 4 ls []) := by
    intro fl
    induction fl with
    | zero => intro i _ h9; omega
    | succ fl ih =>
      intro i hi hmu  ls hl
      refine lv_iload_n hx hb d_MO_asked_4 rfl (lv_at hl 0 rfl) ?_
      refine lv_aload_n hx hb d_MO_asked_5 rfl (lv_at hl 2 rfl) ?_
      refine gs_get (v := .ref (A 20)) hx hb ht hown hK hG k_MO m0 20 (by decide) w_682 rfl d_MO_asked_6 ?_
      refine lv_iload_n hx hb d_MO_asked_9 rfl (lv_at hl 3 rfl) ?_
      refine gs_iald hx hb hK hG m20 (j := q) (by omega) (by omega) d_MO_asked_10 ?_
      refine gs_top (show (f20 q) = (nI R.2.length) from hR.2.2.1) ?_
      refine lv_icmp_ge (tgt := 169) hx hb d_MO_asked_11 (by decide) (fun c_11 => ?_) (fun c_11 => ?_)
      · have c_11 : R.2.length ≤ i := (nI_leI (by omega) (by omega)).mp c_11
        refine lv_iload_n hx hb d_MO_asked_169 rfl (lv_at hl 1 rfl) ?_
        exact gs_iretp (v := (bI ((R.2.take i).all (askX ov P)))) hx hb hr (bI_nar _) hlocks (Nat.zero_le _) (Nat.zero_le _) (by rw [show i = R.2.length by omega, List.take_length]; rfl) d_MO_asked_170
      · have c_11 : ¬ R.2.length ≤ i := mt (nI_leI (by omega) (by omega)).mpr c_11
        have hiR : i < R.2.length := by omega
        obtain ⟨x, hx9⟩ := get_ex (L := R.2) (j := i) hiR
        obtain ⟨hx1, hx2, hx3⟩ := hR.2.2.2 _ _ hx9
        have hxm := List.mem_of_getElem? hx9
        have hx4 := hRB.2.2.2.2 _ hxm
        have hx5 := hx4.1
        have hg0 := gv_of hv (hal x hxm) (j := 0) (by decide) (hx4.2.2.2 0)
        have hg1 := gv_of hv (hal x hxm) (j := 1) (by decide) (hx4.2.2.2 1)
        have hg2 := gv_of hv (hal x hxm) (j := 2) (by decide) (hx4.2.2.2 2)
        have hgl0 := hg0.2
        have hgl1 := hg1.2
        have hgl2 := hg2.2
        have hsn := all_snoc (f := askX ov P) hx9
        have hxr := hx4.2.2.1
        refine lv_bipush (v := nI 6) hx hb d_MO_asked_14 (by decide) ?_
        refine lv_iload_n hx hb d_MO_asked_16 rfl (lv_at hl 3 rfl) ?_
        refine lv_imul hx hb d_MO_asked_17 ?_
        refine gs_top (pk_mul 6 q) ?_
        refine lv_iload_n hx hb d_MO_asked_18 rfl (lv_at hl 0 rfl) ?_
        refine lv_iadd hx hb d_MO_asked_19 ?_
        refine gs_top (nI_add (6 * q) i) ?_
        refine lv_istore (lv' := [(4, .int (nI ((6 * q) + i))), (3, .int (nI i)), (2, .int (bI ((R.2.take i).all (askX ov P)))), (0, .ref mo), (1, .int (nI q))]) hx hb d_MO_asked_20 hl (by decide) rfl (fun ls hl => ?_)
        refine lv_aload_n hx hb d_MO_asked_22 rfl (lv_at hl 3 rfl) ?_
        refine lv_aload_n hx hb d_MO_asked_23 rfl (lv_at hl 3 rfl) ?_
        refine gs_get (v := .ref (A 23)) hx hb ht hown hK hG k_MO m0 23 (by decide) w_685 rfl d_MO_asked_24 ?_
        refine lv_iconst (v := nI 3) hx hb d_MO_asked_27 (by decide) ?_
        refine lv_iload hx hb d_MO_asked_28 (lv_at hl 0 rfl) ?_
        refine lv_imul hx hb d_MO_asked_30 ?_
        refine gs_top (pk_mul 3 ((6 * q) + i)) ?_
        refine gs_iald hx hb hK hG m23 (j := 3 * ((6 * q) + i)) (by omega) (by omega) d_MO_asked_31 ?_
        refine gs_top (show (f23 (3 * ((6 * q) + i))) = (nI (t3 x.2.2 0)) from hx3 0 (by decide)) ?_
        refine gs_callVp (As := [.int (nI (t3 x.2.2 0))]) (rest := []) ⟨hx, hb, hml, hown, hts⟩ hK hE hz hG hS (c_MO_of l X σ mo A Z f24 ov (t3 x.2.2 0) m0 m24 hv (hx4.2.2.2 0)) ⟨rfl, rfl⟩ mV_MO_of w_852 m0 rfl rfl hl.1 rfl (Nat.le_of_ble_eq_true rfl) ⟨(by first | decide | omega | (dsimp only [headSpec]; omega)), (by first | decide | omega | (dsimp only [headSpec]; omega))⟩ ⟨(by first | decide | omega | (dsimp only [headSpec]; omega)), (by first | decide | omega | (dsimp only [headSpec]; omega))⟩ d_MO_asked_32 (fun r_32 hp_32 => ?_)
        refine gs_top (hp_32.trans hg0.1) ?_
        refine lv_istore (lv' := [(5, .int (nI (gv ov (t3 x.2.2 0)))), (4, .int (nI ((6 * q) + i))), (3, .int (nI i)), (2, .int (bI ((R.2.take i).all (askX ov P)))), (0, .ref mo), (1, .int (nI q))]) hx hb d_MO_asked_35 hl (by decide) rfl (fun ls hl => ?_)
        refine lv_aload_n hx hb d_MO_asked_37 rfl (lv_at hl 4 rfl) ?_
        refine lv_aload_n hx hb d_MO_asked_38 rfl (lv_at hl 4 rfl) ?_
        refine gs_get (v := .ref (A 23)) hx hb ht hown hK hG k_MO m0 23 (by decide) w_685 rfl d_MO_asked_39 ?_
        refine lv_iconst (v := nI 3) hx hb d_MO_asked_42 (by decide) ?_
        refine lv_iload hx hb d_MO_asked_43 (lv_at hl 1 rfl) ?_
        refine lv_imul hx hb d_MO_asked_45 ?_
        refine gs_top (pk_mul 3 ((6 * q) + i)) ?_
        refine lv_iconst (v := nI 1) hx hb d_MO_asked_46 (by decide) ?_
        refine lv_iadd hx hb d_MO_asked_47 ?_
        refine gs_top (nI_add (3 * ((6 * q) + i)) 1) ?_
        refine gs_iald hx hb hK hG m23 (j := (3 * ((6 * q) + i)) + 1) (by omega) (by omega) d_MO_asked_48 ?_
        refine gs_top (show (f23 ((3 * ((6 * q) + i)) + 1)) = (nI (t3 x.2.2 1)) from hx3 1 (by decide)) ?_
        refine gs_callVp (As := [.int (nI (t3 x.2.2 1))]) (rest := []) ⟨hx, hb, hml, hown, hts⟩ hK hE hz hG hS (c_MO_of l X σ mo A Z f24 ov (t3 x.2.2 1) m0 m24 hv (hx4.2.2.2 1)) ⟨rfl, rfl⟩ mV_MO_of w_852 m0 rfl rfl hl.1 rfl (Nat.le_of_ble_eq_true rfl) ⟨(by first | decide | omega | (dsimp only [headSpec]; omega)), (by first | decide | omega | (dsimp only [headSpec]; omega))⟩ ⟨(by first | decide | omega | (dsimp only [headSpec]; omega)), (by first | decide | omega | (dsimp only [headSpec]; omega))⟩ d_MO_asked_49 (fun r_49 hp_49 => ?_)
        refine gs_top (hp_49.trans hg1.1) ?_
        refine lv_istore (lv' := [(6, .int (nI (gv ov (t3 x.2.2 1)))), (5, .int (nI (gv ov (t3 x.2.2 0)))), (4, .int (nI ((6 * q) + i))), (3, .int (nI i)), (2, .int (bI ((R.2.take i).all (askX ov P)))), (0, .ref mo), (1, .int (nI q))]) hx hb d_MO_asked_52 hl (by decide) rfl (fun ls hl => ?_)
        refine lv_aload_n hx hb d_MO_asked_54 rfl (lv_at hl 5 rfl) ?_
        refine gs_get (v := .ref (A 21)) hx hb ht hown hK hG k_MO m0 21 (by decide) w_683 rfl d_MO_asked_55 ?_
        refine lv_iload hx hb d_MO_asked_58 (lv_at hl 2 rfl) ?_
        refine gs_iald hx hb hK hG m21 (j := (6 * q) + i) (by omega) (by omega) d_MO_asked_60 ?_
        refine gs_top (show (f21 ((6 * q) + i)) = (nI x.1) from hx1) ?_
        refine lv_iconst (v := nI 1) hx hb d_MO_asked_61 (by decide) ?_
        refine lv_icmp_ne (tgt := 114) hx hb d_MO_asked_62 (by decide) (fun c_62 => ?_) (fun c_62 => ?_)
        · have c_62 : ¬ x.1 = 1 := mt (nI_eq (by omega) (by omega)).mpr c_62
          refine lv_aload_n hx hb d_MO_asked_114 rfl (lv_at hl 5 rfl) ?_
          refine gs_get (v := .ref (A 21)) hx hb ht hown hK hG k_MO m0 21 (by decide) w_683 rfl d_MO_asked_115 ?_
          refine lv_iload hx hb d_MO_asked_118 (lv_at hl 2 rfl) ?_
          refine gs_iald hx hb hK hG m21 (j := (6 * q) + i) (by omega) (by omega) d_MO_asked_120 ?_
          refine gs_top (show (f21 ((6 * q) + i)) = (nI x.1) from hx1) ?_
          refine lv_iconst (v := nI 1) hx hb d_MO_asked_121 (by decide) ?_
          refine lv_icmp_le (tgt := 163) hx hb d_MO_asked_122 (by decide) (fun c_122 => ?_) (fun c_122 => ?_)
          · have c_122 : x.1 ≤ 1 := (nI_leI (by omega) (by omega)).mp c_122
            refine lv_iinc (v := (nI (i + 1))) (lv' := [(3, .int (nI (i + 1))), (6, .int (nI (gv ov (t3 x.2.2 1)))), (5, .int (nI (gv ov (t3 x.2.2 0)))), (4, .int (nI ((6 * q) + i))), (2, .int (bI ((R.2.take i).all (askX ov P)))), (0, .ref mo), (1, .int (nI q))]) hx hb d_MO_asked_163 hl (k := 3) rfl (by exact nI_1 _) (by decide) rfl (fun ls hl => ?_)
            refine lv_goto (tgt := 4) hx hb d_MO_asked_166 (by decide) ?_
            exact ih (i + 1) (by omega) (by omega) ls (by rw [show (R.2.take (i + 1)).all (askX ov P) = ((R.2.take i).all (askX ov P)) from by rw [hsn, show askX ov P x = true from by unfold askX; rw [if_neg (by omega), if_neg (by omega)], Bool.and_true]]; exact (lv_sub hl [0, 4, 5, 6] rfl))
          · have c_122 : ¬ x.1 ≤ 1 := mt (nI_leI (by omega) (by omega)).mpr c_122
            refine lv_iload_n hx hb d_MO_asked_125 rfl (lv_at hl 4 rfl) ?_
            refine lv_if_eq (tgt := 161) hx hb d_MO_asked_126 (by decide) (fun c_126 => ?_) (fun c_126 => ?_)
            · refine lv_iconst (v := nI 0) hx hb d_MO_asked_161 (by decide) ?_
              refine lv_istore_n (lv' := [(2, .int (nI 0)), (6, .int (nI (gv ov (t3 x.2.2 1)))), (5, .int (nI (gv ov (t3 x.2.2 0)))), (4, .int (nI ((6 * q) + i))), (3, .int (nI i)), (0, .ref mo), (1, .int (nI q))]) hx hb d_MO_asked_162 rfl hl (by decide) rfl (fun ls hl => ?_)
              refine lv_iinc (v := (nI (i + 1))) (lv' := [(3, .int (nI (i + 1))), (2, .int (nI 0)), (6, .int (nI (gv ov (t3 x.2.2 1)))), (5, .int (nI (gv ov (t3 x.2.2 0)))), (4, .int (nI ((6 * q) + i))), (0, .ref mo), (1, .int (nI q))]) hx hb d_MO_asked_163 hl (k := 4) rfl (by exact nI_1 _) (by decide) rfl (fun ls hl => ?_)
              refine lv_goto (tgt := 4) hx hb d_MO_asked_166 (by decide) ?_
              exact ih (i + 1) (by omega) (by omega) ls (by rw [show bI ((R.2.take (i + 1)).all (askX ov P)) = nI 0 from by rw [hsn]; first | (rw [bI_0 c_66]; rfl) | (rw [bI_0 c_126]; rfl) | (rw [show askX ov P x = false from by unfold askX; rw [if_pos c_62, ← hbi, bI_n0 c_102]; rfl, Bool.and_false]; rfl) | (rw [show askX ov P x = false from by unfold askX; rw [if_neg c_62, if_pos (by omega), if_pos c_137, decide_eq_false (by omega)], Bool.and_false]; rfl) | (rw [show askX ov P x = false from by unfold askX; rw [if_neg c_62, if_pos (by omega), if_neg c_137, decide_eq_false (by omega)], Bool.and_false]; rfl)]; exact (lv_sub hl [0, 1, 5, 6] rfl))
            · refine lv_aload_n hx hb d_MO_asked_129 rfl (lv_at hl 5 rfl) ?_
              refine gs_get (v := .ref (A 21)) hx hb ht hown hK hG k_MO m0 21 (by decide) w_683 rfl d_MO_asked_130 ?_
              refine lv_iload hx hb d_MO_asked_133 (lv_at hl 2 rfl) ?_
              refine gs_iald hx hb hK hG m21 (j := (6 * q) + i) (by omega) (by omega) d_MO_asked_135 ?_
              refine gs_top (show (f21 ((6 * q) + i)) = (nI x.1) from hx1) ?_
              refine lv_iconst (v := nI 2) hx hb d_MO_asked_136 (by decide) ?_
              refine lv_icmp_ne (tgt := 150) hx hb d_MO_asked_137 (by decide) (fun c_137 => ?_) (fun c_137 => ?_)
              · have c_137 : ¬ x.1 = 2 := mt (nI_eq (by omega) (by omega)).mpr c_137
                refine lv_iload hx hb d_MO_asked_150 (lv_at hl 1 rfl) ?_
                refine lv_iload hx hb d_MO_asked_152 (lv_at hl 0 rfl) ?_
                refine lv_icmp_eq (tgt := 161) hx hb d_MO_asked_154 (by decide) (fun c_154 => ?_) (fun c_154 => ?_)
                · have c_154 : (gv ov (t3 x.2.2 0)) = (gv ov (t3 x.2.2 1)) :=  (nI_eq (by omega) (by omega)).mp c_154
                  refine lv_iconst (v := nI 0) hx hb d_MO_asked_161 (by decide) ?_
                  refine lv_istore_n (lv' := [(2, .int (nI 0)), (6, .int (nI (gv ov (t3 x.2.2 1)))), (5, .int (nI (gv ov (t3 x.2.2 0)))), (4, .int (nI ((6 * q) + i))), (3, .int (nI i)), (0, .ref mo), (1, .int (nI q))]) hx hb d_MO_asked_162 rfl hl (by decide) rfl (fun ls hl => ?_)
                  refine lv_iinc (v := (nI (i + 1))) (lv' := [(3, .int (nI (i + 1))), (2, .int (nI 0)), (6, .int (nI (gv ov (t3 x.2.2 1)))), (5, .int (nI (gv ov (t3 x.2.2 0)))), (4, .int (nI ((6 * q) + i))), (0, .ref mo), (1, .int (nI q))]) hx hb d_MO_asked_163 hl (k := 4) rfl (by exact nI_1 _) (by decide) rfl (fun ls hl => ?_)
                  refine lv_goto (tgt := 4) hx hb d_MO_asked_166 (by decide) ?_
                  exact ih (i + 1) (by omega) (by omega) ls (by rw [show bI ((R.2.take (i + 1)).all (askX ov P)) = nI 0 from by rw [hsn]; first | (rw [bI_0 c_66]; rfl) | (rw [bI_0 c_126]; rfl) | (rw [show askX ov P x = false from by unfold askX; rw [if_pos c_62, ← hbi, bI_n0 c_102]; rfl, Bool.and_false]; rfl) | (rw [show askX ov P x = false from by unfold askX; rw [if_neg c_62, if_pos (by omega), if_pos c_137, decide_eq_false (by omega)], Bool.and_false]; rfl) | (rw [show askX ov P x = false from by unfold askX; rw [if_neg c_62, if_pos (by omega), if_neg c_137, decide_eq_false (by omega)], Bool.and_false]; rfl)]; exact (lv_sub hl [0, 1, 5, 6] rfl))
                · have c_154 : ¬ (gv ov (t3 x.2.2 0)) = (gv ov (t3 x.2.2 1)) := mt (nI_eq (by omega) (by omega)).mpr c_154
                  refine lv_iconst (v := nI 1) hx hb d_MO_asked_157 (by decide) ?_
                  refine lv_goto (tgt := 162) hx hb d_MO_asked_158 (by decide) ?_
                  refine lv_istore_n (lv' := [(2, .int (nI 1)), (6, .int (nI (gv ov (t3 x.2.2 1)))), (5, .int (nI (gv ov (t3 x.2.2 0)))), (4, .int (nI ((6 * q) + i))), (3, .int (nI i)), (0, .ref mo), (1, .int (nI q))]) hx hb d_MO_asked_162 rfl hl (by decide) rfl (fun ls hl => ?_)
                  refine lv_iinc (v := (nI (i + 1))) (lv' := [(3, .int (nI (i + 1))), (2, .int (nI 1)), (6, .int (nI (gv ov (t3 x.2.2 1)))), (5, .int (nI (gv ov (t3 x.2.2 0)))), (4, .int (nI ((6 * q) + i))), (0, .ref mo), (1, .int (nI q))]) hx hb d_MO_asked_163 hl (k := 4) rfl (by exact nI_1 _) (by decide) rfl (fun ls hl => ?_)
                  refine lv_goto (tgt := 4) hx hb d_MO_asked_166 (by decide) ?_
                  exact ih (i + 1) (by omega) (by omega) ls (by rw [show bI ((R.2.take (i + 1)).all (askX ov P)) = nI 1 from by rw [hsn]; first | (rw [bI_n0 c_66, show askX ov P x = true from by unfold askX; rw [if_pos c_62, ← hbi, bI_0 c_102]; rfl]; rfl) | (rw [bI_n0 c_126, show askX ov P x = true from by unfold askX; rw [if_neg c_62, if_pos (by omega), if_pos c_137, decide_eq_true (by omega)]]; rfl) | (rw [bI_n0 c_126, show askX ov P x = true from by unfold askX; rw [if_neg c_62, if_pos (by omega), if_neg c_137, decide_eq_true (by omega)]]; rfl)]; exact (lv_sub hl [0, 1, 5, 6] rfl))
              · have c_137 : x.1 = 2 :=  (nI_eq (by omega) (by omega)).mp c_137
                refine lv_iload hx hb d_MO_asked_140 (lv_at hl 1 rfl) ?_
                refine lv_iload hx hb d_MO_asked_142 (lv_at hl 0 rfl) ?_
                refine lv_icmp_ge (tgt := 161) hx hb d_MO_asked_144 (by decide) (fun c_144 => ?_) (fun c_144 => ?_)
                · have c_144 : (gv ov (t3 x.2.2 1)) ≤ (gv ov (t3 x.2.2 0)) := (nI_leI (by omega) (by omega)).mp c_144
                  refine lv_iconst (v := nI 0) hx hb d_MO_asked_161 (by decide) ?_
                  refine lv_istore_n (lv' := [(2, .int (nI 0)), (6, .int (nI (gv ov (t3 x.2.2 1)))), (5, .int (nI (gv ov (t3 x.2.2 0)))), (4, .int (nI ((6 * q) + i))), (3, .int (nI i)), (0, .ref mo), (1, .int (nI q))]) hx hb d_MO_asked_162 rfl hl (by decide) rfl (fun ls hl => ?_)
                  refine lv_iinc (v := (nI (i + 1))) (lv' := [(3, .int (nI (i + 1))), (2, .int (nI 0)), (6, .int (nI (gv ov (t3 x.2.2 1)))), (5, .int (nI (gv ov (t3 x.2.2 0)))), (4, .int (nI ((6 * q) + i))), (0, .ref mo), (1, .int (nI q))]) hx hb d_MO_asked_163 hl (k := 4) rfl (by exact nI_1 _) (by decide) rfl (fun ls hl => ?_)
                  refine lv_goto (tgt := 4) hx hb d_MO_asked_166 (by decide) ?_
                  exact ih (i + 1) (by omega) (by omega) ls (by rw [show bI ((R.2.take (i + 1)).all (askX ov P)) = nI 0 from by rw [hsn]; first | (rw [bI_0 c_66]; rfl) | (rw [bI_0 c_126]; rfl) | (rw [show askX ov P x = false from by unfold askX; rw [if_pos c_62, ← hbi, bI_n0 c_102]; rfl, Bool.and_false]; rfl) | (rw [show askX ov P x = false from by unfold askX; rw [if_neg c_62, if_pos (by omega), if_pos c_137, decide_eq_false (by omega)], Bool.and_false]; rfl) | (rw [show askX ov P x = false from by unfold askX; rw [if_neg c_62, if_pos (by omega), if_neg c_137, decide_eq_false (by omega)], Bool.and_false]; rfl)]; exact (lv_sub hl [0, 1, 5, 6] rfl))
                · have c_144 : ¬ (gv ov (t3 x.2.2 1)) ≤ (gv ov (t3 x.2.2 0)) := mt (nI_leI (by omega) (by omega)).mpr c_144
                  refine lv_goto (tgt := 157) hx hb d_MO_asked_147 (by decide) ?_
                  refine lv_iconst (v := nI 1) hx hb d_MO_asked_157 (by decide) ?_
                  refine lv_goto (tgt := 162) hx hb d_MO_asked_158 (by decide) ?_
                  refine lv_istore_n (lv' := [(2, .int (nI 1)), (6, .int (nI (gv ov (t3 x.2.2 1)))), (5, .int (nI (gv ov (t3 x.2.2 0)))), (4, .int (nI ((6 * q) + i))), (3, .int (nI i)), (0, .ref mo), (1, .int (nI q))]) hx hb d_MO_asked_162 rfl hl (by decide) rfl (fun ls hl => ?_)
                  refine lv_iinc (v := (nI (i + 1))) (lv' := [(3, .int (nI (i + 1))), (2, .int (nI 1)), (6, .int (nI (gv ov (t3 x.2.2 1)))), (5, .int (nI (gv ov (t3 x.2.2 0)))), (4, .int (nI ((6 * q) + i))), (0, .ref mo), (1, .int (nI q))]) hx hb d_MO_asked_163 hl (k := 4) rfl (by exact nI_1 _) (by decide) rfl (fun ls hl => ?_)
                  refine lv_goto (tgt := 4) hx hb d_MO_asked_166 (by decide) ?_
                  exact ih (i + 1) (by omega) (by omega) ls (by rw [show bI ((R.2.take (i + 1)).all (askX ov P)) = nI 1 from by rw [hsn]; first | (rw [bI_n0 c_66, show askX ov P x = true from by unfold askX; rw [if_pos c_62, ← hbi, bI_0 c_102]; rfl]; rfl) | (rw [bI_n0 c_126, show askX ov P x = true from by unfold askX; rw [if_neg c_62, if_pos (by omega), if_pos c_137, decide_eq_true (by omega)]]; rfl) | (rw [bI_n0 c_126, show askX ov P x = true from by unfold askX; rw [if_neg c_62, if_pos (by omega), if_neg c_137, decide_eq_true (by omega)]]; rfl)]; exact (lv_sub hl [0, 1, 5, 6] rfl))
        · have c_62 : x.1 = 1 :=  (nI_eq (by omega) (by omega)).mp c_62
          refine lv_iload_n hx hb d_MO_asked_65 rfl (lv_at hl 4 rfl) ?_
          refine lv_if_eq (tgt := 109) hx hb d_MO_asked_66 (by decide) (fun c_66 => ?_) (fun c_66 => ?_)
          · refine lv_iconst (v := nI 0) hx hb d_MO_asked_109 (by decide) ?_
            refine lv_istore_n (lv' := [(2, .int (nI 0)), (6, .int (nI (gv ov (t3 x.2.2 1)))), (5, .int (nI (gv ov (t3 x.2.2 0)))), (4, .int (nI ((6 * q) + i))), (3, .int (nI i)), (0, .ref mo), (1, .int (nI q))]) hx hb d_MO_asked_110 rfl hl (by decide) rfl (fun ls hl => ?_)
            refine lv_goto (tgt := 163) hx hb d_MO_asked_111 (by decide) ?_
            refine lv_iinc (v := (nI (i + 1))) (lv' := [(3, .int (nI (i + 1))), (2, .int (nI 0)), (6, .int (nI (gv ov (t3 x.2.2 1)))), (5, .int (nI (gv ov (t3 x.2.2 0)))), (4, .int (nI ((6 * q) + i))), (0, .ref mo), (1, .int (nI q))]) hx hb d_MO_asked_163 hl (k := 4) rfl (by exact nI_1 _) (by decide) rfl (fun ls hl => ?_)
            refine lv_goto (tgt := 4) hx hb d_MO_asked_166 (by decide) ?_
            exact ih (i + 1) (by omega) (by omega) ls (by rw [show bI ((R.2.take (i + 1)).all (askX ov P)) = nI 0 from by rw [hsn]; first | (rw [bI_0 c_66]; rfl) | (rw [bI_0 c_126]; rfl) | (rw [show askX ov P x = false from by unfold askX; rw [if_pos c_62, ← hbi, bI_n0 c_102]; rfl, Bool.and_false]; rfl) | (rw [show askX ov P x = false from by unfold askX; rw [if_neg c_62, if_pos (by omega), if_pos c_137, decide_eq_false (by omega)], Bool.and_false]; rfl) | (rw [show askX ov P x = false from by unfold askX; rw [if_neg c_62, if_pos (by omega), if_neg c_137, decide_eq_false (by omega)], Bool.and_false]; rfl)]; exact (lv_sub hl [0, 1, 5, 6] rfl))
          · refine lv_aload_n hx hb d_MO_asked_69 rfl (lv_at hl 5 rfl) ?_
            refine lv_aload_n hx hb d_MO_asked_70 rfl (lv_at hl 5 rfl) ?_
            refine gs_get (v := .ref (A 22)) hx hb ht hown hK hG k_MO m0 22 (by decide) w_684 rfl d_MO_asked_71 ?_
            refine lv_iload hx hb d_MO_asked_74 (lv_at hl 2 rfl) ?_
            refine gs_iald hx hb hK hG m22 (j := (6 * q) + i) (by omega) (by omega) d_MO_asked_76 ?_
            refine gs_top (show (f22 ((6 * q) + i)) = (nI x.2.1) from hx2) ?_
            refine lv_iload hx hb d_MO_asked_77 (lv_at hl 1 rfl) ?_
            refine lv_iload hx hb d_MO_asked_79 (lv_at hl 0 rfl) ?_
            refine lv_aload_n hx hb d_MO_asked_81 rfl (lv_at hl 5 rfl) ?_
            refine lv_aload_n hx hb d_MO_asked_82 rfl (lv_at hl 5 rfl) ?_
            refine gs_get (v := .ref (A 23)) hx hb ht hown hK hG k_MO m0 23 (by decide) w_685 rfl d_MO_asked_83 ?_
            refine lv_iconst (v := nI 3) hx hb d_MO_asked_86 (by decide) ?_
            refine lv_iload hx hb d_MO_asked_87 (lv_at hl 2 rfl) ?_
            refine lv_imul hx hb d_MO_asked_89 ?_
            refine gs_top (pk_mul 3 ((6 * q) + i)) ?_
            refine lv_iconst (v := nI 2) hx hb d_MO_asked_90 (by decide) ?_
            refine lv_iadd hx hb d_MO_asked_91 ?_
            refine gs_top (nI_add (3 * ((6 * q) + i)) 2) ?_
            refine gs_iald hx hb hK hG m23 (j := (3 * ((6 * q) + i)) + 2) (by omega) (by omega) d_MO_asked_92 ?_
            refine gs_top (show (f23 ((3 * ((6 * q) + i)) + 2)) = (nI (t3 x.2.2 2)) from hx3 2 (by decide)) ?_
            refine gs_callVp (As := [.int (nI (t3 x.2.2 2))]) (rest := [.int (nI (gv ov (t3 x.2.2 1))), .int (nI (gv ov (t3 x.2.2 0))), .int (nI x.2.1), .ref mo]) ⟨hx, hb, hml, hown, hts⟩ hK hE hz hG hS (c_MO_of l X σ mo A Z f24 ov (t3 x.2.2 2) m0 m24 hv (hx4.2.2.2 2)) ⟨rfl, rfl⟩ mV_MO_of w_852 m0 rfl rfl hl.1 rfl (Nat.le_of_ble_eq_true rfl) ⟨(by first | decide | omega | (dsimp only [headSpec]; omega)), (by first | decide | omega | (dsimp only [headSpec]; omega))⟩ ⟨(by first | decide | omega | (dsimp only [headSpec]; omega)), (by first | decide | omega | (dsimp only [headSpec]; omega))⟩ d_MO_asked_93 (fun r_93 hp_93 => ?_)
            refine gs_top (hp_93.trans hg2.1) ?_
            refine gs_callSp (As := [.int (nI (gv ov (t3 x.2.2 0))), .int (nI (gv ov (t3 x.2.2 1))), .int (nI (gv ov (t3 x.2.2 2)))]) (rest := [.int (nI x.2.1), .ref mo]) ⟨hx, hb, hml, hown, hts⟩ hK hE hz hG hS (c_MO_number l X σ (gv ov (t3 x.2.2 0)) (gv ov (t3 x.2.2 1)) (gv ov (t3 x.2.2 2))) ⟨rfl, rfl⟩ mS_MO_number w_781 rfl hl.1 rfl (Nat.le_of_ble_eq_true rfl) ⟨(by first | decide | omega | (dsimp only [headSpec]; omega)), (by first | decide | omega | (dsimp only [headSpec]; omega))⟩ ⟨(by first | decide | omega | (dsimp only [headSpec]; omega)), (by first | decide | omega | (dsimp only [headSpec]; omega))⟩ d_MO_asked_96 (fun r_96 hp_96 => ?_)
            refine gs_top (show r_96 = (nI (nbO ov x.2.2)) from hp_96) ?_
            refine gs_callVp (As := [.int (nI x.2.1), .int (nI (nbO ov x.2.2))]) (rest := []) ⟨hx, hb, hml, hown, hts⟩ hK hE hz hG hS (c_MO_there l X σ mo A Z g x.2.1 (nbO ov x.2.2) m0 m12 hxr (nb_lt hgl0 hgl1 hgl2)) ⟨rfl, rfl⟩ mV_MO_there w_864 m0 rfl rfl hl.1 rfl (Nat.le_of_ble_eq_true rfl) ⟨(by first | decide | omega | (dsimp only [headSpec]; omega)), (by first | decide | omega | (dsimp only [headSpec]; omega))⟩ ⟨(by first | decide | omega | (dsimp only [headSpec]; omega)), (by first | decide | omega | (dsimp only [headSpec]; omega))⟩ d_MO_asked_99 (fun r_99 hp_99 => ?_)
            refine gs_top (show r_99 = (bI (gB g (262144 * x.2.1 + nbO ov x.2.2))) from hp_99) ?_
            refine lv_if_ne (tgt := 109) hx hb d_MO_asked_102 (by decide) (fun c_102 => ?_) (fun c_102 => ?_)
            · refine lv_iconst (v := nI 0) hx hb d_MO_asked_109 (by decide) ?_
              refine lv_istore_n (lv' := [(2, .int (nI 0)), (6, .int (nI (gv ov (t3 x.2.2 1)))), (5, .int (nI (gv ov (t3 x.2.2 0)))), (4, .int (nI ((6 * q) + i))), (3, .int (nI i)), (0, .ref mo), (1, .int (nI q))]) hx hb d_MO_asked_110 rfl hl (by decide) rfl (fun ls hl => ?_)
              refine lv_goto (tgt := 163) hx hb d_MO_asked_111 (by decide) ?_
              refine lv_iinc (v := (nI (i + 1))) (lv' := [(3, .int (nI (i + 1))), (2, .int (nI 0)), (6, .int (nI (gv ov (t3 x.2.2 1)))), (5, .int (nI (gv ov (t3 x.2.2 0)))), (4, .int (nI ((6 * q) + i))), (0, .ref mo), (1, .int (nI q))]) hx hb d_MO_asked_163 hl (k := 4) rfl (by exact nI_1 _) (by decide) rfl (fun ls hl => ?_)
              refine lv_goto (tgt := 4) hx hb d_MO_asked_166 (by decide) ?_
              exact ih (i + 1) (by omega) (by omega) ls (by rw [show bI ((R.2.take (i + 1)).all (askX ov P)) = nI 0 from by rw [hsn]; first | (rw [bI_0 c_66]; rfl) | (rw [bI_0 c_126]; rfl) | (rw [show askX ov P x = false from by unfold askX; rw [if_pos c_62, ← hbi, bI_n0 c_102]; rfl, Bool.and_false]; rfl) | (rw [show askX ov P x = false from by unfold askX; rw [if_neg c_62, if_pos (by omega), if_pos c_137, decide_eq_false (by omega)], Bool.and_false]; rfl) | (rw [show askX ov P x = false from by unfold askX; rw [if_neg c_62, if_pos (by omega), if_neg c_137, decide_eq_false (by omega)], Bool.and_false]; rfl)]; exact (lv_sub hl [0, 1, 5, 6] rfl))
            · refine lv_iconst (v := nI 1) hx hb d_MO_asked_105 (by decide) ?_
              refine lv_goto (tgt := 110) hx hb d_MO_asked_106 (by decide) ?_
              refine lv_istore_n (lv' := [(2, .int (nI 1)), (6, .int (nI (gv ov (t3 x.2.2 1)))), (5, .int (nI (gv ov (t3 x.2.2 0)))), (4, .int (nI ((6 * q) + i))), (3, .int (nI i)), (0, .ref mo), (1, .int (nI q))]) hx hb d_MO_asked_110 rfl hl (by decide) rfl (fun ls hl => ?_)
              refine lv_goto (tgt := 163) hx hb d_MO_asked_111 (by decide) ?_
              refine lv_iinc (v := (nI (i + 1))) (lv' := [(3, .int (nI (i + 1))), (2, .int (nI 1)), (6, .int (nI (gv ov (t3 x.2.2 1)))), (5, .int (nI (gv ov (t3 x.2.2 0)))), (4, .int (nI ((6 * q) + i))), (0, .ref mo), (1, .int (nI q))]) hx hb d_MO_asked_163 hl (k := 4) rfl (by exact nI_1 _) (by decide) rfl (fun ls hl => ?_)
              refine lv_goto (tgt := 4) hx hb d_MO_asked_166 (by decide) ?_
              exact ih (i + 1) (by omega) (by omega) ls (by rw [show bI ((R.2.take (i + 1)).all (askX ov P)) = nI 1 from by rw [hsn]; first | (rw [bI_n0 c_66, show askX ov P x = true from by unfold askX; rw [if_pos c_62, ← hbi, bI_0 c_102]; rfl]; rfl) | (rw [bI_n0 c_126, show askX ov P x = true from by unfold askX; rw [if_neg c_62, if_pos (by omega), if_pos c_137, decide_eq_true (by omega)]]; rfl) | (rw [bI_n0 c_126, show askX ov P x = true from by unfold askX; rw [if_neg c_62, if_pos (by omega), if_neg c_137, decide_eq_true (by omega)]]; rfl)]; exact (lv_sub hl [0, 1, 5, 6] rfl))
  refine lv_iconst (v := nI 1) hx hb d_MO_asked_0 (by decide) ?_
  refine lv_istore_n (lv' := [(2, .int (nI 1)), (0, .ref mo), (1, .int (nI q))]) hx hb d_MO_asked_1 rfl hl (by decide) rfl (fun ls hl => ?_)
  refine lv_iconst (v := nI 0) hx hb d_MO_asked_2 (by decide) ?_
  refine lv_istore_n (lv' := [(3, .int (nI 0)), (2, .int (nI 1)), (0, .ref mo), (1, .int (nI q))]) hx hb d_MO_asked_3 rfl hl (by decide) rfl (fun ls hl => ?_)
  exact loop (R.2.length + 1) 0 (by omega) (by omega) ls (lv_sub hl [0, 1, 2, 3] rfl)
