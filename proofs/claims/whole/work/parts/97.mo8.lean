set_option maxHeartbeats 4000000 in
set_option maxRecDepth 100000 in
/-- the reference: stratify -/
theorem c_MO_stratify (l : Launch) (X : gs_X) (σ : gs_St) (mo : Nat) (A Z : Nat → Nat) (nr : Nat) (Q : List MR) (f3 f18 f19 f20 f21 f22 f23 : Nat → Int32)
    (m0 : σ mo = some (moE A Z)) (hN : (aL A).Nodup) (z1 : Z 1 = nr) (z16 : Z 16 = Q.length) (m3 : σ (A 3) = some (gs_ia X 12 f3)) (m18 : σ (A 18) = some (gs_ia X 25 f18)) (m20 : σ (A 20) = some (gs_ia X 25 f20)) (m21 : σ (A 21) = some (gs_ia X 150 f21)) (m22 : σ (A 22) = some (gs_ia X 150 f22)) (hnr : nr ≤ 12) (hQl : Q.length ≤ 24) (hQ : ∀ q R, Q[q]? = some R → rAt f18 f19 f20 f21 f22 f23 q R ∧ mrB nr R) : gs_Mi l X y_MO_stratify b_MO_stratify 7 (some .boolean) ({ frames := 0, cells := 0, slots := 0, locals := 0 }) σ [.ref mo] (fun r σ' => ∃ f3', σ' = gs_up σ (A 3) (gs_ia X 12 f3') ∧ sOn nr f3' (mfs Q nr).1 1900 ∧ r = bI (mok Q nr)) := by
  refine Met.ofW (cc := b_MO_stratify) (maxL := 7) (ret := (some .boolean)) (by decide) rfl ?_
  intro p e s m args below meth c s₁ B₀ hml hv
  obtain ⟨rfl, hK, hG, hz, hE⟩ := hv
  have hx := B₀.exec
  have hb := B₀.bytes
  have hr := B₀.returns
  have hts := atoms_spec (ws := gs_ws y_MO_stratify b_MO_stratify 7 (some .boolean)) B₀.pre
  have ht : ∀ w ∈ gs_w, w.before _ s = true := fun w h => hts w (List.mem_cons_of_mem _ h)
  have hown : s.vm.findClass R_MO = some m.cls := findClass_of_methodNamed B₀.named
  have hlocks := B₀.notSynchronized
  have hA : ∀ q : Nat, s.heap.size ≤ q → gs_A X q := fun q h => Nat.le_trans hz h
  have hS : va_S (gs_A X) s.heap s.heap [] := va_S.rf
  have hl := lv_entry ([.ref mo]) (n := 7) (Nat.le_of_ble_eq_true rfl)
  rw [lg_entry_eq]
  generalize (lg_sl ([.ref mo]) ++ List.replicate (7 - (lg_sl ([.ref mo])).length) Slot.unset).toArray = ls at hl ⊢
  have hl : lv_has ls 7 [(0, .ref mo)] := hl
  have loopz : ∀ (fl : Nat) (i : Nat) (fz : Nat → Int32) (σz : gs_St), (i ≤ nr) → (σz = gs_up σ (A 3) (gs_ia X 12 fz)) → (sOn nr fz (mfs Q nr).1 1900) → nr - i < fl → (σz mo = some (moE A Z)) → (σz (A 3) = some (gs_ia X 12 fz)) → (σz (A 18) = some (gs_ia X 25 f18)) → (σz (A 20) = some (gs_ia X 25 f20)) → (σz (A 21) = some (gs_ia X 150 f21)) → (σz (A 22) = some (gs_ia X 150 f22)) → ∀ (H : Heap) (locs : List Loc), gs_H X σz H → va_S (gs_A X) s.heap H locs → ∀ ls, lv_has ls 7 [(2, .int (nI i)), (1, .int (bI ((mfs Q nr).2 && sgB (mfs Q nr).1 nr i))), (0, .ref mo)] → W p l e ({ frames := 0, cells := 0, slots := 0, locals := 0 } : Room) s m ([.ref mo] : List Value).toArray below meth c H locs 0 0 (MQ below (va_Qi (fun r σ' => ∃ f3', σ' = gs_up σ (A 3) (gs_ia X 12 f3') ∧ sOn nr f3' (mfs Q nr).1 1900 ∧ r = bI (mok Q nr)) (gs_U X) (gs_A X)) ([.ref mo] : List Value).toArray s 0 0 (gs_A X)) (F0 m 181 ls []) := by
    intro fl
    induction fl with
    | zero => intro i fz σz _ _ _ h9; omega
    | succ fl ih =>
      intro i fz σz hi ez hz9 hmu y_moz y_3z y_18z y_20z y_21z y_22z H locs hG hS ls hl
      refine lv_iload_n hx hb d_MO_stratify_181 rfl (lv_at hl 0 rfl) ?_
      refine lv_aload_n hx hb d_MO_stratify_182 rfl (lv_at hl 2 rfl) ?_
      refine gs_get (v := .int (nI (Z 1))) hx hb ht hown hK hG k_MO y_moz 1 (by decide) w_663 rfl d_MO_stratify_183 ?_
      refine gs_top (show nI (Z 1) = nI nr from congrArg nI (show Z 1 = nr from z1)) ?_
      refine lv_icmp_ge (tgt := 218) hx hb d_MO_stratify_186 (by decide) (fun c_186 => ?_) (fun c_186 => ?_)
      · have c_186 : nr ≤ i := (nI_leI (by omega) (by omega)).mp c_186
        refine lv_iload_n hx hb d_MO_stratify_218 rfl (lv_at hl 1 rfl) ?_
        exact gs_iret (v := (bI ((mfs Q nr).2 && sgB (mfs Q nr).1 nr i))) hx hb hr (bI_nar _) hK hE hz hG hS hlocks (by first | decide | omega | (dsimp only [headSpec]; omega)) (by first | decide | omega | (dsimp only [headSpec]; omega)) (⟨fz, ez, hz9, by rw [show i = nr by omega]; rfl⟩) d_MO_stratify_219
      · have c_186 : ¬ nr ≤ i := mt (nI_leI (by omega) (by omega)).mpr c_186
        have hz1 := hz9 i (by omega)
        refine lv_iload_n hx hb d_MO_stratify_189 rfl (lv_at hl 1 rfl) ?_
        refine lv_if_eq (tgt := 210) hx hb d_MO_stratify_190 (by decide) (fun c_190 => ?_) (fun c_190 => ?_)
        · refine lv_iconst (v := nI 0) hx hb d_MO_stratify_210 (by decide) ?_
          refine lv_istore_n (lv' := [(1, .int (nI 0)), (2, .int (nI i)), (0, .ref mo)]) hx hb d_MO_stratify_211 rfl hl (by decide) rfl (fun ls hl => ?_)
          refine lv_iinc (v := (nI (i + 1))) (lv' := [(2, .int (nI (i + 1))), (1, .int (nI 0)), (0, .ref mo)]) hx hb d_MO_stratify_212 hl (k := 1) rfl (by exact nI_1 _) (by decide) rfl (fun ls hl => ?_)
          refine lv_goto (tgt := 181) hx hb d_MO_stratify_215 (by decide) ?_
          exact ih (i + 1) fz σz (by omega) ez hz9 (by omega) y_moz y_3z y_18z y_20z y_21z y_22z H locs hG hS ls (by rw [show bI ((mfs Q nr).2 && sgB (mfs Q nr).1 nr (i + 1)) = nI 0 from by rw [sgB_s, ← Bool.and_assoc]; first | (rw [bI_0 c_190]; rfl) | (rw [decide_eq_false (show ¬ (mfs Q nr).1 i < nr by omega), Bool.and_false]; rfl)]; exact (lv_sub hl [0, 1, 2] rfl))
        · refine lv_aload_n hx hb d_MO_stratify_193 rfl (lv_at hl 2 rfl) ?_
          refine gs_get (v := .ref (A 3)) hx hb ht hown hK hG k_MO y_moz 3 (by decide) w_665 rfl d_MO_stratify_194 ?_
          refine lv_iload_n hx hb d_MO_stratify_197 rfl (lv_at hl 0 rfl) ?_
          refine gs_iald hx hb hK hG y_3z (j := i) (by omega) (by omega) d_MO_stratify_198 ?_
          refine gs_top (show (fz i) = (nI ((mfs Q nr).1 i)) from hz1.1) ?_
          refine lv_aload_n hx hb d_MO_stratify_199 rfl (lv_at hl 2 rfl) ?_
          refine gs_get (v := .int (nI (Z 1))) hx hb ht hown hK hG k_MO y_moz 1 (by decide) w_663 rfl d_MO_stratify_200 ?_
          refine gs_top (show nI (Z 1) = nI nr from congrArg nI (show Z 1 = nr from z1)) ?_
          refine lv_icmp_ge (tgt := 210) hx hb d_MO_stratify_203 (by decide) (fun c_203 => ?_) (fun c_203 => ?_)
          · have c_203 : nr ≤ ((mfs Q nr).1 i) := (nI_leI (by omega) (by omega)).mp c_203
            refine lv_iconst (v := nI 0) hx hb d_MO_stratify_210 (by decide) ?_
            refine lv_istore_n (lv' := [(1, .int (nI 0)), (2, .int (nI i)), (0, .ref mo)]) hx hb d_MO_stratify_211 rfl hl (by decide) rfl (fun ls hl => ?_)
            refine lv_iinc (v := (nI (i + 1))) (lv' := [(2, .int (nI (i + 1))), (1, .int (nI 0)), (0, .ref mo)]) hx hb d_MO_stratify_212 hl (k := 1) rfl (by exact nI_1 _) (by decide) rfl (fun ls hl => ?_)
            refine lv_goto (tgt := 181) hx hb d_MO_stratify_215 (by decide) ?_
            exact ih (i + 1) fz σz (by omega) ez hz9 (by omega) y_moz y_3z y_18z y_20z y_21z y_22z H locs hG hS ls (by rw [show bI ((mfs Q nr).2 && sgB (mfs Q nr).1 nr (i + 1)) = nI 0 from by rw [sgB_s, ← Bool.and_assoc]; first | (rw [bI_0 c_190]; rfl) | (rw [decide_eq_false (show ¬ (mfs Q nr).1 i < nr by omega), Bool.and_false]; rfl)]; exact (lv_sub hl [0, 1, 2] rfl))
          · have c_203 : ¬ nr ≤ ((mfs Q nr).1 i) := mt (nI_leI (by omega) (by omega)).mpr c_203
            refine lv_iconst (v := nI 1) hx hb d_MO_stratify_206 (by decide) ?_
            refine lv_goto (tgt := 211) hx hb d_MO_stratify_207 (by decide) ?_
            refine lv_istore_n (lv' := [(1, .int (nI 1)), (2, .int (nI i)), (0, .ref mo)]) hx hb d_MO_stratify_211 rfl hl (by decide) rfl (fun ls hl => ?_)
            refine lv_iinc (v := (nI (i + 1))) (lv' := [(2, .int (nI (i + 1))), (1, .int (nI 1)), (0, .ref mo)]) hx hb d_MO_stratify_212 hl (k := 1) rfl (by exact nI_1 _) (by decide) rfl (fun ls hl => ?_)
            refine lv_goto (tgt := 181) hx hb d_MO_stratify_215 (by decide) ?_
            exact ih (i + 1) fz σz (by omega) ez hz9 (by omega) y_moz y_3z y_18z y_20z y_21z y_22z H locs hG hS ls (by rw [show bI ((mfs Q nr).2 && sgB (mfs Q nr).1 nr (i + 1)) = nI 1 from by rw [sgB_s, ← Bool.and_assoc]; (rw [bI_n0 c_190, decide_eq_true (show (mfs Q nr).1 i < nr by omega)]; rfl)]; exact (lv_sub hl [0, 1, 2] rfl))
  have loop1 : ∀ (fl : Nat) (n : Nat) (S1 : Nat → Nat) (r1 : Bool) (fa : Nat → Int32) (σ1 : gs_St), (n ≤ nr + 1) → (mit Q (nr + 1 - n) (S1, r1) = mfs Q nr) → (σ1 = gs_up σ (A 3) (gs_ia X 12 fa)) → (sOn nr fa S1 (144 * n)) → nr + 1 - n < fl → (σ1 mo = some (moE A Z)) → (σ1 (A 3) = some (gs_ia X 12 fa)) → (σ1 (A 18) = some (gs_ia X 25 f18)) → (σ1 (A 20) = some (gs_ia X 25 f20)) → (σ1 (A 21) = some (gs_ia X 150 f21)) → (σ1 (A 22) = some (gs_ia X 150 f22)) → ∀ (H : Heap) (locs : List Loc), gs_H X σ1 H → va_S (gs_A X) s.heap H locs → ∀ ls, lv_has ls 7 [(2, .int (nI n)), (1, .int (bI r1)), (0, .ref mo)] → W p l e ({ frames := 0, cells := 0, slots := 0, locals := 0 } : Room) s m ([.ref mo] : List Value).toArray below meth c H locs 0 0 (MQ below (va_Qi (fun r σ' => ∃ f3', σ' = gs_up σ (A 3) (gs_ia X 12 f3') ∧ sOn nr f3' (mfs Q nr).1 1900 ∧ r = bI (mok Q nr)) (gs_U X) (gs_A X)) ([.ref mo] : List Value).toArray s 0 0 (gs_A X)) (F0 m 27 ls []) := by
    intro fl
    induction fl with
    | zero => intro n S1 r1 fa σ1 _ _ _ _ h9; omega
    | succ fl ih =>
      intro n S1 r1 fa σ1 hn hst e1 hs1 hmu y_mo1 y_31 y_181 y_201 y_211 y_221 H locs hG hS ls hl
      refine lv_iload_n hx hb d_MO_stratify_27 rfl (lv_at hl 0 rfl) ?_
      refine lv_aload_n hx hb d_MO_stratify_28 rfl (lv_at hl 2 rfl) ?_
      refine gs_get (v := .int (nI (Z 1))) hx hb ht hown hK hG k_MO y_mo1 1 (by decide) w_663 rfl d_MO_stratify_29 ?_
      refine gs_top (show nI (Z 1) = nI nr from congrArg nI (show Z 1 = nr from z1)) ?_
      refine lv_icmp_gt (tgt := 179) hx hb d_MO_stratify_32 (by decide) (fun c_32 => ?_) (fun c_32 => ?_)
      · have c_32 : nr < n := (nI_ltI (by omega) (by omega)).mp c_32
        refine lv_iconst (v := nI 0) hx hb d_MO_stratify_179 (by decide) ?_
        refine lv_istore_n (lv' := [(2, .int (nI 0)), (1, .int (bI r1)), (0, .ref mo)]) hx hb d_MO_stratify_180 rfl hl (by decide) rfl (fun ls hl => ?_)
        have hfin : (S1, r1) = mfs Q nr := by
          first
          | (rw [← hst, mit_t Q _ _ (bI_n0 c_36)]; done)
          | (rw [← hst, show nr + 1 - n = 0 by omega]; rfl)
        have ef1 : S1 = (mfs Q nr).1 := congrArg Prod.fst hfin
        have ef2 : r1 = (mfs Q nr).2 := congrArg Prod.snd hfin
        exact loopz (nr + 1) 0 fa σ1 (by omega) e1 (by rw [← ef1]; exact sOn_mono hs1 (by omega)) (by omega) y_mo1 y_31 y_181 y_201 y_211 y_221 H locs hG hS ls (by rw [show ((mfs Q nr).2 && sgB (mfs Q nr).1 nr 0) = r1 from by rw [← ef2]; unfold sgB; simp]; exact (lv_sub hl [0, 1, 2] rfl))
      · have c_32 : ¬ nr < n := mt (nI_ltI (by omega) (by omega)).mpr c_32
        refine lv_iload_n hx hb d_MO_stratify_35 rfl (lv_at hl 1 rfl) ?_
        refine lv_if_ne (tgt := 179) hx hb d_MO_stratify_36 (by decide) (fun c_36 => ?_) (fun c_36 => ?_)
        · refine lv_iconst (v := nI 0) hx hb d_MO_stratify_179 (by decide) ?_
          refine lv_istore_n (lv' := [(2, .int (nI 0)), (1, .int (bI r1)), (0, .ref mo)]) hx hb d_MO_stratify_180 rfl hl (by decide) rfl (fun ls hl => ?_)
          have hfin : (S1, r1) = mfs Q nr := by
            first
            | (rw [← hst, mit_t Q _ _ (bI_n0 c_36)]; done)
            | (rw [← hst, show nr + 1 - n = 0 by omega]; rfl)
          have ef1 : S1 = (mfs Q nr).1 := congrArg Prod.fst hfin
          have ef2 : r1 = (mfs Q nr).2 := congrArg Prod.snd hfin
          exact loopz (nr + 1) 0 fa σ1 (by omega) e1 (by rw [← ef1]; exact sOn_mono hs1 (by omega)) (by omega) y_mo1 y_31 y_181 y_201 y_211 y_221 H locs hG hS ls (by rw [show ((mfs Q nr).2 && sgB (mfs Q nr).1 nr 0) = r1 from by rw [← ef2]; unfold sgB; simp]; exact (lv_sub hl [0, 1, 2] rfl))
        · have er1 := bI_0 c_36
          have hst2 : mit Q (nr + 1 - (n + 1)) (mst Q S1) = mfs Q nr := by
            rw [← hst, show nr + 1 - n = (nr + 1 - (n + 1)) + 1 by omega, er1]
            rfl
          have loop2 : ∀ (fl2 : Nat) (q : Nat) (S2 : Nat → Nat) (r2 : Bool) (fb : Nat → Int32) (σ2 : gs_St), (q ≤ Q.length) → ((Q.drop q).foldl mq1 (S2, r2) = mst Q S1) → (σ2 = gs_up σ (A 3) (gs_ia X 12 fb)) → (sOn nr fb S2 (144 * n + 6 * q)) → Q.length - q < fl2 → (σ2 mo = some (moE A Z)) → (σ2 (A 3) = some (gs_ia X 12 fb)) → (σ2 (A 18) = some (gs_ia X 25 f18)) → (σ2 (A 20) = some (gs_ia X 25 f20)) → (σ2 (A 21) = some (gs_ia X 150 f21)) → (σ2 (A 22) = some (gs_ia X 150 f22)) → ∀ (H : Heap) (locs : List Loc), gs_H X σ2 H → va_S (gs_A X) s.heap H locs → ∀ ls, lv_has ls 7 [(3, .int (nI q)), (2, .int (nI n)), (1, .int (bI r2)), (0, .ref mo)] → W p l e ({ frames := 0, cells := 0, slots := 0, locals := 0 } : Room) s m ([.ref mo] : List Value).toArray below meth c H locs 0 0 (MQ below (va_Qi (fun r σ' => ∃ f3', σ' = gs_up σ (A 3) (gs_ia X 12 f3') ∧ sOn nr f3' (mfs Q nr).1 1900 ∧ r = bI (mok Q nr)) (gs_U X) (gs_A X)) ([.ref mo] : List Value).toArray s 0 0 (gs_A X)) (F0 m 43 ls []) := by
            intro fl2
            induction fl2 with
            | zero => intro q S2 r2 fb σ2 _ _ _ _ h9; omega
            | succ fl2 ih2 =>
              intro q S2 r2 fb σ2 hq hst3 e2 hs2 hmu2 y_mo2 y_32 y_182 y_202 y_212 y_222 H locs hG hS ls hl
              refine lv_iload_n hx hb d_MO_stratify_43 rfl (lv_at hl 0 rfl) ?_
              refine lv_aload_n hx hb d_MO_stratify_44 rfl (lv_at hl 3 rfl) ?_
              refine gs_get (v := .int (nI (Z 16))) hx hb ht hown hK hG k_MO y_mo2 16 (by decide) w_678 rfl d_MO_stratify_45 ?_
              refine gs_top (show nI (Z 16) = nI Q.length from congrArg nI (show Z 16 = Q.length from z16)) ?_
              refine lv_icmp_ge (tgt := 173) hx hb d_MO_stratify_48 (by decide) (fun c_48 => ?_) (fun c_48 => ?_)
              · have c_48 : Q.length ≤ q := (nI_leI (by omega) (by omega)).mp c_48
                refine lv_iinc (v := (nI (n + 1))) (lv' := [(2, .int (nI (n + 1))), (3, .int (nI q)), (1, .int (bI r2)), (0, .ref mo)]) hx hb d_MO_stratify_173 hl (k := 1) rfl (by exact nI_1 _) (by decide) rfl (fun ls hl => ?_)
                refine lv_goto (tgt := 27) hx hb d_MO_stratify_176 (by decide) ?_
                have hqe : q = Q.length := by omega
                rw [hqe, List.drop_length] at hst3
                exact ih (n + 1) S2 r2 fb σ2 (by omega) (by rw [show (S2, r2) = mst Q S1 from hst3]; exact hst2) e2 (sOn_mono hs2 (by omega)) (by omega) y_mo2 y_32 y_182 y_202 y_212 y_222 H locs hG hS ls (lv_sub hl [0, 2, 3] rfl)
              · have c_48 : ¬ Q.length ≤ q := mt (nI_leI (by omega) (by omega)).mpr c_48
                have hqQ : q < Q.length := by omega
                obtain ⟨R, hR8⟩ := get_ex (L := Q) (j := q) hqQ
                obtain ⟨hR9, hRB⟩ := hQ _ _ hR8
                have hRl := hRB.2.2.1
                have hst4 : (Q.drop (q + 1)).foldl mq1 (R.2.foldl (mi1 R.1.1) (S2, r2)) = mst Q S1 := by rw [← hst3, drop_cons9 hR8]; rfl
                have loop3 : ∀ (fl3 : Nat) (i : Nat) (S3 : Nat → Nat) (r3 : Bool) (fc : Nat → Int32) (σ3 : gs_St), (i ≤ R.2.length) → ((R.2.drop i).foldl (mi1 R.1.1) (S3, r3) = R.2.foldl (mi1 R.1.1) (S2, r2)) → (σ3 = gs_up σ (A 3) (gs_ia X 12 fc)) → (sOn nr fc S3 (144 * n + 6 * q + i)) → R.2.length - i < fl3 → (σ3 mo = some (moE A Z)) → (σ3 (A 3) = some (gs_ia X 12 fc)) → (σ3 (A 18) = some (gs_ia X 25 f18)) → (σ3 (A 20) = some (gs_ia X 25 f20)) → (σ3 (A 21) = some (gs_ia X 150 f21)) → (σ3 (A 22) = some (gs_ia X 150 f22)) → ∀ (H : Heap) (locs : List Loc), gs_H X σ3 H → va_S (gs_A X) s.heap H locs → ∀ ls, lv_has ls 7 [(4, .int (nI i)), (3, .int (nI q)), (2, .int (nI n)), (1, .int (bI r3)), (0, .ref mo)] → W p l e ({ frames := 0, cells := 0, slots := 0, locals := 0 } : Room) s m ([.ref mo] : List Value).toArray below meth c H locs 0 0 (MQ below (va_Qi (fun r σ' => ∃ f3', σ' = gs_up σ (A 3) (gs_ia X 12 f3') ∧ sOn nr f3' (mfs Q nr).1 1900 ∧ r = bI (mok Q nr)) (gs_U X) (gs_A X)) ([.ref mo] : List Value).toArray s 0 0 (gs_A X)) (F0 m 54 ls []) := by
                  intro fl3
                  induction fl3 with
                  | zero => intro i S3 r3 fc σ3 _ _ _ _ h9; omega
                  | succ fl3 ih3 =>
                    intro i S3 r3 fc σ3 hi hst5 e3 hs3 hmu3 y_mo3 y_33 y_183 y_203 y_213 y_223 H locs hG hS ls hl
                    refine lv_iload hx hb d_MO_stratify_54 (lv_at hl 0 rfl) ?_
                    refine lv_aload_n hx hb d_MO_stratify_56 rfl (lv_at hl 4 rfl) ?_
                    refine gs_get (v := .ref (A 20)) hx hb ht hown hK hG k_MO y_mo3 20 (by decide) w_682 rfl d_MO_stratify_57 ?_
                    refine lv_iload_n hx hb d_MO_stratify_60 rfl (lv_at hl 1 rfl) ?_
                    refine gs_iald hx hb hK hG y_203 (j := q) (by omega) (by omega) d_MO_stratify_61 ?_
                    refine gs_top (show (f20 q) = (nI R.2.length) from hR9.2.2.1) ?_
                    refine lv_icmp_ge (tgt := 167) hx hb d_MO_stratify_62 (by decide) (fun c_62 => ?_) (fun c_62 => ?_)
                    · have c_62 : R.2.length ≤ i := (nI_leI (by omega) (by omega)).mp c_62
                      refine lv_iinc (v := (nI (q + 1))) (lv' := [(3, .int (nI (q + 1))), (4, .int (nI i)), (2, .int (nI n)), (1, .int (bI r3)), (0, .ref mo)]) hx hb d_MO_stratify_167 hl (k := 1) rfl (by exact nI_1 _) (by decide) rfl (fun ls hl => ?_)
                      refine lv_goto (tgt := 43) hx hb d_MO_stratify_170 (by decide) ?_
                      have hie : i = R.2.length := by omega
                      rw [hie, List.drop_length] at hst5
                      exact ih2 (q + 1) S3 r3 fc σ3 (by omega) (by rw [← hst4, ← hst5]; rfl) e3 (sOn_mono hs3 (by omega)) (by omega) y_mo3 y_33 y_183 y_203 y_213 y_223 H locs hG hS ls (lv_sub hl [0, 2, 3, 4] rfl)
                    · have c_62 : ¬ R.2.length ≤ i := mt (nI_leI (by omega) (by omega)).mpr c_62
                      have hiR : i < R.2.length := by omega
                      obtain ⟨x, hx9⟩ := get_ex (L := R.2) (j := i) hiR
                      obtain ⟨hx1, hx2, hx3⟩ := hR9.2.2.2 _ _ hx9
                      have hx4 := hRB.2.2.2.2 _ (List.mem_of_getElem? hx9)
                      have hx5 := hx4.1
                      have hh := hs3 R.1.1 hRB.1
                      have hle := ls1_le hs3 hx4.2.1
                      have hst6 : (R.2.drop (i + 1)).foldl (mi1 R.1.1) (mi1 R.1.1 (S3, r3) x) = R.2.foldl (mi1 R.1.1) (S2, r2) := by rw [← hst5, drop_cons9 hx9]; rfl
                      have hb1 : R.1.1 < nr := hRB.1
                      have hb2 := hx4.2.2.1
                      refine lv_bipush (v := nI 6) hx hb d_MO_stratify_65 (by decide) ?_
                      refine lv_iload_n hx hb d_MO_stratify_67 rfl (lv_at hl 1 rfl) ?_
                      refine lv_imul hx hb d_MO_stratify_68 ?_
                      refine gs_top (pk_mul 6 q) ?_
                      refine lv_iload hx hb d_MO_stratify_69 (lv_at hl 0 rfl) ?_
                      refine lv_iadd hx hb d_MO_stratify_71 ?_
                      refine gs_top (nI_add (6 * q) i) ?_
                      refine lv_istore (lv' := [(5, .int (nI ((6 * q) + i))), (4, .int (nI i)), (3, .int (nI q)), (2, .int (nI n)), (1, .int (bI r3)), (0, .ref mo)]) hx hb d_MO_stratify_72 hl (by decide) rfl (fun ls hl => ?_)
                      refine lv_aload_n hx hb d_MO_stratify_74 rfl (lv_at hl 5 rfl) ?_
                      refine gs_get (v := .ref (A 21)) hx hb ht hown hK hG k_MO y_mo3 21 (by decide) w_683 rfl d_MO_stratify_75 ?_
                      refine lv_iload hx hb d_MO_stratify_78 (lv_at hl 0 rfl) ?_
                      refine gs_iald hx hb hK hG y_213 (j := (6 * q) + i) (by omega) (by omega) d_MO_stratify_80 ?_
                      refine gs_top (show (f21 ((6 * q) + i)) = (nI x.1) from hx1) ?_
                      refine lv_if_ne (tgt := 99) hx hb d_MO_stratify_81 (by decide) (fun c_81 => ?_) (fun c_81 => ?_)
                      · have c_81 : ¬ x.1 = 0 := gs_zn (by omega) c_81
                        refine lv_aload_n hx hb d_MO_stratify_99 rfl (lv_at hl 5 rfl) ?_
                        refine gs_get (v := .ref (A 21)) hx hb ht hown hK hG k_MO y_mo3 21 (by decide) w_683 rfl d_MO_stratify_100 ?_
                        refine lv_iload hx hb d_MO_stratify_103 (lv_at hl 0 rfl) ?_
                        refine gs_iald hx hb hK hG y_213 (j := (6 * q) + i) (by omega) (by omega) d_MO_stratify_105 ?_
                        refine gs_top (show (f21 ((6 * q) + i)) = (nI x.1) from hx1) ?_
                        refine lv_iconst (v := nI 1) hx hb d_MO_stratify_106 (by decide) ?_
                        refine lv_icmp_ne (tgt := 127) hx hb d_MO_stratify_107 (by decide) (fun c_107 => ?_) (fun c_107 => ?_)
                        · have c_107 : ¬ x.1 = 1 := mt (nI_eq (by omega) (by omega)).mpr c_107
                          refine lv_iconst (v := nI 0) hx hb d_MO_stratify_127 (by decide) ?_
                          refine lv_istore (lv' := [(6, .int (nI 0)), (5, .int (nI ((6 * q) + i))), (4, .int (nI i)), (3, .int (nI q)), (2, .int (nI n)), (1, .int (bI r3)), (0, .ref mo)]) hx hb d_MO_stratify_128 hl (by decide) rfl (fun ls hl => ?_)
                          refine lv_iload hx hb d_MO_stratify_130 (lv_at hl 0 rfl) ?_
                          refine lv_aload_n hx hb d_MO_stratify_132 rfl (lv_at hl 6 rfl) ?_
                          refine gs_get (v := .ref (A 3)) hx hb ht hown hK hG k_MO y_mo3 3 (by decide) w_665 rfl d_MO_stratify_133 ?_
                          refine lv_aload_n hx hb d_MO_stratify_136 rfl (lv_at hl 6 rfl) ?_
                          refine gs_get (v := .ref (A 18)) hx hb ht hown hK hG k_MO y_mo3 18 (by decide) w_680 rfl d_MO_stratify_137 ?_
                          refine lv_iload_n hx hb d_MO_stratify_140 rfl (lv_at hl 3 rfl) ?_
                          refine gs_iald hx hb hK hG y_183 (j := q) (by omega) (by omega) d_MO_stratify_141 ?_
                          refine gs_top (show (f18 q) = (nI R.1.1) from hR9.1) ?_
                          refine gs_iald hx hb hK hG y_33 (j := R.1.1) (by omega) (by omega) d_MO_stratify_142 ?_
                          refine gs_top (show (fc R.1.1) = (nI (S3 R.1.1)) from hh.1) ?_
                          refine lv_icmp_le (tgt := 161) hx hb d_MO_stratify_143 (by decide) (fun c_143 => ?_) (fun c_143 => ?_)
                          · have c_143 : 0 ≤ (S3 R.1.1) := (nI_leI (by omega) (by omega)).mp c_143
                            refine lv_iinc (v := (nI (i + 1))) (lv' := [(4, .int (nI (i + 1))), (6, .int (nI 0)), (5, .int (nI ((6 * q) + i))), (3, .int (nI q)), (2, .int (nI n)), (1, .int (bI r3)), (0, .ref mo)]) hx hb d_MO_stratify_161 hl (k := 2) rfl (by exact nI_1 _) (by decide) rfl (fun ls hl => ?_)
                            refine lv_goto (tgt := 54) hx hb d_MO_stratify_164 (by decide) ?_
                            have els : ls1 S3 x = 0 := by unfold ls1; first | (rw [if_pos c_81]; done) | (rw [if_neg c_81, if_pos c_107]; done) | (rw [if_neg c_81, if_neg c_107])
                            rw [show mi1 R.1.1 (S3, r3) x = (S3, r3) from by unfold mi1; rw [els]; exact if_neg (by show ¬ S3 R.1.1 < _; omega)] at hst6
                            exact ih3 (i + 1) S3 r3 fc σ3 (by omega) hst6 e3 (sOn_mono hs3 (by omega)) (by omega) y_mo3 y_33 y_183 y_203 y_213 y_223 H locs hG hS ls (lv_sub hl [0, 3, 4, 5, 6] rfl)
                          · have c_143 : ¬ 0 ≤ (S3 R.1.1) := mt (nI_leI (by omega) (by omega)).mpr c_143
                            refine lv_aload_n hx hb d_MO_stratify_146 rfl (lv_at hl 6 rfl) ?_
                            refine gs_get (v := .ref (A 3)) hx hb ht hown hK hG k_MO y_mo3 3 (by decide) w_665 rfl d_MO_stratify_147 ?_
                            refine lv_aload_n hx hb d_MO_stratify_150 rfl (lv_at hl 6 rfl) ?_
                            refine gs_get (v := .ref (A 18)) hx hb ht hown hK hG k_MO y_mo3 18 (by decide) w_680 rfl d_MO_stratify_151 ?_
                            refine lv_iload_n hx hb d_MO_stratify_154 rfl (lv_at hl 3 rfl) ?_
                            refine gs_iald hx hb hK hG y_183 (j := q) (by omega) (by omega) d_MO_stratify_155 ?_
                            refine gs_top (show (f18 q) = (nI R.1.1) from hR9.1) ?_
                            refine lv_iload hx hb d_MO_stratify_156 (lv_at hl 0 rfl) ?_
                            refine gs_iast hx hb hK hG hS y_33 (j := R.1.1) (by omega) (by omega) d_MO_stratify_158 (fun H locs hG hS => ?_)
                            have hG : gs_H X (gs_up σ3 (A 3) (gs_ia X 12 (upd fc R.1.1 (nI 0)))) H := hG
                            obtain ⟨σ_1, eσ_1⟩ : ∃ zq, zq = gs_up σ3 (A 3) (gs_ia X 12 (upd fc R.1.1 (nI 0))) := ⟨_, rfl⟩
                            rw [← eσ_1] at hG
                            have hc_2 : σ_1 mo = some (moE A Z) := by rw [eσ_1]; exact gs_ku (gs_ne y_mo3 y_33 (by simp)) y_mo3
                            have hc_3 : σ_1 (A 18) = some (gs_ia X 25 f18) := by rw [eσ_1]; exact gs_ku (Ne.symm (ndp hN 1 10 (by decide) rfl rfl)) y_183
                            have hc_4 : σ_1 (A 20) = some (gs_ia X 25 f20) := by rw [eσ_1]; exact gs_ku (Ne.symm (ndp hN 1 12 (by decide) rfl rfl)) y_203
                            have hc_5 : σ_1 (A 21) = some (gs_ia X 150 f21) := by rw [eσ_1]; exact gs_ku (Ne.symm (ndp hN 1 13 (by decide) rfl rfl)) y_213
                            have hc_6 : σ_1 (A 22) = some (gs_ia X 150 f22) := by rw [eσ_1]; exact gs_ku (Ne.symm (ndp hN 1 14 (by decide) rfl rfl)) y_223
                            have hc_7 : σ_1 (A 3) = some (gs_ia X 12 (upd fc R.1.1 (nI 0))) := by rw [eσ_1]; exact gs_us
                            refine lv_iconst (v := nI 0) hx hb d_MO_stratify_159 (by decide) ?_
                            refine lv_istore_n (lv' := [(1, .int (nI 0)), (6, .int (nI 0)), (5, .int (nI ((6 * q) + i))), (4, .int (nI i)), (3, .int (nI q)), (2, .int (nI n)), (0, .ref mo)]) hx hb d_MO_stratify_160 rfl hl (by decide) rfl (fun ls hl => ?_)
                            refine lv_iinc (v := (nI (i + 1))) (lv' := [(4, .int (nI (i + 1))), (1, .int (nI 0)), (6, .int (nI 0)), (5, .int (nI ((6 * q) + i))), (3, .int (nI q)), (2, .int (nI n)), (0, .ref mo)]) hx hb d_MO_stratify_161 hl (k := 3) rfl (by exact nI_1 _) (by decide) rfl (fun ls hl => ?_)
                            refine lv_goto (tgt := 54) hx hb d_MO_stratify_164 (by decide) ?_
                            have els : ls1 S3 x = 0 := by unfold ls1; first | (rw [if_pos c_81]; done) | (rw [if_neg c_81, if_pos c_107]; done) | (rw [if_neg c_81, if_neg c_107])
                            rw [show mi1 R.1.1 (S3, r3) x = (va_up S3 R.1.1 (0), false) from by unfold mi1; rw [els]; exact if_pos (by show S3 R.1.1 < _; omega)] at hst6
                            exact ih3 (i + 1) (va_up S3 R.1.1 (0)) false (upd fc R.1.1 (nI 0)) σ_1 (by omega) hst6 (by simp only [*, gs_uu]) (sOn_up hs3 (by omega)) (by omega) hc_2 hc_7 hc_3 hc_4 hc_5 hc_6 H locs hG hS ls (lv_sub hl [0, 4, 5, 1, 6] rfl)
                        · have c_107 : x.1 = 1 :=  (nI_eq (by omega) (by omega)).mp c_107
                          have hb3 := hx4.2.1 (by omega)
                          have hb4 := (hs3 _ hb3).2
                          refine lv_aload_n hx hb d_MO_stratify_110 rfl (lv_at hl 5 rfl) ?_
                          refine gs_get (v := .ref (A 3)) hx hb ht hown hK hG k_MO y_mo3 3 (by decide) w_665 rfl d_MO_stratify_111 ?_
                          refine lv_aload_n hx hb d_MO_stratify_114 rfl (lv_at hl 5 rfl) ?_
                          refine gs_get (v := .ref (A 22)) hx hb ht hown hK hG k_MO y_mo3 22 (by decide) w_684 rfl d_MO_stratify_115 ?_
                          refine lv_iload hx hb d_MO_stratify_118 (lv_at hl 0 rfl) ?_
                          refine gs_iald hx hb hK hG y_223 (j := (6 * q) + i) (by omega) (by omega) d_MO_stratify_120 ?_
                          refine gs_top (show (f22 ((6 * q) + i)) = (nI x.2.1) from hx2) ?_
                          refine gs_iald hx hb hK hG y_33 (j := x.2.1) (by omega) (by omega) d_MO_stratify_121 ?_
                          refine gs_top (show (fc x.2.1) = (nI (S3 x.2.1)) from (hs3 _ (hx4.2.1 (by omega))).1) ?_
                          refine lv_iconst (v := nI 1) hx hb d_MO_stratify_122 (by decide) ?_
                          refine lv_iadd hx hb d_MO_stratify_123 ?_
                          refine gs_top (nI_add (S3 x.2.1) 1) ?_
                          refine lv_goto (tgt := 128) hx hb d_MO_stratify_124 (by decide) ?_
                          refine lv_istore (lv' := [(6, .int (nI ((S3 x.2.1) + 1))), (5, .int (nI ((6 * q) + i))), (4, .int (nI i)), (3, .int (nI q)), (2, .int (nI n)), (1, .int (bI r3)), (0, .ref mo)]) hx hb d_MO_stratify_128 hl (by decide) rfl (fun ls hl => ?_)
                          refine lv_iload hx hb d_MO_stratify_130 (lv_at hl 0 rfl) ?_
                          refine lv_aload_n hx hb d_MO_stratify_132 rfl (lv_at hl 6 rfl) ?_
                          refine gs_get (v := .ref (A 3)) hx hb ht hown hK hG k_MO y_mo3 3 (by decide) w_665 rfl d_MO_stratify_133 ?_
                          refine lv_aload_n hx hb d_MO_stratify_136 rfl (lv_at hl 6 rfl) ?_
                          refine gs_get (v := .ref (A 18)) hx hb ht hown hK hG k_MO y_mo3 18 (by decide) w_680 rfl d_MO_stratify_137 ?_
                          refine lv_iload_n hx hb d_MO_stratify_140 rfl (lv_at hl 3 rfl) ?_
                          refine gs_iald hx hb hK hG y_183 (j := q) (by omega) (by omega) d_MO_stratify_141 ?_
                          refine gs_top (show (f18 q) = (nI R.1.1) from hR9.1) ?_
                          refine gs_iald hx hb hK hG y_33 (j := R.1.1) (by omega) (by omega) d_MO_stratify_142 ?_
                          refine gs_top (show (fc R.1.1) = (nI (S3 R.1.1)) from hh.1) ?_
                          refine lv_icmp_le (tgt := 161) hx hb d_MO_stratify_143 (by decide) (fun c_143 => ?_) (fun c_143 => ?_)
                          · have c_143 : ((S3 x.2.1) + 1) ≤ (S3 R.1.1) := (nI_leI (by omega) (by omega)).mp c_143
                            refine lv_iinc (v := (nI (i + 1))) (lv' := [(4, .int (nI (i + 1))), (6, .int (nI ((S3 x.2.1) + 1))), (5, .int (nI ((6 * q) + i))), (3, .int (nI q)), (2, .int (nI n)), (1, .int (bI r3)), (0, .ref mo)]) hx hb d_MO_stratify_161 hl (k := 2) rfl (by exact nI_1 _) (by decide) rfl (fun ls hl => ?_)
                            refine lv_goto (tgt := 54) hx hb d_MO_stratify_164 (by decide) ?_
                            have els : ls1 S3 x = (S3 x.2.1) + 1 := by unfold ls1; first | (rw [if_pos c_81]; done) | (rw [if_neg c_81, if_pos c_107]; done) | (rw [if_neg c_81, if_neg c_107])
                            rw [show mi1 R.1.1 (S3, r3) x = (S3, r3) from by unfold mi1; rw [els]; exact if_neg (by show ¬ S3 R.1.1 < _; omega)] at hst6
                            exact ih3 (i + 1) S3 r3 fc σ3 (by omega) hst6 e3 (sOn_mono hs3 (by omega)) (by omega) y_mo3 y_33 y_183 y_203 y_213 y_223 H locs hG hS ls (lv_sub hl [0, 3, 4, 5, 6] rfl)
                          · have c_143 : ¬ ((S3 x.2.1) + 1) ≤ (S3 R.1.1) := mt (nI_leI (by omega) (by omega)).mpr c_143
                            refine lv_aload_n hx hb d_MO_stratify_146 rfl (lv_at hl 6 rfl) ?_
                            refine gs_get (v := .ref (A 3)) hx hb ht hown hK hG k_MO y_mo3 3 (by decide) w_665 rfl d_MO_stratify_147 ?_
                            refine lv_aload_n hx hb d_MO_stratify_150 rfl (lv_at hl 6 rfl) ?_
                            refine gs_get (v := .ref (A 18)) hx hb ht hown hK hG k_MO y_mo3 18 (by decide) w_680 rfl d_MO_stratify_151 ?_
                            refine lv_iload_n hx hb d_MO_stratify_154 rfl (lv_at hl 3 rfl) ?_
                            refine gs_iald hx hb hK hG y_183 (j := q) (by omega) (by omega) d_MO_stratify_155 ?_
                            refine gs_top (show (f18 q) = (nI R.1.1) from hR9.1) ?_
                            refine lv_iload hx hb d_MO_stratify_156 (lv_at hl 0 rfl) ?_
                            refine gs_iast hx hb hK hG hS y_33 (j := R.1.1) (by omega) (by omega) d_MO_stratify_158 (fun H locs hG hS => ?_)
                            have hG : gs_H X (gs_up σ3 (A 3) (gs_ia X 12 (upd fc R.1.1 (nI ((S3 x.2.1) + 1))))) H := hG
                            obtain ⟨σ_8, eσ_8⟩ : ∃ zq, zq = gs_up σ3 (A 3) (gs_ia X 12 (upd fc R.1.1 (nI ((S3 x.2.1) + 1)))) := ⟨_, rfl⟩
                            rw [← eσ_8] at hG
                            have hc_9 : σ_8 mo = some (moE A Z) := by rw [eσ_8]; exact gs_ku (gs_ne y_mo3 y_33 (by simp)) y_mo3
                            have hc_10 : σ_8 (A 18) = some (gs_ia X 25 f18) := by rw [eσ_8]; exact gs_ku (Ne.symm (ndp hN 1 10 (by decide) rfl rfl)) y_183
                            have hc_11 : σ_8 (A 20) = some (gs_ia X 25 f20) := by rw [eσ_8]; exact gs_ku (Ne.symm (ndp hN 1 12 (by decide) rfl rfl)) y_203
                            have hc_12 : σ_8 (A 21) = some (gs_ia X 150 f21) := by rw [eσ_8]; exact gs_ku (Ne.symm (ndp hN 1 13 (by decide) rfl rfl)) y_213
                            have hc_13 : σ_8 (A 22) = some (gs_ia X 150 f22) := by rw [eσ_8]; exact gs_ku (Ne.symm (ndp hN 1 14 (by decide) rfl rfl)) y_223
                            have hc_14 : σ_8 (A 3) = some (gs_ia X 12 (upd fc R.1.1 (nI ((S3 x.2.1) + 1)))) := by rw [eσ_8]; exact gs_us
                            refine lv_iconst (v := nI 0) hx hb d_MO_stratify_159 (by decide) ?_
                            refine lv_istore_n (lv' := [(1, .int (nI 0)), (6, .int (nI ((S3 x.2.1) + 1))), (5, .int (nI ((6 * q) + i))), (4, .int (nI i)), (3, .int (nI q)), (2, .int (nI n)), (0, .ref mo)]) hx hb d_MO_stratify_160 rfl hl (by decide) rfl (fun ls hl => ?_)
                            refine lv_iinc (v := (nI (i + 1))) (lv' := [(4, .int (nI (i + 1))), (1, .int (nI 0)), (6, .int (nI ((S3 x.2.1) + 1))), (5, .int (nI ((6 * q) + i))), (3, .int (nI q)), (2, .int (nI n)), (0, .ref mo)]) hx hb d_MO_stratify_161 hl (k := 3) rfl (by exact nI_1 _) (by decide) rfl (fun ls hl => ?_)
                            refine lv_goto (tgt := 54) hx hb d_MO_stratify_164 (by decide) ?_
                            have els : ls1 S3 x = (S3 x.2.1) + 1 := by unfold ls1; first | (rw [if_pos c_81]; done) | (rw [if_neg c_81, if_pos c_107]; done) | (rw [if_neg c_81, if_neg c_107])
                            rw [show mi1 R.1.1 (S3, r3) x = (va_up S3 R.1.1 ((S3 x.2.1) + 1), false) from by unfold mi1; rw [els]; exact if_pos (by show S3 R.1.1 < _; omega)] at hst6
                            exact ih3 (i + 1) (va_up S3 R.1.1 ((S3 x.2.1) + 1)) false (upd fc R.1.1 (nI ((S3 x.2.1) + 1))) σ_8 (by omega) hst6 (by simp only [*, gs_uu]) (sOn_up hs3 (by omega)) (by omega) hc_9 hc_14 hc_10 hc_11 hc_12 hc_13 H locs hG hS ls (lv_sub hl [0, 4, 5, 1, 6] rfl)
                      · have c_81 : x.1 = 0 := gs_z (by omega) c_81
                        have hb3 := hx4.2.1 (by omega)
                        have hb4 := (hs3 _ hb3).2
                        refine lv_aload_n hx hb d_MO_stratify_84 rfl (lv_at hl 5 rfl) ?_
                        refine gs_get (v := .ref (A 3)) hx hb ht hown hK hG k_MO y_mo3 3 (by decide) w_665 rfl d_MO_stratify_85 ?_
                        refine lv_aload_n hx hb d_MO_stratify_88 rfl (lv_at hl 5 rfl) ?_
                        refine gs_get (v := .ref (A 22)) hx hb ht hown hK hG k_MO y_mo3 22 (by decide) w_684 rfl d_MO_stratify_89 ?_
                        refine lv_iload hx hb d_MO_stratify_92 (lv_at hl 0 rfl) ?_
                        refine gs_iald hx hb hK hG y_223 (j := (6 * q) + i) (by omega) (by omega) d_MO_stratify_94 ?_
                        refine gs_top (show (f22 ((6 * q) + i)) = (nI x.2.1) from hx2) ?_
                        refine gs_iald hx hb hK hG y_33 (j := x.2.1) (by omega) (by omega) d_MO_stratify_95 ?_
                        refine gs_top (show (fc x.2.1) = (nI (S3 x.2.1)) from (hs3 _ (hx4.2.1 (by omega))).1) ?_
                        refine lv_goto (tgt := 128) hx hb d_MO_stratify_96 (by decide) ?_
                        refine lv_istore (lv' := [(6, .int (nI (S3 x.2.1))), (5, .int (nI ((6 * q) + i))), (4, .int (nI i)), (3, .int (nI q)), (2, .int (nI n)), (1, .int (bI r3)), (0, .ref mo)]) hx hb d_MO_stratify_128 hl (by decide) rfl (fun ls hl => ?_)
                        refine lv_iload hx hb d_MO_stratify_130 (lv_at hl 0 rfl) ?_
                        refine lv_aload_n hx hb d_MO_stratify_132 rfl (lv_at hl 6 rfl) ?_
                        refine gs_get (v := .ref (A 3)) hx hb ht hown hK hG k_MO y_mo3 3 (by decide) w_665 rfl d_MO_stratify_133 ?_
                        refine lv_aload_n hx hb d_MO_stratify_136 rfl (lv_at hl 6 rfl) ?_
                        refine gs_get (v := .ref (A 18)) hx hb ht hown hK hG k_MO y_mo3 18 (by decide) w_680 rfl d_MO_stratify_137 ?_
                        refine lv_iload_n hx hb d_MO_stratify_140 rfl (lv_at hl 3 rfl) ?_
                        refine gs_iald hx hb hK hG y_183 (j := q) (by omega) (by omega) d_MO_stratify_141 ?_
                        refine gs_top (show (f18 q) = (nI R.1.1) from hR9.1) ?_
                        refine gs_iald hx hb hK hG y_33 (j := R.1.1) (by omega) (by omega) d_MO_stratify_142 ?_
                        refine gs_top (show (fc R.1.1) = (nI (S3 R.1.1)) from hh.1) ?_
                        refine lv_icmp_le (tgt := 161) hx hb d_MO_stratify_143 (by decide) (fun c_143 => ?_) (fun c_143 => ?_)
                        · have c_143 : (S3 x.2.1) ≤ (S3 R.1.1) := (nI_leI (by omega) (by omega)).mp c_143
                          refine lv_iinc (v := (nI (i + 1))) (lv' := [(4, .int (nI (i + 1))), (6, .int (nI (S3 x.2.1))), (5, .int (nI ((6 * q) + i))), (3, .int (nI q)), (2, .int (nI n)), (1, .int (bI r3)), (0, .ref mo)]) hx hb d_MO_stratify_161 hl (k := 2) rfl (by exact nI_1 _) (by decide) rfl (fun ls hl => ?_)
                          refine lv_goto (tgt := 54) hx hb d_MO_stratify_164 (by decide) ?_
                          have els : ls1 S3 x = S3 x.2.1 := by unfold ls1; first | (rw [if_pos c_81]; done) | (rw [if_neg c_81, if_pos c_107]; done) | (rw [if_neg c_81, if_neg c_107])
                          rw [show mi1 R.1.1 (S3, r3) x = (S3, r3) from by unfold mi1; rw [els]; exact if_neg (by show ¬ S3 R.1.1 < _; omega)] at hst6
                          exact ih3 (i + 1) S3 r3 fc σ3 (by omega) hst6 e3 (sOn_mono hs3 (by omega)) (by omega) y_mo3 y_33 y_183 y_203 y_213 y_223 H locs hG hS ls (lv_sub hl [0, 3, 4, 5, 6] rfl)
                        · have c_143 : ¬ (S3 x.2.1) ≤ (S3 R.1.1) := mt (nI_leI (by omega) (by omega)).mpr c_143
                          refine lv_aload_n hx hb d_MO_stratify_146 rfl (lv_at hl 6 rfl) ?_
                          refine gs_get (v := .ref (A 3)) hx hb ht hown hK hG k_MO y_mo3 3 (by decide) w_665 rfl d_MO_stratify_147 ?_
                          refine lv_aload_n hx hb d_MO_stratify_150 rfl (lv_at hl 6 rfl) ?_
                          refine gs_get (v := .ref (A 18)) hx hb ht hown hK hG k_MO y_mo3 18 (by decide) w_680 rfl d_MO_stratify_151 ?_
                          refine lv_iload_n hx hb d_MO_stratify_154 rfl (lv_at hl 3 rfl) ?_
                          refine gs_iald hx hb hK hG y_183 (j := q) (by omega) (by omega) d_MO_stratify_155 ?_
                          refine gs_top (show (f18 q) = (nI R.1.1) from hR9.1) ?_
                          refine lv_iload hx hb d_MO_stratify_156 (lv_at hl 0 rfl) ?_
                          refine gs_iast hx hb hK hG hS y_33 (j := R.1.1) (by omega) (by omega) d_MO_stratify_158 (fun H locs hG hS => ?_)
                          have hG : gs_H X (gs_up σ3 (A 3) (gs_ia X 12 (upd fc R.1.1 (nI (S3 x.2.1))))) H := hG
                          obtain ⟨σ_15, eσ_15⟩ : ∃ zq, zq = gs_up σ3 (A 3) (gs_ia X 12 (upd fc R.1.1 (nI (S3 x.2.1)))) := ⟨_, rfl⟩
                          rw [← eσ_15] at hG
                          have hc_16 : σ_15 mo = some (moE A Z) := by rw [eσ_15]; exact gs_ku (gs_ne y_mo3 y_33 (by simp)) y_mo3
                          have hc_17 : σ_15 (A 18) = some (gs_ia X 25 f18) := by rw [eσ_15]; exact gs_ku (Ne.symm (ndp hN 1 10 (by decide) rfl rfl)) y_183
                          have hc_18 : σ_15 (A 20) = some (gs_ia X 25 f20) := by rw [eσ_15]; exact gs_ku (Ne.symm (ndp hN 1 12 (by decide) rfl rfl)) y_203
                          have hc_19 : σ_15 (A 21) = some (gs_ia X 150 f21) := by rw [eσ_15]; exact gs_ku (Ne.symm (ndp hN 1 13 (by decide) rfl rfl)) y_213
                          have hc_20 : σ_15 (A 22) = some (gs_ia X 150 f22) := by rw [eσ_15]; exact gs_ku (Ne.symm (ndp hN 1 14 (by decide) rfl rfl)) y_223
                          have hc_21 : σ_15 (A 3) = some (gs_ia X 12 (upd fc R.1.1 (nI (S3 x.2.1)))) := by rw [eσ_15]; exact gs_us
                          refine lv_iconst (v := nI 0) hx hb d_MO_stratify_159 (by decide) ?_
                          refine lv_istore_n (lv' := [(1, .int (nI 0)), (6, .int (nI (S3 x.2.1))), (5, .int (nI ((6 * q) + i))), (4, .int (nI i)), (3, .int (nI q)), (2, .int (nI n)), (0, .ref mo)]) hx hb d_MO_stratify_160 rfl hl (by decide) rfl (fun ls hl => ?_)
                          refine lv_iinc (v := (nI (i + 1))) (lv' := [(4, .int (nI (i + 1))), (1, .int (nI 0)), (6, .int (nI (S3 x.2.1))), (5, .int (nI ((6 * q) + i))), (3, .int (nI q)), (2, .int (nI n)), (0, .ref mo)]) hx hb d_MO_stratify_161 hl (k := 3) rfl (by exact nI_1 _) (by decide) rfl (fun ls hl => ?_)
                          refine lv_goto (tgt := 54) hx hb d_MO_stratify_164 (by decide) ?_
                          have els : ls1 S3 x = S3 x.2.1 := by unfold ls1; first | (rw [if_pos c_81]; done) | (rw [if_neg c_81, if_pos c_107]; done) | (rw [if_neg c_81, if_neg c_107])
                          rw [show mi1 R.1.1 (S3, r3) x = (va_up S3 R.1.1 (S3 x.2.1), false) from by unfold mi1; rw [els]; exact if_pos (by show S3 R.1.1 < _; omega)] at hst6
                          exact ih3 (i + 1) (va_up S3 R.1.1 (S3 x.2.1)) false (upd fc R.1.1 (nI (S3 x.2.1))) σ_15 (by omega) hst6 (by simp only [*, gs_uu]) (sOn_up hs3 (by omega)) (by omega) hc_16 hc_21 hc_17 hc_18 hc_19 hc_20 H locs hG hS ls (lv_sub hl [0, 4, 5, 1, 6] rfl)
                refine lv_iconst (v := nI 0) hx hb d_MO_stratify_51 (by decide) ?_
                refine lv_istore (lv' := [(4, .int (nI 0)), (3, .int (nI q)), (2, .int (nI n)), (1, .int (bI r2)), (0, .ref mo)]) hx hb d_MO_stratify_52 hl (by decide) rfl (fun ls hl => ?_)
                exact loop3 (R.2.length + 1) 0 S2 r2 fb σ2 (by omega) rfl e2 hs2 (by omega) y_mo2 y_32 y_182 y_202 y_212 y_222 H locs hG hS ls (lv_sub hl [0, 1, 2, 3, 4] rfl)
          refine lv_iconst (v := nI 1) hx hb d_MO_stratify_39 (by decide) ?_
          refine lv_istore_n (lv' := [(1, .int (nI 1)), (2, .int (nI n)), (0, .ref mo)]) hx hb d_MO_stratify_40 rfl hl (by decide) rfl (fun ls hl => ?_)
          refine lv_iconst (v := nI 0) hx hb d_MO_stratify_41 (by decide) ?_
          refine lv_istore_n (lv' := [(3, .int (nI 0)), (1, .int (nI 1)), (2, .int (nI n)), (0, .ref mo)]) hx hb d_MO_stratify_42 rfl hl (by decide) rfl (fun ls hl => ?_)
          exact loop2 (Q.length + 1) 0 S1 true fa σ1 (by omega) rfl e1 hs1 (by omega) y_mo1 y_31 y_181 y_201 y_211 y_221 H locs hG hS ls (lv_sub hl [0, 2, 1, 3] rfl)
  have loop0 : ∀ (fl : Nat) (i : Nat) (f0 : Nat → Int32) (σ0 : gs_St), (i ≤ nr) → (σ0 = gs_up σ (A 3) (gs_ia X 12 f0)) → (∀ j, j < i → f0 j = nI 0) → nr - i < fl → (σ0 mo = some (moE A Z)) → (σ0 (A 3) = some (gs_ia X 12 f0)) → (σ0 (A 18) = some (gs_ia X 25 f18)) → (σ0 (A 20) = some (gs_ia X 25 f20)) → (σ0 (A 21) = some (gs_ia X 150 f21)) → (σ0 (A 22) = some (gs_ia X 150 f22)) → ∀ (H : Heap) (locs : List Loc), gs_H X σ0 H → va_S (gs_A X) s.heap H locs → ∀ ls, lv_has ls 7 [(1, .int (nI i)), (0, .ref mo)] → W p l e ({ frames := 0, cells := 0, slots := 0, locals := 0 } : Room) s m ([.ref mo] : List Value).toArray below meth c H locs 0 0 (MQ below (va_Qi (fun r σ' => ∃ f3', σ' = gs_up σ (A 3) (gs_ia X 12 f3') ∧ sOn nr f3' (mfs Q nr).1 1900 ∧ r = bI (mok Q nr)) (gs_U X) (gs_A X)) ([.ref mo] : List Value).toArray s 0 0 (gs_A X)) (F0 m 2 ls []) := by
    intro fl
    induction fl with
    | zero => intro i f0 σ0 _ _ _ h9; omega
    | succ fl ih =>
      intro i f0 σ0 hi e0 hs0 hmu y_mo0 y_30 y_180 y_200 y_210 y_220 H locs hG hS ls hl
      refine lv_iload_n hx hb d_MO_stratify_2 rfl (lv_at hl 0 rfl) ?_
      refine lv_aload_n hx hb d_MO_stratify_3 rfl (lv_at hl 1 rfl) ?_
      refine gs_get (v := .int (nI (Z 1))) hx hb ht hown hK hG k_MO y_mo0 1 (by decide) w_663 rfl d_MO_stratify_4 ?_
      refine gs_top (show nI (Z 1) = nI nr from congrArg nI (show Z 1 = nr from z1)) ?_
      refine lv_icmp_ge (tgt := 23) hx hb d_MO_stratify_7 (by decide) (fun c_7 => ?_) (fun c_7 => ?_)
      · have c_7 : nr ≤ i := (nI_leI (by omega) (by omega)).mp c_7
        refine lv_iconst (v := nI 0) hx hb d_MO_stratify_23 (by decide) ?_
        refine lv_istore_n (lv' := [(1, .int (nI 0)), (0, .ref mo)]) hx hb d_MO_stratify_24 rfl hl (by decide) rfl (fun ls hl => ?_)
        refine lv_iconst (v := nI 0) hx hb d_MO_stratify_25 (by decide) ?_
        refine lv_istore_n (lv' := [(2, .int (nI 0)), (1, .int (nI 0)), (0, .ref mo)]) hx hb d_MO_stratify_26 rfl hl (by decide) rfl (fun ls hl => ?_)
        exact loop1 (nr + 2) 0 (fun _ => 0) false f0 σ0 (by omega) rfl e0 (fun j hj => ⟨hs0 j (by omega), Nat.zero_le _⟩) (by omega) y_mo0 y_30 y_180 y_200 y_210 y_220 H locs hG hS ls (lv_sub hl [0, 1, 2] rfl)
      · have c_7 : ¬ nr ≤ i := mt (nI_leI (by omega) (by omega)).mpr c_7
        refine lv_aload_n hx hb d_MO_stratify_10 rfl (lv_at hl 1 rfl) ?_
        refine gs_get (v := .ref (A 3)) hx hb ht hown hK hG k_MO y_mo0 3 (by decide) w_665 rfl d_MO_stratify_11 ?_
        refine lv_iload_n hx hb d_MO_stratify_14 rfl (lv_at hl 0 rfl) ?_
        refine lv_iconst (v := nI 0) hx hb d_MO_stratify_15 (by decide) ?_
        refine gs_iast hx hb hK hG hS y_30 (j := i) (by omega) (by omega) d_MO_stratify_16 (fun H locs hG hS => ?_)
        have hG : gs_H X (gs_up σ0 (A 3) (gs_ia X 12 (upd f0 i (nI 0)))) H := hG
        obtain ⟨σ_1, eσ_1⟩ : ∃ zq, zq = gs_up σ0 (A 3) (gs_ia X 12 (upd f0 i (nI 0))) := ⟨_, rfl⟩
        rw [← eσ_1] at hG
        have hc_2 : σ_1 mo = some (moE A Z) := by rw [eσ_1]; exact gs_ku (gs_ne y_mo0 y_30 (by simp)) y_mo0
        have hc_3 : σ_1 (A 18) = some (gs_ia X 25 f18) := by rw [eσ_1]; exact gs_ku (Ne.symm (ndp hN 1 10 (by decide) rfl rfl)) y_180
        have hc_4 : σ_1 (A 20) = some (gs_ia X 25 f20) := by rw [eσ_1]; exact gs_ku (Ne.symm (ndp hN 1 12 (by decide) rfl rfl)) y_200
        have hc_5 : σ_1 (A 21) = some (gs_ia X 150 f21) := by rw [eσ_1]; exact gs_ku (Ne.symm (ndp hN 1 13 (by decide) rfl rfl)) y_210
        have hc_6 : σ_1 (A 22) = some (gs_ia X 150 f22) := by rw [eσ_1]; exact gs_ku (Ne.symm (ndp hN 1 14 (by decide) rfl rfl)) y_220
        have hc_7 : σ_1 (A 3) = some (gs_ia X 12 (upd f0 i (nI 0))) := by rw [eσ_1]; exact gs_us
        refine lv_iinc (v := (nI (i + 1))) (lv' := [(1, .int (nI (i + 1))), (0, .ref mo)]) hx hb d_MO_stratify_17 hl (k := 0) rfl (by exact nI_1 _) (by decide) rfl (fun ls hl => ?_)
        refine lv_goto (tgt := 2) hx hb d_MO_stratify_20 (by decide) ?_
        exact ih (i + 1) (upd f0 i (nI 0)) σ_1 (by omega) (by simp only [*, gs_uu]) (fun j hj => by unfold upd; by_cases e : j = i; rw [if_pos e]; rw [if_neg e]; exact hs0 j (by omega)) (by omega) hc_2 hc_7 hc_3 hc_4 hc_5 hc_6 H locs hG hS ls (lv_sub hl [0, 1] rfl)
  refine lv_iconst (v := nI 0) hx hb d_MO_stratify_0 (by decide) ?_
  refine lv_istore_n (lv' := [(1, .int (nI 0)), (0, .ref mo)]) hx hb d_MO_stratify_1 rfl hl (by decide) rfl (fun ls hl => ?_)
  exact loop0 (nr + 1) 0 f3 σ (by omega) (gs_usame m3).symm (fun j hj => by omega) (by omega) m0 m3 m18 m20 m21 m22 _ _ hG hS ls (lv_sub hl [0, 1] rfl)
set_option maxHeartbeats 4000000 in
set_option maxRecDepth 100000 in
/-- the reference: strataOf -/
theorem c_MO_strataOf (l : Launch) (X : gs_X) (σ : gs_St) (mo : Nat) (A Z : Nat → Nat) (nr : Nat) (Q : List MR) (f3 f18 f19 f20 f21 f22 f23 : Nat → Int32)
    (m0 : σ mo = some (moE A Z)) (hN : (aL A).Nodup) (z1 : Z 1 = nr) (z16 : Z 16 = Q.length) (m3 : σ (A 3) = some (gs_ia X 12 f3)) (m18 : σ (A 18) = some (gs_ia X 25 f18)) (m20 : σ (A 20) = some (gs_ia X 25 f20)) (m21 : σ (A 21) = some (gs_ia X 150 f21)) (m22 : σ (A 22) = some (gs_ia X 150 f22)) (hnr : nr ≤ 12) (hQl : Q.length ≤ 24) (hQ : ∀ q R, Q[q]? = some R → rAt f18 f19 f20 f21 f22 f23 q R ∧ mrB nr R) : gs_Mi l X y_MO_strataOf b_MO_strataOf 3 (some .int) ({ frames := 1, cells := 0, slots := 0, locals := 26 }) σ [.ref mo] (fun r σ' => ∃ f3', σ' = gs_up σ (A 3) (gs_ia X 12 f3') ∧ sOn nr f3' (mfs Q nr).1 1900 ∧ r = if mok Q nr = true then nI (mxS (mfs Q nr).1 nr) else -3) := by
  refine Met.ofW (cc := b_MO_strataOf) (maxL := 3) (ret := (some .int)) (by decide) rfl ?_
  intro p e s m args below meth c s₁ B₀ hml hv
  obtain ⟨rfl, hK, hG, hz, hE⟩ := hv
  have hx := B₀.exec
  have hb := B₀.bytes
  have hr := B₀.returns
  have hts := atoms_spec (ws := gs_ws y_MO_strataOf b_MO_strataOf 3 (some .int)) B₀.pre
  have ht : ∀ w ∈ gs_w, w.before _ s = true := fun w h => hts w (List.mem_cons_of_mem _ h)
  have hown : s.vm.findClass R_MO = some m.cls := findClass_of_methodNamed B₀.named
  have hlocks := B₀.notSynchronized
  have hA : ∀ q : Nat, s.heap.size ≤ q → gs_A X q := fun q h => Nat.le_trans hz h
  have hS : va_S (gs_A X) s.heap s.heap [] := va_S.rf
  have hl := lv_entry ([.ref mo]) (n := 3) (Nat.le_of_ble_eq_true rfl)
  rw [lg_entry_eq]
  generalize (lg_sl ([.ref mo]) ++ List.replicate (3 - (lg_sl ([.ref mo])).length) Slot.unset).toArray = ls at hl ⊢
  have hl : lv_has ls 3 [(0, .ref mo)] := hl
  have loopz : ∀ (fl : Nat) (i : Nat) (fz : Nat → Int32) (σz : gs_St), (i ≤ nr) → (σz = gs_up σ (A 3) (gs_ia X 12 fz)) → (sOn nr fz (mfs Q nr).1 1900) → (mok Q nr = true) → (mxS (mfs Q nr).1 i ≤ 1901) → nr - i < fl → (σz mo = some (moE A Z)) → (σz (A 3) = some (gs_ia X 12 fz)) → (σz (A 18) = some (gs_ia X 25 f18)) → (σz (A 20) = some (gs_ia X 25 f20)) → (σz (A 21) = some (gs_ia X 150 f21)) → (σz (A 22) = some (gs_ia X 150 f22)) → ∀ (H : Heap) (locs : List Loc), gs_H X σz H → va_S (gs_A X) s.heap H locs → ∀ ls, lv_has ls 3 [(2, .int (nI i)), (1, .int (nI (mxS (mfs Q nr).1 i))), (0, .ref mo)] → W p l e ({ frames := 1, cells := 0, slots := 0, locals := 26 } : Room) s m ([.ref mo] : List Value).toArray below meth c H locs 0 0 (MQ below (va_Qi (fun r σ' => ∃ f3', σ' = gs_up σ (A 3) (gs_ia X 12 f3') ∧ sOn nr f3' (mfs Q nr).1 1900 ∧ r = if mok Q nr = true then nI (mxS (mfs Q nr).1 nr) else -3) (gs_U X) (gs_A X)) ([.ref mo] : List Value).toArray s 0 0 (gs_A X)) (F0 m 14 ls []) := by
    intro fl
    induction fl with
    | zero => intro i fz σz _ _ _ _ _ h9; omega
    | succ fl ih =>
      intro i fz σz hi ez hz9 hok hmx hmu y_moz y_3z y_18z y_20z y_21z y_22z H locs hG hS ls hl
      refine lv_iload_n hx hb d_MO_strataOf_14 rfl (lv_at hl 0 rfl) ?_
      refine lv_aload_n hx hb d_MO_strataOf_15 rfl (lv_at hl 2 rfl) ?_
      refine gs_get (v := .int (nI (Z 1))) hx hb ht hown hK hG k_MO y_moz 1 (by decide) w_663 rfl d_MO_strataOf_16 ?_
      refine gs_top (show nI (Z 1) = nI nr from congrArg nI (show Z 1 = nr from z1)) ?_
      refine lv_icmp_ge (tgt := 53) hx hb d_MO_strataOf_19 (by decide) (fun c_19 => ?_) (fun c_19 => ?_)
      · have c_19 : nr ≤ i := (nI_leI (by omega) (by omega)).mp c_19
        refine lv_iload_n hx hb d_MO_strataOf_53 rfl (lv_at hl 1 rfl) ?_
        exact gs_iret (v := (nI (mxS (mfs Q nr).1 i))) hx hb hr rfl hK hE hz hG hS hlocks (by first | decide | omega | (dsimp only [headSpec]; omega)) (by first | decide | omega | (dsimp only [headSpec]; omega)) (⟨fz, ez, hz9, by rw [if_pos hok, show i = nr by omega]⟩) d_MO_strataOf_54
      · have c_19 : ¬ nr ≤ i := mt (nI_leI (by omega) (by omega)).mpr c_19
        have hz1 := hz9 i (by omega)
        have hms : mxS (mfs Q nr).1 (i + 1) = max (mxS (mfs Q nr).1 i) ((mfs Q nr).1 i + 1) := rfl
        refine lv_aload_n hx hb d_MO_strataOf_22 rfl (lv_at hl 2 rfl) ?_
        refine gs_get (v := .ref (A 3)) hx hb ht hown hK hG k_MO y_moz 3 (by decide) w_665 rfl d_MO_strataOf_23 ?_
        refine lv_iload_n hx hb d_MO_strataOf_26 rfl (lv_at hl 0 rfl) ?_
        refine gs_iald hx hb hK hG y_3z (j := i) (by omega) (by omega) d_MO_strataOf_27 ?_
        refine gs_top (show (fz i) = (nI ((mfs Q nr).1 i)) from hz1.1) ?_
        refine lv_iconst (v := nI 1) hx hb d_MO_strataOf_28 (by decide) ?_
        refine lv_iadd hx hb d_MO_strataOf_29 ?_
        refine gs_top (nI_add ((mfs Q nr).1 i) 1) ?_
        refine lv_iload_n hx hb d_MO_strataOf_30 rfl (lv_at hl 1 rfl) ?_
        refine lv_icmp_le (tgt := 45) hx hb d_MO_strataOf_31 (by decide) (fun c_31 => ?_) (fun c_31 => ?_)
        · have c_31 : (((mfs Q nr).1 i) + 1) ≤ (mxS (mfs Q nr).1 i) := (nI_leI (by omega) (by omega)).mp c_31
          refine lv_iload_n hx hb d_MO_strataOf_45 rfl (lv_at hl 1 rfl) ?_
          refine lv_istore_n (lv' := [(1, .int (nI (mxS (mfs Q nr).1 i))), (2, .int (nI i)), (0, .ref mo)]) hx hb d_MO_strataOf_46 rfl hl (by decide) rfl (fun ls hl => ?_)
          refine lv_iinc (v := (nI (i + 1))) (lv' := [(2, .int (nI (i + 1))), (1, .int (nI (mxS (mfs Q nr).1 i))), (0, .ref mo)]) hx hb d_MO_strataOf_47 hl (k := 1) rfl (by exact nI_1 _) (by decide) rfl (fun ls hl => ?_)
          refine lv_goto (tgt := 14) hx hb d_MO_strataOf_50 (by decide) ?_
          exact ih (i + 1) fz σz (by omega) ez hz9 hok (by rw [hms]; omega) (by omega) y_moz y_3z y_18z y_20z y_21z y_22z H locs hG hS ls (by rw [show mxS (mfs Q nr).1 (i + 1) = mxS (mfs Q nr).1 i from by rw [hms]; omega]; exact (lv_sub hl [0, 1, 2] rfl))
        · have c_31 : ¬ (((mfs Q nr).1 i) + 1) ≤ (mxS (mfs Q nr).1 i) := mt (nI_leI (by omega) (by omega)).mpr c_31
          refine lv_aload_n hx hb d_MO_strataOf_34 rfl (lv_at hl 2 rfl) ?_
          refine gs_get (v := .ref (A 3)) hx hb ht hown hK hG k_MO y_moz 3 (by decide) w_665 rfl d_MO_strataOf_35 ?_
          refine lv_iload_n hx hb d_MO_strataOf_38 rfl (lv_at hl 0 rfl) ?_
          refine gs_iald hx hb hK hG y_3z (j := i) (by omega) (by omega) d_MO_strataOf_39 ?_
          refine gs_top (show (fz i) = (nI ((mfs Q nr).1 i)) from hz1.1) ?_
          refine lv_iconst (v := nI 1) hx hb d_MO_strataOf_40 (by decide) ?_
          refine lv_iadd hx hb d_MO_strataOf_41 ?_
          refine gs_top (nI_add ((mfs Q nr).1 i) 1) ?_
          refine lv_goto (tgt := 46) hx hb d_MO_strataOf_42 (by decide) ?_
          refine lv_istore_n (lv' := [(1, .int (nI (((mfs Q nr).1 i) + 1))), (2, .int (nI i)), (0, .ref mo)]) hx hb d_MO_strataOf_46 rfl hl (by decide) rfl (fun ls hl => ?_)
          refine lv_iinc (v := (nI (i + 1))) (lv' := [(2, .int (nI (i + 1))), (1, .int (nI (((mfs Q nr).1 i) + 1))), (0, .ref mo)]) hx hb d_MO_strataOf_47 hl (k := 1) rfl (by exact nI_1 _) (by decide) rfl (fun ls hl => ?_)
          refine lv_goto (tgt := 14) hx hb d_MO_strataOf_50 (by decide) ?_
          exact ih (i + 1) fz σz (by omega) ez hz9 hok (by rw [hms]; omega) (by omega) y_moz y_3z y_18z y_20z y_21z y_22z H locs hG hS ls (by rw [show mxS (mfs Q nr).1 (i + 1) = ((mfs Q nr).1 i) + 1 from by rw [hms]; omega]; exact (lv_sub hl [0, 1, 2] rfl))
  refine lv_aload_n hx hb d_MO_strataOf_0 rfl (lv_at hl 0 rfl) ?_
  refine gs_callVi (As := []) (rest := []) ⟨hx, hb, hml, hown, hts⟩ hK hE hz hG hS (c_MO_stratify l X σ mo A Z nr Q f3 f18 f19 f20 f21 f22 f23 m0 hN z1 z16 m3 m18 m20 m21 m22 hnr hQl hQ) mV_MO_stratify w_824 m0 rfl rfl hl.1 rfl (Nat.le_of_ble_eq_true rfl) ⟨(by first | decide | omega | (dsimp only [headSpec]; omega)), (by first | decide | omega | (dsimp only [headSpec]; omega))⟩ ⟨(by first | decide | omega | (dsimp only [headSpec]; omega)), (by first | decide | omega | (dsimp only [headSpec]; omega))⟩ d_MO_strataOf_1 (fun r_1 σ_1 H locs hp_1 hG hS => ?_)
  obtain ⟨fz, ev9, hz9, er9⟩ := hp_1
  rw [ev9] at hG
  refine gs_top er9 ?_
  have hG : gs_H X (gs_up σ (A 3) (gs_ia X 12 fz)) H := hG
  obtain ⟨σ_1, eσ_1⟩ : ∃ zq, zq = gs_up σ (A 3) (gs_ia X 12 fz) := ⟨_, rfl⟩
  rw [← eσ_1] at hG
  have hc_2 : σ_1 mo = some (moE A Z) := by rw [eσ_1]; exact gs_ku (gs_ne m0 m3 (by simp)) m0
  have hc_3 : σ_1 (A 18) = some (gs_ia X 25 f18) := by rw [eσ_1]; exact gs_ku (Ne.symm (ndp hN 1 10 (by decide) rfl rfl)) m18
  have hc_4 : σ_1 (A 20) = some (gs_ia X 25 f20) := by rw [eσ_1]; exact gs_ku (Ne.symm (ndp hN 1 12 (by decide) rfl rfl)) m20
  have hc_5 : σ_1 (A 21) = some (gs_ia X 150 f21) := by rw [eσ_1]; exact gs_ku (Ne.symm (ndp hN 1 13 (by decide) rfl rfl)) m21
  have hc_6 : σ_1 (A 22) = some (gs_ia X 150 f22) := by rw [eσ_1]; exact gs_ku (Ne.symm (ndp hN 1 14 (by decide) rfl rfl)) m22
  have hc_7 : σ_1 (A 3) = some (gs_ia X 12 fz) := by rw [eσ_1]; exact gs_us
  refine lv_if_ne (tgt := 10) hx hb d_MO_strataOf_4 (by decide) (fun c_4 => ?_) (fun c_4 => ?_)
  · refine lv_iconst (v := nI 0) hx hb d_MO_strataOf_10 (by decide) ?_
    refine lv_istore_n (lv' := [(1, .int (nI 0)), (0, .ref mo)]) hx hb d_MO_strataOf_11 rfl hl (by decide) rfl (fun ls hl => ?_)
    refine lv_iconst (v := nI 0) hx hb d_MO_strataOf_12 (by decide) ?_
    refine lv_istore_n (lv' := [(2, .int (nI 0)), (1, .int (nI 0)), (0, .ref mo)]) hx hb d_MO_strataOf_13 rfl hl (by decide) rfl (fun ls hl => ?_)
    exact loopz (nr + 1) 0 fz σ_1 (by omega) eσ_1 hz9 (bI_n0 c_4) (by unfold mxS; omega) (by omega) hc_2 hc_7 hc_3 hc_4 hc_5 hc_6 H locs hG hS ls (lv_sub hl [0, 1, 2] rfl)
  · refine lv_bipush (v := -3) hx hb d_MO_strataOf_7 (by decide) ?_
    exact gs_iret (v := (-3)) hx hb hr rfl hK hE hz hG hS hlocks (by first | decide | omega | (dsimp only [headSpec]; omega)) (by first | decide | omega | (dsimp only [headSpec]; omega)) (⟨fz, eσ_1, hz9, by rw [if_neg (by rw [bI_0 c_4]; decide)]⟩) d_MO_strataOf_9
