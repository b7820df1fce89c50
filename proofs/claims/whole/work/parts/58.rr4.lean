set_option maxHeartbeats 4000000 in
set_option maxRecDepth 100000 in
/-- RuleRounds.step -/
theorem c_RR_step (l : Launch) (X : gs_X) (σ : gs_St) (rr dv bk tu ma la cm ac ai ab lc li lb mc mi mb va co ru sr nr sa rc fc : Nat) (dw : Value) (nw : Bool) (sc : Int32) (E : List En) (Lt : List Nat) (v S : Nat → Nat) (Q : List Rl)
    (hnd : [ac, ai, ab, lc, mc, mi, mb].Nodup) (hnd2 : [tu, la, cm].Nodup) (x0 : σ rr = some (gs_ob 0 [.ref bk, .ref tu, .ref ma, .ref dv, .int (nI fc), dw])) (hdv : dvA X σ dv bk tu ma la cm ac ai ab lc li lb mc mi mb va E Lt v sa nw rc) (hbk : bkA X σ bk co ru sr nr sc Q S) (hsa : sa < 2 ^ 20) (hrc : rc + 1 < 2 ^ 30) : gs_Mi l X y_RR_step b_RR_step 1 (some .int) ({ frames := 11, cells := 0, slots := 0, locals := 553 }) σ [.ref rr] (fun r σ' => ∃ E' Lt' v' sa' nw' rc', nxt Q S sc E Lt v sa nw rc = (r, (E', Lt', v', sa', nw', rc')) ∧ dvA X σ' dv bk tu ma la cm ac ai ab lc li lb mc mi mb va E' Lt' v' sa' nw' rc' ∧ frm [va, cm, mc, mi, mb, dv, tu, ac, ai, ab, la, lc] σ σ') := by
  refine Met.ofW (cc := b_RR_step) (maxL := 1) (ret := (some .int)) (by decide) rfl ?_
  intro p e s m args below meth c s₁ B₀ hml hv
  obtain ⟨rfl, hK, hG, hz, hE⟩ := hv
  have hx := B₀.exec
  have hb := B₀.bytes
  have hr := B₀.returns
  have hts := atoms_spec (ws := gs_ws y_RR_step b_RR_step 1 (some .int)) B₀.pre
  have ht : ∀ w ∈ gs_w, w.before _ s = true := fun w h => hts w (List.mem_cons_of_mem _ h)
  have hown : s.vm.findClass R_RR = some m.cls := findClass_of_methodNamed B₀.named
  have hlocks := B₀.notSynchronized
  have hA : ∀ q : Nat, s.heap.size ≤ q → gs_A X q := fun q h => Nat.le_trans hz h
  have hS : va_S (gs_A X) s.heap s.heap [] := va_S.rf
  have hl := lv_entry ([.ref rr]) (n := 1) (Nat.le_of_ble_eq_true rfl)
  rw [lg_entry_eq]
  generalize (lg_sl ([.ref rr]) ++ List.replicate (1 - (lg_sl ([.ref rr])).length) Slot.unset).toArray = ls at hl ⊢
  have hl : lv_has ls 1 [(0, .ref rr)] := hl
  obtain ⟨cs, ci, cr, ds, vs, a9, b9, c9, z9, d0, t0, t1, t2, t3, l0, l1, m0, m1, m2, m3, q0, q1, hB, hR, hl3, hs2, hn2, hds, hv⟩ := id hdv
  refine lv_aload_n hx hb d_RR_step_0 rfl (lv_at hl 0 rfl) ?_
  refine gs_get hx hb ht hown hK hG k_RR x0 3 (by decide) w_140 rfl d_RR_step_1 ?_
  refine gs_callVi (As := []) (rest := []) ⟨hx, hb, hml, hown, hts⟩ hK hE hz hG hS (c_DE_nextRound l X σ dv bk tu ma la cm ac ai ab lc li lb mc mi mb va co ru sr nr sa rc nw sc E Lt v S Q hnd hnd2 hdv hbk hsa hrc) mV_DE_nextRound w_164 d0 rfl rfl hl.1 rfl (Nat.le_of_ble_eq_true rfl) ⟨(by first | decide | omega | (dsimp only [headSpec]; omega)), (by first | decide | omega | (dsimp only [headSpec]; omega))⟩ ⟨(by first | decide | omega | (dsimp only [headSpec]; omega)), (by first | decide | omega | (dsimp only [headSpec]; omega))⟩ d_RR_step_4 (fun r_4 σ_4 H locs hp_4 hG hS => ?_)
  exact gs_iret (v := r_4) hx hb hr rfl hK hE hz hG hS hlocks (by first | decide | omega | (dsimp only [headSpec]; omega)) (by first | decide | omega | (dsimp only [headSpec]; omega)) (hp_4) d_RR_step_7
set_option maxHeartbeats 4000000 in
set_option maxRecDepth 100000 in
/-- RuleRounds.run -/
theorem c_RR_run (l : Launch) (X : gs_X) (σ : gs_St) (rr dv bk tu ma la cm ac ai ab lc li lb mc mi mb va co ru sr nr sa rc fc : Nat) (dw : Value) (nw : Bool) (sc : Int32) (E : List En) (Lt : List Nat) (v S : Nat → Nat) (Q : List Rl)
    (hnd : [ac, ai, ab, lc, mc, mi, mb].Nodup) (hnd2 : [tu, la, cm].Nodup) (x0 : σ rr = some (gs_ob 0 [.ref bk, .ref tu, .ref ma, .ref dv, .int (nI fc), dw])) (hdv : dvA X σ dv bk tu ma la cm ac ai ab lc li lb mc mi mb va E Lt v sa nw rc) (hbk : bkA X σ bk co ru sr nr sc Q S) (hsa : sa + 1000 < 2 ^ 20) (hrc : rc + 1001 < 2 ^ 30) : gs_Mi l X y_RR_run b_RR_run 3 (some .int) ({ frames := 11, cells := 0, slots := 0, locals := 553 }) σ [.ref rr] (fun r σ' => ∃ E' Lt' v' sa' nw' rc' cm9, runF Q S sc 1000 0 (E, Lt, v, sa, nw, rc) = (cm9, (E', Lt', v', sa', nw', rc')) ∧ dvA X σ' dv bk tu ma la cm ac ai ab lc li lb mc mi mb va E' Lt' v' sa' nw' rc' ∧ frm [va, cm, mc, mi, mb, dv, tu, ac, ai, ab, la, lc] σ σ' ∧ r = (if cm9 = -4 then nI E'.length - nI fc else cm9)) := by
  refine Met.ofW (cc := b_RR_run) (maxL := 3) (ret := (some .int)) (by decide) rfl ?_
  intro p e s m args below meth c s₁ B₀ hml hv
  obtain ⟨rfl, hK, hG, hz, hE⟩ := hv
  have hx := B₀.exec
  have hb := B₀.bytes
  have hr := B₀.returns
  have hts := atoms_spec (ws := gs_ws y_RR_run b_RR_run 3 (some .int)) B₀.pre
  have ht : ∀ w ∈ gs_w, w.before _ s = true := fun w h => hts w (List.mem_cons_of_mem _ h)
  have hown : s.vm.findClass R_RR = some m.cls := findClass_of_methodNamed B₀.named
  have hlocks := B₀.notSynchronized
  have hA : ∀ q : Nat, s.heap.size ≤ q → gs_A X q := fun q h => Nat.le_trans hz h
  have hS : va_S (gs_A X) s.heap s.heap [] := va_S.rf
  have hl := lv_entry ([.ref rr]) (n := 3) (Nat.le_of_ble_eq_true rfl)
  rw [lg_entry_eq]
  generalize (lg_sl ([.ref rr]) ++ List.replicate (3 - (lg_sl ([.ref rr])).length) Slot.unset).toArray = ls at hl ⊢
  have hl : lv_has ls 3 [(0, .ref rr)] := hl
  have loop : ∀ (fl : Nat) (i : Nat) (came : Int32) (E1 : List En) (L1 : List Nat) (v1 : Nat → Nat) (sa1 : Nat) (nw1 : Bool) (rc1 : Nat) (σ1 : gs_St), (i ≤ 1000) → (runF Q S sc 1000 0 (E, Lt, v, sa, nw, rc) = runF Q S sc (1000 - i) came (E1, L1, v1, sa1, nw1, rc1)) → (sa1 ≤ sa + i) → (rc1 ≤ rc + i) → (frm [va, cm, mc, mi, mb, dv, tu, ac, ai, ab, la, lc] σ σ1) → (dvA X σ1 dv bk tu ma la cm ac ai ab lc li lb mc mi mb va E1 L1 v1 sa1 nw1 rc1) → (bkA X σ1 bk co ru sr nr sc Q S) → 1000 - i < fl → (σ1 rr = some (gs_ob 0 [.ref bk, .ref tu, .ref ma, .ref dv, .int (nI fc), dw])) → ∀ (H : Heap) (locs : List Loc), gs_H X σ1 H → va_S (gs_A X) s.heap H locs → ∀ ls, lv_has ls 3 [(2, .int (nI i)), (1, .int came), (0, .ref rr)] → W p l e ({ frames := 11, cells := 0, slots := 0, locals := 553 } : Room) s m ([.ref rr] : List Value).toArray below meth c H locs 0 0 (MQ below (va_Qi (fun r σ' => ∃ E' Lt' v' sa' nw' rc' cm9, runF Q S sc 1000 0 (E, Lt, v, sa, nw, rc) = (cm9, (E', Lt', v', sa', nw', rc')) ∧ dvA X σ' dv bk tu ma la cm ac ai ab lc li lb mc mi mb va E' Lt' v' sa' nw' rc' ∧ frm [va, cm, mc, mi, mb, dv, tu, ac, ai, ab, la, lc] σ σ' ∧ r = (if cm9 = -4 then nI E'.length - nI fc else cm9)) (gs_U X) (gs_A X)) ([.ref rr] : List Value).toArray s 0 0 (gs_A X)) (F0 m 4 ls []) := by
    intro fl
    induction fl with
    | zero => intro i came E1 L1 v1 sa1 nw1 rc1 σ1 _ _ _ _ _ _ _ h9; omega
    | succ fl ih =>
      intro i came E1 L1 v1 sa1 nw1 rc1 σ1 hi hst hsa1 hrc1 hf1 hd1 hb1 hmu y0 H locs hG hS ls hl
      obtain ⟨cs, ci, cr, ds, vs, a9, b9, c9, z9, d0, t0, t1, t2, t3, l0, l1, m0, m1, m2, m3, q0, q1, hB, hR, hl3, hs2, hn2, hds, hv⟩ := id hd1
      refine lv_iload_n hx hb d_RR_run_4 rfl (lv_at hl 0 rfl) ?_
      refine lv_sipush (v := nI 1000) hx hb d_RR_run_5 (by decide) ?_
      refine lv_icmp_ge (tgt := 29) hx hb d_RR_run_8 (by decide) (fun c_8 => ?_) (fun c_8 => ?_)
      · have c_8 : 1000 ≤ i := (nI_leI (by omega) (by omega)).mp c_8
        refine lv_iload_n hx hb d_RR_run_29 rfl (lv_at hl 1 rfl) ?_
        refine lv_bipush (v := -4) hx hb d_RR_run_30 (by decide) ?_
        refine lv_icmp_ne (tgt := 50) hx hb d_RR_run_32 (by decide) (fun c_32 => ?_) (fun c_32 => ?_)
        · refine lv_iload_n hx hb d_RR_run_50 rfl (lv_at hl 1 rfl) ?_
          have hres : runF Q S sc 1000 0 (E, Lt, v, sa, nw, rc) = (came, (E1, L1, v1, sa1, nw1, rc1)) := by
            rw [hst]
            first
            | (rw [show 1000 - i = 0 by omega]; rfl)
            | (rw [show 1000 - i = (1000 - (i + 1)) + 1 by omega]; simp only [runF]; rw [if_pos c_12])
          exact gs_iret (v := came) hx hb hr rfl hK hE hz hG hS hlocks (by first | decide | omega | (dsimp only [headSpec]; omega)) (by first | decide | omega | (dsimp only [headSpec]; omega)) (⟨E1, L1, v1, sa1, nw1, rc1, came, hres, hd1, hf1, (by first | rw [if_pos c_32] | rw [if_neg c_32])⟩) d_RR_run_51
        · refine lv_aload_n hx hb d_RR_run_35 rfl (lv_at hl 2 rfl) ?_
          refine gs_get hx hb ht hown hK hG k_RR y0 1 (by decide) w_138 rfl d_RR_run_36 ?_
          refine gs_get hx hb ht hown hK hG k_TU t0 3 (by decide) w_80 rfl d_RR_run_39 ?_
          refine lv_aload_n hx hb d_RR_run_42 rfl (lv_at hl 2 rfl) ?_
          refine gs_get hx hb ht hown hK hG k_RR y0 4 (by decide) w_141 rfl d_RR_run_43 ?_
          refine lv_isub hx hb d_RR_run_46 ?_
          refine lv_goto (tgt := 51) hx hb d_RR_run_47 (by decide) ?_
          have hres : runF Q S sc 1000 0 (E, Lt, v, sa, nw, rc) = (came, (E1, L1, v1, sa1, nw1, rc1)) := by
            rw [hst]
            first
            | (rw [show 1000 - i = 0 by omega]; rfl)
            | (rw [show 1000 - i = (1000 - (i + 1)) + 1 by omega]; simp only [runF]; rw [if_pos c_12])
          exact gs_iret (v := ((nI E1.length) - (nI fc))) hx hb hr rfl hK hE hz hG hS hlocks (by first | decide | omega | (dsimp only [headSpec]; omega)) (by first | decide | omega | (dsimp only [headSpec]; omega)) (⟨E1, L1, v1, sa1, nw1, rc1, came, hres, hd1, hf1, (by first | rw [if_pos c_32] | rw [if_neg c_32])⟩) d_RR_run_51
      · have c_8 : ¬ 1000 ≤ i := mt (nI_leI (by omega) (by omega)).mpr c_8
        refine lv_iload_n hx hb d_RR_run_11 rfl (lv_at hl 1 rfl) ?_
        refine lv_if_lt (tgt := 29) hx hb d_RR_run_12 (by decide) (fun c_12 => ?_) (fun c_12 => ?_)
        · refine lv_iload_n hx hb d_RR_run_29 rfl (lv_at hl 1 rfl) ?_
          refine lv_bipush (v := -4) hx hb d_RR_run_30 (by decide) ?_
          refine lv_icmp_ne (tgt := 50) hx hb d_RR_run_32 (by decide) (fun c_32 => ?_) (fun c_32 => ?_)
          · refine lv_iload_n hx hb d_RR_run_50 rfl (lv_at hl 1 rfl) ?_
            have hres : runF Q S sc 1000 0 (E, Lt, v, sa, nw, rc) = (came, (E1, L1, v1, sa1, nw1, rc1)) := by
              rw [hst]
              first
              | (rw [show 1000 - i = 0 by omega]; rfl)
              | (rw [show 1000 - i = (1000 - (i + 1)) + 1 by omega]; simp only [runF]; rw [if_pos c_12])
            exact gs_iret (v := came) hx hb hr rfl hK hE hz hG hS hlocks (by first | decide | omega | (dsimp only [headSpec]; omega)) (by first | decide | omega | (dsimp only [headSpec]; omega)) (⟨E1, L1, v1, sa1, nw1, rc1, came, hres, hd1, hf1, (by first | rw [if_pos c_32] | rw [if_neg c_32])⟩) d_RR_run_51
          · refine lv_aload_n hx hb d_RR_run_35 rfl (lv_at hl 2 rfl) ?_
            refine gs_get hx hb ht hown hK hG k_RR y0 1 (by decide) w_138 rfl d_RR_run_36 ?_
            refine gs_get hx hb ht hown hK hG k_TU t0 3 (by decide) w_80 rfl d_RR_run_39 ?_
            refine lv_aload_n hx hb d_RR_run_42 rfl (lv_at hl 2 rfl) ?_
            refine gs_get hx hb ht hown hK hG k_RR y0 4 (by decide) w_141 rfl d_RR_run_43 ?_
            refine lv_isub hx hb d_RR_run_46 ?_
            refine lv_goto (tgt := 51) hx hb d_RR_run_47 (by decide) ?_
            have hres : runF Q S sc 1000 0 (E, Lt, v, sa, nw, rc) = (came, (E1, L1, v1, sa1, nw1, rc1)) := by
              rw [hst]
              first
              | (rw [show 1000 - i = 0 by omega]; rfl)
              | (rw [show 1000 - i = (1000 - (i + 1)) + 1 by omega]; simp only [runF]; rw [if_pos c_12])
            exact gs_iret (v := ((nI E1.length) - (nI fc))) hx hb hr rfl hK hE hz hG hS hlocks (by first | decide | omega | (dsimp only [headSpec]; omega)) (by first | decide | omega | (dsimp only [headSpec]; omega)) (⟨E1, L1, v1, sa1, nw1, rc1, came, hres, hd1, hf1, (by first | rw [if_pos c_32] | rw [if_neg c_32])⟩) d_RR_run_51
        · refine lv_aload_n hx hb d_RR_run_15 rfl (lv_at hl 2 rfl) ?_
          refine gs_get hx hb ht hown hK hG k_RR y0 3 (by decide) w_140 rfl d_RR_run_16 ?_
          refine gs_callVi (As := []) (rest := []) ⟨hx, hb, hml, hown, hts⟩ hK hE hz hG hS (c_DE_nextRound l X σ1 dv bk tu ma la cm ac ai ab lc li lb mc mi mb va co ru sr nr sa1 rc1 nw1 sc E1 L1 v1 S Q hnd hnd2 hd1 hb1 (by omega) (by omega)) mV_DE_nextRound w_164 d0 rfl rfl hl.1 rfl (Nat.le_of_ble_eq_true rfl) ⟨(by first | decide | omega | (dsimp only [headSpec]; omega)), (by first | decide | omega | (dsimp only [headSpec]; omega))⟩ ⟨(by first | decide | omega | (dsimp only [headSpec]; omega)), (by first | decide | omega | (dsimp only [headSpec]; omega))⟩ d_RR_run_19 (fun r_19 σ_19 H locs hp_19 hG hS => ?_)
          obtain ⟨E2, L2, v2, sa2, nw2, rc2, hx2, hd2, hf2⟩ := hp_19
          have hle := nxt_le hx2
          have y2 : σ_19 rr = some (gs_ob 0 [.ref bk, .ref tu, .ref ma, .ref dv, .int (nI fc), dw]) := hd1.keeps hf2 y0 (by simp) (by simp) (by simp) (by simp)
          refine lv_istore_n (lv' := [(1, .int r_19), (2, .int (nI i)), (0, .ref rr)]) hx hb d_RR_run_22 rfl hl (by decide) rfl (fun ls hl => ?_)
          refine lv_iinc (v := (nI (i + 1))) (lv' := [(2, .int (nI (i + 1))), (1, .int r_19), (0, .ref rr)]) hx hb d_RR_run_23 hl (k := 1) rfl (by exact nI_1 _) (by decide) rfl (fun ls hl => ?_)
          refine lv_goto (tgt := 4) hx hb d_RR_run_26 (by decide) ?_
          have hst2 : runF Q S sc 1000 0 (E, Lt, v, sa, nw, rc) = runF Q S sc (1000 - (i + 1)) r_19 (E2, L2, v2, sa2, nw2, rc2) := by
            rw [hst, show 1000 - i = (1000 - (i + 1)) + 1 by omega]
            simp only [runF]
            rw [if_neg c_12]
            have z : nxtS Q S sc (E1, L1, v1, sa1, nw1, rc1) = (r_19, (E2, L2, v2, sa2, nw2, rc2)) := hx2
            rw [z]
          exact ih (i + 1) r_19 E2 L2 v2 sa2 nw2 rc2 σ_19 (by omega) hst2 (by omega) (by omega) (hf1.trans hf2 (fun _ z => z)) hd2 (hd1.bk hf2 hb1) (by omega) y2 H locs hG hS ls (lv_sub hl [0, 1, 2] rfl)
  refine lv_iconst (v := nI 0) hx hb d_RR_run_0 (by decide) ?_
  refine lv_istore_n (lv' := [(1, .int (nI 0)), (0, .ref rr)]) hx hb d_RR_run_1 rfl hl (by decide) rfl (fun ls hl => ?_)
  refine lv_iconst (v := nI 0) hx hb d_RR_run_2 (by decide) ?_
  refine lv_istore_n (lv' := [(2, .int (nI 0)), (1, .int (nI 0)), (0, .ref rr)]) hx hb d_RR_run_3 rfl hl (by decide) rfl (fun ls hl => ?_)
  exact loop 1001 0 0 E Lt v sa nw rc σ (by omega) rfl (by omega) (by omega) frm.rf hdv hbk (by omega) x0 _ _ hG hS ls (lv_sub hl [0, 1, 2] rfl)
