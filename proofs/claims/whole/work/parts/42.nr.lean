set_option maxHeartbeats 4000000 in
set_option maxRecDepth 100000 in
/-- Deriving.nextRound -/
theorem c_DE_nextRound (l : Launch) (X : gs_X) (σ : gs_St) (dv bk tu ma la cm ac ai ab lc li lb mc mi mb va co ru sr nr sa rc : Nat) (nw : Bool) (sc : Int32) (E : List En) (Lt : List Nat) (v S : Nat → Nat) (Q : List Rl)
    (hnd : [ac, ai, ab, lc, mc, mi, mb].Nodup) (hnd2 : [tu, la, cm].Nodup) (hdv : dvA X σ dv bk tu ma la cm ac ai ab lc li lb mc mi mb va E Lt v sa nw rc) (hbk : bkA X σ bk co ru sr nr sc Q S) (hsa : sa < 2 ^ 20) (hrc : rc + 1 < 2 ^ 30) : gs_Mi l X y_DE_nextRound b_DE_nextRound 2 (some .int) ({ frames := 10, cells := 0, slots := 0, locals := 532 }) σ [.ref dv] (fun r σ' => ∃ E' Lt' v' sa' nw' rc', nxt Q S sc E Lt v sa nw rc = (r, (E', Lt', v', sa', nw', rc')) ∧ dvA X σ' dv bk tu ma la cm ac ai ab lc li lb mc mi mb va E' Lt' v' sa' nw' rc' ∧ frm [va, cm, mc, mi, mb, dv, tu, ac, ai, ab, la, lc] σ σ') := by
  refine Met.ofW (cc := b_DE_nextRound) (maxL := 2) (ret := (some .int)) (by decide) rfl ?_
  intro p e s m args below meth c s₁ B₀ hml hv
  obtain ⟨rfl, hK, hG, hz, hE⟩ := hv
  have hx := B₀.exec
  have hb := B₀.bytes
  have hr := B₀.returns
  have hts := atoms_spec (ws := gs_ws y_DE_nextRound b_DE_nextRound 2 (some .int)) B₀.pre
  have ht : ∀ w ∈ gs_w, w.before _ s = true := fun w h => hts w (List.mem_cons_of_mem _ h)
  have hown : s.vm.findClass R_DE = some m.cls := findClass_of_methodNamed B₀.named
  have hlocks := B₀.notSynchronized
  have hA : ∀ q : Nat, s.heap.size ≤ q → gs_A X q := fun q h => Nat.le_trans hz h
  have hS : va_S (gs_A X) s.heap s.heap [] := va_S.rf
  have hl := lv_entry ([.ref dv]) (n := 2) (Nat.le_of_ble_eq_true rfl)
  rw [lg_entry_eq]
  generalize (lg_sl ([.ref dv]) ++ List.replicate (2 - (lg_sl ([.ref dv])).length) Slot.unset).toArray = ls at hl ⊢
  have hl : lv_has ls 2 [(0, .ref dv)] := hl
  obtain ⟨cs, ci, cr, ds, vs, a9, b9, c9, z9, d0, t0, t1, t2, t3, l0, l1, m0, m1, m2, m3, q0, q1, hB, hR, hl3, hs2, hn2, hds, hv⟩ := id hdv
  obtain ⟨fR, sf, k0, k2, k3, hQl, hsO, hQ⟩ := id hbk
  have hAA : ∀ q ∈ [va, cm, mc, mi, mb], (∀ ci fs, ci = 4 ∨ ci = 2 → σ q ≠ some (gs_ob ci fs)) ∧ ∀ n f, σ q ≠ some (gs_qa X 3 n f) := by
    intro q hq
    simp only [List.mem_cons, List.not_mem_nil, or_false] at hq
    rcases hq with rfl | rfl | rfl | rfl | rfl
    · exact ⟨fun ci fs hc z => by rw [q1] at z; simp at z, fun n f z => by rw [q1] at z; simp at z⟩
    · exact ⟨fun ci fs hc z => by rw [m0] at z; rcases hc with rfl | rfl <;> simp at z, fun n f z => by rw [m0] at z; simp at z⟩
    · exact ⟨fun ci fs hc z => by rw [m1] at z; simp at z, fun n f z => by rw [m1] at z; simp at z⟩
    · exact ⟨fun ci fs hc z => by rw [m2] at z; simp at z, fun n f z => by rw [m2] at z; simp at z⟩
    · exact ⟨fun ci fs hc z => by rw [m3] at z; simp at z, fun n f z => by rw [m3] at z; simp at z⟩
  have fr0 : frm [va, cm, mc, mi, mb] σ σ := frm.rf
  have hlc : (cds E).length = E.length := cds_len E
  have loop : ∀ (fl : Nat) (i : Nat) (vs1 : Nat → Int32) (v1 : Nat → Nat) (C1 : List En) (a1 b1 c1 : Nat → Int32) (σ1 : gs_St), (i ≤ Q.length) → (¬ sc = -3) → (nI sa < sc) → (nrF (cds E) Lt S sa nw Q 0 (v, []) = nrF (cds E) Lt S sa nw (Q.drop i) i (v1, C1)) → (vOK vs1 v1) → (tuB C1) → (tuR C1 a1 b1 c1) → (frm [va, cm, mc, mi, mb] σ σ1) → Q.length - i < fl → (σ1 dv = some (gs_ob 1 [.ref bk, .ref tu, .ref ma, .ref la, .ref cm, .int (nI sa), .int (bI nw), .int (nI rc)])) → (σ1 tu = some (gs_ob 6 [.ref ac, .ref ai, .ref ab, .int (nI E.length)])) → (σ1 ac = some (gs_ia X 301 cs)) → (σ1 ai = some (gs_ia X 301 ci)) → (σ1 ab = some (gs_ia X 301 cr)) → (σ1 la = some (gs_ob 6 [.ref lc, .ref li, .ref lb, .int (nI Lt.length)])) → (σ1 lc = some (gs_ia X 301 ds)) → (σ1 cm = some (gs_ob 6 [.ref mc, .ref mi, .ref mb, .int (nI C1.length)])) → (σ1 mc = some (gs_ia X 301 a1)) → (σ1 mi = some (gs_ia X 301 b1)) → (σ1 mb = some (gs_ia X 301 c1)) → (σ1 ma = some (gs_ob 3 [.ref tu, .ref va])) → (σ1 va = some (gs_ia X 8 vs1)) → (σ1 bk = some (gs_ob 5 [.ref co, .ref ru, .ref sr, .int (nI nr), .int (nI Q.length), .int sc])) → (σ1 ru = some (gs_qa X 2 24 fR)) → (σ1 sr = some (gs_ia X 12 sf)) → ∀ (H : Heap) (locs : List Loc), gs_H X σ1 H → va_S (gs_A X) s.heap H locs → ∀ ls, lv_has ls 2 [(1, .int (nI i)), (0, .ref dv)] → W p l e ({ frames := 10, cells := 0, slots := 0, locals := 532 } : Room) s m ([.ref dv] : List Value).toArray below meth c H locs 0 0 (MQ below (va_Qi (fun r σ' => ∃ E' Lt' v' sa' nw' rc', nxt Q S sc E Lt v sa nw rc = (r, (E', Lt', v', sa', nw', rc')) ∧ dvA X σ' dv bk tu ma la cm ac ai ab lc li lb mc mi mb va E' Lt' v' sa' nw' rc' ∧ frm [va, cm, mc, mi, mb, dv, tu, ac, ai, ab, la, lc] σ σ') (gs_U X) (gs_A X)) ([.ref dv] : List Value).toArray s 0 0 (gs_A X)) (F0 m 42 ls []) := by
    intro fl
    induction fl with
    | zero => intro i vs1 v1 C1 a1 b1 c1 σ1 _ _ _ _ _ _ _ _ h9; omega
    | succ fl ih =>
      intro i vs1 v1 C1 a1 b1 c1 σ1 hi hn3 hlt hst hv1 hB1 hR1 hf1 hmu y_dv y_tu y_ac y_ai y_ab y_la y_lc y_cm y_mc y_mi y_mb y_ma y_va y_bk y_ru y_sr H locs hG hS ls hl
      have hCl1 := hB1.2.1
      refine lv_iload_n hx hb d_DE_nextRound_42 rfl (lv_at hl 0 rfl) ?_
      refine lv_aload_n hx hb d_DE_nextRound_43 rfl (lv_at hl 1 rfl) ?_
      refine gs_get hx hb ht hown hK hG k_DE y_dv 0 (by decide) w_111 rfl d_DE_nextRound_44 ?_
      refine gs_get hx hb ht hown hK hG k_RB y_bk 4 (by decide) w_43 rfl d_DE_nextRound_47 ?_
      refine lv_icmp_ge (tgt := 101) hx hb d_DE_nextRound_50 (by decide) (fun c_50 => ?_) (fun c_50 => ?_)
      · have c_50 : Q.length ≤ i := (nI_leI (by omega) (by omega)).mp c_50
        have hfin : nrF (cds E) Lt S sa nw Q 0 (v, []) = (v1, C1) := by
          rw [hst]
          first
          | (have hie : i = Q.length := by omega
             rw [hie, List.drop_length]; rfl)
          | (have z := bI_n0 c_57
             obtain ⟨R, hR9⟩ := get_ex (L := Q) (j := i) (by omega)
             rw [drop_cons9 hR9]
             simp only [nrF]
             rw [if_pos (by unfold tmc; rw [hlc]; exact z)])
        refine lv_aload_n hx hb d_DE_nextRound_101 rfl (lv_at hl 1 rfl) ?_
        refine gs_callVi (As := []) (rest := []) ⟨hx, hb, hml, hown, hts⟩ hK hE hz hG hS (c_DE_isTooMuch l X σ1 dv bk tu ma la cm ac ai ab mc mi mb E.length C1.length (nI sa) (bI nw) (nI rc) y_dv y_tu y_cm (by omega) hCl1) mV_DE_isTooMuch w_168 y_dv rfl rfl hl.1 rfl (Nat.le_of_ble_eq_true rfl) ⟨(by first | decide | omega | (dsimp only [headSpec]; omega)), (by first | decide | omega | (dsimp only [headSpec]; omega))⟩ ⟨(by first | decide | omega | (dsimp only [headSpec]; omega)), (by first | decide | omega | (dsimp only [headSpec]; omega))⟩ d_DE_nextRound_102 (fun r_102 σ_102 H locs hp_102 hG hS => ?_)
        rw [hp_102.1] at hG
        refine gs_top (show r_102 = (bI (decide (300 < E.length + C1.length))) from hp_102.2) ?_
        refine lv_if_eq (tgt := 111) hx hb d_DE_nextRound_105 (by decide) (fun c_105 => ?_) (fun c_105 => ?_)
        · refine lv_aload_n hx hb d_DE_nextRound_111 rfl (lv_at hl 1 rfl) ?_
          have hntm : tmc (cds E).length C1 = false := by unfold tmc; rw [hlc]; exact bI_0 c_105
          have hsm : E.length + C1.length ≤ 300 := by
            have z := of_decide_eq_false (bI_0 c_105); omega
          refine gs_callVv (As := []) (rest := []) ⟨hx, hb, hml, hown, hts⟩ hK hE hz hG hS (c_DE_closeRound l X σ1 dv bk tu ma la cm ac ai ab lc li lb mc mi mb sa rc Lt.length nw E C1 cs ci cr a1 b1 c1 ds hnd hnd2 hB hR hB1 hR1 hsm hrc y_dv y_tu y_ac y_ai y_ab y_la y_lc y_cm y_mc y_mb) mV_DE_closeRound w_241 y_dv rfl rfl hl.1 rfl (Nat.le_of_ble_eq_true rfl) ⟨(by first | decide | omega | (dsimp only [headSpec]; omega)), (by first | decide | omega | (dsimp only [headSpec]; omega))⟩ ⟨(by first | decide | omega | (dsimp only [headSpec]; omega)), (by first | decide | omega | (dsimp only [headSpec]; omega))⟩ d_DE_nextRound_112 (fun σ_112 H locs hp_112 hG hS => ?_)
          obtain ⟨cs2, ci2, cr2, ds2, g0, g1, g2, g3, g4, g5, g6, hR2, hB2, hlen2, hds2, fr2⟩ := hp_112
          have frw : frm [va, cm, mc, mi, mb, dv, tu, ac, ai, ab, la, lc] σ σ1 := hf1.wk (by simp)
          have hc_1 : σ_112 cm = some (gs_ob 6 [.ref mc, .ref mi, .ref mb, .int (nI C1.length)]) := fr2 _ _ (nin_cons (gs_ne y_cm y_dv (by simp)) (nin_cons (Ne.symm (ndp hnd2 0 2 (by decide) rfl rfl)) (nin_cons (gs_ne y_cm y_ac (by simp)) (nin_cons (gs_ne y_cm y_ai (by simp)) (nin_cons (gs_ne y_cm y_ab (by simp)) (nin_cons (Ne.symm (ndp hnd2 1 2 (by decide) rfl rfl)) (nin_cons (gs_ne y_cm y_lc (by simp)) nin_nil))))))) y_cm
          have hc_2 : σ_112 mc = some (gs_ia X 301 a1) := fr2 _ _ (nin_cons (gs_ne y_mc y_dv (by simp)) (nin_cons (gs_ne y_mc y_tu (by simp)) (nin_cons (Ne.symm (ndp hnd 0 4 (by decide) rfl rfl)) (nin_cons (Ne.symm (ndp hnd 1 4 (by decide) rfl rfl)) (nin_cons (Ne.symm (ndp hnd 2 4 (by decide) rfl rfl)) (nin_cons (gs_ne y_mc y_la (by simp)) (nin_cons (Ne.symm (ndp hnd 3 4 (by decide) rfl rfl)) nin_nil))))))) y_mc
          have hc_3 : σ_112 mi = some (gs_ia X 301 b1) := fr2 _ _ (nin_cons (gs_ne y_mi y_dv (by simp)) (nin_cons (gs_ne y_mi y_tu (by simp)) (nin_cons (Ne.symm (ndp hnd 0 5 (by decide) rfl rfl)) (nin_cons (Ne.symm (ndp hnd 1 5 (by decide) rfl rfl)) (nin_cons (Ne.symm (ndp hnd 2 5 (by decide) rfl rfl)) (nin_cons (gs_ne y_mi y_la (by simp)) (nin_cons (Ne.symm (ndp hnd 3 5 (by decide) rfl rfl)) nin_nil))))))) y_mi
          have hc_4 : σ_112 mb = some (gs_ia X 301 c1) := fr2 _ _ (nin_cons (gs_ne y_mb y_dv (by simp)) (nin_cons (gs_ne y_mb y_tu (by simp)) (nin_cons (Ne.symm (ndp hnd 0 6 (by decide) rfl rfl)) (nin_cons (Ne.symm (ndp hnd 1 6 (by decide) rfl rfl)) (nin_cons (Ne.symm (ndp hnd 2 6 (by decide) rfl rfl)) (nin_cons (gs_ne y_mb y_la (by simp)) (nin_cons (Ne.symm (ndp hnd 3 6 (by decide) rfl rfl)) nin_nil))))))) y_mb
          have hc_5 : σ_112 ma = some (gs_ob 3 [.ref tu, .ref va]) := fr2 _ _ (nin_cons (gs_ne y_ma y_dv (by simp)) (nin_cons (gs_ne y_ma y_tu (by simp)) (nin_cons (gs_ne y_ma y_ac (by simp)) (nin_cons (gs_ne y_ma y_ai (by simp)) (nin_cons (gs_ne y_ma y_ab (by simp)) (nin_cons (gs_ne y_ma y_la (by simp)) (nin_cons (gs_ne y_ma y_lc (by simp)) nin_nil))))))) y_ma
          have hc_6 : σ_112 va = some (gs_ia X 8 vs1) := fr2 _ _ (nin_cons (gs_ne y_va y_dv (by simp)) (nin_cons (gs_ne y_va y_tu (by simp)) (nin_cons (gs_ne y_va y_ac (by simp)) (nin_cons (gs_ne y_va y_ai (by simp)) (nin_cons (gs_ne y_va y_ab (by simp)) (nin_cons (gs_ne y_va y_la (by simp)) (nin_cons (gs_ne y_va y_lc (by simp)) nin_nil))))))) y_va
          have hc_7 : σ_112 bk = some (gs_ob 5 [.ref co, .ref ru, .ref sr, .int (nI nr), .int (nI Q.length), .int sc]) := fr2 _ _ (nin_cons (gs_ne y_bk y_dv (by simp)) (nin_cons (gs_ne y_bk y_tu (by simp)) (nin_cons (gs_ne y_bk y_ac (by simp)) (nin_cons (gs_ne y_bk y_ai (by simp)) (nin_cons (gs_ne y_bk y_ab (by simp)) (nin_cons (gs_ne y_bk y_la (by simp)) (nin_cons (gs_ne y_bk y_lc (by simp)) nin_nil))))))) y_bk
          have hc_8 : σ_112 ru = some (gs_qa X 2 24 fR) := fr2 _ _ (nin_cons (gs_ne y_ru y_dv (by simp)) (nin_cons (gs_ne y_ru y_tu (by simp)) (nin_cons (gs_ne y_ru y_ac (by simp)) (nin_cons (gs_ne y_ru y_ai (by simp)) (nin_cons (gs_ne y_ru y_ab (by simp)) (nin_cons (gs_ne y_ru y_la (by simp)) (nin_cons (gs_ne y_ru y_lc (by simp)) nin_nil))))))) y_ru
          have hc_9 : σ_112 sr = some (gs_ia X 12 sf) := fr2 _ _ (nin_cons (gs_ne y_sr y_dv (by simp)) (nin_cons (gs_ne y_sr y_tu (by simp)) (nin_cons (gs_ne y_sr y_ac (by simp)) (nin_cons (gs_ne y_sr y_ai (by simp)) (nin_cons (gs_ne y_sr y_ab (by simp)) (nin_cons (gs_ne y_sr y_la (by simp)) (nin_cons (gs_ne y_sr y_lc (by simp)) nin_nil))))))) y_sr
          have fr_10 : frm [va, cm, mc, mi, mb, dv, tu, ac, ai, ab, la, lc] σ σ_112 := frw.trans fr2 (by simp)
          refine lv_aload_n hx hb d_DE_nextRound_115 rfl (lv_at hl 1 rfl) ?_
          refine gs_get hx hb ht hown hK hG k_DE g0 4 (by decide) w_115 rfl d_DE_nextRound_116 ?_
          refine gs_get hx hb ht hown hK hG k_TU hc_1 3 (by decide) w_78 rfl d_DE_nextRound_119 ?_
          have hx9 : nxt Q S sc E Lt v sa nw rc = (nI C1.length, (clE (rc + 1) E C1, cds C1, v1, sa + (if C1 = [] then 1 else 0), decide (C1 = []), rc + 1)) := by
            unfold nxt; rw [if_neg hn3, if_pos hlt, hfin, if_neg (by rw [hntm]; decide)]
          exact gs_iret (v := (nI C1.length)) hx hb hr rfl hK hE hz hG hS hlocks (by first | decide | omega | (dsimp only [headSpec]; omega)) (by first | decide | omega | (dsimp only [headSpec]; omega)) (⟨_, _, v1, _, _, _, hx9, ⟨cs2, ci2, cr2, ds2, vs1, a1, b1, c1, _, g0, g1, g2, g3, g4, (by rw [cds_len]; exact g5), g6, hc_1, hc_2, hc_3, hc_4, hc_5, hc_6, hB2, hR2, (by omega), hB1.1, (by rw [cds_len]; omega), hds2, hv1⟩, fr_10⟩) d_DE_nextRound_122
        · refine lv_bipush (v := -5) hx hb d_DE_nextRound_108 (by decide) ?_
          have hx9 : nxt Q S sc E Lt v sa nw rc = (-5, (E, Lt, v1, sa, nw, rc)) := by
            unfold nxt; rw [if_neg hn3, if_pos hlt, hfin, if_pos (by unfold tmc; rw [hlc]; exact bI_n0 c_105)]
          exact gs_iret (v := (-5)) hx hb hr rfl hK hE hz hG hS hlocks (by first | decide | omega | (dsimp only [headSpec]; omega)) (by first | decide | omega | (dsimp only [headSpec]; omega)) (⟨E, Lt, v1, sa, nw, rc, hx9, ⟨cs, ci, cr, ds, vs1, a1, b1, c1, _, y_dv, y_tu, y_ac, y_ai, y_ab, y_la, y_lc, y_cm, y_mc, y_mi, y_mb, y_ma, y_va, hB, hR, hl3, hs2, hn2, hds, hv1⟩, hf1.wk (by simp)⟩) d_DE_nextRound_110
      · have c_50 : ¬ Q.length ≤ i := mt (nI_leI (by omega) (by omega)).mpr c_50
        refine lv_aload_n hx hb d_DE_nextRound_53 rfl (lv_at hl 1 rfl) ?_
        refine gs_callVi (As := []) (rest := []) ⟨hx, hb, hml, hown, hts⟩ hK hE hz hG hS (c_DE_isTooMuch l X σ1 dv bk tu ma la cm ac ai ab mc mi mb E.length C1.length (nI sa) (bI nw) (nI rc) y_dv y_tu y_cm (by omega) hCl1) mV_DE_isTooMuch w_168 y_dv rfl rfl hl.1 rfl (Nat.le_of_ble_eq_true rfl) ⟨(by first | decide | omega | (dsimp only [headSpec]; omega)), (by first | decide | omega | (dsimp only [headSpec]; omega))⟩ ⟨(by first | decide | omega | (dsimp only [headSpec]; omega)), (by first | decide | omega | (dsimp only [headSpec]; omega))⟩ d_DE_nextRound_54 (fun r_54 σ_54 H locs hp_54 hG hS => ?_)
        rw [hp_54.1] at hG
        refine gs_top (show r_54 = (bI (decide (300 < E.length + C1.length))) from hp_54.2) ?_
        refine lv_if_ne (tgt := 101) hx hb d_DE_nextRound_57 (by decide) (fun c_57 => ?_) (fun c_57 => ?_)
        · have hfin : nrF (cds E) Lt S sa nw Q 0 (v, []) = (v1, C1) := by
            rw [hst]
            first
            | (have hie : i = Q.length := by omega
               rw [hie, List.drop_length]; rfl)
            | (have z := bI_n0 c_57
               obtain ⟨R, hR9⟩ := get_ex (L := Q) (j := i) (by omega)
               rw [drop_cons9 hR9]
               simp only [nrF]
               rw [if_pos (by unfold tmc; rw [hlc]; exact z)])
          refine lv_aload_n hx hb d_DE_nextRound_101 rfl (lv_at hl 1 rfl) ?_
          refine gs_callVi (As := []) (rest := []) ⟨hx, hb, hml, hown, hts⟩ hK hE hz hG hS (c_DE_isTooMuch l X σ1 dv bk tu ma la cm ac ai ab mc mi mb E.length C1.length (nI sa) (bI nw) (nI rc) y_dv y_tu y_cm (by omega) hCl1) mV_DE_isTooMuch w_168 y_dv rfl rfl hl.1 rfl (Nat.le_of_ble_eq_true rfl) ⟨(by first | decide | omega | (dsimp only [headSpec]; omega)), (by first | decide | omega | (dsimp only [headSpec]; omega))⟩ ⟨(by first | decide | omega | (dsimp only [headSpec]; omega)), (by first | decide | omega | (dsimp only [headSpec]; omega))⟩ d_DE_nextRound_102 (fun r_102 σ_102 H locs hp_102 hG hS => ?_)
          rw [hp_102.1] at hG
          refine gs_top (show r_102 = (bI (decide (300 < E.length + C1.length))) from hp_102.2) ?_
          refine lv_if_eq (tgt := 111) hx hb d_DE_nextRound_105 (by decide) (fun c_105 => ?_) (fun c_105 => ?_)
          · refine lv_aload_n hx hb d_DE_nextRound_111 rfl (lv_at hl 1 rfl) ?_
            have hntm : tmc (cds E).length C1 = false := by unfold tmc; rw [hlc]; exact bI_0 c_105
            have hsm : E.length + C1.length ≤ 300 := by
              have z := of_decide_eq_false (bI_0 c_105); omega
            refine gs_callVv (As := []) (rest := []) ⟨hx, hb, hml, hown, hts⟩ hK hE hz hG hS (c_DE_closeRound l X σ1 dv bk tu ma la cm ac ai ab lc li lb mc mi mb sa rc Lt.length nw E C1 cs ci cr a1 b1 c1 ds hnd hnd2 hB hR hB1 hR1 hsm hrc y_dv y_tu y_ac y_ai y_ab y_la y_lc y_cm y_mc y_mb) mV_DE_closeRound w_241 y_dv rfl rfl hl.1 rfl (Nat.le_of_ble_eq_true rfl) ⟨(by first | decide | omega | (dsimp only [headSpec]; omega)), (by first | decide | omega | (dsimp only [headSpec]; omega))⟩ ⟨(by first | decide | omega | (dsimp only [headSpec]; omega)), (by first | decide | omega | (dsimp only [headSpec]; omega))⟩ d_DE_nextRound_112 (fun σ_112 H locs hp_112 hG hS => ?_)
            obtain ⟨cs2, ci2, cr2, ds2, g0, g1, g2, g3, g4, g5, g6, hR2, hB2, hlen2, hds2, fr2⟩ := hp_112
            have frw : frm [va, cm, mc, mi, mb, dv, tu, ac, ai, ab, la, lc] σ σ1 := hf1.wk (by simp)
            have hc_11 : σ_112 cm = some (gs_ob 6 [.ref mc, .ref mi, .ref mb, .int (nI C1.length)]) := fr2 _ _ (nin_cons (gs_ne y_cm y_dv (by simp)) (nin_cons (Ne.symm (ndp hnd2 0 2 (by decide) rfl rfl)) (nin_cons (gs_ne y_cm y_ac (by simp)) (nin_cons (gs_ne y_cm y_ai (by simp)) (nin_cons (gs_ne y_cm y_ab (by simp)) (nin_cons (Ne.symm (ndp hnd2 1 2 (by decide) rfl rfl)) (nin_cons (gs_ne y_cm y_lc (by simp)) nin_nil))))))) y_cm
            have hc_12 : σ_112 mc = some (gs_ia X 301 a1) := fr2 _ _ (nin_cons (gs_ne y_mc y_dv (by simp)) (nin_cons (gs_ne y_mc y_tu (by simp)) (nin_cons (Ne.symm (ndp hnd 0 4 (by decide) rfl rfl)) (nin_cons (Ne.symm (ndp hnd 1 4 (by decide) rfl rfl)) (nin_cons (Ne.symm (ndp hnd 2 4 (by decide) rfl rfl)) (nin_cons (gs_ne y_mc y_la (by simp)) (nin_cons (Ne.symm (ndp hnd 3 4 (by decide) rfl rfl)) nin_nil))))))) y_mc
            have hc_13 : σ_112 mi = some (gs_ia X 301 b1) := fr2 _ _ (nin_cons (gs_ne y_mi y_dv (by simp)) (nin_cons (gs_ne y_mi y_tu (by simp)) (nin_cons (Ne.symm (ndp hnd 0 5 (by decide) rfl rfl)) (nin_cons (Ne.symm (ndp hnd 1 5 (by decide) rfl rfl)) (nin_cons (Ne.symm (ndp hnd 2 5 (by decide) rfl rfl)) (nin_cons (gs_ne y_mi y_la (by simp)) (nin_cons (Ne.symm (ndp hnd 3 5 (by decide) rfl rfl)) nin_nil))))))) y_mi
            have hc_14 : σ_112 mb = some (gs_ia X 301 c1) := fr2 _ _ (nin_cons (gs_ne y_mb y_dv (by simp)) (nin_cons (gs_ne y_mb y_tu (by simp)) (nin_cons (Ne.symm (ndp hnd 0 6 (by decide) rfl rfl)) (nin_cons (Ne.symm (ndp hnd 1 6 (by decide) rfl rfl)) (nin_cons (Ne.symm (ndp hnd 2 6 (by decide) rfl rfl)) (nin_cons (gs_ne y_mb y_la (by simp)) (nin_cons (Ne.symm (ndp hnd 3 6 (by decide) rfl rfl)) nin_nil))))))) y_mb
            have hc_15 : σ_112 ma = some (gs_ob 3 [.ref tu, .ref va]) := fr2 _ _ (nin_cons (gs_ne y_ma y_dv (by simp)) (nin_cons (gs_ne y_ma y_tu (by simp)) (nin_cons (gs_ne y_ma y_ac (by simp)) (nin_cons (gs_ne y_ma y_ai (by simp)) (nin_cons (gs_ne y_ma y_ab (by simp)) (nin_cons (gs_ne y_ma y_la (by simp)) (nin_cons (gs_ne y_ma y_lc (by simp)) nin_nil))))))) y_ma
            have hc_16 : σ_112 va = some (gs_ia X 8 vs1) := fr2 _ _ (nin_cons (gs_ne y_va y_dv (by simp)) (nin_cons (gs_ne y_va y_tu (by simp)) (nin_cons (gs_ne y_va y_ac (by simp)) (nin_cons (gs_ne y_va y_ai (by simp)) (nin_cons (gs_ne y_va y_ab (by simp)) (nin_cons (gs_ne y_va y_la (by simp)) (nin_cons (gs_ne y_va y_lc (by simp)) nin_nil))))))) y_va
            have hc_17 : σ_112 bk = some (gs_ob 5 [.ref co, .ref ru, .ref sr, .int (nI nr), .int (nI Q.length), .int sc]) := fr2 _ _ (nin_cons (gs_ne y_bk y_dv (by simp)) (nin_cons (gs_ne y_bk y_tu (by simp)) (nin_cons (gs_ne y_bk y_ac (by simp)) (nin_cons (gs_ne y_bk y_ai (by simp)) (nin_cons (gs_ne y_bk y_ab (by simp)) (nin_cons (gs_ne y_bk y_la (by simp)) (nin_cons (gs_ne y_bk y_lc (by simp)) nin_nil))))))) y_bk
            have hc_18 : σ_112 ru = some (gs_qa X 2 24 fR) := fr2 _ _ (nin_cons (gs_ne y_ru y_dv (by simp)) (nin_cons (gs_ne y_ru y_tu (by simp)) (nin_cons (gs_ne y_ru y_ac (by simp)) (nin_cons (gs_ne y_ru y_ai (by simp)) (nin_cons (gs_ne y_ru y_ab (by simp)) (nin_cons (gs_ne y_ru y_la (by simp)) (nin_cons (gs_ne y_ru y_lc (by simp)) nin_nil))))))) y_ru
            have hc_19 : σ_112 sr = some (gs_ia X 12 sf) := fr2 _ _ (nin_cons (gs_ne y_sr y_dv (by simp)) (nin_cons (gs_ne y_sr y_tu (by simp)) (nin_cons (gs_ne y_sr y_ac (by simp)) (nin_cons (gs_ne y_sr y_ai (by simp)) (nin_cons (gs_ne y_sr y_ab (by simp)) (nin_cons (gs_ne y_sr y_la (by simp)) (nin_cons (gs_ne y_sr y_lc (by simp)) nin_nil))))))) y_sr
            have fr_20 : frm [va, cm, mc, mi, mb, dv, tu, ac, ai, ab, la, lc] σ σ_112 := frw.trans fr2 (by simp)
            refine lv_aload_n hx hb d_DE_nextRound_115 rfl (lv_at hl 1 rfl) ?_
            refine gs_get hx hb ht hown hK hG k_DE g0 4 (by decide) w_115 rfl d_DE_nextRound_116 ?_
            refine gs_get hx hb ht hown hK hG k_TU hc_11 3 (by decide) w_78 rfl d_DE_nextRound_119 ?_
            have hx9 : nxt Q S sc E Lt v sa nw rc = (nI C1.length, (clE (rc + 1) E C1, cds C1, v1, sa + (if C1 = [] then 1 else 0), decide (C1 = []), rc + 1)) := by
              unfold nxt; rw [if_neg hn3, if_pos hlt, hfin, if_neg (by rw [hntm]; decide)]
            exact gs_iret (v := (nI C1.length)) hx hb hr rfl hK hE hz hG hS hlocks (by first | decide | omega | (dsimp only [headSpec]; omega)) (by first | decide | omega | (dsimp only [headSpec]; omega)) (⟨_, _, v1, _, _, _, hx9, ⟨cs2, ci2, cr2, ds2, vs1, a1, b1, c1, _, g0, g1, g2, g3, g4, (by rw [cds_len]; exact g5), g6, hc_11, hc_12, hc_13, hc_14, hc_15, hc_16, hB2, hR2, (by omega), hB1.1, (by rw [cds_len]; omega), hds2, hv1⟩, fr_20⟩) d_DE_nextRound_122
          · refine lv_bipush (v := -5) hx hb d_DE_nextRound_108 (by decide) ?_
            have hx9 : nxt Q S sc E Lt v sa nw rc = (-5, (E, Lt, v1, sa, nw, rc)) := by
              unfold nxt; rw [if_neg hn3, if_pos hlt, hfin, if_pos (by unfold tmc; rw [hlc]; exact bI_n0 c_105)]
            exact gs_iret (v := (-5)) hx hb hr rfl hK hE hz hG hS hlocks (by first | decide | omega | (dsimp only [headSpec]; omega)) (by first | decide | omega | (dsimp only [headSpec]; omega)) (⟨E, Lt, v1, sa, nw, rc, hx9, ⟨cs, ci, cr, ds, vs1, a1, b1, c1, _, y_dv, y_tu, y_ac, y_ai, y_ab, y_la, y_lc, y_cm, y_mc, y_mi, y_mb, y_ma, y_va, hB, hR, hl3, hs2, hn2, hds, hv1⟩, hf1.wk (by simp)⟩) d_DE_nextRound_110
        · refine lv_aload_n hx hb d_DE_nextRound_60 rfl (lv_at hl 1 rfl) ?_
          refine gs_get hx hb ht hown hK hG k_DE y_dv 0 (by decide) w_111 rfl d_DE_nextRound_61 ?_
          refine gs_get hx hb ht hown hK hG k_RB y_bk 2 (by decide) w_38 rfl d_DE_nextRound_64 ?_
          refine lv_aload_n hx hb d_DE_nextRound_67 rfl (lv_at hl 1 rfl) ?_
          refine gs_get hx hb ht hown hK hG k_DE y_dv 0 (by decide) w_111 rfl d_DE_nextRound_68 ?_
          refine gs_get hx hb ht hown hK hG k_RB y_bk 1 (by decide) w_35 rfl d_DE_nextRound_71 ?_
          refine lv_iload_n hx hb d_DE_nextRound_74 rfl (lv_at hl 0 rfl) ?_
          obtain ⟨R, hR9⟩ := get_ex (L := Q) (j := i) (by omega)
          obtain ⟨hRB, hrv, a, ha1, ha2⟩ := hQ i R hR9
          have ha3 : ruAt X σ1 a R := ha2.frm hf1 hAA
          obtain ⟨hd, ho, ck, kf, fH, fC, r0, r1, r2, r3, rh, rk⟩ := id ha3
          have hrl := hRB.1.2.1
          have hk3 := hRB.2.1
          obtain ⟨s1, s2⟩ := hsO _ hrl
          have hnt : ¬ tmc (cds E).length C1 = true := by
            have z := bI_0 c_57
            unfold tmc; rw [hlc, z]; decide
          rw [drop_cons9 hR9] at hst
          simp only [nrF] at hst
          rw [if_neg hnt] at hst
          refine gs_aald hx hb hK hG 2 y_ru rfl (j := i) (by omega) (by omega) d_DE_nextRound_75 ?_
          refine gs_topr (show va_rf (fR i) = .ref a by rw [ha1]; rfl) ?_
          refine gs_get hx hb ht hown hK hG k_RU r0 0 (by decide) w_494 rfl d_DE_nextRound_76 ?_
          refine gs_get hx hb ht hown hK hG k_IT r1 1 (by decide) w_449 rfl d_DE_nextRound_79 ?_
          refine gs_iald hx hb hK hG y_sr (j := R.1.1.2.1) (by omega) (by omega) d_DE_nextRound_82 ?_
          refine gs_top (show (sf R.1.1.2.1) = (nI (S R.1.1.2.1)) from s1) ?_
          refine lv_aload_n hx hb d_DE_nextRound_83 rfl (lv_at hl 1 rfl) ?_
          refine gs_get hx hb ht hown hK hG k_DE y_dv 5 (by decide) w_116 rfl d_DE_nextRound_84 ?_
          refine lv_icmp_ne (tgt := 95) hx hb d_DE_nextRound_87 (by decide) (fun c_87 => ?_) (fun c_87 => ?_)
          · have c_87 : ¬ (S R.1.1.2.1) = sa := mt (nI_eq (by omega) (by omega)).mpr c_87
            refine lv_iinc (v := (nI (i + 1))) (lv' := [(1, .int (nI (i + 1))), (0, .ref dv)]) hx hb d_DE_nextRound_95 hl (k := 0) rfl (by exact nI_1 _) (by decide) rfl (fun ls hl => ?_)
            refine lv_goto (tgt := 42) hx hb d_DE_nextRound_98 (by decide) ?_
            rw [if_neg (show ¬ S R.1.1.2.1 = sa by omega)] at hst
            exact ih (i + 1) vs1 v1 C1 a1 b1 c1 σ1 (by omega) hn3 hlt hst hv1 hB1 hR1 hf1 (by omega) y_dv y_tu y_ac y_ai y_ab y_la y_lc y_cm y_mc y_mi y_mb y_ma y_va y_bk y_ru y_sr H locs hG hS ls (lv_sub hl [0, 1] rfl)
          · have c_87 : (S R.1.1.2.1) = sa :=  (nI_eq (by omega) (by omega)).mp c_87
            refine lv_aload_n hx hb d_DE_nextRound_90 rfl (lv_at hl 1 rfl) ?_
            refine lv_iload_n hx hb d_DE_nextRound_91 rfl (lv_at hl 0 rfl) ?_
            refine gs_callVv (As := [.int (nI i)]) (rest := []) ⟨hx, hb, hml, hown, hts⟩ hK hE hz hG hS (c_DE_deriveBy l X σ1 dv bk tu ma la cm ac ai ab lc li lb mc mi mb va co ru sr nr Q.length a hd ho ck kf i (nI sa) (bI nw) (nI rc) sc (cds E) Lt cs ds R (rdN R) nw fR fH fC vs1 v1 C1 a1 b1 c1 hB.1 (by rw [hlc]; omega) (hR.cds hB.2.2) hs2 hn2 hds hRB hrv.1 hrv.2 (by omega) ha1 (ndp hnd2 0 2 (by decide) rfl rfl) (ndp hnd2 1 2 (by decide) rfl rfl) (ndp hnd 0 4 (by decide) rfl rfl) (ndp hnd 0 5 (by decide) rfl rfl) (ndp hnd 0 6 (by decide) rfl rfl) (ndp hnd 3 4 (by decide) rfl rfl) (ndp hnd 3 5 (by decide) rfl rfl) (ndp hnd 3 6 (by decide) rfl rfl) (ndp hnd 4 5 (by decide) rfl rfl) (ndp hnd 4 6 (by decide) rfl rfl) (ndp hnd 5 6 (by decide) rfl rfl) rfl hv1 hB1 hR1 y_dv y_bk y_ru r0 r1 r2 r3 (by rw [hlc]; exact y_tu) y_ac y_la y_lc y_ma y_va y_cm y_mc y_mi y_mb rh rk) mV_DE_deriveBy w_172 y_dv rfl rfl hl.1 rfl (Nat.le_of_ble_eq_true rfl) ⟨(by first | decide | omega | (dsimp only [headSpec]; omega)), (by first | decide | omega | (dsimp only [headSpec]; omega))⟩ ⟨(by first | decide | omega | (dsimp only [headSpec]; omega)), (by first | decide | omega | (dsimp only [headSpec]; omega))⟩ d_DE_nextRound_92 (fun σ_92 H locs hp_92 hG hS => ?_)
            obtain ⟨vs3, a3, b3, c3, ev3, hv3, hR3, hB3⟩ := hp_92
            rw [ev3] at hG
            unfold dvS tu4 at hG
            obtain ⟨σ_21, eσ_21⟩ : ∃ zq, zq = gs_up σ1 va (gs_ia X 8 vs3) := ⟨_, rfl⟩
            have hc_22 : σ_21 dv = some (gs_ob 1 [.ref bk, .ref tu, .ref ma, .ref la, .ref cm, .int (nI sa), .int (bI nw), .int (nI rc)]) := by rw [eσ_21]; exact gs_ku (gs_ne y_dv y_va (by simp)) y_dv
            have hc_23 : σ_21 tu = some (gs_ob 6 [.ref ac, .ref ai, .ref ab, .int (nI E.length)]) := by rw [eσ_21]; exact gs_ku (gs_ne y_tu y_va (by simp)) y_tu
            have hc_24 : σ_21 ac = some (gs_ia X 301 cs) := by rw [eσ_21]; exact gs_ku (gs_ne y_ac y_va (by simp)) y_ac
            have hc_25 : σ_21 ai = some (gs_ia X 301 ci) := by rw [eσ_21]; exact gs_ku (gs_ne y_ai y_va (by simp)) y_ai
            have hc_26 : σ_21 ab = some (gs_ia X 301 cr) := by rw [eσ_21]; exact gs_ku (gs_ne y_ab y_va (by simp)) y_ab
            have hc_27 : σ_21 la = some (gs_ob 6 [.ref lc, .ref li, .ref lb, .int (nI Lt.length)]) := by rw [eσ_21]; exact gs_ku (gs_ne y_la y_va (by simp)) y_la
            have hc_28 : σ_21 lc = some (gs_ia X 301 ds) := by rw [eσ_21]; exact gs_ku (gs_ne y_lc y_va (by simp)) y_lc
            have hc_29 : σ_21 cm = some (gs_ob 6 [.ref mc, .ref mi, .ref mb, .int (nI C1.length)]) := by rw [eσ_21]; exact gs_ku (gs_ne y_cm y_va (by simp)) y_cm
            have hc_30 : σ_21 mc = some (gs_ia X 301 a1) := by rw [eσ_21]; exact gs_ku (gs_ne y_mc y_va (by simp)) y_mc
            have hc_31 : σ_21 mi = some (gs_ia X 301 b1) := by rw [eσ_21]; exact gs_ku (gs_ne y_mi y_va (by simp)) y_mi
            have hc_32 : σ_21 mb = some (gs_ia X 301 c1) := by rw [eσ_21]; exact gs_ku (gs_ne y_mb y_va (by simp)) y_mb
            have hc_33 : σ_21 ma = some (gs_ob 3 [.ref tu, .ref va]) := by rw [eσ_21]; exact gs_ku (gs_ne y_ma y_va (by simp)) y_ma
            have hc_34 : σ_21 bk = some (gs_ob 5 [.ref co, .ref ru, .ref sr, .int (nI nr), .int (nI Q.length), .int sc]) := by rw [eσ_21]; exact gs_ku (gs_ne y_bk y_va (by simp)) y_bk
            have hc_35 : σ_21 ru = some (gs_qa X 2 24 fR) := by rw [eσ_21]; exact gs_ku (gs_ne y_ru y_va (by simp)) y_ru
            have hc_36 : σ_21 sr = some (gs_ia X 12 sf) := by rw [eσ_21]; exact gs_ku (gs_ne y_sr y_va (by simp)) y_sr
            have hc_37 : σ_21 va = some (gs_ia X 8 vs3) := by rw [eσ_21]; exact gs_us
            have fr_38 : frm [va, cm, mc, mi, mb] σ σ_21 := by rw [eσ_21]; exact hf1.up (by simp)
            obtain ⟨σ_39, eσ_39⟩ : ∃ zq, zq = gs_up σ_21 mc (gs_ia X 301 a3) := ⟨_, rfl⟩
            have hc_40 : σ_39 dv = some (gs_ob 1 [.ref bk, .ref tu, .ref ma, .ref la, .ref cm, .int (nI sa), .int (bI nw), .int (nI rc)]) := by rw [eσ_39]; exact gs_ku (gs_ne hc_22 hc_30 (by simp)) hc_22
            have hc_41 : σ_39 tu = some (gs_ob 6 [.ref ac, .ref ai, .ref ab, .int (nI E.length)]) := by rw [eσ_39]; exact gs_ku (gs_ne hc_23 hc_30 (by simp)) hc_23
            have hc_42 : σ_39 ac = some (gs_ia X 301 cs) := by rw [eσ_39]; exact gs_ku (ndp hnd 0 4 (by decide) rfl rfl) hc_24
            have hc_43 : σ_39 ai = some (gs_ia X 301 ci) := by rw [eσ_39]; exact gs_ku (ndp hnd 1 4 (by decide) rfl rfl) hc_25
            have hc_44 : σ_39 ab = some (gs_ia X 301 cr) := by rw [eσ_39]; exact gs_ku (ndp hnd 2 4 (by decide) rfl rfl) hc_26
            have hc_45 : σ_39 la = some (gs_ob 6 [.ref lc, .ref li, .ref lb, .int (nI Lt.length)]) := by rw [eσ_39]; exact gs_ku (gs_ne hc_27 hc_30 (by simp)) hc_27
            have hc_46 : σ_39 lc = some (gs_ia X 301 ds) := by rw [eσ_39]; exact gs_ku (ndp hnd 3 4 (by decide) rfl rfl) hc_28
            have hc_47 : σ_39 cm = some (gs_ob 6 [.ref mc, .ref mi, .ref mb, .int (nI C1.length)]) := by rw [eσ_39]; exact gs_ku (gs_ne hc_29 hc_30 (by simp)) hc_29
            have hc_48 : σ_39 mi = some (gs_ia X 301 b1) := by rw [eσ_39]; exact gs_ku (Ne.symm (ndp hnd 4 5 (by decide) rfl rfl)) hc_31
            have hc_49 : σ_39 mb = some (gs_ia X 301 c1) := by rw [eσ_39]; exact gs_ku (Ne.symm (ndp hnd 4 6 (by decide) rfl rfl)) hc_32
            have hc_50 : σ_39 ma = some (gs_ob 3 [.ref tu, .ref va]) := by rw [eσ_39]; exact gs_ku (gs_ne hc_33 hc_30 (by simp)) hc_33
            have hc_51 : σ_39 bk = some (gs_ob 5 [.ref co, .ref ru, .ref sr, .int (nI nr), .int (nI Q.length), .int sc]) := by rw [eσ_39]; exact gs_ku (gs_ne hc_34 hc_30 (by simp)) hc_34
            have hc_52 : σ_39 ru = some (gs_qa X 2 24 fR) := by rw [eσ_39]; exact gs_ku (gs_ne hc_35 hc_30 (by simp)) hc_35
            have hc_53 : σ_39 sr = some (gs_ia X 12 sf) := by rw [eσ_39]; exact gs_ku (gs_ne hc_36 hc_30 (by simp)) hc_36
            have hc_54 : σ_39 va = some (gs_ia X 8 vs3) := by rw [eσ_39]; exact gs_ku (gs_ne hc_37 hc_30 (by simp)) hc_37
            have hc_55 : σ_39 mc = some (gs_ia X 301 a3) := by rw [eσ_39]; exact gs_us
            have fr_56 : frm [va, cm, mc, mi, mb] σ σ_39 := by rw [eσ_39]; exact fr_38.up (by simp)
            obtain ⟨σ_57, eσ_57⟩ : ∃ zq, zq = gs_up σ_39 mi (gs_ia X 301 b3) := ⟨_, rfl⟩
            have hc_58 : σ_57 dv = some (gs_ob 1 [.ref bk, .ref tu, .ref ma, .ref la, .ref cm, .int (nI sa), .int (bI nw), .int (nI rc)]) := by rw [eσ_57]; exact gs_ku (gs_ne hc_40 hc_48 (by simp)) hc_40
            have hc_59 : σ_57 tu = some (gs_ob 6 [.ref ac, .ref ai, .ref ab, .int (nI E.length)]) := by rw [eσ_57]; exact gs_ku (gs_ne hc_41 hc_48 (by simp)) hc_41
            have hc_60 : σ_57 ac = some (gs_ia X 301 cs) := by rw [eσ_57]; exact gs_ku (ndp hnd 0 5 (by decide) rfl rfl) hc_42
            have hc_61 : σ_57 ai = some (gs_ia X 301 ci) := by rw [eσ_57]; exact gs_ku (ndp hnd 1 5 (by decide) rfl rfl) hc_43
            have hc_62 : σ_57 ab = some (gs_ia X 301 cr) := by rw [eσ_57]; exact gs_ku (ndp hnd 2 5 (by decide) rfl rfl) hc_44
            have hc_63 : σ_57 la = some (gs_ob 6 [.ref lc, .ref li, .ref lb, .int (nI Lt.length)]) := by rw [eσ_57]; exact gs_ku (gs_ne hc_45 hc_48 (by simp)) hc_45
            have hc_64 : σ_57 lc = some (gs_ia X 301 ds) := by rw [eσ_57]; exact gs_ku (ndp hnd 3 5 (by decide) rfl rfl) hc_46
            have hc_65 : σ_57 cm = some (gs_ob 6 [.ref mc, .ref mi, .ref mb, .int (nI C1.length)]) := by rw [eσ_57]; exact gs_ku (gs_ne hc_47 hc_48 (by simp)) hc_47
            have hc_66 : σ_57 mb = some (gs_ia X 301 c1) := by rw [eσ_57]; exact gs_ku (Ne.symm (ndp hnd 5 6 (by decide) rfl rfl)) hc_49
            have hc_67 : σ_57 ma = some (gs_ob 3 [.ref tu, .ref va]) := by rw [eσ_57]; exact gs_ku (gs_ne hc_50 hc_48 (by simp)) hc_50
            have hc_68 : σ_57 bk = some (gs_ob 5 [.ref co, .ref ru, .ref sr, .int (nI nr), .int (nI Q.length), .int sc]) := by rw [eσ_57]; exact gs_ku (gs_ne hc_51 hc_48 (by simp)) hc_51
            have hc_69 : σ_57 ru = some (gs_qa X 2 24 fR) := by rw [eσ_57]; exact gs_ku (gs_ne hc_52 hc_48 (by simp)) hc_52
            have hc_70 : σ_57 sr = some (gs_ia X 12 sf) := by rw [eσ_57]; exact gs_ku (gs_ne hc_53 hc_48 (by simp)) hc_53
            have hc_71 : σ_57 va = some (gs_ia X 8 vs3) := by rw [eσ_57]; exact gs_ku (gs_ne hc_54 hc_48 (by simp)) hc_54
            have hc_72 : σ_57 mc = some (gs_ia X 301 a3) := by rw [eσ_57]; exact gs_ku (ndp hnd 4 5 (by decide) rfl rfl) hc_55
            have hc_73 : σ_57 mi = some (gs_ia X 301 b3) := by rw [eσ_57]; exact gs_us
            have fr_74 : frm [va, cm, mc, mi, mb] σ σ_57 := by rw [eσ_57]; exact fr_56.up (by simp)
            obtain ⟨σ_75, eσ_75⟩ : ∃ zq, zq = gs_up σ_57 mb (gs_ia X 301 c3) := ⟨_, rfl⟩
            have hc_76 : σ_75 dv = some (gs_ob 1 [.ref bk, .ref tu, .ref ma, .ref la, .ref cm, .int (nI sa), .int (bI nw), .int (nI rc)]) := by rw [eσ_75]; exact gs_ku (gs_ne hc_58 hc_66 (by simp)) hc_58
            have hc_77 : σ_75 tu = some (gs_ob 6 [.ref ac, .ref ai, .ref ab, .int (nI E.length)]) := by rw [eσ_75]; exact gs_ku (gs_ne hc_59 hc_66 (by simp)) hc_59
            have hc_78 : σ_75 ac = some (gs_ia X 301 cs) := by rw [eσ_75]; exact gs_ku (ndp hnd 0 6 (by decide) rfl rfl) hc_60
            have hc_79 : σ_75 ai = some (gs_ia X 301 ci) := by rw [eσ_75]; exact gs_ku (ndp hnd 1 6 (by decide) rfl rfl) hc_61
            have hc_80 : σ_75 ab = some (gs_ia X 301 cr) := by rw [eσ_75]; exact gs_ku (ndp hnd 2 6 (by decide) rfl rfl) hc_62
            have hc_81 : σ_75 la = some (gs_ob 6 [.ref lc, .ref li, .ref lb, .int (nI Lt.length)]) := by rw [eσ_75]; exact gs_ku (gs_ne hc_63 hc_66 (by simp)) hc_63
            have hc_82 : σ_75 lc = some (gs_ia X 301 ds) := by rw [eσ_75]; exact gs_ku (ndp hnd 3 6 (by decide) rfl rfl) hc_64
            have hc_83 : σ_75 cm = some (gs_ob 6 [.ref mc, .ref mi, .ref mb, .int (nI C1.length)]) := by rw [eσ_75]; exact gs_ku (gs_ne hc_65 hc_66 (by simp)) hc_65
            have hc_84 : σ_75 ma = some (gs_ob 3 [.ref tu, .ref va]) := by rw [eσ_75]; exact gs_ku (gs_ne hc_67 hc_66 (by simp)) hc_67
            have hc_85 : σ_75 bk = some (gs_ob 5 [.ref co, .ref ru, .ref sr, .int (nI nr), .int (nI Q.length), .int sc]) := by rw [eσ_75]; exact gs_ku (gs_ne hc_68 hc_66 (by simp)) hc_68
            have hc_86 : σ_75 ru = some (gs_qa X 2 24 fR) := by rw [eσ_75]; exact gs_ku (gs_ne hc_69 hc_66 (by simp)) hc_69
            have hc_87 : σ_75 sr = some (gs_ia X 12 sf) := by rw [eσ_75]; exact gs_ku (gs_ne hc_70 hc_66 (by simp)) hc_70
            have hc_88 : σ_75 va = some (gs_ia X 8 vs3) := by rw [eσ_75]; exact gs_ku (gs_ne hc_71 hc_66 (by simp)) hc_71
            have hc_89 : σ_75 mc = some (gs_ia X 301 a3) := by rw [eσ_75]; exact gs_ku (ndp hnd 4 6 (by decide) rfl rfl) hc_72
            have hc_90 : σ_75 mi = some (gs_ia X 301 b3) := by rw [eσ_75]; exact gs_ku (ndp hnd 5 6 (by decide) rfl rfl) hc_73
            have hc_91 : σ_75 mb = some (gs_ia X 301 c3) := by rw [eσ_75]; exact gs_us
            have fr_92 : frm [va, cm, mc, mi, mb] σ σ_75 := by rw [eσ_75]; exact fr_74.up (by simp)
            obtain ⟨σ_93, eσ_93⟩ : ∃ zq, zq = gs_up σ_75 cm (gs_ob 6 [.ref mc, .ref mi, .ref mb, .int (nI ((dvB (cds E) Lt i R (rdN R) nw v1 C1).2.length))]) := ⟨_, rfl⟩
            have hc_94 : σ_93 dv = some (gs_ob 1 [.ref bk, .ref tu, .ref ma, .ref la, .ref cm, .int (nI sa), .int (bI nw), .int (nI rc)]) := by rw [eσ_93]; exact gs_ku (gs_ne hc_76 hc_83 (by simp)) hc_76
            have hc_95 : σ_93 tu = some (gs_ob 6 [.ref ac, .ref ai, .ref ab, .int (nI E.length)]) := by rw [eσ_93]; exact gs_ku (ndp hnd2 0 2 (by decide) rfl rfl) hc_77
            have hc_96 : σ_93 ac = some (gs_ia X 301 cs) := by rw [eσ_93]; exact gs_ku (gs_ne hc_78 hc_83 (by simp)) hc_78
            have hc_97 : σ_93 ai = some (gs_ia X 301 ci) := by rw [eσ_93]; exact gs_ku (gs_ne hc_79 hc_83 (by simp)) hc_79
            have hc_98 : σ_93 ab = some (gs_ia X 301 cr) := by rw [eσ_93]; exact gs_ku (gs_ne hc_80 hc_83 (by simp)) hc_80
            have hc_99 : σ_93 la = some (gs_ob 6 [.ref lc, .ref li, .ref lb, .int (nI Lt.length)]) := by rw [eσ_93]; exact gs_ku (ndp hnd2 1 2 (by decide) rfl rfl) hc_81
            have hc_100 : σ_93 lc = some (gs_ia X 301 ds) := by rw [eσ_93]; exact gs_ku (gs_ne hc_82 hc_83 (by simp)) hc_82
            have hc_101 : σ_93 ma = some (gs_ob 3 [.ref tu, .ref va]) := by rw [eσ_93]; exact gs_ku (gs_ne hc_84 hc_83 (by simp)) hc_84
            have hc_102 : σ_93 bk = some (gs_ob 5 [.ref co, .ref ru, .ref sr, .int (nI nr), .int (nI Q.length), .int sc]) := by rw [eσ_93]; exact gs_ku (gs_ne hc_85 hc_83 (by simp)) hc_85
            have hc_103 : σ_93 ru = some (gs_qa X 2 24 fR) := by rw [eσ_93]; exact gs_ku (gs_ne hc_86 hc_83 (by simp)) hc_86
            have hc_104 : σ_93 sr = some (gs_ia X 12 sf) := by rw [eσ_93]; exact gs_ku (gs_ne hc_87 hc_83 (by simp)) hc_87
            have hc_105 : σ_93 va = some (gs_ia X 8 vs3) := by rw [eσ_93]; exact gs_ku (gs_ne hc_88 hc_83 (by simp)) hc_88
            have hc_106 : σ_93 mc = some (gs_ia X 301 a3) := by rw [eσ_93]; exact gs_ku (gs_ne hc_89 hc_83 (by simp)) hc_89
            have hc_107 : σ_93 mi = some (gs_ia X 301 b3) := by rw [eσ_93]; exact gs_ku (gs_ne hc_90 hc_83 (by simp)) hc_90
            have hc_108 : σ_93 mb = some (gs_ia X 301 c3) := by rw [eσ_93]; exact gs_ku (gs_ne hc_91 hc_83 (by simp)) hc_91
            have hc_109 : σ_93 cm = some (gs_ob 6 [.ref mc, .ref mi, .ref mb, .int (nI ((dvB (cds E) Lt i R (rdN R) nw v1 C1).2.length))]) := by rw [eσ_93]; exact gs_us
            have fr_110 : frm [va, cm, mc, mi, mb] σ σ_93 := by rw [eσ_93]; exact fr_92.up (by simp)
            rw [← eσ_21, ← eσ_39, ← eσ_57, ← eσ_75, ← eσ_93] at hG
            refine lv_iinc (v := (nI (i + 1))) (lv' := [(1, .int (nI (i + 1))), (0, .ref dv)]) hx hb d_DE_nextRound_95 hl (k := 0) rfl (by exact nI_1 _) (by decide) rfl (fun ls hl => ?_)
            refine lv_goto (tgt := 42) hx hb d_DE_nextRound_98 (by decide) ?_
            rw [if_pos (show S R.1.1.2.1 = sa by omega)] at hst
            exact ih (i + 1) vs3 _ _ a3 b3 c3 σ_93 (by omega) hn3 hlt hst hv3 hB3 hR3 fr_110 (by omega) hc_94 hc_95 hc_96 hc_97 hc_98 hc_99 hc_100 hc_109 hc_106 hc_107 hc_108 hc_101 hc_105 hc_102 hc_103 hc_104 H locs hG hS ls (lv_sub hl [0, 1] rfl)
  refine lv_aload_n hx hb d_DE_nextRound_0 rfl (lv_at hl 0 rfl) ?_
  refine gs_get hx hb ht hown hK hG k_DE d0 0 (by decide) w_111 rfl d_DE_nextRound_1 ?_
  refine gs_get hx hb ht hown hK hG k_RB k0 5 (by decide) w_46 rfl d_DE_nextRound_4 ?_
  refine lv_bipush (v := -3) hx hb d_DE_nextRound_7 (by decide) ?_
  refine lv_icmp_ne (tgt := 15) hx hb d_DE_nextRound_9 (by decide) (fun c_9 => ?_) (fun c_9 => ?_)
  · refine lv_aload_n hx hb d_DE_nextRound_15 rfl (lv_at hl 0 rfl) ?_
    refine gs_get hx hb ht hown hK hG k_DE d0 5 (by decide) w_116 rfl d_DE_nextRound_16 ?_
    refine lv_aload_n hx hb d_DE_nextRound_19 rfl (lv_at hl 0 rfl) ?_
    refine gs_get hx hb ht hown hK hG k_DE d0 0 (by decide) w_111 rfl d_DE_nextRound_20 ?_
    refine gs_get hx hb ht hown hK hG k_RB k0 5 (by decide) w_46 rfl d_DE_nextRound_23 ?_
    refine lv_icmp_lt (tgt := 32) hx hb d_DE_nextRound_26 (by decide) (fun c_26 => ?_) (fun c_26 => ?_)
    · refine lv_aload_n hx hb d_DE_nextRound_32 rfl (lv_at hl 0 rfl) ?_
      refine gs_get hx hb ht hown hK hG k_DE d0 4 (by decide) w_115 rfl d_DE_nextRound_33 ?_
      refine lv_iconst (v := nI 0) hx hb d_DE_nextRound_36 (by decide) ?_
      refine gs_put hx hb ht hown hK hG hS k_TU m0 3 (by decide) w_78 rfl rfl rfl (Nat.le_of_ble_eq_true rfl) d_DE_nextRound_37 (fun H locs hG hS => ?_)
      have hG : gs_H X (gs_up σ cm (gs_ob 6 [.ref mc, .ref mi, .ref mb, .int (nI 0)])) H := hG
      obtain ⟨σ_1, eσ_1⟩ : ∃ zq, zq = gs_up σ cm (gs_ob 6 [.ref mc, .ref mi, .ref mb, .int (nI 0)]) := ⟨_, rfl⟩
      rw [← eσ_1] at hG
      have hc_2 : σ_1 dv = some (gs_ob 1 [.ref bk, .ref tu, .ref ma, .ref la, .ref cm, .int (nI sa), .int (bI nw), .int (nI rc)]) := by rw [eσ_1]; exact gs_ku (gs_ne d0 m0 (by simp)) d0
      have hc_3 : σ_1 tu = some (gs_ob 6 [.ref ac, .ref ai, .ref ab, .int (nI E.length)]) := by rw [eσ_1]; exact gs_ku (ndp hnd2 0 2 (by decide) rfl rfl) t0
      have hc_4 : σ_1 ac = some (gs_ia X 301 cs) := by rw [eσ_1]; exact gs_ku (gs_ne t1 m0 (by simp)) t1
      have hc_5 : σ_1 ai = some (gs_ia X 301 ci) := by rw [eσ_1]; exact gs_ku (gs_ne t2 m0 (by simp)) t2
      have hc_6 : σ_1 ab = some (gs_ia X 301 cr) := by rw [eσ_1]; exact gs_ku (gs_ne t3 m0 (by simp)) t3
      have hc_7 : σ_1 la = some (gs_ob 6 [.ref lc, .ref li, .ref lb, .int (nI Lt.length)]) := by rw [eσ_1]; exact gs_ku (ndp hnd2 1 2 (by decide) rfl rfl) l0
      have hc_8 : σ_1 lc = some (gs_ia X 301 ds) := by rw [eσ_1]; exact gs_ku (gs_ne l1 m0 (by simp)) l1
      have hc_9 : σ_1 mc = some (gs_ia X 301 a9) := by rw [eσ_1]; exact gs_ku (gs_ne m1 m0 (by simp)) m1
      have hc_10 : σ_1 mi = some (gs_ia X 301 b9) := by rw [eσ_1]; exact gs_ku (gs_ne m2 m0 (by simp)) m2
      have hc_11 : σ_1 mb = some (gs_ia X 301 c9) := by rw [eσ_1]; exact gs_ku (gs_ne m3 m0 (by simp)) m3
      have hc_12 : σ_1 ma = some (gs_ob 3 [.ref tu, .ref va]) := by rw [eσ_1]; exact gs_ku (gs_ne q0 m0 (by simp)) q0
      have hc_13 : σ_1 va = some (gs_ia X 8 vs) := by rw [eσ_1]; exact gs_ku (gs_ne q1 m0 (by simp)) q1
      have hc_14 : σ_1 bk = some (gs_ob 5 [.ref co, .ref ru, .ref sr, .int (nI nr), .int (nI Q.length), .int sc]) := by rw [eσ_1]; exact gs_ku (gs_ne k0 m0 (by simp)) k0
      have hc_15 : σ_1 ru = some (gs_qa X 2 24 fR) := by rw [eσ_1]; exact gs_ku (gs_ne k2 m0 (by simp)) k2
      have hc_16 : σ_1 sr = some (gs_ia X 12 sf) := by rw [eσ_1]; exact gs_ku (gs_ne k3 m0 (by simp)) k3
      have hc_17 : σ_1 cm = some (gs_ob 6 [.ref mc, .ref mi, .ref mb, .int (nI 0)]) := by rw [eσ_1]; exact gs_us
      have fr_18 : frm [va, cm, mc, mi, mb] σ σ_1 := by rw [eσ_1]; exact fr0.up (by simp)
      refine lv_iconst (v := nI 0) hx hb d_DE_nextRound_40 (by decide) ?_
      refine lv_istore_n (lv' := [(1, .int (nI 0)), (0, .ref dv)]) hx hb d_DE_nextRound_41 rfl hl (by decide) rfl (fun ls hl => ?_)
      exact loop (Q.length + 1) 0 vs v [] a9 b9 c9 σ_1 (by omega) c_9 c_26 rfl hv tuB_nil tuR_nil fr_18 (by omega) hc_2 hc_3 hc_4 hc_5 hc_6 hc_7 hc_8 hc_17 hc_9 hc_10 hc_11 hc_12 hc_13 hc_14 hc_15 hc_16 _ _ hG hS ls (lv_sub hl [0, 1] rfl)
    · refine lv_bipush (v := -4) hx hb d_DE_nextRound_29 (by decide) ?_
      have hx9 : nxt Q S sc E Lt v sa nw rc = (-4, (E, Lt, v, sa, nw, rc)) := by unfold nxt; rw [if_neg c_9, if_neg c_26]
      exact gs_iret (v := (-4)) hx hb hr rfl hK hE hz hG hS hlocks (by first | decide | omega | (dsimp only [headSpec]; omega)) (by first | decide | omega | (dsimp only [headSpec]; omega)) (⟨E, Lt, v, sa, nw, rc, hx9, hdv, frm.rf⟩) d_DE_nextRound_31
  · refine lv_bipush (v := -3) hx hb d_DE_nextRound_12 (by decide) ?_
    have hx9 : nxt Q S sc E Lt v sa nw rc = (-3, (E, Lt, v, sa, nw, rc)) := by unfold nxt; rw [if_pos c_9]
    exact gs_iret (v := (-3)) hx hb hr rfl hK hE hz hG hS hlocks (by first | decide | omega | (dsimp only [headSpec]; omega)) (by first | decide | omega | (dsimp only [headSpec]; omega)) (⟨E, Lt, v, sa, nw, rc, hx9, hdv, frm.rf⟩) d_DE_nextRound_14
