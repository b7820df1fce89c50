/-- the reference: a round -/
theorem c_MO_oneRound (l : Launch) (X : gs_X) (σ : gs_St) (mo : Nat) (A : Nat → Nat) (cd nr : Nat) (cw : Nat → Nat) (F : List (Nat × Nat)) (T : List MT) (sa rc : Nat) (Q : List MR) (dr : Option MR)
    (hM : moA X σ mo A cd nr cw F T sa rc Q dr) (hrc1 : rc + 1 < 2 ^ 20) (hwQ : ∀ R ∈ Q, wfM cw R) (hsa30 : sa < 2 ^ 30) : gs_Mi l X y_MO_oneRound b_MO_oneRound 3 (some .int) ({ frames := 4, cells := 0, slots := 0, locals := 99 }) σ [.ref mo] (fun r σ' => moA X σ' mo A cd nr cw F (oneM cw nr Q (T, sa, rc)).2.1 (oneM cw nr Q (T, sa, rc)).2.2.1 (oneM cw nr Q (T, sa, rc)).2.2.2 Q dr ∧ frm (aM mo A) σ σ' ∧ r = (oneM cw nr Q (T, sa, rc)).1) := by
  cases hmk : mok Q nr with
  | false => exact c_MO_oneRound_c l X σ mo A cd nr cw F T sa rc Q dr hM hmk
  | true =>
    by_cases h : sa = mxS (mfs Q nr).1 nr
    · exact c_MO_oneRound_d l X σ mo A cd nr cw F T sa rc Q dr hM hmk h
    · exact c_MO_oneRound_r l X σ mo A cd nr cw F T sa rc Q dr hM hrc1 hwQ hmk h hsa30
set_option maxHeartbeats 4000000 in
set_option maxRecDepth 100000 in
/-- the reference: step -/
theorem c_MO_step (l : Launch) (X : gs_X) (σ : gs_St) (mo : Nat) (A : Nat → Nat) (cd nr : Nat) (cw : Nat → Nat) (F : List (Nat × Nat)) (T : List MT) (sa rc : Nat) (Q : List MR) (dr : Option MR)
    (hM : moA X σ mo A cd nr cw F T sa rc Q dr) (hrc1 : rc + 1 < 2 ^ 20) (hwQ : ∀ R ∈ Q, wfM cw R) (hsa30 : sa < 2 ^ 30) : gs_Mi l X y_MO_step b_MO_step 1 (some .int) ({ frames := 5, cells := 0, slots := 0, locals := 121 }) σ [.ref mo] (fun r σ' => moA X σ' mo A 0 nr cw F (oneM cw nr Q (T, sa, rc)).2.1 (oneM cw nr Q (T, sa, rc)).2.2.1 (oneM cw nr Q (T, sa, rc)).2.2.2 Q dr ∧ frm (aM mo A) σ σ' ∧ r = (oneM cw nr Q (T, sa, rc)).1) := by
  refine Met.ofW (cc := b_MO_step) (maxL := 1) (ret := (some .int)) (by decide) rfl ?_
  intro p e s m args below meth c s₁ B₀ hml hv
  obtain ⟨rfl, hK, hG, hz, hE⟩ := hv
  have hx := B₀.exec
  have hb := B₀.bytes
  have hr := B₀.returns
  have hts := atoms_spec (ws := gs_ws y_MO_step b_MO_step 1 (some .int)) B₀.pre
  have ht : ∀ w ∈ gs_w, w.before _ s = true := fun w h => hts w (List.mem_cons_of_mem _ h)
  have hown : s.vm.findClass R_MO = some m.cls := findClass_of_methodNamed B₀.named
  have hlocks := B₀.notSynchronized
  have hA : ∀ q : Nat, s.heap.size ≤ q → gs_A X q := fun q h => Nat.le_trans hz h
  have hS : va_S (gs_A X) s.heap s.heap [] := va_S.rf
  have hl := lv_entry ([.ref mo]) (n := 1) (Nat.le_of_ble_eq_true rfl)
  rw [lg_entry_eq]
  generalize (lg_sl ([.ref mo]) ++ List.replicate (1 - (lg_sl ([.ref mo])).length) Slot.unset).toArray = ls at hl ⊢
  have hl : lv_has ls 1 [(0, .ref mo)] := hl
  obtain ⟨hNN, hnr, hFB, hTB, hrc, ⟨Z, m0, z0, z1, z4, z7, z16, z17, z25, z26⟩, hcol, hfac, htup, hbit, hfnd, hrul, hscr⟩ := id hM
  have hN := hN1 hNN
  have hFl := hFB.1
  have hTl := hTB.1
  
  have fr0 : frm [mo] σ σ := frm.rf
  refine lv_aload_n hx hb d_MO_step_0 rfl (lv_at hl 0 rfl) ?_
  refine lv_iconst (v := nI 0) hx hb d_MO_step_1 (by decide) ?_
  refine gs_put hx hb ht hown hK hG hS k_MO m0 0 (by decide) w_662 rfl rfl rfl (Nat.le_of_ble_eq_true rfl) d_MO_step_2 (fun H locs hG hS => ?_)
  have hG : gs_H X (gs_up σ mo (moE A (va_up Z 0 0))) H := hG
  obtain ⟨σ_1, eσ_1⟩ : ∃ zq, zq = gs_up σ mo (moE A (va_up Z 0 0)) := ⟨_, rfl⟩
  rw [← eσ_1] at hG
  have hc_2 : σ_1 mo = some (moE A (va_up Z 0 0)) := by rw [eσ_1]; exact gs_us
  have fr_3 : frm [mo] σ σ_1 := by rw [eσ_1]; exact fr0.up (by simp)
  refine lv_aload_n hx hb d_MO_step_5 rfl (lv_at hl 0 rfl) ?_
  have hM1 := (hM.num fr_3 ⟨_, hc_2, rfl, z1, z4, z7, z16, z17, z25, z26⟩ hrc)
  refine gs_callVi (As := []) (rest := []) ⟨hx, hb, hml, hown, hts⟩ hK hE hz hG hS (c_MO_oneRound l X σ_1 mo A 0 nr cw F T sa rc Q dr hM1 hrc1 hwQ hsa30) mV_MO_oneRound w_836 hc_2 rfl rfl hl.1 rfl (Nat.le_of_ble_eq_true rfl) ⟨(by first | decide | omega | (dsimp only [headSpec]; omega)), (by first | decide | omega | (dsimp only [headSpec]; omega))⟩ ⟨(by first | decide | omega | (dsimp only [headSpec]; omega)), (by first | decide | omega | (dsimp only [headSpec]; omega))⟩ d_MO_step_6 (fun r_6 σ_6 H locs hp_6 hG hS => ?_)
  obtain ⟨hM2, hf9, er9⟩ := hp_6
  refine gs_top er9 ?_
  exact gs_iret (v := ((oneM cw nr Q (T, sa, rc)).1)) hx hb hr rfl hK hE hz hG hS hlocks (by first | decide | omega | (dsimp only [headSpec]; omega)) (by first | decide | omega | (dsimp only [headSpec]; omega)) (⟨hM2, (fr_3.wk (by simp)).trans hf9 (fun _ z => z), rfl⟩) d_MO_step_9
set_option maxHeartbeats 4000000 in
set_option maxRecDepth 100000 in
/-- the reference: run -/
theorem c_MO_run (l : Launch) (X : gs_X) (σ : gs_St) (mo : Nat) (A : Nat → Nat) (cd nr : Nat) (cw : Nat → Nat) (F : List (Nat × Nat)) (T : List MT) (sa rc : Nat) (Q : List MR) (dr : Option MR)
    (hM : moA X σ mo A cd nr cw F T sa rc Q dr) (hwQ : ∀ R ∈ Q, wfM cw R) (K : Nat) (hK9 : msM nr Q (T, sa, rc) < K) (hKr : rc + K < 2 ^ 20) (hsk : sa + K < 2 ^ 30) (hsm : mok Q nr = true → sa ≤ mxS (mfs Q nr).1 nr) : gs_Mi l X y_MO_run b_MO_run 2 (some .int) ({ frames := 5, cells := 0, slots := 0, locals := 121 }) σ [.ref mo] (fun r σ' => moA X σ' mo A 0 nr cw F (rnM cw nr Q K 0 (T, sa, rc)).2.1 (rnM cw nr Q K 0 (T, sa, rc)).2.2.1 (rnM cw nr Q K 0 (T, sa, rc)).2.2.2 Q dr ∧ frm (aM mo A) σ σ' ∧ r = if (rnM cw nr Q K 0 (T, sa, rc)).1 = -4 then nI (rnM cw nr Q K 0 (T, sa, rc)).2.1.length - nI F.length else (rnM cw nr Q K 0 (T, sa, rc)).1) := by
  refine Met.ofW (cc := b_MO_run) (maxL := 2) (ret := (some .int)) (by decide) rfl ?_
  intro p e s m args below meth c s₁ B₀ hml hv
  obtain ⟨rfl, hK, hG, hz, hE⟩ := hv
  have hx := B₀.exec
  have hb := B₀.bytes
  have hr := B₀.returns
  have hts := atoms_spec (ws := gs_ws y_MO_run b_MO_run 2 (some .int)) B₀.pre
  have ht : ∀ w ∈ gs_w, w.before _ s = true := fun w h => hts w (List.mem_cons_of_mem _ h)
  have hown : s.vm.findClass R_MO = some m.cls := findClass_of_methodNamed B₀.named
  have hlocks := B₀.notSynchronized
  have hA : ∀ q : Nat, s.heap.size ≤ q → gs_A X q := fun q h => Nat.le_trans hz h
  have hS : va_S (gs_A X) s.heap s.heap [] := va_S.rf
  have hl := lv_entry ([.ref mo]) (n := 2) (Nat.le_of_ble_eq_true rfl)
  rw [lg_entry_eq]
  generalize (lg_sl ([.ref mo]) ++ List.replicate (2 - (lg_sl ([.ref mo])).length) Slot.unset).toArray = ls at hl ⊢
  have hl : lv_has ls 2 [(0, .ref mo)] := hl
  obtain ⟨hNN, hnr, hFB, hTB, hrc, ⟨Z, m0, z0, z1, z4, z7, z16, z17, z25, z26⟩, hcol, hfac, htup, hbit, hfnd, hrul, hscr⟩ := id hM
  have hN := hN1 hNN
  have hFl := hFB.1
  have hTl := hTB.1
  
  have fr0 : frm [mo] σ σ := frm.rf
  have loop : ∀ (k : Nat) (said : Int32) (st : RS) (σ1 : gs_St), rnM cw nr Q k said st = (rnM cw nr Q K 0 (T, sa, rc)) → (said < 0 ∨ msM nr Q st < k) → k ≤ K → st.2.2 + k ≤ rc + K → st.2.1 + k ≤ sa + K → (mok Q nr = true → st.2.1 ≤ mxS (mfs Q nr).1 nr) → frm (aM mo A) σ σ1 → moA X σ1 mo A 0 nr cw F st.1 st.2.1 st.2.2 Q dr → ∀ (H : Heap) (locs : List Loc), gs_H X σ1 H → va_S (gs_A X) s.heap H locs → ∀ ls, lv_has ls 2 [(1, .int said), (0, .ref mo)] → W p l e ({ frames := 5, cells := 0, slots := 0, locals := 121 } : Room) s m ([.ref mo] : List Value).toArray below meth c H locs 0 0 (MQ below (va_Qi (fun r σ' => moA X σ' mo A 0 nr cw F (rnM cw nr Q K 0 (T, sa, rc)).2.1 (rnM cw nr Q K 0 (T, sa, rc)).2.2.1 (rnM cw nr Q K 0 (T, sa, rc)).2.2.2 Q dr ∧ frm (aM mo A) σ σ' ∧ r = if (rnM cw nr Q K 0 (T, sa, rc)).1 = -4 then nI (rnM cw nr Q K 0 (T, sa, rc)).2.1.length - nI F.length else (rnM cw nr Q K 0 (T, sa, rc)).1) (gs_U X) (gs_A X)) ([.ref mo] : List Value).toArray s 0 0 (gs_A X)) (F0 m 7 ls []) := by
    intro k
    induction k with
    | zero =>
      intro said st σ1 hst hms hkK hrk hsk2 hsm1 hf1 hM1 H locs hG hS ls hl
      have hneg : said < 0 := by rcases hms with z | z; exact z; omega
      have hst : (said, st) = (rnM cw nr Q K 0 (T, sa, rc)) := hst
      obtain ⟨_, _, _, _, _, ⟨Z1, y_mo, y0, y1, y4, y7, y16, y17, y25, y26⟩, _⟩ := id hM1
      refine lv_iload_n hx hb d_MO_run_7 rfl (lv_at hl 0 rfl) ?_
      refine lv_if_lt (tgt := 19) hx hb d_MO_run_8 (by decide) (fun c_8 => ?_) (fun c_8 => ?_)
      · refine lv_iload_n hx hb d_MO_run_19 rfl (lv_at hl 0 rfl) ?_
        refine lv_bipush (v := -4) hx hb d_MO_run_20 (by decide) ?_
        refine lv_icmp_ne (tgt := 37) hx hb d_MO_run_22 (by decide) (fun c_22 => ?_) (fun c_22 => ?_)
        · refine lv_iload_n hx hb d_MO_run_37 rfl (lv_at hl 0 rfl) ?_
          exact gs_iret (v := said) hx hb hr rfl hK hE hz hG hS hlocks (by first | decide | omega | (dsimp only [headSpec]; omega)) (by first | decide | omega | (dsimp only [headSpec]; omega)) (by rw [← hst]; exact ⟨hM1, hf1, by first | (rw [if_pos c_22]; done) | (rw [if_neg c_22])⟩) d_MO_run_38
        · refine lv_aload_n hx hb d_MO_run_25 rfl (lv_at hl 1 rfl) ?_
          refine gs_get (v := .int (nI (Z1 7))) hx hb ht hown hK hG k_MO y_mo 7 (by decide) w_669 rfl d_MO_run_26 ?_
          refine gs_top (show nI (Z1 7) = nI st.1.length from congrArg nI (show Z1 7 = st.1.length from y7)) ?_
          refine lv_aload_n hx hb d_MO_run_29 rfl (lv_at hl 1 rfl) ?_
          refine gs_get (v := .int (nI (Z1 4))) hx hb ht hown hK hG k_MO y_mo 4 (by decide) w_666 rfl d_MO_run_30 ?_
          refine gs_top (show nI (Z1 4) = nI F.length from congrArg nI (show Z1 4 = F.length from y4)) ?_
          refine lv_isub hx hb d_MO_run_33 ?_
          refine lv_goto (tgt := 38) hx hb d_MO_run_34 (by decide) ?_
          exact gs_iret (v := ((nI st.1.length) - (nI F.length))) hx hb hr rfl hK hE hz hG hS hlocks (by first | decide | omega | (dsimp only [headSpec]; omega)) (by first | decide | omega | (dsimp only [headSpec]; omega)) (by rw [← hst]; exact ⟨hM1, hf1, by first | (rw [if_pos c_22]; done) | (rw [if_neg c_22])⟩) d_MO_run_38
      · exact absurd hneg c_8
    | succ k ih =>
      intro said st σ1 hst hms hkK hrk hsk2 hsm1 hf1 hM1 H locs hG hS ls hl
      obtain ⟨_, _, _, _, _, ⟨Z1, y_mo, y0, y1, y4, y7, y16, y17, y25, y26⟩, _⟩ := id hM1
      refine lv_iload_n hx hb d_MO_run_7 rfl (lv_at hl 0 rfl) ?_
      refine lv_if_lt (tgt := 19) hx hb d_MO_run_8 (by decide) (fun c_8 => ?_) (fun c_8 => ?_)
      · refine lv_iload_n hx hb d_MO_run_19 rfl (lv_at hl 0 rfl) ?_
        refine lv_bipush (v := -4) hx hb d_MO_run_20 (by decide) ?_
        refine lv_icmp_ne (tgt := 37) hx hb d_MO_run_22 (by decide) (fun c_22 => ?_) (fun c_22 => ?_)
        · refine lv_iload_n hx hb d_MO_run_37 rfl (lv_at hl 0 rfl) ?_
          exact gs_iret (v := said) hx hb hr rfl hK hE hz hG hS hlocks (by first | decide | omega | (dsimp only [headSpec]; omega)) (by first | decide | omega | (dsimp only [headSpec]; omega)) (by rw [← hst, show rnM cw nr Q (k + 1) said st = (said, st) from if_pos c_8]; exact ⟨hM1, hf1, by first | (rw [if_pos c_22]; done) | (rw [if_neg c_22])⟩) d_MO_run_38
        · refine lv_aload_n hx hb d_MO_run_25 rfl (lv_at hl 1 rfl) ?_
          refine gs_get (v := .int (nI (Z1 7))) hx hb ht hown hK hG k_MO y_mo 7 (by decide) w_669 rfl d_MO_run_26 ?_
          refine gs_top (show nI (Z1 7) = nI st.1.length from congrArg nI (show Z1 7 = st.1.length from y7)) ?_
          refine lv_aload_n hx hb d_MO_run_29 rfl (lv_at hl 1 rfl) ?_
          refine gs_get (v := .int (nI (Z1 4))) hx hb ht hown hK hG k_MO y_mo 4 (by decide) w_666 rfl d_MO_run_30 ?_
          refine gs_top (show nI (Z1 4) = nI F.length from congrArg nI (show Z1 4 = F.length from y4)) ?_
          refine lv_isub hx hb d_MO_run_33 ?_
          refine lv_goto (tgt := 38) hx hb d_MO_run_34 (by decide) ?_
          exact gs_iret (v := ((nI st.1.length) - (nI F.length))) hx hb hr rfl hK hE hz hG hS hlocks (by first | decide | omega | (dsimp only [headSpec]; omega)) (by first | decide | omega | (dsimp only [headSpec]; omega)) (by rw [← hst, show rnM cw nr Q (k + 1) said st = (said, st) from if_pos c_8]; exact ⟨hM1, hf1, by first | (rw [if_pos c_22]; done) | (rw [if_neg c_22])⟩) d_MO_run_38
      · refine lv_aload_n hx hb d_MO_run_11 rfl (lv_at hl 1 rfl) ?_
        have hms2 : msM nr Q st < k + 1 := hms.resolve_left c_8
        have hst2 : rnM cw nr Q k (oneM cw nr Q st).1 (oneM cw nr Q st).2 = (rnM cw nr Q K 0 (T, sa, rc)) := by rw [← hst]; exact (if_neg c_8).symm
        refine gs_callVi (As := []) (rest := []) ⟨hx, hb, hml, hown, hts⟩ hK hE hz hG hS (c_MO_oneRound l X σ1 mo A 0 nr cw F st.1 st.2.1 st.2.2 Q dr hM1 (by omega) hwQ (by omega)) mV_MO_oneRound w_836 y_mo rfl rfl hl.1 rfl (Nat.le_of_ble_eq_true rfl) ⟨(by first | decide | omega | (dsimp only [headSpec]; omega)), (by first | decide | omega | (dsimp only [headSpec]; omega))⟩ ⟨(by first | decide | omega | (dsimp only [headSpec]; omega)), (by first | decide | omega | (dsimp only [headSpec]; omega))⟩ d_MO_run_12 (fun r_12 σ_12 H locs hp_12 hG hS => ?_)
        obtain ⟨hM2, hf9, er9⟩ := hp_12
        refine gs_top er9 ?_
        refine lv_topi (fun v_1 ev_1 => ?_)
        refine lv_istore_n (lv' := [(1, .int v_1), (0, .ref mo)]) hx hb d_MO_run_15 rfl hl (by decide) rfl (fun ls hl => ?_)
        refine lv_goto (tgt := 7) hx hb d_MO_run_16 (by decide) ?_
        have hrc2 := oneM_rc (cw := cw) (nr := nr) (Q := Q) (st := st)
        have hT2 : (oneM cw nr Q st).2.1.length ≤ 300 := hM2.2.2.2.1.1
        have hsa2 : (oneM cw nr Q st).2.2.1 ≤ st.2.1 + 1 := oneM_sa
        exact ih (oneM cw nr Q st).1 (oneM cw nr Q st).2 σ_12 hst2 (by
          by_cases e : (oneM cw nr Q st).1 < 0
          · exact Or.inl e
          · have := (oneM_ms e hsm1 hT2).1; exact Or.inr (by omega)) (by omega) (by omega) (by omega) (by
          intro hk
          by_cases e : (oneM cw nr Q st).1 < 0
          · exact oneM_sm e hk (hsm1 hk)
          · exact (oneM_ms e hsm1 hT2).2 hk) (hf1.trans hf9 (fun _ z => z)) hM2 H locs hG hS ls (by rw [← ev_1]; exact (lv_sub hl [0, 1] rfl))
  refine lv_aload_n hx hb d_MO_run_0 rfl (lv_at hl 0 rfl) ?_
  refine lv_iconst (v := nI 0) hx hb d_MO_run_1 (by decide) ?_
  refine gs_put hx hb ht hown hK hG hS k_MO m0 0 (by decide) w_662 rfl rfl rfl (Nat.le_of_ble_eq_true rfl) d_MO_run_2 (fun H locs hG hS => ?_)
  have hG : gs_H X (gs_up σ mo (moE A (va_up Z 0 0))) H := hG
  obtain ⟨σ_1, eσ_1⟩ : ∃ zq, zq = gs_up σ mo (moE A (va_up Z 0 0)) := ⟨_, rfl⟩
  rw [← eσ_1] at hG
  have hc_2 : σ_1 mo = some (moE A (va_up Z 0 0)) := by rw [eσ_1]; exact gs_us
  have fr_3 : frm [mo] σ σ_1 := by rw [eσ_1]; exact fr0.up (by simp)
  refine lv_iconst (v := nI 0) hx hb d_MO_run_5 (by decide) ?_
  refine lv_istore_n (lv' := [(1, .int (nI 0)), (0, .ref mo)]) hx hb d_MO_run_6 rfl hl (by decide) rfl (fun ls hl => ?_)
  exact loop K 0 (T, sa, rc) σ_1 rfl (Or.inr hK9) (Nat.le_refl _) (Nat.le_refl _) (Nat.le_refl _) hsm (fr_3.wk (by simp)) (hM.num fr_3 ⟨_, hc_2, rfl, z1, z4, z7, z16, z17, z25, z26⟩ hrc) H locs hG hS ls (lv_sub hl [0, 1] rfl)
set_option maxHeartbeats 4000000 in
set_option maxRecDepth 100000 in
/-- the reference: like of no terms -/
theorem c_MO_like_t (l : Launch) (X : gs_X) (σ : gs_St) (mo : Nat) (A : Nat → Nat) (cd nr : Nat) (cw : Nat → Nat) (F : List (Nat × Nat)) (T : List MT) (sa rc : Nat) (Q : List MR) (dr : Option MR) (r x y z : Int32)
    (hM : moA X σ mo A cd nr cw F T sa rc Q dr) (hok : fitR nr cw 72 r x y z = false) : gs_Mi l X y_MO_like b_MO_like 11 (some .int) ({ frames := 1, cells := 0, slots := 0, locals := 27 }) σ [.ref mo, .int r, .int x, .int y, .int z] (fun q σ' => moA X σ' mo A 1 nr cw F T sa rc Q dr ∧ frm (aM mo A) σ σ' ∧ q = nI 0) := by
  refine Met.ofW (cc := b_MO_like) (maxL := 11) (ret := (some .int)) (by decide) rfl ?_
  intro p e s m args below meth c s₁ B₀ hml hv
  obtain ⟨rfl, hK, hG, hz, hE⟩ := hv
  have hx := B₀.exec
  have hb := B₀.bytes
  have hr := B₀.returns
  have hts := atoms_spec (ws := gs_ws y_MO_like b_MO_like 11 (some .int)) B₀.pre
  have ht : ∀ w ∈ gs_w, w.before _ s = true := fun w h => hts w (List.mem_cons_of_mem _ h)
  have hown : s.vm.findClass R_MO = some m.cls := findClass_of_methodNamed B₀.named
  have hlocks := B₀.notSynchronized
  have hA : ∀ q : Nat, s.heap.size ≤ q → gs_A X q := fun q h => Nat.le_trans hz h
  have hS : va_S (gs_A X) s.heap s.heap [] := va_S.rf
  have hl := lv_entry ([.ref mo, .int r, .int x, .int y, .int z]) (n := 11) (Nat.le_of_ble_eq_true rfl)
  rw [lg_entry_eq]
  generalize (lg_sl ([.ref mo, .int r, .int x, .int y, .int z]) ++ List.replicate (11 - (lg_sl ([.ref mo, .int r, .int x, .int y, .int z])).length) Slot.unset).toArray = ls at hl ⊢
  have hl : lv_has ls 11 [(0, .ref mo), (1, .int r), (2, .int x), (3, .int y), (4, .int z)] := hl
  obtain ⟨hNN, hnr, hFB, hTB, hrc, ⟨Z, m0, z0, z1, z4, z7, z16, z17, z25, z26⟩, hcol, hfac, htup, hbit, hfnd, hrul, hscr⟩ := id hM
  have hN := hN1 hNN
  have hFl := hFB.1
  have hTl := hTB.1
  obtain ⟨f2, m2, hcw⟩ := id hcol
  have fr0 : frm [mo] σ σ := frm.rf
  refine lv_aload_n hx hb d_MO_like_0 rfl (lv_at hl 0 rfl) ?_
  refine lv_aload_n hx hb d_MO_like_1 rfl (lv_at hl 0 rfl) ?_
  refine lv_iload_n hx hb d_MO_like_2 rfl (lv_at hl 1 rfl) ?_
  refine lv_iload_n hx hb d_MO_like_3 rfl (lv_at hl 2 rfl) ?_
  refine lv_iload_n hx hb d_MO_like_4 rfl (lv_at hl 3 rfl) ?_
  refine lv_iload hx hb d_MO_like_5 (lv_at hl 4 rfl) ?_
  refine lv_bipush (v := nI 72) hx hb d_MO_like_7 (by decide) ?_
  refine gs_callVp (As := [.int r, .int x, .int y, .int z, .int (nI 72)]) (rest := [.ref mo]) ⟨hx, hb, hml, hown, hts⟩ hK hE hz hG hS (c_MO_fitsU l X σ mo A Z f2 nr cw 72 r x y z m0 m2 z1 hnr hcw) ⟨rfl, rfl⟩ mV_MO_fits w_777 m0 rfl rfl hl.1 rfl (Nat.le_of_ble_eq_true rfl) ⟨(by first | decide | omega | (dsimp only [headSpec]; omega)), (by first | decide | omega | (dsimp only [headSpec]; omega))⟩ ⟨(by first | decide | omega | (dsimp only [headSpec]; omega)), (by first | decide | omega | (dsimp only [headSpec]; omega))⟩ d_MO_like_9 (fun r_9 hp_9 => ?_)
  refine gs_top (show r_9 = (bI (fitR nr cw 72 r x y z)) from hp_9) ?_
  refine lv_if_eq (tgt := 19) hx hb d_MO_like_12 (by decide) (fun c_12 => ?_) (fun c_12 => ?_)
  · refine lv_iconst (v := nI 1) hx hb d_MO_like_19 (by decide) ?_
    refine gs_put hx hb ht hown hK hG hS k_MO m0 0 (by decide) w_662 rfl rfl rfl (Nat.le_of_ble_eq_true rfl) d_MO_like_20 (fun H locs hG hS => ?_)
    have hG : gs_H X (gs_up σ mo (moE A (va_up Z 0 1))) H := hG
    obtain ⟨σ_1, eσ_1⟩ : ∃ zq, zq = gs_up σ mo (moE A (va_up Z 0 1)) := ⟨_, rfl⟩
    rw [← eσ_1] at hG
    have hc_2 : σ_1 (A 2) = some (gs_ia X 12 f2) := by rw [eσ_1]; exact gs_ku (gs_ne m2 m0 (by simp)) m2
    have hc_3 : σ_1 mo = some (moE A (va_up Z 0 1)) := by rw [eσ_1]; exact gs_us
    have fr_4 : frm [mo] σ σ_1 := by rw [eσ_1]; exact fr0.up (by simp)
    refine lv_iconst (v := nI 0) hx hb d_MO_like_23 (by decide) ?_
    refine lv_istore (lv' := [(5, .int (nI 0)), (0, .ref mo), (1, .int r), (2, .int x), (3, .int y), (4, .int z)]) hx hb d_MO_like_24 hl (by decide) rfl (fun ls hl => ?_)
    refine lv_iconst (v := nI 0) hx hb d_MO_like_26 (by decide) ?_
    refine lv_istore (lv' := [(6, .int (nI 0)), (5, .int (nI 0)), (0, .ref mo), (1, .int r), (2, .int x), (3, .int y), (4, .int z)]) hx hb d_MO_like_27 hl (by decide) rfl (fun ls hl => ?_)
    refine lv_iload hx hb d_MO_like_29 (lv_at hl 0 rfl) ?_
    refine lv_aload_n hx hb d_MO_like_31 rfl (lv_at hl 2 rfl) ?_
    refine gs_get (v := .int (nI (Z 7))) hx hb ht hown hK hG k_MO hc_3 7 (by decide) w_669 rfl d_MO_like_32 ?_
    refine gs_top (show nI (Z 7) = nI T.length from congrArg nI (show Z 7 = T.length from z7)) ?_
    refine lv_icmp_ge (tgt := 230) hx hb d_MO_like_35 (by decide) (fun c_35 => ?_) (fun c_35 => ?_)
    · have c_35 : T.length ≤ 0 := (nI_leI (by omega) (by omega)).mp c_35
      refine lv_iload hx hb d_MO_like_230 (lv_at hl 1 rfl) ?_
      exact gs_iret (v := (nI 0)) hx hb hr rfl hK hE hz hG hS hlocks (by first | decide | omega | (dsimp only [headSpec]; omega)) (by first | decide | omega | (dsimp only [headSpec]; omega)) (⟨(hM.num fr_4 ⟨_, hc_3, rfl, z1, z4, z7, z16, z17, z25, z26⟩ hrc), fr_4.wk (by simp), rfl⟩) d_MO_like_232
    · have c_35 : ¬ T.length ≤ 0 := mt (nI_leI (by omega) (by omega)).mpr c_35
      refine lv_aload_n hx hb d_MO_like_38 rfl (lv_at hl 2 rfl) ?_
      refine gs_get (v := .int (nI 1)) hx hb ht hown hK hG k_MO hc_3 0 (by decide) w_662 rfl d_MO_like_39 ?_
      refine lv_if_ne (tgt := 230) hx hb d_MO_like_42 (by decide) (fun c_42 => ?_) (fun c_42 => ?_)
      · have c_42 : ¬ 1 = 0 := gs_zn (by omega) c_42
        refine lv_iload hx hb d_MO_like_230 (lv_at hl 1 rfl) ?_
        exact gs_iret (v := (nI 0)) hx hb hr rfl hK hE hz hG hS hlocks (by first | decide | omega | (dsimp only [headSpec]; omega)) (by first | decide | omega | (dsimp only [headSpec]; omega)) (⟨(hM.num fr_4 ⟨_, hc_3, rfl, z1, z4, z7, z16, z17, z25, z26⟩ hrc), fr_4.wk (by simp), rfl⟩) d_MO_like_232
      · exact absurd c_42 (by decide)
  · exact absurd ((bI_n0 c_12).symm.trans hok) (by decide)
set_option maxHeartbeats 4000000 in
set_option maxRecDepth 100000 in
/-- the reference: like -/
theorem c_MO_like (l : Launch) (X : gs_X) (σ : gs_St) (mo : Nat) (A : Nat → Nat) (cd nr : Nat) (cw : Nat → Nat) (F : List (Nat × Nat)) (T : List MT) (sa rc : Nat) (Q : List MR) (dr : Option MR) (rl a b cz : Nat)
    (hM : moA X σ mo A cd nr cw F T sa rc Q dr) (hrl : rl < nr) (ha : a < 72) (hb9 : b < 72) (hc9 : cz < 72) (hok : wi3 72 (cw rl) (nI a) (nI b) (nI cz) = true) : gs_Mi l X y_MO_like b_MO_like 11 (some .int) ({ frames := 1, cells := 0, slots := 0, locals := 27 }) σ [.ref mo, .int (nI rl), .int (nI a), .int (nI b), .int (nI cz)] (fun q σ' => moA X σ' mo A 0 nr cw F T sa rc Q dr ∧ frm (aM mo A) σ σ' ∧ q = nI (lkN rl a b cz T)) := by
  refine Met.ofW (cc := b_MO_like) (maxL := 11) (ret := (some .int)) (by decide) rfl ?_
  intro p e s m args below meth c s₁ B₀ hml hv
  obtain ⟨rfl, hK, hG, hz, hE⟩ := hv
  have hx := B₀.exec
  have hb := B₀.bytes
  have hr := B₀.returns
  have hts := atoms_spec (ws := gs_ws y_MO_like b_MO_like 11 (some .int)) B₀.pre
  have ht : ∀ w ∈ gs_w, w.before _ s = true := fun w h => hts w (List.mem_cons_of_mem _ h)
  have hown : s.vm.findClass R_MO = some m.cls := findClass_of_methodNamed B₀.named
  have hlocks := B₀.notSynchronized
  have hA : ∀ q : Nat, s.heap.size ≤ q → gs_A X q := fun q h => Nat.le_trans hz h
  have hS : va_S (gs_A X) s.heap s.heap [] := va_S.rf
  have hl := lv_entry ([.ref mo, .int (nI rl), .int (nI a), .int (nI b), .int (nI cz)]) (n := 11) (Nat.le_of_ble_eq_true rfl)
  rw [lg_entry_eq]
  generalize (lg_sl ([.ref mo, .int (nI rl), .int (nI a), .int (nI b), .int (nI cz)]) ++ List.replicate (11 - (lg_sl ([.ref mo, .int (nI rl), .int (nI a), .int (nI b), .int (nI cz)])).length) Slot.unset).toArray = ls at hl ⊢
  have hl : lv_has ls 11 [(0, .ref mo), (1, .int (nI rl)), (2, .int (nI a)), (3, .int (nI b)), (4, .int (nI cz))] := hl
  obtain ⟨hNN, hnr, hFB, hTB, hrc, ⟨Z, m0, z0, z1, z4, z7, z16, z17, z25, z26⟩, hcol, hfac, htup, hbit, hfnd, hrul, hscr⟩ := id hM
  have hN := hN1 hNN
  have hFl := hFB.1
  have hTl := hTB.1
  obtain ⟨f2, m2, hcw⟩ := id hcol
  obtain ⟨f8, f9, f10, f11, m8, m9, m10, m11, hT⟩ := id htup
  have fr0 : frm [mo] σ σ := frm.rf
  have loop : ∀ (fl : Nat) (i : Nat) (σ1 : gs_St), (i ≤ T.length) → (frm [mo] σ σ1) → T.length - i < fl → (σ1 mo = some (moE A (va_up Z 0 0))) → (σ1 (A 8) = some (gs_ia X 320 f8)) → (σ1 (A 9) = some (gs_ia X 320 f9)) → ∀ (H : Heap) (locs : List Loc), gs_H X σ1 H → va_S (gs_A X) s.heap H locs → ∀ ls, lv_has ls 11 [(6, .int (nI i)), (5, .int (nI (lkN rl a b cz (T.take i)))), (0, .ref mo), (1, .int (nI rl)), (2, .int (nI a)), (3, .int (nI b)), (4, .int (nI cz))] → W p l e ({ frames := 1, cells := 0, slots := 0, locals := 27 } : Room) s m ([.ref mo, .int (nI rl), .int (nI a), .int (nI b), .int (nI cz)] : List Value).toArray below meth c H locs 0 0 (MQ below (va_Qi (fun q σ' => moA X σ' mo A 0 nr cw F T sa rc Q dr ∧ frm (aM mo A) σ σ' ∧ q = nI (lkN rl a b cz T)) (gs_U X) (gs_A X)) ([.ref mo, .int (nI rl), .int (nI a), .int (nI b), .int (nI cz)] : List Value).toArray s 0 0 (gs_A X)) (F0 m 29 ls []) := by
    intro fl
    induction fl with
    | zero => intro i σ1 _ _ h9; omega
    | succ fl ih =>
      intro i σ1 hi hf1 hmu y_mo y_8 y_9 H locs hG hS ls hl
      refine lv_iload hx hb d_MO_like_29 (lv_at hl 0 rfl) ?_
      refine lv_aload_n hx hb d_MO_like_31 rfl (lv_at hl 2 rfl) ?_
      refine gs_get (v := .int (nI (Z 7))) hx hb ht hown hK hG k_MO y_mo 7 (by decide) w_669 rfl d_MO_like_32 ?_
      refine gs_top (show nI (Z 7) = nI T.length from congrArg nI (show Z 7 = T.length from z7)) ?_
      refine lv_icmp_ge (tgt := 230) hx hb d_MO_like_35 (by decide) (fun c_35 => ?_) (fun c_35 => ?_)
      · have c_35 : T.length ≤ i := (nI_leI (by omega) (by omega)).mp c_35
        refine lv_iload hx hb d_MO_like_230 (lv_at hl 1 rfl) ?_
        exact gs_iret (v := (nI (lkN rl a b cz (T.take i)))) hx hb hr rfl hK hE hz hG hS hlocks (by first | decide | omega | (dsimp only [headSpec]; omega)) (by first | decide | omega | (dsimp only [headSpec]; omega)) (⟨(hM.num hf1 ⟨_, y_mo, rfl, z1, z4, z7, z16, z17, z25, z26⟩ hrc), hf1.wk (by simp), by rw [show i = T.length by omega, List.take_length]⟩) d_MO_like_232
      · have c_35 : ¬ T.length ≤ i := mt (nI_leI (by omega) (by omega)).mpr c_35
        refine lv_aload_n hx hb d_MO_like_38 rfl (lv_at hl 2 rfl) ?_
        refine gs_get (v := .int (nI 0)) hx hb ht hown hK hG k_MO y_mo 0 (by decide) w_662 rfl d_MO_like_39 ?_
        refine lv_if_ne (tgt := 230) hx hb d_MO_like_42 (by decide) (fun c_42 => ?_) (fun c_42 => ?_)
        · exact absurd c_42 (by decide)
        · have c_42 : 0 = 0 := gs_z (by omega) c_42
          have hiT : i < T.length := by omega
          obtain ⟨t, ht9⟩ := get_ex (L := T) (j := i) hiT
          obtain ⟨hx1, hx2, _, _⟩ := hT _ _ ht9
          obtain ⟨hx3, hx4, _⟩ := hTB.2 _ (List.mem_of_getElem? ht9)
          have hls := lkN_s (rl := rl) (a := a) (b := b) (z := cz) ht9
          have hq0 := clM_lt (j := 0) hx4
          have hq1 := clM_lt (j := 1) hx4
          have hq2 := clM_lt (j := 2) hx4
          have k209 : ∀ ls, lv_has ls 11 [(10, .int (bI (lk2 rl a b cz t))), (6, .int (nI i)), (5, .int (nI (lkN rl a b cz (T.take i)))), (0, .ref mo), (1, .int (nI rl)), (2, .int (nI a)), (3, .int (nI b)), (4, .int (nI cz))] → W p l e ({ frames := 1, cells := 0, slots := 0, locals := 27 } : Room) s m ([.ref mo, .int (nI rl), .int (nI a), .int (nI b), .int (nI cz)] : List Value).toArray below meth c H locs 0 0 (MQ below (va_Qi (fun q σ' => moA X σ' mo A 0 nr cw F T sa rc Q dr ∧ frm (aM mo A) σ σ' ∧ q = nI (lkN rl a b cz T)) (gs_U X) (gs_A X)) ([.ref mo, .int (nI rl), .int (nI a), .int (nI b), .int (nI cz)] : List Value).toArray s 0 0 (gs_A X)) (F0 m 209 ls []) := by
            intro ls hl
            refine lv_iload hx hb d_MO_like_209 (lv_at hl 2 rfl) ?_
            refine lv_iload hx hb d_MO_like_211 (lv_at hl 0 rfl) ?_
            refine lv_if_eq (tgt := 220) hx hb d_MO_like_213 (by decide) (fun c_213 => ?_) (fun c_213 => ?_)
            · refine lv_iconst (v := nI 0) hx hb d_MO_like_220 (by decide) ?_
              refine lv_iadd hx hb d_MO_like_221 ?_
              refine gs_top (nI_add (lkN rl a b cz (T.take i)) 0) ?_
              refine lv_istore (lv' := [(5, .int (nI ((lkN rl a b cz (T.take i)) + 0))), (10, .int (bI (lk2 rl a b cz t))), (6, .int (nI i)), (0, .ref mo), (1, .int (nI rl)), (2, .int (nI a)), (3, .int (nI b)), (4, .int (nI cz))]) hx hb d_MO_like_222 hl (by decide) rfl (fun ls hl => ?_)
              refine lv_iinc (v := (nI (i + 1))) (lv' := [(6, .int (nI (i + 1))), (5, .int (nI ((lkN rl a b cz (T.take i)) + 0))), (10, .int (bI (lk2 rl a b cz t))), (0, .ref mo), (1, .int (nI rl)), (2, .int (nI a)), (3, .int (nI b)), (4, .int (nI cz))]) hx hb d_MO_like_224 hl (k := 2) rfl (by exact nI_1 _) (by decide) rfl (fun ls hl => ?_)
              refine lv_goto (tgt := 29) hx hb d_MO_like_227 (by decide) ?_
              exact ih (i + 1) σ1 (by omega) hf1 (by omega) y_mo y_8 y_9 H locs hG hS ls (by rw [show lkN rl a b cz (T.take (i + 1)) = (lkN rl a b cz (T.take i)) + 0 from by rw [hls]; first | (rw [bI_n0 c_213]; rfl) | (rw [bI_0 c_213]; rfl)]; exact (lv_sub hl [0, 1, 3, 4, 5, 6, 7] rfl))
            · refine lv_iconst (v := nI 1) hx hb d_MO_like_216 (by decide) ?_
              refine lv_goto (tgt := 221) hx hb d_MO_like_217 (by decide) ?_
              refine lv_iadd hx hb d_MO_like_221 ?_
              refine gs_top (nI_add (lkN rl a b cz (T.take i)) 1) ?_
              refine lv_istore (lv' := [(5, .int (nI ((lkN rl a b cz (T.take i)) + 1))), (10, .int (bI (lk2 rl a b cz t))), (6, .int (nI i)), (0, .ref mo), (1, .int (nI rl)), (2, .int (nI a)), (3, .int (nI b)), (4, .int (nI cz))]) hx hb d_MO_like_222 hl (by decide) rfl (fun ls hl => ?_)
              refine lv_iinc (v := (nI (i + 1))) (lv' := [(6, .int (nI (i + 1))), (5, .int (nI ((lkN rl a b cz (T.take i)) + 1))), (10, .int (bI (lk2 rl a b cz t))), (0, .ref mo), (1, .int (nI rl)), (2, .int (nI a)), (3, .int (nI b)), (4, .int (nI cz))]) hx hb d_MO_like_224 hl (k := 2) rfl (by exact nI_1 _) (by decide) rfl (fun ls hl => ?_)
              refine lv_goto (tgt := 29) hx hb d_MO_like_227 (by decide) ?_
              exact ih (i + 1) σ1 (by omega) hf1 (by omega) y_mo y_8 y_9 H locs hG hS ls (by rw [show lkN rl a b cz (T.take (i + 1)) = (lkN rl a b cz (T.take i)) + 1 from by rw [hls]; first | (rw [bI_n0 c_213]; rfl) | (rw [bI_0 c_213]; rfl)]; exact (lv_sub hl [0, 1, 3, 4, 5, 6, 7] rfl))
          have k141 : ∀ ls, lv_has ls 11 [(10, .int (bI (lk1 rl a b cz t))), (9, .int (nI (clM t.2.1 2))), (8, .int (nI (clM t.2.1 1))), (7, .int (nI (clM t.2.1 0))), (6, .int (nI i)), (5, .int (nI (lkN rl a b cz (T.take i)))), (0, .ref mo), (1, .int (nI rl)), (2, .int (nI a)), (3, .int (nI b)), (4, .int (nI cz))] → W p l e ({ frames := 1, cells := 0, slots := 0, locals := 27 } : Room) s m ([.ref mo, .int (nI rl), .int (nI a), .int (nI b), .int (nI cz)] : List Value).toArray below meth c H locs 0 0 (MQ below (va_Qi (fun q σ' => moA X σ' mo A 0 nr cw F T sa rc Q dr ∧ frm (aM mo A) σ σ' ∧ q = nI (lkN rl a b cz T)) (gs_U X) (gs_A X)) ([.ref mo, .int (nI rl), .int (nI a), .int (nI b), .int (nI cz)] : List Value).toArray s 0 0 (gs_A X)) (F0 m 141 ls []) := by
            intro ls hl
            refine lv_iload hx hb d_MO_like_141 (lv_at hl 0 rfl) ?_
            refine lv_if_eq (tgt := 206) hx hb d_MO_like_143 (by decide) (fun c_143 => ?_) (fun c_143 => ?_)
            · refine lv_iconst (v := nI 0) hx hb d_MO_like_206 (by decide) ?_
              refine lv_istore (lv' := [(10, .int (nI 0)), (9, .int (nI (clM t.2.1 2))), (8, .int (nI (clM t.2.1 1))), (7, .int (nI (clM t.2.1 0))), (6, .int (nI i)), (5, .int (nI (lkN rl a b cz (T.take i)))), (0, .ref mo), (1, .int (nI rl)), (2, .int (nI a)), (3, .int (nI b)), (4, .int (nI cz))]) hx hb d_MO_like_207 hl (by decide) rfl (fun ls hl => ?_)
              exact k209 ls (by rw [show bI (lk2 rl a b cz t) = nI 0 from by first | (unfold lk2; rw [bI_0 c_143]; rfl) | (unfold lk2; rw [decide_eq_false (by omega), Bool.and_false]; rfl)]; exact (lv_sub hl [0, 4, 5, 6, 7, 8, 9, 10] rfl))
            · refine lv_iload_n hx hb d_MO_like_146 rfl (lv_at hl 8 rfl) ?_
              refine lv_bipush (v := nI 64) hx hb d_MO_like_147 (by decide) ?_
              refine lv_icmp_lt (tgt := 164) hx hb d_MO_like_149 (by decide) (fun c_149 => ?_) (fun c_149 => ?_)
              · have c_149 : a < 64 := (nI_ltI (by omega) (by omega)).mp c_149
                refine lv_iload_n hx hb d_MO_like_164 rfl (lv_at hl 8 rfl) ?_
                refine lv_bipush (v := nI 64) hx hb d_MO_like_165 (by decide) ?_
                refine lv_icmp_lt (tgt := 183) hx hb d_MO_like_167 (by decide) (fun c_167 => ?_) (fun c_167 => ?_)
                · have c_167 : a < 64 := (nI_ltI (by omega) (by omega)).mp c_167
                  refine lv_iload_n hx hb d_MO_like_183 rfl (lv_at hl 9 rfl) ?_
                  refine lv_bipush (v := nI 64) hx hb d_MO_like_184 (by decide) ?_
                  refine lv_icmp_lt (tgt := 202) hx hb d_MO_like_186 (by decide) (fun c_186 => ?_) (fun c_186 => ?_)
                  · have c_186 : b < 64 := (nI_ltI (by omega) (by omega)).mp c_186
                    refine lv_iconst (v := nI 1) hx hb d_MO_like_202 (by decide) ?_
                    refine lv_goto (tgt := 207) hx hb d_MO_like_203 (by decide) ?_
                    refine lv_istore (lv' := [(10, .int (nI 1)), (9, .int (nI (clM t.2.1 2))), (8, .int (nI (clM t.2.1 1))), (7, .int (nI (clM t.2.1 0))), (6, .int (nI i)), (5, .int (nI (lkN rl a b cz (T.take i)))), (0, .ref mo), (1, .int (nI rl)), (2, .int (nI a)), (3, .int (nI b)), (4, .int (nI cz))]) hx hb d_MO_like_207 hl (by decide) rfl (fun ls hl => ?_)
                    exact k209 ls (by rw [show bI (lk2 rl a b cz t) = nI 1 from by (unfold lk2; rw [bI_n0 c_143, decide_eq_true (by omega)]; rfl)]; exact (lv_sub hl [0, 4, 5, 6, 7, 8, 9, 10] rfl))
                  · have c_186 : ¬ b < 64 := mt (nI_ltI (by omega) (by omega)).mpr c_186
                    refine lv_iload_n hx hb d_MO_like_189 rfl (lv_at hl 9 rfl) ?_
                    refine lv_iload hx hb d_MO_like_190 (lv_at hl 10 rfl) ?_
                    refine lv_icmp_ne (tgt := 202) hx hb d_MO_like_192 (by decide) (fun c_192 => ?_) (fun c_192 => ?_)
                    · have c_192 : ¬ b = cz := mt (nI_eq (by omega) (by omega)).mpr c_192
                      refine lv_iconst (v := nI 1) hx hb d_MO_like_202 (by decide) ?_
                      refine lv_goto (tgt := 207) hx hb d_MO_like_203 (by decide) ?_
                      refine lv_istore (lv' := [(10, .int (nI 1)), (9, .int (nI (clM t.2.1 2))), (8, .int (nI (clM t.2.1 1))), (7, .int (nI (clM t.2.1 0))), (6, .int (nI i)), (5, .int (nI (lkN rl a b cz (T.take i)))), (0, .ref mo), (1, .int (nI rl)), (2, .int (nI a)), (3, .int (nI b)), (4, .int (nI cz))]) hx hb d_MO_like_207 hl (by decide) rfl (fun ls hl => ?_)
                      exact k209 ls (by rw [show bI (lk2 rl a b cz t) = nI 1 from by (unfold lk2; rw [bI_n0 c_143, decide_eq_true (by omega)]; rfl)]; exact (lv_sub hl [0, 4, 5, 6, 7, 8, 9, 10] rfl))
                    · have c_192 : b = cz :=  (nI_eq (by omega) (by omega)).mp c_192
                      refine lv_iload hx hb d_MO_like_195 (lv_at hl 2 rfl) ?_
                      refine lv_iload hx hb d_MO_like_197 (lv_at hl 1 rfl) ?_
                      refine lv_icmp_ne (tgt := 206) hx hb d_MO_like_199 (by decide) (fun c_199 => ?_) (fun c_199 => ?_)
                      · have c_199 : ¬ (clM t.2.1 1) = (clM t.2.1 2) := mt (nI_eq (by omega) (by omega)).mpr c_199
                        refine lv_iconst (v := nI 0) hx hb d_MO_like_206 (by decide) ?_
                        refine lv_istore (lv' := [(10, .int (nI 0)), (9, .int (nI (clM t.2.1 2))), (8, .int (nI (clM t.2.1 1))), (7, .int (nI (clM t.2.1 0))), (6, .int (nI i)), (5, .int (nI (lkN rl a b cz (T.take i)))), (0, .ref mo), (1, .int (nI rl)), (2, .int (nI a)), (3, .int (nI b)), (4, .int (nI cz))]) hx hb d_MO_like_207 hl (by decide) rfl (fun ls hl => ?_)
                        exact k209 ls (by rw [show bI (lk2 rl a b cz t) = nI 0 from by first | (unfold lk2; rw [bI_0 c_143]; rfl) | (unfold lk2; rw [decide_eq_false (by omega), Bool.and_false]; rfl)]; exact (lv_sub hl [0, 4, 5, 6, 7, 8, 9, 10] rfl))
                      · have c_199 : (clM t.2.1 1) = (clM t.2.1 2) :=  (nI_eq (by omega) (by omega)).mp c_199
                        refine lv_iconst (v := nI 1) hx hb d_MO_like_202 (by decide) ?_
                        refine lv_goto (tgt := 207) hx hb d_MO_like_203 (by decide) ?_
                        refine lv_istore (lv' := [(10, .int (nI 1)), (9, .int (nI (clM t.2.1 2))), (8, .int (nI (clM t.2.1 1))), (7, .int (nI (clM t.2.1 0))), (6, .int (nI i)), (5, .int (nI (lkN rl a b cz (T.take i)))), (0, .ref mo), (1, .int (nI rl)), (2, .int (nI a)), (3, .int (nI b)), (4, .int (nI cz))]) hx hb d_MO_like_207 hl (by decide) rfl (fun ls hl => ?_)
                        exact k209 ls (by rw [show bI (lk2 rl a b cz t) = nI 1 from by (unfold lk2; rw [bI_n0 c_143, decide_eq_true (by omega)]; rfl)]; exact (lv_sub hl [0, 4, 5, 6, 7, 8, 9, 10] rfl))
                · have c_167 : ¬ a < 64 := mt (nI_ltI (by omega) (by omega)).mpr c_167
                  refine lv_iload_n hx hb d_MO_like_170 rfl (lv_at hl 8 rfl) ?_
                  refine lv_iload hx hb d_MO_like_171 (lv_at hl 10 rfl) ?_
                  refine lv_icmp_ne (tgt := 183) hx hb d_MO_like_173 (by decide) (fun c_173 => ?_) (fun c_173 => ?_)
                  · have c_173 : ¬ a = cz := mt (nI_eq (by omega) (by omega)).mpr c_173
                    refine lv_iload_n hx hb d_MO_like_183 rfl (lv_at hl 9 rfl) ?_
                    refine lv_bipush (v := nI 64) hx hb d_MO_like_184 (by decide) ?_
                    refine lv_icmp_lt (tgt := 202) hx hb d_MO_like_186 (by decide) (fun c_186 => ?_) (fun c_186 => ?_)
                    · have c_186 : b < 64 := (nI_ltI (by omega) (by omega)).mp c_186
                      refine lv_iconst (v := nI 1) hx hb d_MO_like_202 (by decide) ?_
                      refine lv_goto (tgt := 207) hx hb d_MO_like_203 (by decide) ?_
                      refine lv_istore (lv' := [(10, .int (nI 1)), (9, .int (nI (clM t.2.1 2))), (8, .int (nI (clM t.2.1 1))), (7, .int (nI (clM t.2.1 0))), (6, .int (nI i)), (5, .int (nI (lkN rl a b cz (T.take i)))), (0, .ref mo), (1, .int (nI rl)), (2, .int (nI a)), (3, .int (nI b)), (4, .int (nI cz))]) hx hb d_MO_like_207 hl (by decide) rfl (fun ls hl => ?_)
                      exact k209 ls (by rw [show bI (lk2 rl a b cz t) = nI 1 from by (unfold lk2; rw [bI_n0 c_143, decide_eq_true (by omega)]; rfl)]; exact (lv_sub hl [0, 4, 5, 6, 7, 8, 9, 10] rfl))
                    · have c_186 : ¬ b < 64 := mt (nI_ltI (by omega) (by omega)).mpr c_186
                      refine lv_iload_n hx hb d_MO_like_189 rfl (lv_at hl 9 rfl) ?_
                      refine lv_iload hx hb d_MO_like_190 (lv_at hl 10 rfl) ?_
                      refine lv_icmp_ne (tgt := 202) hx hb d_MO_like_192 (by decide) (fun c_192 => ?_) (fun c_192 => ?_)
                      · have c_192 : ¬ b = cz := mt (nI_eq (by omega) (by omega)).mpr c_192
                        refine lv_iconst (v := nI 1) hx hb d_MO_like_202 (by decide) ?_
                        refine lv_goto (tgt := 207) hx hb d_MO_like_203 (by decide) ?_
                        refine lv_istore (lv' := [(10, .int (nI 1)), (9, .int (nI (clM t.2.1 2))), (8, .int (nI (clM t.2.1 1))), (7, .int (nI (clM t.2.1 0))), (6, .int (nI i)), (5, .int (nI (lkN rl a b cz (T.take i)))), (0, .ref mo), (1, .int (nI rl)), (2, .int (nI a)), (3, .int (nI b)), (4, .int (nI cz))]) hx hb d_MO_like_207 hl (by decide) rfl (fun ls hl => ?_)
                        exact k209 ls (by rw [show bI (lk2 rl a b cz t) = nI 1 from by (unfold lk2; rw [bI_n0 c_143, decide_eq_true (by omega)]; rfl)]; exact (lv_sub hl [0, 4, 5, 6, 7, 8, 9, 10] rfl))
                      · have c_192 : b = cz :=  (nI_eq (by omega) (by omega)).mp c_192
                        refine lv_iload hx hb d_MO_like_195 (lv_at hl 2 rfl) ?_
                        refine lv_iload hx hb d_MO_like_197 (lv_at hl 1 rfl) ?_
                        refine lv_icmp_ne (tgt := 206) hx hb d_MO_like_199 (by decide) (fun c_199 => ?_) (fun c_199 => ?_)
                        · have c_199 : ¬ (clM t.2.1 1) = (clM t.2.1 2) := mt (nI_eq (by omega) (by omega)).mpr c_199
                          refine lv_iconst (v := nI 0) hx hb d_MO_like_206 (by decide) ?_
                          refine lv_istore (lv' := [(10, .int (nI 0)), (9, .int (nI (clM t.2.1 2))), (8, .int (nI (clM t.2.1 1))), (7, .int (nI (clM t.2.1 0))), (6, .int (nI i)), (5, .int (nI (lkN rl a b cz (T.take i)))), (0, .ref mo), (1, .int (nI rl)), (2, .int (nI a)), (3, .int (nI b)), (4, .int (nI cz))]) hx hb d_MO_like_207 hl (by decide) rfl (fun ls hl => ?_)
                          exact k209 ls (by rw [show bI (lk2 rl a b cz t) = nI 0 from by first | (unfold lk2; rw [bI_0 c_143]; rfl) | (unfold lk2; rw [decide_eq_false (by omega), Bool.and_false]; rfl)]; exact (lv_sub hl [0, 4, 5, 6, 7, 8, 9, 10] rfl))
                        · have c_199 : (clM t.2.1 1) = (clM t.2.1 2) :=  (nI_eq (by omega) (by omega)).mp c_199
                          refine lv_iconst (v := nI 1) hx hb d_MO_like_202 (by decide) ?_
                          refine lv_goto (tgt := 207) hx hb d_MO_like_203 (by decide) ?_
                          refine lv_istore (lv' := [(10, .int (nI 1)), (9, .int (nI (clM t.2.1 2))), (8, .int (nI (clM t.2.1 1))), (7, .int (nI (clM t.2.1 0))), (6, .int (nI i)), (5, .int (nI (lkN rl a b cz (T.take i)))), (0, .ref mo), (1, .int (nI rl)), (2, .int (nI a)), (3, .int (nI b)), (4, .int (nI cz))]) hx hb d_MO_like_207 hl (by decide) rfl (fun ls hl => ?_)
                          exact k209 ls (by rw [show bI (lk2 rl a b cz t) = nI 1 from by (unfold lk2; rw [bI_n0 c_143, decide_eq_true (by omega)]; rfl)]; exact (lv_sub hl [0, 4, 5, 6, 7, 8, 9, 10] rfl))
                  · have c_173 : a = cz :=  (nI_eq (by omega) (by omega)).mp c_173
                    refine lv_iload hx hb d_MO_like_176 (lv_at hl 3 rfl) ?_
                    refine lv_iload hx hb d_MO_like_178 (lv_at hl 1 rfl) ?_
                    refine lv_icmp_ne (tgt := 206) hx hb d_MO_like_180 (by decide) (fun c_180 => ?_) (fun c_180 => ?_)
                    · have c_180 : ¬ (clM t.2.1 0) = (clM t.2.1 2) := mt (nI_eq (by omega) (by omega)).mpr c_180
                      refine lv_iconst (v := nI 0) hx hb d_MO_like_206 (by decide) ?_
                      refine lv_istore (lv' := [(10, .int (nI 0)), (9, .int (nI (clM t.2.1 2))), (8, .int (nI (clM t.2.1 1))), (7, .int (nI (clM t.2.1 0))), (6, .int (nI i)), (5, .int (nI (lkN rl a b cz (T.take i)))), (0, .ref mo), (1, .int (nI rl)), (2, .int (nI a)), (3, .int (nI b)), (4, .int (nI cz))]) hx hb d_MO_like_207 hl (by decide) rfl (fun ls hl => ?_)
                      exact k209 ls (by rw [show bI (lk2 rl a b cz t) = nI 0 from by first | (unfold lk2; rw [bI_0 c_143]; rfl) | (unfold lk2; rw [decide_eq_false (by omega), Bool.and_false]; rfl)]; exact (lv_sub hl [0, 4, 5, 6, 7, 8, 9, 10] rfl))
                    · have c_180 : (clM t.2.1 0) = (clM t.2.1 2) :=  (nI_eq (by omega) (by omega)).mp c_180
                      refine lv_iload_n hx hb d_MO_like_183 rfl (lv_at hl 9 rfl) ?_
                      refine lv_bipush (v := nI 64) hx hb d_MO_like_184 (by decide) ?_
                      refine lv_icmp_lt (tgt := 202) hx hb d_MO_like_186 (by decide) (fun c_186 => ?_) (fun c_186 => ?_)
                      · have c_186 : b < 64 := (nI_ltI (by omega) (by omega)).mp c_186
                        refine lv_iconst (v := nI 1) hx hb d_MO_like_202 (by decide) ?_
                        refine lv_goto (tgt := 207) hx hb d_MO_like_203 (by decide) ?_
                        refine lv_istore (lv' := [(10, .int (nI 1)), (9, .int (nI (clM t.2.1 2))), (8, .int (nI (clM t.2.1 1))), (7, .int (nI (clM t.2.1 0))), (6, .int (nI i)), (5, .int (nI (lkN rl a b cz (T.take i)))), (0, .ref mo), (1, .int (nI rl)), (2, .int (nI a)), (3, .int (nI b)), (4, .int (nI cz))]) hx hb d_MO_like_207 hl (by decide) rfl (fun ls hl => ?_)
                        exact k209 ls (by rw [show bI (lk2 rl a b cz t) = nI 1 from by (unfold lk2; rw [bI_n0 c_143, decide_eq_true (by omega)]; rfl)]; exact (lv_sub hl [0, 4, 5, 6, 7, 8, 9, 10] rfl))
                      · have c_186 : ¬ b < 64 := mt (nI_ltI (by omega) (by omega)).mpr c_186
                        refine lv_iload_n hx hb d_MO_like_189 rfl (lv_at hl 9 rfl) ?_
                        refine lv_iload hx hb d_MO_like_190 (lv_at hl 10 rfl) ?_
                        refine lv_icmp_ne (tgt := 202) hx hb d_MO_like_192 (by decide) (fun c_192 => ?_) (fun c_192 => ?_)
                        · have c_192 : ¬ b = cz := mt (nI_eq (by omega) (by omega)).mpr c_192
                          refine lv_iconst (v := nI 1) hx hb d_MO_like_202 (by decide) ?_
                          refine lv_goto (tgt := 207) hx hb d_MO_like_203 (by decide) ?_
                          refine lv_istore (lv' := [(10, .int (nI 1)), (9, .int (nI (clM t.2.1 2))), (8, .int (nI (clM t.2.1 1))), (7, .int (nI (clM t.2.1 0))), (6, .int (nI i)), (5, .int (nI (lkN rl a b cz (T.take i)))), (0, .ref mo), (1, .int (nI rl)), (2, .int (nI a)), (3, .int (nI b)), (4, .int (nI cz))]) hx hb d_MO_like_207 hl (by decide) rfl (fun ls hl => ?_)
                          exact k209 ls (by rw [show bI (lk2 rl a b cz t) = nI 1 from by (unfold lk2; rw [bI_n0 c_143, decide_eq_true (by omega)]; rfl)]; exact (lv_sub hl [0, 4, 5, 6, 7, 8, 9, 10] rfl))
                        · have c_192 : b = cz :=  (nI_eq (by omega) (by omega)).mp c_192
                          refine lv_iload hx hb d_MO_like_195 (lv_at hl 2 rfl) ?_
                          refine lv_iload hx hb d_MO_like_197 (lv_at hl 1 rfl) ?_
                          refine lv_icmp_ne (tgt := 206) hx hb d_MO_like_199 (by decide) (fun c_199 => ?_) (fun c_199 => ?_)
                          · have c_199 : ¬ (clM t.2.1 1) = (clM t.2.1 2) := mt (nI_eq (by omega) (by omega)).mpr c_199
                            refine lv_iconst (v := nI 0) hx hb d_MO_like_206 (by decide) ?_
                            refine lv_istore (lv' := [(10, .int (nI 0)), (9, .int (nI (clM t.2.1 2))), (8, .int (nI (clM t.2.1 1))), (7, .int (nI (clM t.2.1 0))), (6, .int (nI i)), (5, .int (nI (lkN rl a b cz (T.take i)))), (0, .ref mo), (1, .int (nI rl)), (2, .int (nI a)), (3, .int (nI b)), (4, .int (nI cz))]) hx hb d_MO_like_207 hl (by decide) rfl (fun ls hl => ?_)
                            exact k209 ls (by rw [show bI (lk2 rl a b cz t) = nI 0 from by first | (unfold lk2; rw [bI_0 c_143]; rfl) | (unfold lk2; rw [decide_eq_false (by omega), Bool.and_false]; rfl)]; exact (lv_sub hl [0, 4, 5, 6, 7, 8, 9, 10] rfl))
                          · have c_199 : (clM t.2.1 1) = (clM t.2.1 2) :=  (nI_eq (by omega) (by omega)).mp c_199
                            refine lv_iconst (v := nI 1) hx hb d_MO_like_202 (by decide) ?_
                            refine lv_goto (tgt := 207) hx hb d_MO_like_203 (by decide) ?_
                            refine lv_istore (lv' := [(10, .int (nI 1)), (9, .int (nI (clM t.2.1 2))), (8, .int (nI (clM t.2.1 1))), (7, .int (nI (clM t.2.1 0))), (6, .int (nI i)), (5, .int (nI (lkN rl a b cz (T.take i)))), (0, .ref mo), (1, .int (nI rl)), (2, .int (nI a)), (3, .int (nI b)), (4, .int (nI cz))]) hx hb d_MO_like_207 hl (by decide) rfl (fun ls hl => ?_)
                            exact k209 ls (by rw [show bI (lk2 rl a b cz t) = nI 1 from by (unfold lk2; rw [bI_n0 c_143, decide_eq_true (by omega)]; rfl)]; exact (lv_sub hl [0, 4, 5, 6, 7, 8, 9, 10] rfl))
              · have c_149 : ¬ a < 64 := mt (nI_ltI (by omega) (by omega)).mpr c_149
                refine lv_iload_n hx hb d_MO_like_152 rfl (lv_at hl 8 rfl) ?_
                refine lv_iload_n hx hb d_MO_like_153 rfl (lv_at hl 9 rfl) ?_
                refine lv_icmp_ne (tgt := 164) hx hb d_MO_like_154 (by decide) (fun c_154 => ?_) (fun c_154 => ?_)
                · have c_154 : ¬ a = b := mt (nI_eq (by omega) (by omega)).mpr c_154
                  refine lv_iload_n hx hb d_MO_like_164 rfl (lv_at hl 8 rfl) ?_
                  refine lv_bipush (v := nI 64) hx hb d_MO_like_165 (by decide) ?_
                  refine lv_icmp_lt (tgt := 183) hx hb d_MO_like_167 (by decide) (fun c_167 => ?_) (fun c_167 => ?_)
                  · have c_167 : a < 64 := (nI_ltI (by omega) (by omega)).mp c_167
                    refine lv_iload_n hx hb d_MO_like_183 rfl (lv_at hl 9 rfl) ?_
                    refine lv_bipush (v := nI 64) hx hb d_MO_like_184 (by decide) ?_
                    refine lv_icmp_lt (tgt := 202) hx hb d_MO_like_186 (by decide) (fun c_186 => ?_) (fun c_186 => ?_)
                    · have c_186 : b < 64 := (nI_ltI (by omega) (by omega)).mp c_186
                      refine lv_iconst (v := nI 1) hx hb d_MO_like_202 (by decide) ?_
                      refine lv_goto (tgt := 207) hx hb d_MO_like_203 (by decide) ?_
                      refine lv_istore (lv' := [(10, .int (nI 1)), (9, .int (nI (clM t.2.1 2))), (8, .int (nI (clM t.2.1 1))), (7, .int (nI (clM t.2.1 0))), (6, .int (nI i)), (5, .int (nI (lkN rl a b cz (T.take i)))), (0, .ref mo), (1, .int (nI rl)), (2, .int (nI a)), (3, .int (nI b)), (4, .int (nI cz))]) hx hb d_MO_like_207 hl (by decide) rfl (fun ls hl => ?_)
                      exact k209 ls (by rw [show bI (lk2 rl a b cz t) = nI 1 from by (unfold lk2; rw [bI_n0 c_143, decide_eq_true (by omega)]; rfl)]; exact (lv_sub hl [0, 4, 5, 6, 7, 8, 9, 10] rfl))
                    · have c_186 : ¬ b < 64 := mt (nI_ltI (by omega) (by omega)).mpr c_186
                      refine lv_iload_n hx hb d_MO_like_189 rfl (lv_at hl 9 rfl) ?_
                      refine lv_iload hx hb d_MO_like_190 (lv_at hl 10 rfl) ?_
                      refine lv_icmp_ne (tgt := 202) hx hb d_MO_like_192 (by decide) (fun c_192 => ?_) (fun c_192 => ?_)
                      · have c_192 : ¬ b = cz := mt (nI_eq (by omega) (by omega)).mpr c_192
                        refine lv_iconst (v := nI 1) hx hb d_MO_like_202 (by decide) ?_
                        refine lv_goto (tgt := 207) hx hb d_MO_like_203 (by decide) ?_
                        refine lv_istore (lv' := [(10, .int (nI 1)), (9, .int (nI (clM t.2.1 2))), (8, .int (nI (clM t.2.1 1))), (7, .int (nI (clM t.2.1 0))), (6, .int (nI i)), (5, .int (nI (lkN rl a b cz (T.take i)))), (0, .ref mo), (1, .int (nI rl)), (2, .int (nI a)), (3, .int (nI b)), (4, .int (nI cz))]) hx hb d_MO_like_207 hl (by decide) rfl (fun ls hl => ?_)
                        exact k209 ls (by rw [show bI (lk2 rl a b cz t) = nI 1 from by (unfold lk2; rw [bI_n0 c_143, decide_eq_true (by omega)]; rfl)]; exact (lv_sub hl [0, 4, 5, 6, 7, 8, 9, 10] rfl))
                      · have c_192 : b = cz :=  (nI_eq (by omega) (by omega)).mp c_192
                        refine lv_iload hx hb d_MO_like_195 (lv_at hl 2 rfl) ?_
                        refine lv_iload hx hb d_MO_like_197 (lv_at hl 1 rfl) ?_
                        refine lv_icmp_ne (tgt := 206) hx hb d_MO_like_199 (by decide) (fun c_199 => ?_) (fun c_199 => ?_)
                        · have c_199 : ¬ (clM t.2.1 1) = (clM t.2.1 2) := mt (nI_eq (by omega) (by omega)).mpr c_199
                          refine lv_iconst (v := nI 0) hx hb d_MO_like_206 (by decide) ?_
                          refine lv_istore (lv' := [(10, .int (nI 0)), (9, .int (nI (clM t.2.1 2))), (8, .int (nI (clM t.2.1 1))), (7, .int (nI (clM t.2.1 0))), (6, .int (nI i)), (5, .int (nI (lkN rl a b cz (T.take i)))), (0, .ref mo), (1, .int (nI rl)), (2, .int (nI a)), (3, .int (nI b)), (4, .int (nI cz))]) hx hb d_MO_like_207 hl (by decide) rfl (fun ls hl => ?_)
                          exact k209 ls (by rw [show bI (lk2 rl a b cz t) = nI 0 from by first | (unfold lk2; rw [bI_0 c_143]; rfl) | (unfold lk2; rw [decide_eq_false (by omega), Bool.and_false]; rfl)]; exact (lv_sub hl [0, 4, 5, 6, 7, 8, 9, 10] rfl))
                        · have c_199 : (clM t.2.1 1) = (clM t.2.1 2) :=  (nI_eq (by omega) (by omega)).mp c_199
                          refine lv_iconst (v := nI 1) hx hb d_MO_like_202 (by decide) ?_
                          refine lv_goto (tgt := 207) hx hb d_MO_like_203 (by decide) ?_
                          refine lv_istore (lv' := [(10, .int (nI 1)), (9, .int (nI (clM t.2.1 2))), (8, .int (nI (clM t.2.1 1))), (7, .int (nI (clM t.2.1 0))), (6, .int (nI i)), (5, .int (nI (lkN rl a b cz (T.take i)))), (0, .ref mo), (1, .int (nI rl)), (2, .int (nI a)), (3, .int (nI b)), (4, .int (nI cz))]) hx hb d_MO_like_207 hl (by decide) rfl (fun ls hl => ?_)
                          exact k209 ls (by rw [show bI (lk2 rl a b cz t) = nI 1 from by (unfold lk2; rw [bI_n0 c_143, decide_eq_true (by omega)]; rfl)]; exact (lv_sub hl [0, 4, 5, 6, 7, 8, 9, 10] rfl))
                  · have c_167 : ¬ a < 64 := mt (nI_ltI (by omega) (by omega)).mpr c_167
                    refine lv_iload_n hx hb d_MO_like_170 rfl (lv_at hl 8 rfl) ?_
                    refine lv_iload hx hb d_MO_like_171 (lv_at hl 10 rfl) ?_
                    refine lv_icmp_ne (tgt := 183) hx hb d_MO_like_173 (by decide) (fun c_173 => ?_) (fun c_173 => ?_)
                    · have c_173 : ¬ a = cz := mt (nI_eq (by omega) (by omega)).mpr c_173
                      refine lv_iload_n hx hb d_MO_like_183 rfl (lv_at hl 9 rfl) ?_
                      refine lv_bipush (v := nI 64) hx hb d_MO_like_184 (by decide) ?_
                      refine lv_icmp_lt (tgt := 202) hx hb d_MO_like_186 (by decide) (fun c_186 => ?_) (fun c_186 => ?_)
                      · have c_186 : b < 64 := (nI_ltI (by omega) (by omega)).mp c_186
                        refine lv_iconst (v := nI 1) hx hb d_MO_like_202 (by decide) ?_
                        refine lv_goto (tgt := 207) hx hb d_MO_like_203 (by decide) ?_
                        refine lv_istore (lv' := [(10, .int (nI 1)), (9, .int (nI (clM t.2.1 2))), (8, .int (nI (clM t.2.1 1))), (7, .int (nI (clM t.2.1 0))), (6, .int (nI i)), (5, .int (nI (lkN rl a b cz (T.take i)))), (0, .ref mo), (1, .int (nI rl)), (2, .int (nI a)), (3, .int (nI b)), (4, .int (nI cz))]) hx hb d_MO_like_207 hl (by decide) rfl (fun ls hl => ?_)
                        exact k209 ls (by rw [show bI (lk2 rl a b cz t) = nI 1 from by (unfold lk2; rw [bI_n0 c_143, decide_eq_true (by omega)]; rfl)]; exact (lv_sub hl [0, 4, 5, 6, 7, 8, 9, 10] rfl))
                      · have c_186 : ¬ b < 64 := mt (nI_ltI (by omega) (by omega)).mpr c_186
                        refine lv_iload_n hx hb d_MO_like_189 rfl (lv_at hl 9 rfl) ?_
                        refine lv_iload hx hb d_MO_like_190 (lv_at hl 10 rfl) ?_
                        refine lv_icmp_ne (tgt := 202) hx hb d_MO_like_192 (by decide) (fun c_192 => ?_) (fun c_192 => ?_)
                        · have c_192 : ¬ b = cz := mt (nI_eq (by omega) (by omega)).mpr c_192
                          refine lv_iconst (v := nI 1) hx hb d_MO_like_202 (by decide) ?_
                          refine lv_goto (tgt := 207) hx hb d_MO_like_203 (by decide) ?_
                          refine lv_istore (lv' := [(10, .int (nI 1)), (9, .int (nI (clM t.2.1 2))), (8, .int (nI (clM t.2.1 1))), (7, .int (nI (clM t.2.1 0))), (6, .int (nI i)), (5, .int (nI (lkN rl a b cz (T.take i)))), (0, .ref mo), (1, .int (nI rl)), (2, .int (nI a)), (3, .int (nI b)), (4, .int (nI cz))]) hx hb d_MO_like_207 hl (by decide) rfl (fun ls hl => ?_)
                          exact k209 ls (by rw [show bI (lk2 rl a b cz t) = nI 1 from by (unfold lk2; rw [bI_n0 c_143, decide_eq_true (by omega)]; rfl)]; exact (lv_sub hl [0, 4, 5, 6, 7, 8, 9, 10] rfl))
                        · have c_192 : b = cz :=  (nI_eq (by omega) (by omega)).mp c_192
                          refine lv_iload hx hb d_MO_like_195 (lv_at hl 2 rfl) ?_
                          refine lv_iload hx hb d_MO_like_197 (lv_at hl 1 rfl) ?_
                          refine lv_icmp_ne (tgt := 206) hx hb d_MO_like_199 (by decide) (fun c_199 => ?_) (fun c_199 => ?_)
                          · have c_199 : ¬ (clM t.2.1 1) = (clM t.2.1 2) := mt (nI_eq (by omega) (by omega)).mpr c_199
                            refine lv_iconst (v := nI 0) hx hb d_MO_like_206 (by decide) ?_
                            refine lv_istore (lv' := [(10, .int (nI 0)), (9, .int (nI (clM t.2.1 2))), (8, .int (nI (clM t.2.1 1))), (7, .int (nI (clM t.2.1 0))), (6, .int (nI i)), (5, .int (nI (lkN rl a b cz (T.take i)))), (0, .ref mo), (1, .int (nI rl)), (2, .int (nI a)), (3, .int (nI b)), (4, .int (nI cz))]) hx hb d_MO_like_207 hl (by decide) rfl (fun ls hl => ?_)
                            exact k209 ls (by rw [show bI (lk2 rl a b cz t) = nI 0 from by first | (unfold lk2; rw [bI_0 c_143]; rfl) | (unfold lk2; rw [decide_eq_false (by omega), Bool.and_false]; rfl)]; exact (lv_sub hl [0, 4, 5, 6, 7, 8, 9, 10] rfl))
                          · have c_199 : (clM t.2.1 1) = (clM t.2.1 2) :=  (nI_eq (by omega) (by omega)).mp c_199
                            refine lv_iconst (v := nI 1) hx hb d_MO_like_202 (by decide) ?_
                            refine lv_goto (tgt := 207) hx hb d_MO_like_203 (by decide) ?_
                            refine lv_istore (lv' := [(10, .int (nI 1)), (9, .int (nI (clM t.2.1 2))), (8, .int (nI (clM t.2.1 1))), (7, .int (nI (clM t.2.1 0))), (6, .int (nI i)), (5, .int (nI (lkN rl a b cz (T.take i)))), (0, .ref mo), (1, .int (nI rl)), (2, .int (nI a)), (3, .int (nI b)), (4, .int (nI cz))]) hx hb d_MO_like_207 hl (by decide) rfl (fun ls hl => ?_)
                            exact k209 ls (by rw [show bI (lk2 rl a b cz t) = nI 1 from by (unfold lk2; rw [bI_n0 c_143, decide_eq_true (by omega)]; rfl)]; exact (lv_sub hl [0, 4, 5, 6, 7, 8, 9, 10] rfl))
                    · have c_173 : a = cz :=  (nI_eq (by omega) (by omega)).mp c_173
                      refine lv_iload hx hb d_MO_like_176 (lv_at hl 3 rfl) ?_
                      refine lv_iload hx hb d_MO_like_178 (lv_at hl 1 rfl) ?_
                      refine lv_icmp_ne (tgt := 206) hx hb d_MO_like_180 (by decide) (fun c_180 => ?_) (fun c_180 => ?_)
                      · have c_180 : ¬ (clM t.2.1 0) = (clM t.2.1 2) := mt (nI_eq (by omega) (by omega)).mpr c_180
                        refine lv_iconst (v := nI 0) hx hb d_MO_like_206 (by decide) ?_
                        refine lv_istore (lv' := [(10, .int (nI 0)), (9, .int (nI (clM t.2.1 2))), (8, .int (nI (clM t.2.1 1))), (7, .int (nI (clM t.2.1 0))), (6, .int (nI i)), (5, .int (nI (lkN rl a b cz (T.take i)))), (0, .ref mo), (1, .int (nI rl)), (2, .int (nI a)), (3, .int (nI b)), (4, .int (nI cz))]) hx hb d_MO_like_207 hl (by decide) rfl (fun ls hl => ?_)
                        exact k209 ls (by rw [show bI (lk2 rl a b cz t) = nI 0 from by first | (unfold lk2; rw [bI_0 c_143]; rfl) | (unfold lk2; rw [decide_eq_false (by omega), Bool.and_false]; rfl)]; exact (lv_sub hl [0, 4, 5, 6, 7, 8, 9, 10] rfl))
                      · have c_180 : (clM t.2.1 0) = (clM t.2.1 2) :=  (nI_eq (by omega) (by omega)).mp c_180
                        refine lv_iload_n hx hb d_MO_like_183 rfl (lv_at hl 9 rfl) ?_
                        refine lv_bipush (v := nI 64) hx hb d_MO_like_184 (by decide) ?_
                        refine lv_icmp_lt (tgt := 202) hx hb d_MO_like_186 (by decide) (fun c_186 => ?_) (fun c_186 => ?_)
                        · have c_186 : b < 64 := (nI_ltI (by omega) (by omega)).mp c_186
                          refine lv_iconst (v := nI 1) hx hb d_MO_like_202 (by decide) ?_
                          refine lv_goto (tgt := 207) hx hb d_MO_like_203 (by decide) ?_
                          refine lv_istore (lv' := [(10, .int (nI 1)), (9, .int (nI (clM t.2.1 2))), (8, .int (nI (clM t.2.1 1))), (7, .int (nI (clM t.2.1 0))), (6, .int (nI i)), (5, .int (nI (lkN rl a b cz (T.take i)))), (0, .ref mo), (1, .int (nI rl)), (2, .int (nI a)), (3, .int (nI b)), (4, .int (nI cz))]) hx hb d_MO_like_207 hl (by decide) rfl (fun ls hl => ?_)
                          exact k209 ls (by rw [show bI (lk2 rl a b cz t) = nI 1 from by (unfold lk2; rw [bI_n0 c_143, decide_eq_true (by omega)]; rfl)]; exact (lv_sub hl [0, 4, 5, 6, 7, 8, 9, 10] rfl))
                        · have c_186 : ¬ b < 64 := mt (nI_ltI (by omega) (by omega)).mpr c_186
                          refine lv_iload_n hx hb d_MO_like_189 rfl (lv_at hl 9 rfl) ?_
                          refine lv_iload hx hb d_MO_like_190 (lv_at hl 10 rfl) ?_
                          refine lv_icmp_ne (tgt := 202) hx hb d_MO_like_192 (by decide) (fun c_192 => ?_) (fun c_192 => ?_)
                          · have c_192 : ¬ b = cz := mt (nI_eq (by omega) (by omega)).mpr c_192
                            refine lv_iconst (v := nI 1) hx hb d_MO_like_202 (by decide) ?_
                            refine lv_goto (tgt := 207) hx hb d_MO_like_203 (by decide) ?_
                            refine lv_istore (lv' := [(10, .int (nI 1)), (9, .int (nI (clM t.2.1 2))), (8, .int (nI (clM t.2.1 1))), (7, .int (nI (clM t.2.1 0))), (6, .int (nI i)), (5, .int (nI (lkN rl a b cz (T.take i)))), (0, .ref mo), (1, .int (nI rl)), (2, .int (nI a)), (3, .int (nI b)), (4, .int (nI cz))]) hx hb d_MO_like_207 hl (by decide) rfl (fun ls hl => ?_)
                            exact k209 ls (by rw [show bI (lk2 rl a b cz t) = nI 1 from by (unfold lk2; rw [bI_n0 c_143, decide_eq_true (by omega)]; rfl)]; exact (lv_sub hl [0, 4, 5, 6, 7, 8, 9, 10] rfl))
                          · have c_192 : b = cz :=  (nI_eq (by omega) (by omega)).mp c_192
                            refine lv_iload hx hb d_MO_like_195 (lv_at hl 2 rfl) ?_
                            refine lv_iload hx hb d_MO_like_197 (lv_at hl 1 rfl) ?_
                            refine lv_icmp_ne (tgt := 206) hx hb d_MO_like_199 (by decide) (fun c_199 => ?_) (fun c_199 => ?_)
                            · have c_199 : ¬ (clM t.2.1 1) = (clM t.2.1 2) := mt (nI_eq (by omega) (by omega)).mpr c_199
                              refine lv_iconst (v := nI 0) hx hb d_MO_like_206 (by decide) ?_
                              refine lv_istore (lv' := [(10, .int (nI 0)), (9, .int (nI (clM t.2.1 2))), (8, .int (nI (clM t.2.1 1))), (7, .int (nI (clM t.2.1 0))), (6, .int (nI i)), (5, .int (nI (lkN rl a b cz (T.take i)))), (0, .ref mo), (1, .int (nI rl)), (2, .int (nI a)), (3, .int (nI b)), (4, .int (nI cz))]) hx hb d_MO_like_207 hl (by decide) rfl (fun ls hl => ?_)
                              exact k209 ls (by rw [show bI (lk2 rl a b cz t) = nI 0 from by first | (unfold lk2; rw [bI_0 c_143]; rfl) | (unfold lk2; rw [decide_eq_false (by omega), Bool.and_false]; rfl)]; exact (lv_sub hl [0, 4, 5, 6, 7, 8, 9, 10] rfl))
                            · have c_199 : (clM t.2.1 1) = (clM t.2.1 2) :=  (nI_eq (by omega) (by omega)).mp c_199
                              refine lv_iconst (v := nI 1) hx hb d_MO_like_202 (by decide) ?_
                              refine lv_goto (tgt := 207) hx hb d_MO_like_203 (by decide) ?_
                              refine lv_istore (lv' := [(10, .int (nI 1)), (9, .int (nI (clM t.2.1 2))), (8, .int (nI (clM t.2.1 1))), (7, .int (nI (clM t.2.1 0))), (6, .int (nI i)), (5, .int (nI (lkN rl a b cz (T.take i)))), (0, .ref mo), (1, .int (nI rl)), (2, .int (nI a)), (3, .int (nI b)), (4, .int (nI cz))]) hx hb d_MO_like_207 hl (by decide) rfl (fun ls hl => ?_)
                              exact k209 ls (by rw [show bI (lk2 rl a b cz t) = nI 1 from by (unfold lk2; rw [bI_n0 c_143, decide_eq_true (by omega)]; rfl)]; exact (lv_sub hl [0, 4, 5, 6, 7, 8, 9, 10] rfl))
                · have c_154 : a = b :=  (nI_eq (by omega) (by omega)).mp c_154
                  refine lv_iload hx hb d_MO_like_157 (lv_at hl 3 rfl) ?_
                  refine lv_iload hx hb d_MO_like_159 (lv_at hl 2 rfl) ?_
                  refine lv_icmp_ne (tgt := 206) hx hb d_MO_like_161 (by decide) (fun c_161 => ?_) (fun c_161 => ?_)
                  · have c_161 : ¬ (clM t.2.1 0) = (clM t.2.1 1) := mt (nI_eq (by omega) (by omega)).mpr c_161
                    refine lv_iconst (v := nI 0) hx hb d_MO_like_206 (by decide) ?_
                    refine lv_istore (lv' := [(10, .int (nI 0)), (9, .int (nI (clM t.2.1 2))), (8, .int (nI (clM t.2.1 1))), (7, .int (nI (clM t.2.1 0))), (6, .int (nI i)), (5, .int (nI (lkN rl a b cz (T.take i)))), (0, .ref mo), (1, .int (nI rl)), (2, .int (nI a)), (3, .int (nI b)), (4, .int (nI cz))]) hx hb d_MO_like_207 hl (by decide) rfl (fun ls hl => ?_)
                    exact k209 ls (by rw [show bI (lk2 rl a b cz t) = nI 0 from by first | (unfold lk2; rw [bI_0 c_143]; rfl) | (unfold lk2; rw [decide_eq_false (by omega), Bool.and_false]; rfl)]; exact (lv_sub hl [0, 4, 5, 6, 7, 8, 9, 10] rfl))
                  · have c_161 : (clM t.2.1 0) = (clM t.2.1 1) :=  (nI_eq (by omega) (by omega)).mp c_161
                    refine lv_iload_n hx hb d_MO_like_164 rfl (lv_at hl 8 rfl) ?_
                    refine lv_bipush (v := nI 64) hx hb d_MO_like_165 (by decide) ?_
                    refine lv_icmp_lt (tgt := 183) hx hb d_MO_like_167 (by decide) (fun c_167 => ?_) (fun c_167 => ?_)
                    · have c_167 : a < 64 := (nI_ltI (by omega) (by omega)).mp c_167
                      refine lv_iload_n hx hb d_MO_like_183 rfl (lv_at hl 9 rfl) ?_
                      refine lv_bipush (v := nI 64) hx hb d_MO_like_184 (by decide) ?_
                      refine lv_icmp_lt (tgt := 202) hx hb d_MO_like_186 (by decide) (fun c_186 => ?_) (fun c_186 => ?_)
                      · have c_186 : b < 64 := (nI_ltI (by omega) (by omega)).mp c_186
                        refine lv_iconst (v := nI 1) hx hb d_MO_like_202 (by decide) ?_
                        refine lv_goto (tgt := 207) hx hb d_MO_like_203 (by decide) ?_
                        refine lv_istore (lv' := [(10, .int (nI 1)), (9, .int (nI (clM t.2.1 2))), (8, .int (nI (clM t.2.1 1))), (7, .int (nI (clM t.2.1 0))), (6, .int (nI i)), (5, .int (nI (lkN rl a b cz (T.take i)))), (0, .ref mo), (1, .int (nI rl)), (2, .int (nI a)), (3, .int (nI b)), (4, .int (nI cz))]) hx hb d_MO_like_207 hl (by decide) rfl (fun ls hl => ?_)
                        exact k209 ls (by rw [show bI (lk2 rl a b cz t) = nI 1 from by (unfold lk2; rw [bI_n0 c_143, decide_eq_true (by omega)]; rfl)]; exact (lv_sub hl [0, 4, 5, 6, 7, 8, 9, 10] rfl))
                      · have c_186 : ¬ b < 64 := mt (nI_ltI (by omega) (by omega)).mpr c_186
                        refine lv_iload_n hx hb d_MO_like_189 rfl (lv_at hl 9 rfl) ?_
                        refine lv_iload hx hb d_MO_like_190 (lv_at hl 10 rfl) ?_
                        refine lv_icmp_ne (tgt := 202) hx hb d_MO_like_192 (by decide) (fun c_192 => ?_) (fun c_192 => ?_)
                        · have c_192 : ¬ b = cz := mt (nI_eq (by omega) (by omega)).mpr c_192
                          refine lv_iconst (v := nI 1) hx hb d_MO_like_202 (by decide) ?_
                          refine lv_goto (tgt := 207) hx hb d_MO_like_203 (by decide) ?_
                          refine lv_istore (lv' := [(10, .int (nI 1)), (9, .int (nI (clM t.2.1 2))), (8, .int (nI (clM t.2.1 1))), (7, .int (nI (clM t.2.1 0))), (6, .int (nI i)), (5, .int (nI (lkN rl a b cz (T.take i)))), (0, .ref mo), (1, .int (nI rl)), (2, .int (nI a)), (3, .int (nI b)), (4, .int (nI cz))]) hx hb d_MO_like_207 hl (by decide) rfl (fun ls hl => ?_)
                          exact k209 ls (by rw [show bI (lk2 rl a b cz t) = nI 1 from by (unfold lk2; rw [bI_n0 c_143, decide_eq_true (by omega)]; rfl)]; exact (lv_sub hl [0, 4, 5, 6, 7, 8, 9, 10] rfl))
                        · have c_192 : b = cz :=  (nI_eq (by omega) (by omega)).mp c_192
                          refine lv_iload hx hb d_MO_like_195 (lv_at hl 2 rfl) ?_
                          refine lv_iload hx hb d_MO_like_197 (lv_at hl 1 rfl) ?_
                          refine lv_icmp_ne (tgt := 206) hx hb d_MO_like_199 (by decide) (fun c_199 => ?_) (fun c_199 => ?_)
                          · have c_199 : ¬ (clM t.2.1 1) = (clM t.2.1 2) := mt (nI_eq (by omega) (by omega)).mpr c_199
                            refine lv_iconst (v := nI 0) hx hb d_MO_like_206 (by decide) ?_
                            refine lv_istore (lv' := [(10, .int (nI 0)), (9, .int (nI (clM t.2.1 2))), (8, .int (nI (clM t.2.1 1))), (7, .int (nI (clM t.2.1 0))), (6, .int (nI i)), (5, .int (nI (lkN rl a b cz (T.take i)))), (0, .ref mo), (1, .int (nI rl)), (2, .int (nI a)), (3, .int (nI b)), (4, .int (nI cz))]) hx hb d_MO_like_207 hl (by decide) rfl (fun ls hl => ?_)
                            exact k209 ls (by rw [show bI (lk2 rl a b cz t) = nI 0 from by first | (unfold lk2; rw [bI_0 c_143]; rfl) | (unfold lk2; rw [decide_eq_false (by omega), Bool.and_false]; rfl)]; exact (lv_sub hl [0, 4, 5, 6, 7, 8, 9, 10] rfl))
                          · have c_199 : (clM t.2.1 1) = (clM t.2.1 2) :=  (nI_eq (by omega) (by omega)).mp c_199
                            refine lv_iconst (v := nI 1) hx hb d_MO_like_202 (by decide) ?_
                            refine lv_goto (tgt := 207) hx hb d_MO_like_203 (by decide) ?_
                            refine lv_istore (lv' := [(10, .int (nI 1)), (9, .int (nI (clM t.2.1 2))), (8, .int (nI (clM t.2.1 1))), (7, .int (nI (clM t.2.1 0))), (6, .int (nI i)), (5, .int (nI (lkN rl a b cz (T.take i)))), (0, .ref mo), (1, .int (nI rl)), (2, .int (nI a)), (3, .int (nI b)), (4, .int (nI cz))]) hx hb d_MO_like_207 hl (by decide) rfl (fun ls hl => ?_)
                            exact k209 ls (by rw [show bI (lk2 rl a b cz t) = nI 1 from by (unfold lk2; rw [bI_n0 c_143, decide_eq_true (by omega)]; rfl)]; exact (lv_sub hl [0, 4, 5, 6, 7, 8, 9, 10] rfl))
                    · have c_167 : ¬ a < 64 := mt (nI_ltI (by omega) (by omega)).mpr c_167
                      refine lv_iload_n hx hb d_MO_like_170 rfl (lv_at hl 8 rfl) ?_
                      refine lv_iload hx hb d_MO_like_171 (lv_at hl 10 rfl) ?_
                      refine lv_icmp_ne (tgt := 183) hx hb d_MO_like_173 (by decide) (fun c_173 => ?_) (fun c_173 => ?_)
                      · have c_173 : ¬ a = cz := mt (nI_eq (by omega) (by omega)).mpr c_173
                        refine lv_iload_n hx hb d_MO_like_183 rfl (lv_at hl 9 rfl) ?_
                        refine lv_bipush (v := nI 64) hx hb d_MO_like_184 (by decide) ?_
                        refine lv_icmp_lt (tgt := 202) hx hb d_MO_like_186 (by decide) (fun c_186 => ?_) (fun c_186 => ?_)
                        · have c_186 : b < 64 := (nI_ltI (by omega) (by omega)).mp c_186
                          refine lv_iconst (v := nI 1) hx hb d_MO_like_202 (by decide) ?_
                          refine lv_goto (tgt := 207) hx hb d_MO_like_203 (by decide) ?_
                          refine lv_istore (lv' := [(10, .int (nI 1)), (9, .int (nI (clM t.2.1 2))), (8, .int (nI (clM t.2.1 1))), (7, .int (nI (clM t.2.1 0))), (6, .int (nI i)), (5, .int (nI (lkN rl a b cz (T.take i)))), (0, .ref mo), (1, .int (nI rl)), (2, .int (nI a)), (3, .int (nI b)), (4, .int (nI cz))]) hx hb d_MO_like_207 hl (by decide) rfl (fun ls hl => ?_)
                          exact k209 ls (by rw [show bI (lk2 rl a b cz t) = nI 1 from by (unfold lk2; rw [bI_n0 c_143, decide_eq_true (by omega)]; rfl)]; exact (lv_sub hl [0, 4, 5, 6, 7, 8, 9, 10] rfl))
                        · have c_186 : ¬ b < 64 := mt (nI_ltI (by omega) (by omega)).mpr c_186
                          refine lv_iload_n hx hb d_MO_like_189 rfl (lv_at hl 9 rfl) ?_
                          refine lv_iload hx hb d_MO_like_190 (lv_at hl 10 rfl) ?_
                          refine lv_icmp_ne (tgt := 202) hx hb d_MO_like_192 (by decide) (fun c_192 => ?_) (fun c_192 => ?_)
                          · have c_192 : ¬ b = cz := mt (nI_eq (by omega) (by omega)).mpr c_192
                            refine lv_iconst (v := nI 1) hx hb d_MO_like_202 (by decide) ?_
                            refine lv_goto (tgt := 207) hx hb d_MO_like_203 (by decide) ?_
                            refine lv_istore (lv' := [(10, .int (nI 1)), (9, .int (nI (clM t.2.1 2))), (8, .int (nI (clM t.2.1 1))), (7, .int (nI (clM t.2.1 0))), (6, .int (nI i)), (5, .int (nI (lkN rl a b cz (T.take i)))), (0, .ref mo), (1, .int (nI rl)), (2, .int (nI a)), (3, .int (nI b)), (4, .int (nI cz))]) hx hb d_MO_like_207 hl (by decide) rfl (fun ls hl => ?_)
                            exact k209 ls (by rw [show bI (lk2 rl a b cz t) = nI 1 from by (unfold lk2; rw [bI_n0 c_143, decide_eq_true (by omega)]; rfl)]; exact (lv_sub hl [0, 4, 5, 6, 7, 8, 9, 10] rfl))
                          · have c_192 : b = cz :=  (nI_eq (by omega) (by omega)).mp c_192
                            refine lv_iload hx hb d_MO_like_195 (lv_at hl 2 rfl) ?_
                            refine lv_iload hx hb d_MO_like_197 (lv_at hl 1 rfl) ?_
                            refine lv_icmp_ne (tgt := 206) hx hb d_MO_like_199 (by decide) (fun c_199 => ?_) (fun c_199 => ?_)
                            · have c_199 : ¬ (clM t.2.1 1) = (clM t.2.1 2) := mt (nI_eq (by omega) (by omega)).mpr c_199
                              refine lv_iconst (v := nI 0) hx hb d_MO_like_206 (by decide) ?_
                              refine lv_istore (lv' := [(10, .int (nI 0)), (9, .int (nI (clM t.2.1 2))), (8, .int (nI (clM t.2.1 1))), (7, .int (nI (clM t.2.1 0))), (6, .int (nI i)), (5, .int (nI (lkN rl a b cz (T.take i)))), (0, .ref mo), (1, .int (nI rl)), (2, .int (nI a)), (3, .int (nI b)), (4, .int (nI cz))]) hx hb d_MO_like_207 hl (by decide) rfl (fun ls hl => ?_)
                              exact k209 ls (by rw [show bI (lk2 rl a b cz t) = nI 0 from by first | (unfold lk2; rw [bI_0 c_143]; rfl) | (unfold lk2; rw [decide_eq_false (by omega), Bool.and_false]; rfl)]; exact (lv_sub hl [0, 4, 5, 6, 7, 8, 9, 10] rfl))
                            · have c_199 : (clM t.2.1 1) = (clM t.2.1 2) :=  (nI_eq (by omega) (by omega)).mp c_199
                              refine lv_iconst (v := nI 1) hx hb d_MO_like_202 (by decide) ?_
                              refine lv_goto (tgt := 207) hx hb d_MO_like_203 (by decide) ?_
                              refine lv_istore (lv' := [(10, .int (nI 1)), (9, .int (nI (clM t.2.1 2))), (8, .int (nI (clM t.2.1 1))), (7, .int (nI (clM t.2.1 0))), (6, .int (nI i)), (5, .int (nI (lkN rl a b cz (T.take i)))), (0, .ref mo), (1, .int (nI rl)), (2, .int (nI a)), (3, .int (nI b)), (4, .int (nI cz))]) hx hb d_MO_like_207 hl (by decide) rfl (fun ls hl => ?_)
                              exact k209 ls (by rw [show bI (lk2 rl a b cz t) = nI 1 from by (unfold lk2; rw [bI_n0 c_143, decide_eq_true (by omega)]; rfl)]; exact (lv_sub hl [0, 4, 5, 6, 7, 8, 9, 10] rfl))
                      · have c_173 : a = cz :=  (nI_eq (by omega) (by omega)).mp c_173
                        refine lv_iload hx hb d_MO_like_176 (lv_at hl 3 rfl) ?_
                        refine lv_iload hx hb d_MO_like_178 (lv_at hl 1 rfl) ?_
                        refine lv_icmp_ne (tgt := 206) hx hb d_MO_like_180 (by decide) (fun c_180 => ?_) (fun c_180 => ?_)
                        · have c_180 : ¬ (clM t.2.1 0) = (clM t.2.1 2) := mt (nI_eq (by omega) (by omega)).mpr c_180
                          refine lv_iconst (v := nI 0) hx hb d_MO_like_206 (by decide) ?_
                          refine lv_istore (lv' := [(10, .int (nI 0)), (9, .int (nI (clM t.2.1 2))), (8, .int (nI (clM t.2.1 1))), (7, .int (nI (clM t.2.1 0))), (6, .int (nI i)), (5, .int (nI (lkN rl a b cz (T.take i)))), (0, .ref mo), (1, .int (nI rl)), (2, .int (nI a)), (3, .int (nI b)), (4, .int (nI cz))]) hx hb d_MO_like_207 hl (by decide) rfl (fun ls hl => ?_)
                          exact k209 ls (by rw [show bI (lk2 rl a b cz t) = nI 0 from by first | (unfold lk2; rw [bI_0 c_143]; rfl) | (unfold lk2; rw [decide_eq_false (by omega), Bool.and_false]; rfl)]; exact (lv_sub hl [0, 4, 5, 6, 7, 8, 9, 10] rfl))
                        · have c_180 : (clM t.2.1 0) = (clM t.2.1 2) :=  (nI_eq (by omega) (by omega)).mp c_180
                          refine lv_iload_n hx hb d_MO_like_183 rfl (lv_at hl 9 rfl) ?_
                          refine lv_bipush (v := nI 64) hx hb d_MO_like_184 (by decide) ?_
                          refine lv_icmp_lt (tgt := 202) hx hb d_MO_like_186 (by decide) (fun c_186 => ?_) (fun c_186 => ?_)
                          · have c_186 : b < 64 := (nI_ltI (by omega) (by omega)).mp c_186
                            refine lv_iconst (v := nI 1) hx hb d_MO_like_202 (by decide) ?_
                            refine lv_goto (tgt := 207) hx hb d_MO_like_203 (by decide) ?_
                            refine lv_istore (lv' := [(10, .int (nI 1)), (9, .int (nI (clM t.2.1 2))), (8, .int (nI (clM t.2.1 1))), (7, .int (nI (clM t.2.1 0))), (6, .int (nI i)), (5, .int (nI (lkN rl a b cz (T.take i)))), (0, .ref mo), (1, .int (nI rl)), (2, .int (nI a)), (3, .int (nI b)), (4, .int (nI cz))]) hx hb d_MO_like_207 hl (by decide) rfl (fun ls hl => ?_)
                            exact k209 ls (by rw [show bI (lk2 rl a b cz t) = nI 1 from by (unfold lk2; rw [bI_n0 c_143, decide_eq_true (by omega)]; rfl)]; exact (lv_sub hl [0, 4, 5, 6, 7, 8, 9, 10] rfl))
                          · have c_186 : ¬ b < 64 := mt (nI_ltI (by omega) (by omega)).mpr c_186
                            refine lv_iload_n hx hb d_MO_like_189 rfl (lv_at hl 9 rfl) ?_
                            refine lv_iload hx hb d_MO_like_190 (lv_at hl 10 rfl) ?_
                            refine lv_icmp_ne (tgt := 202) hx hb d_MO_like_192 (by decide) (fun c_192 => ?_) (fun c_192 => ?_)
                            · have c_192 : ¬ b = cz := mt (nI_eq (by omega) (by omega)).mpr c_192
                              refine lv_iconst (v := nI 1) hx hb d_MO_like_202 (by decide) ?_
                              refine lv_goto (tgt := 207) hx hb d_MO_like_203 (by decide) ?_
                              refine lv_istore (lv' := [(10, .int (nI 1)), (9, .int (nI (clM t.2.1 2))), (8, .int (nI (clM t.2.1 1))), (7, .int (nI (clM t.2.1 0))), (6, .int (nI i)), (5, .int (nI (lkN rl a b cz (T.take i)))), (0, .ref mo), (1, .int (nI rl)), (2, .int (nI a)), (3, .int (nI b)), (4, .int (nI cz))]) hx hb d_MO_like_207 hl (by decide) rfl (fun ls hl => ?_)
                              exact k209 ls (by rw [show bI (lk2 rl a b cz t) = nI 1 from by (unfold lk2; rw [bI_n0 c_143, decide_eq_true (by omega)]; rfl)]; exact (lv_sub hl [0, 4, 5, 6, 7, 8, 9, 10] rfl))
                            · have c_192 : b = cz :=  (nI_eq (by omega) (by omega)).mp c_192
                              refine lv_iload hx hb d_MO_like_195 (lv_at hl 2 rfl) ?_
                              refine lv_iload hx hb d_MO_like_197 (lv_at hl 1 rfl) ?_
                              refine lv_icmp_ne (tgt := 206) hx hb d_MO_like_199 (by decide) (fun c_199 => ?_) (fun c_199 => ?_)
                              · have c_199 : ¬ (clM t.2.1 1) = (clM t.2.1 2) := mt (nI_eq (by omega) (by omega)).mpr c_199
                                refine lv_iconst (v := nI 0) hx hb d_MO_like_206 (by decide) ?_
                                refine lv_istore (lv' := [(10, .int (nI 0)), (9, .int (nI (clM t.2.1 2))), (8, .int (nI (clM t.2.1 1))), (7, .int (nI (clM t.2.1 0))), (6, .int (nI i)), (5, .int (nI (lkN rl a b cz (T.take i)))), (0, .ref mo), (1, .int (nI rl)), (2, .int (nI a)), (3, .int (nI b)), (4, .int (nI cz))]) hx hb d_MO_like_207 hl (by decide) rfl (fun ls hl => ?_)
                                exact k209 ls (by rw [show bI (lk2 rl a b cz t) = nI 0 from by first | (unfold lk2; rw [bI_0 c_143]; rfl) | (unfold lk2; rw [decide_eq_false (by omega), Bool.and_false]; rfl)]; exact (lv_sub hl [0, 4, 5, 6, 7, 8, 9, 10] rfl))
                              · have c_199 : (clM t.2.1 1) = (clM t.2.1 2) :=  (nI_eq (by omega) (by omega)).mp c_199
                                refine lv_iconst (v := nI 1) hx hb d_MO_like_202 (by decide) ?_
                                refine lv_goto (tgt := 207) hx hb d_MO_like_203 (by decide) ?_
                                refine lv_istore (lv' := [(10, .int (nI 1)), (9, .int (nI (clM t.2.1 2))), (8, .int (nI (clM t.2.1 1))), (7, .int (nI (clM t.2.1 0))), (6, .int (nI i)), (5, .int (nI (lkN rl a b cz (T.take i)))), (0, .ref mo), (1, .int (nI rl)), (2, .int (nI a)), (3, .int (nI b)), (4, .int (nI cz))]) hx hb d_MO_like_207 hl (by decide) rfl (fun ls hl => ?_)
                                exact k209 ls (by rw [show bI (lk2 rl a b cz t) = nI 1 from by (unfold lk2; rw [bI_n0 c_143, decide_eq_true (by omega)]; rfl)]; exact (lv_sub hl [0, 4, 5, 6, 7, 8, 9, 10] rfl))
          refine lv_aload_n hx hb d_MO_like_45 rfl (lv_at hl 2 rfl) ?_
          refine gs_get (v := .ref (A 9)) hx hb ht hown hK hG k_MO y_mo 9 (by decide) w_671 rfl d_MO_like_46 ?_
          refine lv_iload hx hb d_MO_like_49 (lv_at hl 0 rfl) ?_
          refine gs_iald hx hb hK hG y_9 (j := i) (by omega) (by omega) d_MO_like_51 ?_
          refine gs_top (show (f9 i) = (nI t.2.1) from hx2) ?_
          refine lv_sipush (v := nI 4096) hx hb d_MO_like_52 (by decide) ?_
          refine lv_idiv hx hb d_MO_like_55 (by decide) ?_
          refine gs_top (pk_div (a := t.2.1) (d := 4096) (by omega) (by omega) (by omega)) ?_
          refine gs_top (show (nI (t.2.1 / 4096)) = (nI (clM t.2.1 0)) from rfl) ?_
          refine lv_istore (lv' := [(7, .int (nI (clM t.2.1 0))), (6, .int (nI i)), (5, .int (nI (lkN rl a b cz (T.take i)))), (0, .ref mo), (1, .int (nI rl)), (2, .int (nI a)), (3, .int (nI b)), (4, .int (nI cz))]) hx hb d_MO_like_56 hl (by decide) rfl (fun ls hl => ?_)
          refine lv_aload_n hx hb d_MO_like_58 rfl (lv_at hl 3 rfl) ?_
          refine gs_get (v := .ref (A 9)) hx hb ht hown hK hG k_MO y_mo 9 (by decide) w_671 rfl d_MO_like_59 ?_
          refine lv_iload hx hb d_MO_like_62 (lv_at hl 1 rfl) ?_
          refine gs_iald hx hb hK hG y_9 (j := i) (by omega) (by omega) d_MO_like_64 ?_
          refine gs_top (show (f9 i) = (nI t.2.1) from hx2) ?_
          refine lv_bipush (v := nI 64) hx hb d_MO_like_65 (by decide) ?_
          refine lv_idiv hx hb d_MO_like_67 (by decide) ?_
          refine gs_top (pk_div (a := t.2.1) (d := 64) (by omega) (by omega) (by omega)) ?_
          refine lv_bipush (v := nI 64) hx hb d_MO_like_68 (by decide) ?_
          refine lv_irem hx hb d_MO_like_70 (by decide) ?_
          refine gs_top (pk_rem (a := (t.2.1 / 64)) (d := 64) (by omega) (by omega) (by omega)) ?_
          refine gs_top (show (nI ((t.2.1 / 64) % 64)) = (nI (clM t.2.1 1)) from rfl) ?_
          refine lv_istore (lv' := [(8, .int (nI (clM t.2.1 1))), (7, .int (nI (clM t.2.1 0))), (6, .int (nI i)), (5, .int (nI (lkN rl a b cz (T.take i)))), (0, .ref mo), (1, .int (nI rl)), (2, .int (nI a)), (3, .int (nI b)), (4, .int (nI cz))]) hx hb d_MO_like_71 hl (by decide) rfl (fun ls hl => ?_)
          refine lv_aload_n hx hb d_MO_like_73 rfl (lv_at hl 4 rfl) ?_
          refine gs_get (v := .ref (A 9)) hx hb ht hown hK hG k_MO y_mo 9 (by decide) w_671 rfl d_MO_like_74 ?_
          refine lv_iload hx hb d_MO_like_77 (lv_at hl 2 rfl) ?_
          refine gs_iald hx hb hK hG y_9 (j := i) (by omega) (by omega) d_MO_like_79 ?_
          refine gs_top (show (f9 i) = (nI t.2.1) from hx2) ?_
          refine lv_bipush (v := nI 64) hx hb d_MO_like_80 (by decide) ?_
          refine lv_irem hx hb d_MO_like_82 (by decide) ?_
          refine gs_top (pk_rem (a := t.2.1) (d := 64) (by omega) (by omega) (by omega)) ?_
          refine gs_top (show (nI (t.2.1 % 64)) = (nI (clM t.2.1 2)) from rfl) ?_
          refine lv_istore (lv' := [(9, .int (nI (clM t.2.1 2))), (8, .int (nI (clM t.2.1 1))), (7, .int (nI (clM t.2.1 0))), (6, .int (nI i)), (5, .int (nI (lkN rl a b cz (T.take i)))), (0, .ref mo), (1, .int (nI rl)), (2, .int (nI a)), (3, .int (nI b)), (4, .int (nI cz))]) hx hb d_MO_like_83 hl (by decide) rfl (fun ls hl => ?_)
          refine lv_aload_n hx hb d_MO_like_85 rfl (lv_at hl 5 rfl) ?_
          refine gs_get (v := .ref (A 8)) hx hb ht hown hK hG k_MO y_mo 8 (by decide) w_670 rfl d_MO_like_86 ?_
          refine lv_iload hx hb d_MO_like_89 (lv_at hl 3 rfl) ?_
          refine gs_iald hx hb hK hG y_8 (j := i) (by omega) (by omega) d_MO_like_91 ?_
          refine gs_top (show (f8 i) = (nI t.1) from hx1) ?_
          refine lv_iload_n hx hb d_MO_like_92 rfl (lv_at hl 6 rfl) ?_
          refine lv_icmp_ne (tgt := 138) hx hb d_MO_like_93 (by decide) (fun c_93 => ?_) (fun c_93 => ?_)
          · have c_93 : ¬ t.1 = rl := mt (nI_eq (by omega) (by omega)).mpr c_93
            refine lv_iconst (v := nI 0) hx hb d_MO_like_138 (by decide) ?_
            refine lv_istore (lv' := [(10, .int (nI 0)), (9, .int (nI (clM t.2.1 2))), (8, .int (nI (clM t.2.1 1))), (7, .int (nI (clM t.2.1 0))), (6, .int (nI i)), (5, .int (nI (lkN rl a b cz (T.take i)))), (0, .ref mo), (1, .int (nI rl)), (2, .int (nI a)), (3, .int (nI b)), (4, .int (nI cz))]) hx hb d_MO_like_139 hl (by decide) rfl (fun ls hl => ?_)
            exact k141 ls (by rw [show bI (lk1 rl a b cz t) = nI 0 from by (unfold lk1; rw [decide_eq_false (by omega)]; rfl)]; exact (lv_sub hl [0, 1, 2, 3, 4, 5, 6, 7, 8, 9, 10] rfl))
          · have c_93 : t.1 = rl :=  (nI_eq (by omega) (by omega)).mp c_93
            refine lv_iload_n hx hb d_MO_like_96 rfl (lv_at hl 7 rfl) ?_
            refine lv_bipush (v := nI 63) hx hb d_MO_like_97 (by decide) ?_
            refine lv_icmp_gt (tgt := 108) hx hb d_MO_like_99 (by decide) (fun c_99 => ?_) (fun c_99 => ?_)
            · have c_99 : 63 < a := (nI_ltI (by omega) (by omega)).mp c_99
              refine lv_iload_n hx hb d_MO_like_108 rfl (lv_at hl 8 rfl) ?_
              refine lv_bipush (v := nI 63) hx hb d_MO_like_109 (by decide) ?_
              refine lv_icmp_gt (tgt := 120) hx hb d_MO_like_111 (by decide) (fun c_111 => ?_) (fun c_111 => ?_)
              · have c_111 : 63 < b := (nI_ltI (by omega) (by omega)).mp c_111
                refine lv_iload hx hb d_MO_like_120 (lv_at hl 9 rfl) ?_
                refine lv_bipush (v := nI 63) hx hb d_MO_like_122 (by decide) ?_
                refine lv_icmp_gt (tgt := 134) hx hb d_MO_like_124 (by decide) (fun c_124 => ?_) (fun c_124 => ?_)
                · have c_124 : 63 < cz := (nI_ltI (by omega) (by omega)).mp c_124
                  refine lv_iconst (v := nI 1) hx hb d_MO_like_134 (by decide) ?_
                  refine lv_goto (tgt := 139) hx hb d_MO_like_135 (by decide) ?_
                  refine lv_istore (lv' := [(10, .int (nI 1)), (9, .int (nI (clM t.2.1 2))), (8, .int (nI (clM t.2.1 1))), (7, .int (nI (clM t.2.1 0))), (6, .int (nI i)), (5, .int (nI (lkN rl a b cz (T.take i)))), (0, .ref mo), (1, .int (nI rl)), (2, .int (nI a)), (3, .int (nI b)), (4, .int (nI cz))]) hx hb d_MO_like_139 hl (by decide) rfl (fun ls hl => ?_)
                  exact k141 ls (by rw [show bI (lk1 rl a b cz t) = nI 1 from by (unfold lk1; rw [decide_eq_true (by omega)]; rfl)]; exact (lv_sub hl [0, 1, 2, 3, 4, 5, 6, 7, 8, 9, 10] rfl))
                · have c_124 : ¬ 63 < cz := mt (nI_ltI (by omega) (by omega)).mpr c_124
                  refine lv_iload hx hb d_MO_like_127 (lv_at hl 9 rfl) ?_
                  refine lv_iload hx hb d_MO_like_129 (lv_at hl 0 rfl) ?_
                  refine lv_icmp_ne (tgt := 138) hx hb d_MO_like_131 (by decide) (fun c_131 => ?_) (fun c_131 => ?_)
                  · have c_131 : ¬ cz = (clM t.2.1 2) := mt (nI_eq (by omega) (by omega)).mpr c_131
                    refine lv_iconst (v := nI 0) hx hb d_MO_like_138 (by decide) ?_
                    refine lv_istore (lv' := [(10, .int (nI 0)), (9, .int (nI (clM t.2.1 2))), (8, .int (nI (clM t.2.1 1))), (7, .int (nI (clM t.2.1 0))), (6, .int (nI i)), (5, .int (nI (lkN rl a b cz (T.take i)))), (0, .ref mo), (1, .int (nI rl)), (2, .int (nI a)), (3, .int (nI b)), (4, .int (nI cz))]) hx hb d_MO_like_139 hl (by decide) rfl (fun ls hl => ?_)
                    exact k141 ls (by rw [show bI (lk1 rl a b cz t) = nI 0 from by (unfold lk1; rw [decide_eq_false (by omega)]; rfl)]; exact (lv_sub hl [0, 1, 2, 3, 4, 5, 6, 7, 8, 9, 10] rfl))
                  · have c_131 : cz = (clM t.2.1 2) :=  (nI_eq (by omega) (by omega)).mp c_131
                    refine lv_iconst (v := nI 1) hx hb d_MO_like_134 (by decide) ?_
                    refine lv_goto (tgt := 139) hx hb d_MO_like_135 (by decide) ?_
                    refine lv_istore (lv' := [(10, .int (nI 1)), (9, .int (nI (clM t.2.1 2))), (8, .int (nI (clM t.2.1 1))), (7, .int (nI (clM t.2.1 0))), (6, .int (nI i)), (5, .int (nI (lkN rl a b cz (T.take i)))), (0, .ref mo), (1, .int (nI rl)), (2, .int (nI a)), (3, .int (nI b)), (4, .int (nI cz))]) hx hb d_MO_like_139 hl (by decide) rfl (fun ls hl => ?_)
                    exact k141 ls (by rw [show bI (lk1 rl a b cz t) = nI 1 from by (unfold lk1; rw [decide_eq_true (by omega)]; rfl)]; exact (lv_sub hl [0, 1, 2, 3, 4, 5, 6, 7, 8, 9, 10] rfl))
              · have c_111 : ¬ 63 < b := mt (nI_ltI (by omega) (by omega)).mpr c_111
                refine lv_iload_n hx hb d_MO_like_114 rfl (lv_at hl 8 rfl) ?_
                refine lv_iload hx hb d_MO_like_115 (lv_at hl 1 rfl) ?_
                refine lv_icmp_ne (tgt := 138) hx hb d_MO_like_117 (by decide) (fun c_117 => ?_) (fun c_117 => ?_)
                · have c_117 : ¬ b = (clM t.2.1 1) := mt (nI_eq (by omega) (by omega)).mpr c_117
                  refine lv_iconst (v := nI 0) hx hb d_MO_like_138 (by decide) ?_
                  refine lv_istore (lv' := [(10, .int (nI 0)), (9, .int (nI (clM t.2.1 2))), (8, .int (nI (clM t.2.1 1))), (7, .int (nI (clM t.2.1 0))), (6, .int (nI i)), (5, .int (nI (lkN rl a b cz (T.take i)))), (0, .ref mo), (1, .int (nI rl)), (2, .int (nI a)), (3, .int (nI b)), (4, .int (nI cz))]) hx hb d_MO_like_139 hl (by decide) rfl (fun ls hl => ?_)
                  exact k141 ls (by rw [show bI (lk1 rl a b cz t) = nI 0 from by (unfold lk1; rw [decide_eq_false (by omega)]; rfl)]; exact (lv_sub hl [0, 1, 2, 3, 4, 5, 6, 7, 8, 9, 10] rfl))
                · have c_117 : b = (clM t.2.1 1) :=  (nI_eq (by omega) (by omega)).mp c_117
                  refine lv_iload hx hb d_MO_like_120 (lv_at hl 9 rfl) ?_
                  refine lv_bipush (v := nI 63) hx hb d_MO_like_122 (by decide) ?_
                  refine lv_icmp_gt (tgt := 134) hx hb d_MO_like_124 (by decide) (fun c_124 => ?_) (fun c_124 => ?_)
                  · have c_124 : 63 < cz := (nI_ltI (by omega) (by omega)).mp c_124
                    refine lv_iconst (v := nI 1) hx hb d_MO_like_134 (by decide) ?_
                    refine lv_goto (tgt := 139) hx hb d_MO_like_135 (by decide) ?_
                    refine lv_istore (lv' := [(10, .int (nI 1)), (9, .int (nI (clM t.2.1 2))), (8, .int (nI (clM t.2.1 1))), (7, .int (nI (clM t.2.1 0))), (6, .int (nI i)), (5, .int (nI (lkN rl a b cz (T.take i)))), (0, .ref mo), (1, .int (nI rl)), (2, .int (nI a)), (3, .int (nI b)), (4, .int (nI cz))]) hx hb d_MO_like_139 hl (by decide) rfl (fun ls hl => ?_)
                    exact k141 ls (by rw [show bI (lk1 rl a b cz t) = nI 1 from by (unfold lk1; rw [decide_eq_true (by omega)]; rfl)]; exact (lv_sub hl [0, 1, 2, 3, 4, 5, 6, 7, 8, 9, 10] rfl))
                  · have c_124 : ¬ 63 < cz := mt (nI_ltI (by omega) (by omega)).mpr c_124
                    refine lv_iload hx hb d_MO_like_127 (lv_at hl 9 rfl) ?_
                    refine lv_iload hx hb d_MO_like_129 (lv_at hl 0 rfl) ?_
                    refine lv_icmp_ne (tgt := 138) hx hb d_MO_like_131 (by decide) (fun c_131 => ?_) (fun c_131 => ?_)
                    · have c_131 : ¬ cz = (clM t.2.1 2) := mt (nI_eq (by omega) (by omega)).mpr c_131
                      refine lv_iconst (v := nI 0) hx hb d_MO_like_138 (by decide) ?_
                      refine lv_istore (lv' := [(10, .int (nI 0)), (9, .int (nI (clM t.2.1 2))), (8, .int (nI (clM t.2.1 1))), (7, .int (nI (clM t.2.1 0))), (6, .int (nI i)), (5, .int (nI (lkN rl a b cz (T.take i)))), (0, .ref mo), (1, .int (nI rl)), (2, .int (nI a)), (3, .int (nI b)), (4, .int (nI cz))]) hx hb d_MO_like_139 hl (by decide) rfl (fun ls hl => ?_)
                      exact k141 ls (by rw [show bI (lk1 rl a b cz t) = nI 0 from by (unfold lk1; rw [decide_eq_false (by omega)]; rfl)]; exact (lv_sub hl [0, 1, 2, 3, 4, 5, 6, 7, 8, 9, 10] rfl))
                    · have c_131 : cz = (clM t.2.1 2) :=  (nI_eq (by omega) (by omega)).mp c_131
                      refine lv_iconst (v := nI 1) hx hb d_MO_like_134 (by decide) ?_
                      refine lv_goto (tgt := 139) hx hb d_MO_like_135 (by decide) ?_
                      refine lv_istore (lv' := [(10, .int (nI 1)), (9, .int (nI (clM t.2.1 2))), (8, .int (nI (clM t.2.1 1))), (7, .int (nI (clM t.2.1 0))), (6, .int (nI i)), (5, .int (nI (lkN rl a b cz (T.take i)))), (0, .ref mo), (1, .int (nI rl)), (2, .int (nI a)), (3, .int (nI b)), (4, .int (nI cz))]) hx hb d_MO_like_139 hl (by decide) rfl (fun ls hl => ?_)
                      exact k141 ls (by rw [show bI (lk1 rl a b cz t) = nI 1 from by (unfold lk1; rw [decide_eq_true (by omega)]; rfl)]; exact (lv_sub hl [0, 1, 2, 3, 4, 5, 6, 7, 8, 9, 10] rfl))
            · have c_99 : ¬ 63 < a := mt (nI_ltI (by omega) (by omega)).mpr c_99
              refine lv_iload_n hx hb d_MO_like_102 rfl (lv_at hl 7 rfl) ?_
              refine lv_iload hx hb d_MO_like_103 (lv_at hl 2 rfl) ?_
              refine lv_icmp_ne (tgt := 138) hx hb d_MO_like_105 (by decide) (fun c_105 => ?_) (fun c_105 => ?_)
              · have c_105 : ¬ a = (clM t.2.1 0) := mt (nI_eq (by omega) (by omega)).mpr c_105
                refine lv_iconst (v := nI 0) hx hb d_MO_like_138 (by decide) ?_
                refine lv_istore (lv' := [(10, .int (nI 0)), (9, .int (nI (clM t.2.1 2))), (8, .int (nI (clM t.2.1 1))), (7, .int (nI (clM t.2.1 0))), (6, .int (nI i)), (5, .int (nI (lkN rl a b cz (T.take i)))), (0, .ref mo), (1, .int (nI rl)), (2, .int (nI a)), (3, .int (nI b)), (4, .int (nI cz))]) hx hb d_MO_like_139 hl (by decide) rfl (fun ls hl => ?_)
                exact k141 ls (by rw [show bI (lk1 rl a b cz t) = nI 0 from by (unfold lk1; rw [decide_eq_false (by omega)]; rfl)]; exact (lv_sub hl [0, 1, 2, 3, 4, 5, 6, 7, 8, 9, 10] rfl))
              · have c_105 : a = (clM t.2.1 0) :=  (nI_eq (by omega) (by omega)).mp c_105
                refine lv_iload_n hx hb d_MO_like_108 rfl (lv_at hl 8 rfl) ?_
                refine lv_bipush (v := nI 63) hx hb d_MO_like_109 (by decide) ?_
                refine lv_icmp_gt (tgt := 120) hx hb d_MO_like_111 (by decide) (fun c_111 => ?_) (fun c_111 => ?_)
                · have c_111 : 63 < b := (nI_ltI (by omega) (by omega)).mp c_111
                  refine lv_iload hx hb d_MO_like_120 (lv_at hl 9 rfl) ?_
                  refine lv_bipush (v := nI 63) hx hb d_MO_like_122 (by decide) ?_
                  refine lv_icmp_gt (tgt := 134) hx hb d_MO_like_124 (by decide) (fun c_124 => ?_) (fun c_124 => ?_)
                  · have c_124 : 63 < cz := (nI_ltI (by omega) (by omega)).mp c_124
                    refine lv_iconst (v := nI 1) hx hb d_MO_like_134 (by decide) ?_
                    refine lv_goto (tgt := 139) hx hb d_MO_like_135 (by decide) ?_
                    refine lv_istore (lv' := [(10, .int (nI 1)), (9, .int (nI (clM t.2.1 2))), (8, .int (nI (clM t.2.1 1))), (7, .int (nI (clM t.2.1 0))), (6, .int (nI i)), (5, .int (nI (lkN rl a b cz (T.take i)))), (0, .ref mo), (1, .int (nI rl)), (2, .int (nI a)), (3, .int (nI b)), (4, .int (nI cz))]) hx hb d_MO_like_139 hl (by decide) rfl (fun ls hl => ?_)
                    exact k141 ls (by rw [show bI (lk1 rl a b cz t) = nI 1 from by (unfold lk1; rw [decide_eq_true (by omega)]; rfl)]; exact (lv_sub hl [0, 1, 2, 3, 4, 5, 6, 7, 8, 9, 10] rfl))
                  · have c_124 : ¬ 63 < cz := mt (nI_ltI (by omega) (by omega)).mpr c_124
                    refine lv_iload hx hb d_MO_like_127 (lv_at hl 9 rfl) ?_
                    refine lv_iload hx hb d_MO_like_129 (lv_at hl 0 rfl) ?_
                    refine lv_icmp_ne (tgt := 138) hx hb d_MO_like_131 (by decide) (fun c_131 => ?_) (fun c_131 => ?_)
                    · have c_131 : ¬ cz = (clM t.2.1 2) := mt (nI_eq (by omega) (by omega)).mpr c_131
                      refine lv_iconst (v := nI 0) hx hb d_MO_like_138 (by decide) ?_
                      refine lv_istore (lv' := [(10, .int (nI 0)), (9, .int (nI (clM t.2.1 2))), (8, .int (nI (clM t.2.1 1))), (7, .int (nI (clM t.2.1 0))), (6, .int (nI i)), (5, .int (nI (lkN rl a b cz (T.take i)))), (0, .ref mo), (1, .int (nI rl)), (2, .int (nI a)), (3, .int (nI b)), (4, .int (nI cz))]) hx hb d_MO_like_139 hl (by decide) rfl (fun ls hl => ?_)
                      exact k141 ls (by rw [show bI (lk1 rl a b cz t) = nI 0 from by (unfold lk1; rw [decide_eq_false (by omega)]; rfl)]; exact (lv_sub hl [0, 1, 2, 3, 4, 5, 6, 7, 8, 9, 10] rfl))
                    · have c_131 : cz = (clM t.2.1 2) :=  (nI_eq (by omega) (by omega)).mp c_131
                      refine lv_iconst (v := nI 1) hx hb d_MO_like_134 (by decide) ?_
                      refine lv_goto (tgt := 139) hx hb d_MO_like_135 (by decide) ?_
                      refine lv_istore (lv' := [(10, .int (nI 1)), (9, .int (nI (clM t.2.1 2))), (8, .int (nI (clM t.2.1 1))), (7, .int (nI (clM t.2.1 0))), (6, .int (nI i)), (5, .int (nI (lkN rl a b cz (T.take i)))), (0, .ref mo), (1, .int (nI rl)), (2, .int (nI a)), (3, .int (nI b)), (4, .int (nI cz))]) hx hb d_MO_like_139 hl (by decide) rfl (fun ls hl => ?_)
                      exact k141 ls (by rw [show bI (lk1 rl a b cz t) = nI 1 from by (unfold lk1; rw [decide_eq_true (by omega)]; rfl)]; exact (lv_sub hl [0, 1, 2, 3, 4, 5, 6, 7, 8, 9, 10] rfl))
                · have c_111 : ¬ 63 < b := mt (nI_ltI (by omega) (by omega)).mpr c_111
                  refine lv_iload_n hx hb d_MO_like_114 rfl (lv_at hl 8 rfl) ?_
                  refine lv_iload hx hb d_MO_like_115 (lv_at hl 1 rfl) ?_
                  refine lv_icmp_ne (tgt := 138) hx hb d_MO_like_117 (by decide) (fun c_117 => ?_) (fun c_117 => ?_)
                  · have c_117 : ¬ b = (clM t.2.1 1) := mt (nI_eq (by omega) (by omega)).mpr c_117
                    refine lv_iconst (v := nI 0) hx hb d_MO_like_138 (by decide) ?_
                    refine lv_istore (lv' := [(10, .int (nI 0)), (9, .int (nI (clM t.2.1 2))), (8, .int (nI (clM t.2.1 1))), (7, .int (nI (clM t.2.1 0))), (6, .int (nI i)), (5, .int (nI (lkN rl a b cz (T.take i)))), (0, .ref mo), (1, .int (nI rl)), (2, .int (nI a)), (3, .int (nI b)), (4, .int (nI cz))]) hx hb d_MO_like_139 hl (by decide) rfl (fun ls hl => ?_)
                    exact k141 ls (by rw [show bI (lk1 rl a b cz t) = nI 0 from by (unfold lk1; rw [decide_eq_false (by omega)]; rfl)]; exact (lv_sub hl [0, 1, 2, 3, 4, 5, 6, 7, 8, 9, 10] rfl))
                  · have c_117 : b = (clM t.2.1 1) :=  (nI_eq (by omega) (by omega)).mp c_117
                    refine lv_iload hx hb d_MO_like_120 (lv_at hl 9 rfl) ?_
                    refine lv_bipush (v := nI 63) hx hb d_MO_like_122 (by decide) ?_
                    refine lv_icmp_gt (tgt := 134) hx hb d_MO_like_124 (by decide) (fun c_124 => ?_) (fun c_124 => ?_)
                    · have c_124 : 63 < cz := (nI_ltI (by omega) (by omega)).mp c_124
                      refine lv_iconst (v := nI 1) hx hb d_MO_like_134 (by decide) ?_
                      refine lv_goto (tgt := 139) hx hb d_MO_like_135 (by decide) ?_
                      refine lv_istore (lv' := [(10, .int (nI 1)), (9, .int (nI (clM t.2.1 2))), (8, .int (nI (clM t.2.1 1))), (7, .int (nI (clM t.2.1 0))), (6, .int (nI i)), (5, .int (nI (lkN rl a b cz (T.take i)))), (0, .ref mo), (1, .int (nI rl)), (2, .int (nI a)), (3, .int (nI b)), (4, .int (nI cz))]) hx hb d_MO_like_139 hl (by decide) rfl (fun ls hl => ?_)
                      exact k141 ls (by rw [show bI (lk1 rl a b cz t) = nI 1 from by (unfold lk1; rw [decide_eq_true (by omega)]; rfl)]; exact (lv_sub hl [0, 1, 2, 3, 4, 5, 6, 7, 8, 9, 10] rfl))
                    · have c_124 : ¬ 63 < cz := mt (nI_ltI (by omega) (by omega)).mpr c_124
                      refine lv_iload hx hb d_MO_like_127 (lv_at hl 9 rfl) ?_
                      refine lv_iload hx hb d_MO_like_129 (lv_at hl 0 rfl) ?_
                      refine lv_icmp_ne (tgt := 138) hx hb d_MO_like_131 (by decide) (fun c_131 => ?_) (fun c_131 => ?_)
                      · have c_131 : ¬ cz = (clM t.2.1 2) := mt (nI_eq (by omega) (by omega)).mpr c_131
                        refine lv_iconst (v := nI 0) hx hb d_MO_like_138 (by decide) ?_
                        refine lv_istore (lv' := [(10, .int (nI 0)), (9, .int (nI (clM t.2.1 2))), (8, .int (nI (clM t.2.1 1))), (7, .int (nI (clM t.2.1 0))), (6, .int (nI i)), (5, .int (nI (lkN rl a b cz (T.take i)))), (0, .ref mo), (1, .int (nI rl)), (2, .int (nI a)), (3, .int (nI b)), (4, .int (nI cz))]) hx hb d_MO_like_139 hl (by decide) rfl (fun ls hl => ?_)
                        exact k141 ls (by rw [show bI (lk1 rl a b cz t) = nI 0 from by (unfold lk1; rw [decide_eq_false (by omega)]; rfl)]; exact (lv_sub hl [0, 1, 2, 3, 4, 5, 6, 7, 8, 9, 10] rfl))
                      · have c_131 : cz = (clM t.2.1 2) :=  (nI_eq (by omega) (by omega)).mp c_131
                        refine lv_iconst (v := nI 1) hx hb d_MO_like_134 (by decide) ?_
                        refine lv_goto (tgt := 139) hx hb d_MO_like_135 (by decide) ?_
                        refine lv_istore (lv' := [(10, .int (nI 1)), (9, .int (nI (clM t.2.1 2))), (8, .int (nI (clM t.2.1 1))), (7, .int (nI (clM t.2.1 0))), (6, .int (nI i)), (5, .int (nI (lkN rl a b cz (T.take i)))), (0, .ref mo), (1, .int (nI rl)), (2, .int (nI a)), (3, .int (nI b)), (4, .int (nI cz))]) hx hb d_MO_like_139 hl (by decide) rfl (fun ls hl => ?_)
                        exact k141 ls (by rw [show bI (lk1 rl a b cz t) = nI 1 from by (unfold lk1; rw [decide_eq_true (by omega)]; rfl)]; exact (lv_sub hl [0, 1, 2, 3, 4, 5, 6, 7, 8, 9, 10] rfl))
  refine lv_aload_n hx hb d_MO_like_0 rfl (lv_at hl 0 rfl) ?_
  refine lv_aload_n hx hb d_MO_like_1 rfl (lv_at hl 0 rfl) ?_
  refine lv_iload_n hx hb d_MO_like_2 rfl (lv_at hl 1 rfl) ?_
  refine lv_iload_n hx hb d_MO_like_3 rfl (lv_at hl 2 rfl) ?_
  refine lv_iload_n hx hb d_MO_like_4 rfl (lv_at hl 3 rfl) ?_
  refine lv_iload hx hb d_MO_like_5 (lv_at hl 4 rfl) ?_
  refine lv_bipush (v := nI 72) hx hb d_MO_like_7 (by decide) ?_
  refine gs_callVp (As := [.int (nI rl), .int (nI a), .int (nI b), .int (nI cz), .int (nI 72)]) (rest := [.ref mo]) ⟨hx, hb, hml, hown, hts⟩ hK hE hz hG hS (c_MO_fits l X σ mo A Z f2 rl (cw rl) 72 (nI a) (nI b) (nI cz) m0 m2 (show Z 1 ≤ 12 by omega) (show rl < Z 1 by omega) (hcw rl hrl).1 (hcw rl hrl).2.2) ⟨rfl, rfl⟩ mV_MO_fits w_777 m0 rfl rfl hl.1 rfl (Nat.le_of_ble_eq_true rfl) ⟨(by first | decide | omega | (dsimp only [headSpec]; omega)), (by first | decide | omega | (dsimp only [headSpec]; omega))⟩ ⟨(by first | decide | omega | (dsimp only [headSpec]; omega)), (by first | decide | omega | (dsimp only [headSpec]; omega))⟩ d_MO_like_9 (fun r_9 hp_9 => ?_)
  refine gs_top (show r_9 = (bI (wi3 72 (cw rl) (nI a) (nI b) (nI cz))) from hp_9) ?_
  refine lv_if_eq (tgt := 19) hx hb d_MO_like_12 (by decide) (fun c_12 => ?_) (fun c_12 => ?_)
  · exact absurd ((bI_0 c_12).symm.trans hok) (by decide)
  · refine lv_iconst (v := nI 0) hx hb d_MO_like_15 (by decide) ?_
    refine lv_goto (tgt := 20) hx hb d_MO_like_16 (by decide) ?_
    refine gs_put hx hb ht hown hK hG hS k_MO m0 0 (by decide) w_662 rfl rfl rfl (Nat.le_of_ble_eq_true rfl) d_MO_like_20 (fun H locs hG hS => ?_)
    have hG : gs_H X (gs_up σ mo (moE A (va_up Z 0 0))) H := hG
    obtain ⟨σ_1, eσ_1⟩ : ∃ zq, zq = gs_up σ mo (moE A (va_up Z 0 0)) := ⟨_, rfl⟩
    rw [← eσ_1] at hG
    have hc_2 : σ_1 (A 2) = some (gs_ia X 12 f2) := by rw [eσ_1]; exact gs_ku (gs_ne m2 m0 (by simp)) m2
    have hc_3 : σ_1 (A 8) = some (gs_ia X 320 f8) := by rw [eσ_1]; exact gs_ku (gs_ne m8 m0 (by simp)) m8
    have hc_4 : σ_1 (A 9) = some (gs_ia X 320 f9) := by rw [eσ_1]; exact gs_ku (gs_ne m9 m0 (by simp)) m9
    have hc_5 : σ_1 mo = some (moE A (va_up Z 0 0)) := by rw [eσ_1]; exact gs_us
    have fr_6 : frm [mo] σ σ_1 := by rw [eσ_1]; exact fr0.up (by simp)
    refine lv_iconst (v := nI 0) hx hb d_MO_like_23 (by decide) ?_
    refine lv_istore (lv' := [(5, .int (nI 0)), (0, .ref mo), (1, .int (nI rl)), (2, .int (nI a)), (3, .int (nI b)), (4, .int (nI cz))]) hx hb d_MO_like_24 hl (by decide) rfl (fun ls hl => ?_)
    refine lv_iconst (v := nI 0) hx hb d_MO_like_26 (by decide) ?_
    refine lv_istore (lv' := [(6, .int (nI 0)), (5, .int (nI 0)), (0, .ref mo), (1, .int (nI rl)), (2, .int (nI a)), (3, .int (nI b)), (4, .int (nI cz))]) hx hb d_MO_like_27 hl (by decide) rfl (fun ls hl => ?_)
    exact loop (T.length + 1) 0 σ_1 (by omega) fr_6 (by omega) hc_5 hc_3 hc_4 H locs hG hS ls (lv_sub hl [0, 1, 2, 3, 4, 5, 6] rfl)
