set_option maxHeartbeats 4000000 in
set_option maxRecDepth 100000 in
theorem lb_rule_n {RL : RLT} (h0 : pe0 RL) {p : Program} {e : Env} {s : State} {m : MethodId} {below : List Frame} {meth : Method} {c : Code} (l : Launch) {sb L : Nat} {xs : Nat → Int32} {X : gs_X} (htr : l.stackTraces = false) (C0 : lw_At p s m meth c sb L xs) (hL : L ≤ 3072) (hXX : X.2.1 3 ≠ X.2.1 2) (hK : gs_T X s) (hE : gs_E X s) (hz : X.2.2 ≤ s.heap.size) (hbA : ¬ gs_A X sb) {rr mo out : Nat} {A : Nat → Nat} {σ : gs_St} {nr : Nat} {cw : Nat → Nat} {Q : List Rl} {E : List En} {Lt : List Nat} {sa : Nat} {nw : Bool} {rc fc : Nat} {F : List (Nat × Nat)} {T : List MT} {QM : List MR} {cd : Nat} {f : Nat → Int64} (hR : rrA X σ (out :: aM mo A) rr nr cw Q E Lt sa nw rc fc none) (hM : moA X σ mo A cd nr cw F T sa rc QM none) (hRL : RL nr cw Q E Lt sa nw rc fc none F T QM none) (ho : σ out = some (gs_la X 1 f)) {i cells slots : Nat} (hi : i + 6 ≤ L) (hce : cells + 6 ≤ 601024) (hsl : slots + 64 ≤ 7293034)   (kk : ∀ (σ' : gs_St) (H : Heap) (locs : List Loc), LI RL X σ' rr mo out A → gs_H X σ' H → va_S (gs_A X) s.heap H locs → ∀ ls, lv_has ls 7 [(4, .int (nI i)), (3, .ref out), (2, .ref mo), (1, .ref rr), (0, .ref sb)] → W p l e room_1 s m #[Value.ref sb] below meth c H locs (cells + 6) (slots + 64) (lw_Z below #[Value.ref sb] s) (F0 m 1085 ls [])) {H : Heap} {locs : List Loc} (hG : gs_H X σ H) (hS : va_S (gs_A X) s.heap H locs) {ls : Array Slot} (hl : lv_has ls 7 [(4, .int (nI i)), (3, .ref out), (2, .ref mo), (1, .ref rr), (0, .ref sb)]) : W p l e room_1 s m #[Value.ref sb] below meth c H locs cells slots (lw_Z below #[Value.ref sb] s) (F0 m 550 ls []) := by
  obtain ⟨hx, hb, hr, hml, hown, hts0, hX, hbl, hlocks, hgv⟩ := id C0
  have ht : ∀ w ∈ gs_w, w.before #[Value.ref sb] s = true := fun w h => hts0 w (List.mem_filter.mp h).1
  have hts : ∀ w ∈ (Cond.initialized "RuleRoundsLaw") :: gs_w, w.before #[Value.ref sb] s = true := fun w h => by
    rcases List.mem_cons.mp h with z | z
    · rw [z]; exact ht _ w_0
    · exact ht w z
  obtain ⟨gs, x0⟩ := hR.cell
  obtain ⟨Z, m0, z0⟩ := hM.cell
  have q0 := h0 _ _ _ _ _ _ _ _ _ _ _ _ _ _ hRL
  refine lv_aload_n hx hb d_LA_law_550 rfl (lv_at hl 3 rfl) ?_
  refine lv_aload_n hx hb d_LA_law_551 rfl (lv_at hl 1 rfl) ?_
  refine gs_callSiH (As := [.ref rr, .ref out]) (rest := []) ⟨hx, hb, hml, hown, hts⟩ hK hE hz hG hS (c_LA_rule_xS l X σ rr out gs _  x0 ⟨by decide, by decide, by decide, by decide⟩ (c_rr_rule_n l hR htr)) mSH_LA_rule w_561 rfl hl.1 rfl (Nat.le_of_ble_eq_true rfl) ⟨by decide, by decide⟩ ⟨(by first | (show cells + 6 ≤ 601024; omega) | (show cells ≤ 601024; omega)), (by first | (show slots + 64 ≤ 7293034; omega) | (show slots ≤ 7293034; omega))⟩ d_LA_law_552 (fun r_552 σ_552 H locs hp_552 hG hS => ?_)
  refine gs_top hp_552.1 ?_
  rw [hp_552.2] at hG
  refine lv_istore (lv' := [(5, .int (nI 1)), (4, .int (nI i)), (3, .ref out), (2, .ref mo), (1, .ref rr), (0, .ref sb)]) hx hb d_LA_law_555 hl (by decide) rfl (fun ls hl => ?_)
  refine lv_aload_n hx hb d_LA_law_557 rfl (lv_at hl 3 rfl) ?_
  refine gs_callVi (As := []) (rest := []) ⟨hx, hb, hml, hown, hts⟩ hK hE hz hG hS (c_MO_rule_n l X σ mo A cd nr cw F T sa rc QM hM) mV_MO_rule w_808 m0 rfl rfl hl.1 rfl (Nat.le_of_ble_eq_true rfl) ⟨by decide, by decide⟩ ⟨(by first | (show cells + 6 ≤ 601024; omega) | (show cells ≤ 601024; omega)), (by first | (show slots + 64 ≤ 7293034; omega) | (show slots ≤ 7293034; omega))⟩ d_LA_law_558 (fun r_558 σ_558 H locs hp_558 hG hS => ?_)
  obtain ⟨hM3, hf3, er3⟩ := hp_558
  have hR3 := hR.mdl (hM.gG ho) hf3
  have ho3 := hf3 _ _ (out_nin hM ho) ho
  obtain ⟨Z3, m03, z03⟩ := hM3.cell
  refine gs_top er3 ?_
  refine lv_istore (lv' := [(6, .int (nI 0)), (5, .int (nI 1)), (4, .int (nI i)), (3, .ref out), (2, .ref mo), (1, .ref rr), (0, .ref sb)]) hx hb d_LA_law_561 hl (by decide) rfl (fun ls hl => ?_)
  refine lv_aload_n hx hb d_LA_law_563 rfl (lv_at hl 4 rfl) ?_
  refine gs_callVp (As := []) (rest := []) ⟨hx, hb, hml, hown, hts⟩ hK hE hz hG hS (c_MO_thrown l X σ_558 mo A Z3 m03) ⟨rfl, rfl⟩ mV_MO_thrown w_757 m03 rfl rfl hl.1 rfl (Nat.le_of_ble_eq_true rfl) ⟨by decide, by decide⟩ ⟨(by first | (show cells + 6 ≤ 601024; omega) | (show cells ≤ 601024; omega)), (by first | (show slots + 64 ≤ 7293034; omega) | (show slots ≤ 7293034; omega))⟩ d_LA_law_564 (fun r_564 hp_564 => ?_)
  refine gs_top (show r_564 = nI 1 from by rw [hp_564, z03]) ?_
  refine lv_iload hx hb d_LA_law_567 (lv_at hl 1 rfl) ?_
  refine lv_icmp_eq (tgt := 574) hx hb d_LA_law_569 (by decide) (fun c_569 => ?_) (fun c_569 => ?_)
  · have c_569 : 1 = 1 :=  (nI_eq (by omega) (by omega)).mp c_569
    refine lv_iload hx hb d_LA_law_574 (lv_at hl 1 rfl) ?_
    refine lv_if_ne (tgt := 591) hx hb d_LA_law_576 (by decide) (fun c_576 => ?_) (fun c_576 => ?_)
    · have c_576 : ¬ 1 = 0 := gs_zn (by omega) c_576
      refine lv_goto (tgt := 1085) hx hb d_LA_law_591 (by decide) ?_
      refine W.widen (k := cells + 6) (n := slots + 64) (by first | exact Nat.le_refl _ | exact Nat.le_add_right _ _) (by first | exact Nat.le_refl _ | exact Nat.le_add_right _ _) ?_
      exact kk σ_558 H locs ⟨_, _, _, _, _, _, _, _, _, _, _, _, _, _, _, _, hR3, hM3, hRL, ho3⟩ hG hS ls (lv_sub hl [2, 3, 4, 5, 6] rfl)
    · exact absurd c_576 (by decide)
  · exact absurd c_569 (by decide)
set_option maxHeartbeats 4000000 in
set_option maxRecDepth 100000 in
theorem lb_rule_f {RL : RLT} (h0 : pe0 RL) {p : Program} {e : Env} {s : State} {m : MethodId} {below : List Frame} {meth : Method} {c : Code} (l : Launch) {sb L : Nat} {xs : Nat → Int32} {X : gs_X} (htr : l.stackTraces = false) (C0 : lw_At p s m meth c sb L xs) (hL : L ≤ 3072) (hXX : X.2.1 3 ≠ X.2.1 2) (hK : gs_T X s) (hE : gs_E X s) (hz : X.2.2 ≤ s.heap.size) (hbA : ¬ gs_A X sb) {rr mo out : Nat} {A : Nat → Nat} {σ : gs_St} {nr : Nat} {cw : Nat → Nat} {Q : List Rl} {E : List En} {Lt : List Nat} {sa : Nat} {nw : Bool} {rc fc : Nat} {th : It} {hs ks : List It} {kn : Nat → Nat} {F : List (Nat × Nat)} {T : List MT} {QM : List MR} {R : MR} {cd : Nat} {f : Nat → Int64} (hR : rrA X σ (out :: aM mo A) rr nr cw Q E Lt sa nw rc fc (some (th, hs, ks, kn))) (hM : moA X σ mo A cd nr cw F T sa rc QM (some R)) (hRL : RL nr cw Q E Lt sa nw rc fc (some (th, hs, ks, kn)) F T QM (some R)) (ho : σ out = some (gs_la X 1 f)) {i cells slots : Nat} (hi : i + 6 ≤ L) (hce : cells + 6 ≤ 601024) (hsl : slots + 64 ≤ 7293034)  (hfu : QM.length = 24) (kk : ∀ (σ' : gs_St) (H : Heap) (locs : List Loc), LI RL X σ' rr mo out A → gs_H X σ' H → va_S (gs_A X) s.heap H locs → ∀ ls, lv_has ls 7 [(4, .int (nI i)), (3, .ref out), (2, .ref mo), (1, .ref rr), (0, .ref sb)] → W p l e room_1 s m #[Value.ref sb] below meth c H locs (cells + 6) (slots + 64) (lw_Z below #[Value.ref sb] s) (F0 m 1085 ls [])) {H : Heap} {locs : List Loc} (hG : gs_H X σ H) (hS : va_S (gs_A X) s.heap H locs) {ls : Array Slot} (hl : lv_has ls 7 [(4, .int (nI i)), (3, .ref out), (2, .ref mo), (1, .ref rr), (0, .ref sb)]) : W p l e room_1 s m #[Value.ref sb] below meth c H locs cells slots (lw_Z below #[Value.ref sb] s) (F0 m 550 ls []) := by
  obtain ⟨hx, hb, hr, hml, hown, hts0, hX, hbl, hlocks, hgv⟩ := id C0
  have ht : ∀ w ∈ gs_w, w.before #[Value.ref sb] s = true := fun w h => hts0 w (List.mem_filter.mp h).1
  have hts : ∀ w ∈ (Cond.initialized "RuleRoundsLaw") :: gs_w, w.before #[Value.ref sb] s = true := fun w h => by
    rcases List.mem_cons.mp h with z | z
    · rw [z]; exact ht _ w_0
    · exact ht w z
  obtain ⟨gs, x0⟩ := hR.cell
  obtain ⟨Z, m0, z0⟩ := hM.cell
  have q0 := h0 _ _ _ _ _ _ _ _ _ _ _ _ _ _ hRL
  have hql := q0.2.2.2.2.2.2.1
  refine lv_aload_n hx hb d_LA_law_550 rfl (lv_at hl 3 rfl) ?_
  refine lv_aload_n hx hb d_LA_law_551 rfl (lv_at hl 1 rfl) ?_
  refine gs_callSiH (As := [.ref rr, .ref out]) (rest := []) ⟨hx, hb, hml, hown, hts⟩ hK hE hz hG hS (c_LA_rule_xS l X σ rr out gs _  x0 ⟨by decide, by decide, by decide, by decide⟩ (c_rr_rule_f l hR htr (by rw [hql]; exact hfu))) mSH_LA_rule w_561 rfl hl.1 rfl (Nat.le_of_ble_eq_true rfl) ⟨by decide, by decide⟩ ⟨(by first | (show cells + 6 ≤ 601024; omega) | (show cells ≤ 601024; omega)), (by first | (show slots + 64 ≤ 7293034; omega) | (show slots ≤ 7293034; omega))⟩ d_LA_law_552 (fun r_552 σ_552 H locs hp_552 hG hS => ?_)
  refine gs_top hp_552.1 ?_
  rw [hp_552.2] at hG
  refine lv_istore (lv' := [(5, .int (nI 1)), (4, .int (nI i)), (3, .ref out), (2, .ref mo), (1, .ref rr), (0, .ref sb)]) hx hb d_LA_law_555 hl (by decide) rfl (fun ls hl => ?_)
  refine lv_aload_n hx hb d_LA_law_557 rfl (lv_at hl 3 rfl) ?_
  refine gs_callVi (As := []) (rest := []) ⟨hx, hb, hml, hown, hts⟩ hK hE hz hG hS (c_MO_rule_f l X σ mo A cd nr cw F T sa rc QM R hM hfu) mV_MO_rule w_808 m0 rfl rfl hl.1 rfl (Nat.le_of_ble_eq_true rfl) ⟨by decide, by decide⟩ ⟨(by first | (show cells + 6 ≤ 601024; omega) | (show cells ≤ 601024; omega)), (by first | (show slots + 64 ≤ 7293034; omega) | (show slots ≤ 7293034; omega))⟩ d_LA_law_558 (fun r_558 σ_558 H locs hp_558 hG hS => ?_)
  obtain ⟨hM3, hf3, er3⟩ := hp_558
  have hR3 := hR.mdl (hM.gG ho) hf3
  have ho3 := hf3 _ _ (out_nin hM ho) ho
  obtain ⟨Z3, m03, z03⟩ := hM3.cell
  refine gs_top er3 ?_
  refine lv_istore (lv' := [(6, .int (nI 0)), (5, .int (nI 1)), (4, .int (nI i)), (3, .ref out), (2, .ref mo), (1, .ref rr), (0, .ref sb)]) hx hb d_LA_law_561 hl (by decide) rfl (fun ls hl => ?_)
  refine lv_aload_n hx hb d_LA_law_563 rfl (lv_at hl 4 rfl) ?_
  refine gs_callVp (As := []) (rest := []) ⟨hx, hb, hml, hown, hts⟩ hK hE hz hG hS (c_MO_thrown l X σ_558 mo A Z3 m03) ⟨rfl, rfl⟩ mV_MO_thrown w_757 m03 rfl rfl hl.1 rfl (Nat.le_of_ble_eq_true rfl) ⟨by decide, by decide⟩ ⟨(by first | (show cells + 6 ≤ 601024; omega) | (show cells ≤ 601024; omega)), (by first | (show slots + 64 ≤ 7293034; omega) | (show slots ≤ 7293034; omega))⟩ d_LA_law_564 (fun r_564 hp_564 => ?_)
  refine gs_top (show r_564 = nI 1 from by rw [hp_564, z03]) ?_
  refine lv_iload hx hb d_LA_law_567 (lv_at hl 1 rfl) ?_
  refine lv_icmp_eq (tgt := 574) hx hb d_LA_law_569 (by decide) (fun c_569 => ?_) (fun c_569 => ?_)
  · have c_569 : 1 = 1 :=  (nI_eq (by omega) (by omega)).mp c_569
    refine lv_iload hx hb d_LA_law_574 (lv_at hl 1 rfl) ?_
    refine lv_if_ne (tgt := 591) hx hb d_LA_law_576 (by decide) (fun c_576 => ?_) (fun c_576 => ?_)
    · have c_576 : ¬ 1 = 0 := gs_zn (by omega) c_576
      refine lv_goto (tgt := 1085) hx hb d_LA_law_591 (by decide) ?_
      refine W.widen (k := cells + 6) (n := slots + 64) (by first | exact Nat.le_refl _ | exact Nat.le_add_right _ _) (by first | exact Nat.le_refl _ | exact Nat.le_add_right _ _) ?_
      exact kk σ_558 H locs ⟨_, _, _, _, _, _, _, _, _, _, _, _, _, _, _, _, hR3, hM3, hRL, ho3⟩ hG hS ls (lv_sub hl [2, 3, 4, 5, 6] rfl)
    · exact absurd c_576 (by decide)
  · exact absurd c_569 (by decide)
set_option maxHeartbeats 4000000 in
set_option maxRecDepth 100000 in
theorem lb_rule_u {RL : RLT} (h0 : pe0 RL) (h_pe_safe : pe_safe RL) (h_pe_rule_u : pe_rule_u RL) {p : Program} {e : Env} {s : State} {m : MethodId} {below : List Frame} {meth : Method} {c : Code} (l : Launch) {sb L : Nat} {xs : Nat → Int32} {X : gs_X} (htr : l.stackTraces = false) (C0 : lw_At p s m meth c sb L xs) (hL : L ≤ 3072) (hXX : X.2.1 3 ≠ X.2.1 2) (hK : gs_T X s) (hE : gs_E X s) (hz : X.2.2 ≤ s.heap.size) (hbA : ¬ gs_A X sb) {rr mo out : Nat} {A : Nat → Nat} {σ : gs_St} {nr : Nat} {cw : Nat → Nat} {Q : List Rl} {E : List En} {Lt : List Nat} {sa : Nat} {nw : Bool} {rc fc : Nat} {th : It} {hs ks : List It} {kn : Nat → Nat} {F : List (Nat × Nat)} {T : List MT} {QM : List MR} {R : MR} {cd : Nat} {f : Nat → Int64} (hR : rrA X σ (out :: aM mo A) rr nr cw Q E Lt sa nw rc fc (some (th, hs, ks, kn))) (hM : moA X σ mo A cd nr cw F T sa rc QM (some R)) (hRL : RL nr cw Q E Lt sa nw rc fc (some (th, hs, ks, kn)) F T QM (some R)) (ho : σ out = some (gs_la X 1 f)) {i cells slots : Nat} (hi : i + 6 ≤ L) (hce : cells + 6 ≤ 601024) (hsl : slots + 64 ≤ 7293034)  (hq24 : QM.length < 24) (hsf : sfJ R 3 = false) (kk : ∀ (σ' : gs_St) (H : Heap) (locs : List Loc), LI RL X σ' rr mo out A → gs_H X σ' H → va_S (gs_A X) s.heap H locs → ∀ ls, lv_has ls 7 [(4, .int (nI i)), (3, .ref out), (2, .ref mo), (1, .ref rr), (0, .ref sb)] → W p l e room_1 s m #[Value.ref sb] below meth c H locs (cells + 6) (slots + 64) (lw_Z below #[Value.ref sb] s) (F0 m 1085 ls [])) {H : Heap} {locs : List Loc} (hG : gs_H X σ H) (hS : va_S (gs_A X) s.heap H locs) {ls : Array Slot} (hl : lv_has ls 7 [(4, .int (nI i)), (3, .ref out), (2, .ref mo), (1, .ref rr), (0, .ref sb)]) : W p l e room_1 s m #[Value.ref sb] below meth c H locs cells slots (lw_Z below #[Value.ref sb] s) (F0 m 550 ls []) := by
  obtain ⟨hx, hb, hr, hml, hown, hts0, hX, hbl, hlocks, hgv⟩ := id C0
  have ht : ∀ w ∈ gs_w, w.before #[Value.ref sb] s = true := fun w h => hts0 w (List.mem_filter.mp h).1
  have hts : ∀ w ∈ (Cond.initialized "RuleRoundsLaw") :: gs_w, w.before #[Value.ref sb] s = true := fun w h => by
    rcases List.mem_cons.mp h with z | z
    · rw [z]; exact ht _ w_0
    · exact ht w z
  obtain ⟨gs, x0⟩ := hR.cell
  obtain ⟨Z, m0, z0⟩ := hM.cell
  have q0 := h0 _ _ _ _ _ _ _ _ _ _ _ _ _ _ hRL
  have hql := q0.2.2.2.2.2.2.1
  refine lv_aload_n hx hb d_LA_law_550 rfl (lv_at hl 3 rfl) ?_
  refine lv_aload_n hx hb d_LA_law_551 rfl (lv_at hl 1 rfl) ?_
  refine gs_callSiH (As := [.ref rr, .ref out]) (rest := []) ⟨hx, hb, hml, hown, hts⟩ hK hE hz hG hS (c_LA_rule l X σ rr out gs _ f  _ x0 ⟨by decide, by decide, by decide, by decide⟩ (c_rr_rule_u l hR hXX (hM.gG ho) (by rw [hql]; exact hq24) (by rw [(h_pe_safe _ _ _ _ _ _ _ _ _ _ _ _ _ _ _ _ _ hRL)]; exact hsf)) (fun r9 σ9 z => z.2.1 out List.mem_cons_self _ ho)) mSH_LA_rule w_561 rfl hl.1 rfl (Nat.le_of_ble_eq_true rfl) ⟨by decide, by decide⟩ ⟨(by first | (show cells + 6 ≤ 601024; omega) | (show cells ≤ 601024; omega)), (by first | (show slots + 64 ≤ 7293034; omega) | (show slots ≤ 7293034; omega))⟩ d_LA_law_552 (fun r_552 σ_552 H locs hp_552 hG hS => ?_)
  obtain ⟨ek, r9, σ9, ⟨hR9, hk9, hans9⟩, ev⟩ := hp_552
  refine gs_top ek ?_
  rw [ev] at hG
  obtain ⟨hR2, hM2⟩ := ans_put (f' := vp_updL f 0 r9.toInt64) hR9 hk9 hM ho
  obtain ⟨σ1, eσ1⟩ : ∃ z, z = gs_up σ9 out (gs_la X 1 (vp_updL f 0 r9.toInt64)) := ⟨_, rfl⟩
  rw [← eσ1] at hG hR2 hM2
  have ho2 : σ1 out = some (gs_la X 1 (vp_updL f 0 r9.toInt64)) := by rw [eσ1]; exact gs_us
  obtain ⟨Z2, m02, z02⟩ := hM2.cell
  refine lv_istore (lv' := [(5, .int (nI 0)), (4, .int (nI i)), (3, .ref out), (2, .ref mo), (1, .ref rr), (0, .ref sb)]) hx hb d_LA_law_555 hl (by decide) rfl (fun ls hl => ?_)
  refine lv_aload_n hx hb d_LA_law_557 rfl (lv_at hl 3 rfl) ?_
  refine gs_callVi (As := []) (rest := []) ⟨hx, hb, hml, hown, hts⟩ hK hE hz hG hS (c_MO_rule_u l X σ1 mo A cd nr cw F T sa rc QM R hM2 hq24 hsf) mV_MO_rule w_808 m02 rfl rfl hl.1 rfl (Nat.le_of_ble_eq_true rfl) ⟨by decide, by decide⟩ ⟨(by first | (show cells + 6 ≤ 601024; omega) | (show cells ≤ 601024; omega)), (by first | (show slots + 64 ≤ 7293034; omega) | (show slots ≤ 7293034; omega))⟩ d_LA_law_558 (fun r_558 σ_558 H locs hp_558 hG hS => ?_)
  obtain ⟨hM3, hf3, er3⟩ := hp_558
  have hR3 := hR2.mdl (hM2.gG ho2) hf3
  have ho3 := hf3 _ _ (out_nin hM2 ho2) ho2
  obtain ⟨Z3, m03, z03⟩ := hM3.cell
  refine gs_top er3 ?_
  refine lv_istore (lv' := [(6, .int (-2)), (5, .int (nI 0)), (4, .int (nI i)), (3, .ref out), (2, .ref mo), (1, .ref rr), (0, .ref sb)]) hx hb d_LA_law_561 hl (by decide) rfl (fun ls hl => ?_)
  refine lv_aload_n hx hb d_LA_law_563 rfl (lv_at hl 4 rfl) ?_
  refine gs_callVp (As := []) (rest := []) ⟨hx, hb, hml, hown, hts⟩ hK hE hz hG hS (c_MO_thrown l X σ_558 mo A Z3 m03) ⟨rfl, rfl⟩ mV_MO_thrown w_757 m03 rfl rfl hl.1 rfl (Nat.le_of_ble_eq_true rfl) ⟨by decide, by decide⟩ ⟨(by first | (show cells + 6 ≤ 601024; omega) | (show cells ≤ 601024; omega)), (by first | (show slots + 64 ≤ 7293034; omega) | (show slots ≤ 7293034; omega))⟩ d_LA_law_564 (fun r_564 hp_564 => ?_)
  refine gs_top (show r_564 = nI 0 from by rw [hp_564, z03]) ?_
  refine lv_iload hx hb d_LA_law_567 (lv_at hl 1 rfl) ?_
  refine lv_icmp_eq (tgt := 574) hx hb d_LA_law_569 (by decide) (fun c_569 => ?_) (fun c_569 => ?_)
  · have c_569 : 0 = 0 :=  (nI_eq (by omega) (by omega)).mp c_569
    refine lv_iload hx hb d_LA_law_574 (lv_at hl 1 rfl) ?_
    refine lv_if_ne (tgt := 591) hx hb d_LA_law_576 (by decide) (fun c_576 => ?_) (fun c_576 => ?_)
    · exact absurd c_576 (by decide)
    · have c_576 : 0 = 0 := gs_z (by omega) c_576
      refine lv_aload_n hx hb d_LA_law_579 rfl (lv_at hl 3 rfl) ?_
      refine lv_iconst (v := nI 0) hx hb d_LA_law_580 (by decide) ?_
      refine gs_lald hx hb hK hG ho3 (j := 0) (by omega) (by omega) d_LA_law_581 ?_
      refine lv_iload hx hb d_LA_law_582 (lv_at hl 0 rfl) ?_
      refine lv_i2l hx hb d_LA_law_584 rfl ?_
      refine W.lcmp hx hb d_LA_law_585 ?_
      refine lv_if_eq (tgt := 591) hx hb d_LA_law_586 (by decide) (fun c_586 => ?_) (fun c_586 => ?_)
      · refine lv_goto (tgt := 1085) hx hb d_LA_law_591 (by decide) ?_
        refine W.widen (k := cells + 6) (n := slots + 64) (by first | exact Nat.le_refl _ | exact Nat.le_add_right _ _) (by first | exact Nat.le_refl _ | exact Nat.le_add_right _ _) ?_
        exact kk σ_558 H locs ⟨_, _, _, _, _, _, _, _, _, _, _, _, _, _, _, _, hR3, hM3, (h_pe_rule_u _ _ _ _ _ _ _ _ _ _ _ _ _ _ _ _ _ hRL (by rw [(h_pe_safe _ _ _ _ _ _ _ _ _ _ _ _ _ _ _ _ _ hRL)]; exact hsf)), ho3⟩ hG hS ls (lv_sub hl [2, 3, 4, 5, 6] rfl)
      · exact absurd (cmp_0.mpr (show vp_updL f 0 r9.toInt64 0 = _ from by unfold vp_updL; rw [if_pos rfl, hans9])) c_586
  · exact absurd c_569 (by decide)
set_option maxHeartbeats 4000000 in
set_option maxRecDepth 100000 in
theorem lb_rule_ok {RL : RLT} (h0 : pe0 RL) (h_pe_safe : pe_safe RL) (h_pe_rule : pe_rule RL) {p : Program} {e : Env} {s : State} {m : MethodId} {below : List Frame} {meth : Method} {c : Code} (l : Launch) {sb L : Nat} {xs : Nat → Int32} {X : gs_X} (htr : l.stackTraces = false) (C0 : lw_At p s m meth c sb L xs) (hL : L ≤ 3072) (hXX : X.2.1 3 ≠ X.2.1 2) (hK : gs_T X s) (hE : gs_E X s) (hz : X.2.2 ≤ s.heap.size) (hbA : ¬ gs_A X sb) {rr mo out : Nat} {A : Nat → Nat} {σ : gs_St} {nr : Nat} {cw : Nat → Nat} {Q : List Rl} {E : List En} {Lt : List Nat} {sa : Nat} {nw : Bool} {rc fc : Nat} {th : It} {hs ks : List It} {kn : Nat → Nat} {F : List (Nat × Nat)} {T : List MT} {QM : List MR} {R : MR} {cd : Nat} {f : Nat → Int64} (hR : rrA X σ (out :: aM mo A) rr nr cw Q E Lt sa nw rc fc (some (th, hs, ks, kn))) (hM : moA X σ mo A cd nr cw F T sa rc QM (some R)) (hRL : RL nr cw Q E Lt sa nw rc fc (some (th, hs, ks, kn)) F T QM (some R)) (ho : σ out = some (gs_la X 1 f)) {i cells slots : Nat} (hi : i + 6 ≤ L) (hce : cells + 6 ≤ 601024) (hsl : slots + 64 ≤ 7293034)  (hq24 : QM.length < 24) (hsf : sfJ R 3 = true) (kk : ∀ (σ' : gs_St) (H : Heap) (locs : List Loc), LI RL X σ' rr mo out A → gs_H X σ' H → va_S (gs_A X) s.heap H locs → ∀ ls, lv_has ls 7 [(4, .int (nI i)), (3, .ref out), (2, .ref mo), (1, .ref rr), (0, .ref sb)] → W p l e room_1 s m #[Value.ref sb] below meth c H locs (cells + 6) (slots + 64) (lw_Z below #[Value.ref sb] s) (F0 m 1085 ls [])) {H : Heap} {locs : List Loc} (hG : gs_H X σ H) (hS : va_S (gs_A X) s.heap H locs) {ls : Array Slot} (hl : lv_has ls 7 [(4, .int (nI i)), (3, .ref out), (2, .ref mo), (1, .ref rr), (0, .ref sb)]) : W p l e room_1 s m #[Value.ref sb] below meth c H locs cells slots (lw_Z below #[Value.ref sb] s) (F0 m 550 ls []) := by
  obtain ⟨hx, hb, hr, hml, hown, hts0, hX, hbl, hlocks, hgv⟩ := id C0
  have ht : ∀ w ∈ gs_w, w.before #[Value.ref sb] s = true := fun w h => hts0 w (List.mem_filter.mp h).1
  have hts : ∀ w ∈ (Cond.initialized "RuleRoundsLaw") :: gs_w, w.before #[Value.ref sb] s = true := fun w h => by
    rcases List.mem_cons.mp h with z | z
    · rw [z]; exact ht _ w_0
    · exact ht w z
  obtain ⟨gs, x0⟩ := hR.cell
  obtain ⟨Z, m0, z0⟩ := hM.cell
  have q0 := h0 _ _ _ _ _ _ _ _ _ _ _ _ _ _ hRL
  have hql := q0.2.2.2.2.2.2.1
  refine lv_aload_n hx hb d_LA_law_550 rfl (lv_at hl 3 rfl) ?_
  refine lv_aload_n hx hb d_LA_law_551 rfl (lv_at hl 1 rfl) ?_
  refine gs_callSiH (As := [.ref rr, .ref out]) (rest := []) ⟨hx, hb, hml, hown, hts⟩ hK hE hz hG hS (c_LA_rule l X σ rr out gs _ f  _ x0 ⟨by decide, by decide, by decide, by decide⟩ (c_rr_rule l hR hXX (hM.gG ho) (by rw [hql]; exact hq24) (by rw [(h_pe_safe _ _ _ _ _ _ _ _ _ _ _ _ _ _ _ _ _ hRL)]; exact hsf)) (fun r9 σ9 z => z.2.1 out List.mem_cons_self _ ho)) mSH_LA_rule w_561 rfl hl.1 rfl (Nat.le_of_ble_eq_true rfl) ⟨by decide, by decide⟩ ⟨(by first | (show cells + 6 ≤ 601024; omega) | (show cells ≤ 601024; omega)), (by first | (show slots + 64 ≤ 7293034; omega) | (show slots ≤ 7293034; omega))⟩ d_LA_law_552 (fun r_552 σ_552 H locs hp_552 hG hS => ?_)
  obtain ⟨ek, r9, σ9, ⟨hR9, hk9, hans9⟩, ev⟩ := hp_552
  refine gs_top ek ?_
  rw [ev] at hG
  obtain ⟨hR2, hM2⟩ := ans_put (f' := vp_updL f 0 r9.toInt64) hR9 hk9 hM ho
  obtain ⟨σ1, eσ1⟩ : ∃ z, z = gs_up σ9 out (gs_la X 1 (vp_updL f 0 r9.toInt64)) := ⟨_, rfl⟩
  rw [← eσ1] at hG hR2 hM2
  have ho2 : σ1 out = some (gs_la X 1 (vp_updL f 0 r9.toInt64)) := by rw [eσ1]; exact gs_us
  obtain ⟨Z2, m02, z02⟩ := hM2.cell
  refine lv_istore (lv' := [(5, .int (nI 0)), (4, .int (nI i)), (3, .ref out), (2, .ref mo), (1, .ref rr), (0, .ref sb)]) hx hb d_LA_law_555 hl (by decide) rfl (fun ls hl => ?_)
  refine lv_aload_n hx hb d_LA_law_557 rfl (lv_at hl 3 rfl) ?_
  refine gs_callVi (As := []) (rest := []) ⟨hx, hb, hml, hown, hts⟩ hK hE hz hG hS (c_MO_rule l X σ1 mo A cd nr cw F T sa rc QM R hM2 hq24 hsf) mV_MO_rule w_808 m02 rfl rfl hl.1 rfl (Nat.le_of_ble_eq_true rfl) ⟨by decide, by decide⟩ ⟨(by first | (show cells + 6 ≤ 601024; omega) | (show cells ≤ 601024; omega)), (by first | (show slots + 64 ≤ 7293034; omega) | (show slots ≤ 7293034; omega))⟩ d_LA_law_558 (fun r_558 σ_558 H locs hp_558 hG hS => ?_)
  obtain ⟨hM3, hf3, er3⟩ := hp_558
  have hR3 := hR2.mdl (hM2.gG ho2) hf3
  have ho3 := hf3 _ _ (out_nin hM2 ho2) ho2
  obtain ⟨Z3, m03, z03⟩ := hM3.cell
  refine gs_top er3 ?_
  refine lv_istore (lv' := [(6, .int (nI QM.length)), (5, .int (nI 0)), (4, .int (nI i)), (3, .ref out), (2, .ref mo), (1, .ref rr), (0, .ref sb)]) hx hb d_LA_law_561 hl (by decide) rfl (fun ls hl => ?_)
  refine lv_aload_n hx hb d_LA_law_563 rfl (lv_at hl 4 rfl) ?_
  refine gs_callVp (As := []) (rest := []) ⟨hx, hb, hml, hown, hts⟩ hK hE hz hG hS (c_MO_thrown l X σ_558 mo A Z3 m03) ⟨rfl, rfl⟩ mV_MO_thrown w_757 m03 rfl rfl hl.1 rfl (Nat.le_of_ble_eq_true rfl) ⟨by decide, by decide⟩ ⟨(by first | (show cells + 6 ≤ 601024; omega) | (show cells ≤ 601024; omega)), (by first | (show slots + 64 ≤ 7293034; omega) | (show slots ≤ 7293034; omega))⟩ d_LA_law_564 (fun r_564 hp_564 => ?_)
  refine gs_top (show r_564 = nI 0 from by rw [hp_564, z03]) ?_
  refine lv_iload hx hb d_LA_law_567 (lv_at hl 1 rfl) ?_
  refine lv_icmp_eq (tgt := 574) hx hb d_LA_law_569 (by decide) (fun c_569 => ?_) (fun c_569 => ?_)
  · have c_569 : 0 = 0 :=  (nI_eq (by omega) (by omega)).mp c_569
    refine lv_iload hx hb d_LA_law_574 (lv_at hl 1 rfl) ?_
    refine lv_if_ne (tgt := 591) hx hb d_LA_law_576 (by decide) (fun c_576 => ?_) (fun c_576 => ?_)
    · exact absurd c_576 (by decide)
    · have c_576 : 0 = 0 := gs_z (by omega) c_576
      refine lv_aload_n hx hb d_LA_law_579 rfl (lv_at hl 3 rfl) ?_
      refine lv_iconst (v := nI 0) hx hb d_LA_law_580 (by decide) ?_
      refine gs_lald hx hb hK hG ho3 (j := 0) (by omega) (by omega) d_LA_law_581 ?_
      refine lv_iload hx hb d_LA_law_582 (lv_at hl 0 rfl) ?_
      refine lv_i2l hx hb d_LA_law_584 rfl ?_
      refine W.lcmp hx hb d_LA_law_585 ?_
      refine lv_if_eq (tgt := 591) hx hb d_LA_law_586 (by decide) (fun c_586 => ?_) (fun c_586 => ?_)
      · refine lv_goto (tgt := 1085) hx hb d_LA_law_591 (by decide) ?_
        refine W.widen (k := cells + 6) (n := slots + 64) (by first | exact Nat.le_refl _ | exact Nat.le_add_right _ _) (by first | exact Nat.le_refl _ | exact Nat.le_add_right _ _) ?_
        exact kk σ_558 H locs ⟨_, _, _, _, _, _, _, _, _, _, _, _, _, _, _, _, hR3, hM3, (h_pe_rule _ _ _ _ _ _ _ _ _ _ _ _ _ _ _ _ _ hRL (by rw [(h_pe_safe _ _ _ _ _ _ _ _ _ _ _ _ _ _ _ _ _ hRL)]; exact hsf) (by rw [hql]; exact hq24)), ho3⟩ hG hS ls (lv_sub hl [2, 3, 4, 5, 6] rfl)
      · exact absurd (cmp_0.mpr (show vp_updL f 0 r9.toInt64 0 = _ from by unfold vp_updL; rw [if_pos rfl, hans9.trans (congrArg nI hql)])) c_586
  · exact absurd c_569 (by decide)
set_option maxHeartbeats 4000000 in
set_option maxRecDepth 100000 in
theorem lb_stratum_r {RL : RLT} (h0 : pe0 RL) {p : Program} {e : Env} {s : State} {m : MethodId} {below : List Frame} {meth : Method} {c : Code} (l : Launch) {sb L : Nat} {xs : Nat → Int32} {X : gs_X} (htr : l.stackTraces = false) (C0 : lw_At p s m meth c sb L xs) (hL : L ≤ 3072) (hXX : X.2.1 3 ≠ X.2.1 2) (hK : gs_T X s) (hE : gs_E X s) (hz : X.2.2 ≤ s.heap.size) (hbA : ¬ gs_A X sb) {rr mo out : Nat} {A : Nat → Nat} {σ : gs_St} {nr : Nat} {cw : Nat → Nat} {Q : List Rl} {E : List En} {Lt : List Nat} {sa : Nat} {nw : Bool} {rc fc : Nat} {dr : Option Dr} {F : List (Nat × Nat)} {T : List MT} {QM : List MR} {drM : Option MR} {cd : Nat} {f : Nat → Int64} (hR : rrA X σ (out :: aM mo A) rr nr cw Q E Lt sa nw rc fc dr) (hM : moA X σ mo A cd nr cw F T sa rc QM drM) (hRL : RL nr cw Q E Lt sa nw rc fc dr F T QM drM) (ho : σ out = some (gs_la X 1 f)) {i cells slots : Nat} (hi : i + 6 ≤ L) (hce : cells + 6 ≤ 601024) (hsl : slots + 64 ≤ 7293034)  (hok : wi nr (xs (i + 1)) = false) (kk : ∀ (σ' : gs_St) (H : Heap) (locs : List Loc), LI RL X σ' rr mo out A → gs_H X σ' H → va_S (gs_A X) s.heap H locs → ∀ ls, lv_has ls 7 [(4, .int (nI i)), (3, .ref out), (2, .ref mo), (1, .ref rr), (0, .ref sb)] → W p l e room_1 s m #[Value.ref sb] below meth c H locs (cells + 6) (slots + 64) (lw_Z below #[Value.ref sb] s) (F0 m 1085 ls [])) {H : Heap} {locs : List Loc} (hG : gs_H X σ H) (hS : va_S (gs_A X) s.heap H locs) {ls : Array Slot} (hl : lv_has ls 7 [(4, .int (nI i)), (3, .ref out), (2, .ref mo), (1, .ref rr), (0, .ref sb)]) : W p l e room_1 s m #[Value.ref sb] below meth c H locs cells slots (lw_Z below #[Value.ref sb] s) (F0 m 607 ls []) := by
  obtain ⟨hx, hb, hr, hml, hown, hts0, hX, hbl, hlocks, hgv⟩ := id C0
  have ht : ∀ w ∈ gs_w, w.before #[Value.ref sb] s = true := fun w h => hts0 w (List.mem_filter.mp h).1
  have hts : ∀ w ∈ (Cond.initialized "RuleRoundsLaw") :: gs_w, w.before #[Value.ref sb] s = true := fun w h => by
    rcases List.mem_cons.mp h with z | z
    · rw [z]; exact ht _ w_0
    · exact ht w z
  obtain ⟨gs, x0⟩ := hR.cell
  obtain ⟨Z, m0, z0⟩ := hM.cell
  have q0 := h0 _ _ _ _ _ _ _ _ _ _ _ _ _ _ hRL
  refine lv_aload_n hx hb d_LA_law_607 rfl (lv_at hl 3 rfl) ?_
  refine lv_aload_n hx hb d_LA_law_608 rfl (lv_at hl 4 rfl) ?_
  refine lv_iload hx hb d_LA_law_609 (lv_at hl 0 rfl) ?_
  refine lv_iconst (v := nI 1) hx hb d_LA_law_611 (by decide) ?_
  refine lv_iadd hx hb d_LA_law_612 ?_
  refine gs_top (nI_add i 1) ?_
  refine gs_sld hx hb hX hbl hbA hS (j := i + 1) (by omega) (by omega) d_LA_law_613 ?_
  refine lv_aload_n hx hb d_LA_law_614 rfl (lv_at hl 1 rfl) ?_
  refine gs_callSiH (As := [.ref rr, .int (xs (i + 1)), .ref out]) (rest := []) ⟨hx, hb, hml, hown, hts⟩ hK hE hz hG hS (c_LA_stratum_xI l X σ rr out gs _ (xs (i + 1)) x0 ⟨by decide, by decide, by decide, by decide⟩ (c_rr_stratum_r l hR htr hok)) mSH_LA_stratum w_582 rfl hl.1 rfl (Nat.le_of_ble_eq_true rfl) ⟨by decide, by decide⟩ ⟨(by first | (show cells + 6 ≤ 601024; omega) | (show cells ≤ 601024; omega)), (by first | (show slots + 64 ≤ 7293034; omega) | (show slots ≤ 7293034; omega))⟩ d_LA_law_615 (fun r_615 σ_615 H locs hp_615 hG hS => ?_)
  refine gs_top hp_615.1 ?_
  rw [hp_615.2] at hG
  refine lv_istore (lv' := [(5, .int (nI 1)), (4, .int (nI i)), (3, .ref out), (2, .ref mo), (1, .ref rr), (0, .ref sb)]) hx hb d_LA_law_618 hl (by decide) rfl (fun ls hl => ?_)
  refine lv_aload_n hx hb d_LA_law_620 rfl (lv_at hl 3 rfl) ?_
  refine lv_aload_n hx hb d_LA_law_621 rfl (lv_at hl 5 rfl) ?_
  refine lv_iload hx hb d_LA_law_622 (lv_at hl 1 rfl) ?_
  refine lv_iconst (v := nI 1) hx hb d_LA_law_624 (by decide) ?_
  refine lv_iadd hx hb d_LA_law_625 ?_
  refine gs_top (nI_add i 1) ?_
  refine gs_sld hx hb hX hbl hbA hS (j := i + 1) (by omega) (by omega) d_LA_law_626 ?_
  refine gs_callVi (As := [.int (xs (i + 1))]) (rest := []) ⟨hx, hb, hml, hown, hts⟩ hK hE hz hG hS (c_MO_stratum_r l X σ mo A cd nr cw F T sa rc QM drM (xs (i + 1)) hM hok) mV_MO_stratum w_828 m0 rfl rfl hl.1 rfl (Nat.le_of_ble_eq_true rfl) ⟨by decide, by decide⟩ ⟨(by first | (show cells + 6 ≤ 601024; omega) | (show cells ≤ 601024; omega)), (by first | (show slots + 64 ≤ 7293034; omega) | (show slots ≤ 7293034; omega))⟩ d_LA_law_627 (fun r_627 σ_627 H locs hp_627 hG hS => ?_)
  obtain ⟨hM3, hf3, er3⟩ := hp_627
  have hR3 := hR.mdl (hM.gG ho) hf3
  have ho3 := hf3 _ _ (out_nin hM ho) ho
  obtain ⟨Z3, m03, z03⟩ := hM3.cell
  refine gs_top er3 ?_
  refine lv_istore (lv' := [(6, .int (nI 0)), (5, .int (nI 1)), (4, .int (nI i)), (3, .ref out), (2, .ref mo), (1, .ref rr), (0, .ref sb)]) hx hb d_LA_law_630 hl (by decide) rfl (fun ls hl => ?_)
  refine lv_aload_n hx hb d_LA_law_632 rfl (lv_at hl 4 rfl) ?_
  refine gs_callVp (As := []) (rest := []) ⟨hx, hb, hml, hown, hts⟩ hK hE hz hG hS (c_MO_thrown l X σ_627 mo A Z3 m03) ⟨rfl, rfl⟩ mV_MO_thrown w_757 m03 rfl rfl hl.1 rfl (Nat.le_of_ble_eq_true rfl) ⟨by decide, by decide⟩ ⟨(by first | (show cells + 6 ≤ 601024; omega) | (show cells ≤ 601024; omega)), (by first | (show slots + 64 ≤ 7293034; omega) | (show slots ≤ 7293034; omega))⟩ d_LA_law_633 (fun r_633 hp_633 => ?_)
  refine gs_top (show r_633 = nI 1 from by rw [hp_633, z03]) ?_
  refine lv_iload hx hb d_LA_law_636 (lv_at hl 1 rfl) ?_
  refine lv_icmp_eq (tgt := 643) hx hb d_LA_law_638 (by decide) (fun c_638 => ?_) (fun c_638 => ?_)
  · have c_638 : 1 = 1 :=  (nI_eq (by omega) (by omega)).mp c_638
    refine lv_iload hx hb d_LA_law_643 (lv_at hl 1 rfl) ?_
    refine lv_if_ne (tgt := 660) hx hb d_LA_law_645 (by decide) (fun c_645 => ?_) (fun c_645 => ?_)
    · have c_645 : ¬ 1 = 0 := gs_zn (by omega) c_645
      refine lv_goto (tgt := 1085) hx hb d_LA_law_660 (by decide) ?_
      refine W.widen (k := cells + 6) (n := slots + 64) (by first | exact Nat.le_refl _ | exact Nat.le_add_right _ _) (by first | exact Nat.le_refl _ | exact Nat.le_add_right _ _) ?_
      exact kk σ_627 H locs ⟨_, _, _, _, _, _, _, _, _, _, _, _, _, _, _, _, hR3, hM3, hRL, ho3⟩ hG hS ls (lv_sub hl [2, 3, 4, 5, 6] rfl)
    · exact absurd c_645 (by decide)
  · exact absurd c_638 (by decide)
set_option maxHeartbeats 4000000 in
set_option maxRecDepth 100000 in
theorem lb_stratum_s {RL : RLT} (h0 : pe0 RL) (h_pe_strata : pe_strata RL) {p : Program} {e : Env} {s : State} {m : MethodId} {below : List Frame} {meth : Method} {c : Code} (l : Launch) {sb L : Nat} {xs : Nat → Int32} {X : gs_X} (htr : l.stackTraces = false) (C0 : lw_At p s m meth c sb L xs) (hL : L ≤ 3072) (hXX : X.2.1 3 ≠ X.2.1 2) (hK : gs_T X s) (hE : gs_E X s) (hz : X.2.2 ≤ s.heap.size) (hbA : ¬ gs_A X sb) {rr mo out : Nat} {A : Nat → Nat} {σ : gs_St} {nr : Nat} {cw : Nat → Nat} {Q : List Rl} {E : List En} {Lt : List Nat} {sa : Nat} {nw : Bool} {rc fc : Nat} {dr : Option Dr} {F : List (Nat × Nat)} {T : List MT} {QM : List MR} {drM : Option MR} {cd : Nat} {f : Nat → Int64} (hR : rrA X σ (out :: aM mo A) rr nr cw Q E Lt sa nw rc fc dr) (hM : moA X σ mo A cd nr cw F T sa rc QM drM) (hRL : RL nr cw Q E Lt sa nw rc fc dr F T QM drM) (ho : σ out = some (gs_la X 1 f)) {i cells slots : Nat} (hi : i + 6 ≤ L) (hce : cells + 6 ≤ 601024) (hsl : slots + 64 ≤ 7293034) {rl : Nat} (e1 : xs (i + 1) = nI rl) (hrl : rl < nr) (hmk : mok QM nr = false) (kk : ∀ (σ' : gs_St) (H : Heap) (locs : List Loc), LI RL X σ' rr mo out A → gs_H X σ' H → va_S (gs_A X) s.heap H locs → ∀ ls, lv_has ls 7 [(4, .int (nI i)), (3, .ref out), (2, .ref mo), (1, .ref rr), (0, .ref sb)] → W p l e room_1 s m #[Value.ref sb] below meth c H locs (cells + 6) (slots + 64) (lw_Z below #[Value.ref sb] s) (F0 m 1085 ls [])) {H : Heap} {locs : List Loc} (hG : gs_H X σ H) (hS : va_S (gs_A X) s.heap H locs) {ls : Array Slot} (hl : lv_has ls 7 [(4, .int (nI i)), (3, .ref out), (2, .ref mo), (1, .ref rr), (0, .ref sb)]) : W p l e room_1 s m #[Value.ref sb] below meth c H locs cells slots (lw_Z below #[Value.ref sb] s) (F0 m 607 ls []) := by
  obtain ⟨hx, hb, hr, hml, hown, hts0, hX, hbl, hlocks, hgv⟩ := id C0
  have ht : ∀ w ∈ gs_w, w.before #[Value.ref sb] s = true := fun w h => hts0 w (List.mem_filter.mp h).1
  have hts : ∀ w ∈ (Cond.initialized "RuleRoundsLaw") :: gs_w, w.before #[Value.ref sb] s = true := fun w h => by
    rcases List.mem_cons.mp h with z | z
    · rw [z]; exact ht _ w_0
    · exact ht w z
  obtain ⟨gs, x0⟩ := hR.cell
  obtain ⟨Z, m0, z0⟩ := hM.cell
  have q0 := h0 _ _ _ _ _ _ _ _ _ _ _ _ _ _ hRL
  obtain ⟨hs1, hs2⟩ := (h_pe_strata _ _ _ _ _ _ _ _ _ _ _ _ _ _ hRL)
  refine lv_aload_n hx hb d_LA_law_607 rfl (lv_at hl 3 rfl) ?_
  refine lv_aload_n hx hb d_LA_law_608 rfl (lv_at hl 4 rfl) ?_
  refine lv_iload hx hb d_LA_law_609 (lv_at hl 0 rfl) ?_
  refine lv_iconst (v := nI 1) hx hb d_LA_law_611 (by decide) ?_
  refine lv_iadd hx hb d_LA_law_612 ?_
  refine gs_top (nI_add i 1) ?_
  refine gs_sld hx hb hX hbl hbA hS (j := i + 1) (by omega) (by omega) d_LA_law_613 ?_
  refine gs_top (show xs (i + 1) = (nI rl) from e1) ?_
  refine lv_aload_n hx hb d_LA_law_614 rfl (lv_at hl 1 rfl) ?_
  refine gs_callSiH (As := [.ref rr, .int (nI rl), .ref out]) (rest := []) ⟨hx, hb, hml, hown, hts⟩ hK hE hz hG hS (c_LA_stratum_xS l X σ rr out gs _ (nI rl) x0 ⟨by decide, by decide, by decide, by decide⟩ (c_rr_stratum_t l hR htr hrl (by rw [hs1, if_neg (by rw [hmk]; decide)]))) mSH_LA_stratum w_582 rfl hl.1 rfl (Nat.le_of_ble_eq_true rfl) ⟨by decide, by decide⟩ ⟨(by first | (show cells + 6 ≤ 601024; omega) | (show cells ≤ 601024; omega)), (by first | (show slots + 64 ≤ 7293034; omega) | (show slots ≤ 7293034; omega))⟩ d_LA_law_615 (fun r_615 σ_615 H locs hp_615 hG hS => ?_)
  refine gs_top hp_615.1 ?_
  rw [hp_615.2] at hG
  refine lv_istore (lv' := [(5, .int (nI 2)), (4, .int (nI i)), (3, .ref out), (2, .ref mo), (1, .ref rr), (0, .ref sb)]) hx hb d_LA_law_618 hl (by decide) rfl (fun ls hl => ?_)
  refine lv_aload_n hx hb d_LA_law_620 rfl (lv_at hl 3 rfl) ?_
  refine lv_aload_n hx hb d_LA_law_621 rfl (lv_at hl 5 rfl) ?_
  refine lv_iload hx hb d_LA_law_622 (lv_at hl 1 rfl) ?_
  refine lv_iconst (v := nI 1) hx hb d_LA_law_624 (by decide) ?_
  refine lv_iadd hx hb d_LA_law_625 ?_
  refine gs_top (nI_add i 1) ?_
  refine gs_sld hx hb hX hbl hbA hS (j := i + 1) (by omega) (by omega) d_LA_law_626 ?_
  refine gs_top (show xs (i + 1) = (nI rl) from e1) ?_
  refine gs_callVi (As := [.int (nI rl)]) (rest := []) ⟨hx, hb, hml, hown, hts⟩ hK hE hz hG hS (c_MO_stratum_s l X σ mo A cd nr cw F T sa rc QM drM rl hM hrl hmk) mV_MO_stratum w_828 m0 rfl rfl hl.1 rfl (Nat.le_of_ble_eq_true rfl) ⟨by decide, by decide⟩ ⟨(by first | (show cells + 6 ≤ 601024; omega) | (show cells ≤ 601024; omega)), (by first | (show slots + 64 ≤ 7293034; omega) | (show slots ≤ 7293034; omega))⟩ d_LA_law_627 (fun r_627 σ_627 H locs hp_627 hG hS => ?_)
  obtain ⟨hM3, hf3, er3⟩ := hp_627
  have hR3 := hR.mdl (hM.gG ho) hf3
  have ho3 := hf3 _ _ (out_nin hM ho) ho
  obtain ⟨Z3, m03, z03⟩ := hM3.cell
  refine gs_top er3 ?_
  refine lv_istore (lv' := [(6, .int (nI 0)), (5, .int (nI 2)), (4, .int (nI i)), (3, .ref out), (2, .ref mo), (1, .ref rr), (0, .ref sb)]) hx hb d_LA_law_630 hl (by decide) rfl (fun ls hl => ?_)
  refine lv_aload_n hx hb d_LA_law_632 rfl (lv_at hl 4 rfl) ?_
  refine gs_callVp (As := []) (rest := []) ⟨hx, hb, hml, hown, hts⟩ hK hE hz hG hS (c_MO_thrown l X σ_627 mo A Z3 m03) ⟨rfl, rfl⟩ mV_MO_thrown w_757 m03 rfl rfl hl.1 rfl (Nat.le_of_ble_eq_true rfl) ⟨by decide, by decide⟩ ⟨(by first | (show cells + 6 ≤ 601024; omega) | (show cells ≤ 601024; omega)), (by first | (show slots + 64 ≤ 7293034; omega) | (show slots ≤ 7293034; omega))⟩ d_LA_law_633 (fun r_633 hp_633 => ?_)
  refine gs_top (show r_633 = nI 2 from by rw [hp_633, z03]) ?_
  refine lv_iload hx hb d_LA_law_636 (lv_at hl 1 rfl) ?_
  refine lv_icmp_eq (tgt := 643) hx hb d_LA_law_638 (by decide) (fun c_638 => ?_) (fun c_638 => ?_)
  · have c_638 : 2 = 2 :=  (nI_eq (by omega) (by omega)).mp c_638
    refine lv_iload hx hb d_LA_law_643 (lv_at hl 1 rfl) ?_
    refine lv_if_ne (tgt := 660) hx hb d_LA_law_645 (by decide) (fun c_645 => ?_) (fun c_645 => ?_)
    · have c_645 : ¬ 2 = 0 := gs_zn (by omega) c_645
      refine lv_goto (tgt := 1085) hx hb d_LA_law_660 (by decide) ?_
      refine W.widen (k := cells + 6) (n := slots + 64) (by first | exact Nat.le_refl _ | exact Nat.le_add_right _ _) (by first | exact Nat.le_refl _ | exact Nat.le_add_right _ _) ?_
      exact kk σ_627 H locs ⟨_, _, _, _, _, _, _, _, _, _, _, _, _, _, _, _, hR3, hM3, hRL, ho3⟩ hG hS ls (lv_sub hl [2, 3, 4, 5, 6] rfl)
    · exact absurd c_645 (by decide)
  · exact absurd c_638 (by decide)
set_option maxHeartbeats 4000000 in
set_option maxRecDepth 100000 in
theorem lb_stratum_ok {RL : RLT} (h0 : pe0 RL) (h_pe_strata : pe_strata RL) (h_pe_stratum : pe_stratum RL) {p : Program} {e : Env} {s : State} {m : MethodId} {below : List Frame} {meth : Method} {c : Code} (l : Launch) {sb L : Nat} {xs : Nat → Int32} {X : gs_X} (htr : l.stackTraces = false) (C0 : lw_At p s m meth c sb L xs) (hL : L ≤ 3072) (hXX : X.2.1 3 ≠ X.2.1 2) (hK : gs_T X s) (hE : gs_E X s) (hz : X.2.2 ≤ s.heap.size) (hbA : ¬ gs_A X sb) {rr mo out : Nat} {A : Nat → Nat} {σ : gs_St} {nr : Nat} {cw : Nat → Nat} {Q : List Rl} {E : List En} {Lt : List Nat} {sa : Nat} {nw : Bool} {rc fc : Nat} {dr : Option Dr} {F : List (Nat × Nat)} {T : List MT} {QM : List MR} {drM : Option MR} {cd : Nat} {f : Nat → Int64} (hR : rrA X σ (out :: aM mo A) rr nr cw Q E Lt sa nw rc fc dr) (hM : moA X σ mo A cd nr cw F T sa rc QM drM) (hRL : RL nr cw Q E Lt sa nw rc fc dr F T QM drM) (ho : σ out = some (gs_la X 1 f)) {i cells slots : Nat} (hi : i + 6 ≤ L) (hce : cells + 6 ≤ 601024) (hsl : slots + 64 ≤ 7293034) {rl : Nat} (e1 : xs (i + 1) = nI rl) (hrl : rl < nr) (hmk : mok QM nr = true) (kk : ∀ (σ' : gs_St) (H : Heap) (locs : List Loc), LI RL X σ' rr mo out A → gs_H X σ' H → va_S (gs_A X) s.heap H locs → ∀ ls, lv_has ls 7 [(4, .int (nI i)), (3, .ref out), (2, .ref mo), (1, .ref rr), (0, .ref sb)] → W p l e room_1 s m #[Value.ref sb] below meth c H locs (cells + 6) (slots + 64) (lw_Z below #[Value.ref sb] s) (F0 m 1085 ls [])) {H : Heap} {locs : List Loc} (hG : gs_H X σ H) (hS : va_S (gs_A X) s.heap H locs) {ls : Array Slot} (hl : lv_has ls 7 [(4, .int (nI i)), (3, .ref out), (2, .ref mo), (1, .ref rr), (0, .ref sb)]) : W p l e room_1 s m #[Value.ref sb] below meth c H locs cells slots (lw_Z below #[Value.ref sb] s) (F0 m 607 ls []) := by
  obtain ⟨hx, hb, hr, hml, hown, hts0, hX, hbl, hlocks, hgv⟩ := id C0
  have ht : ∀ w ∈ gs_w, w.before #[Value.ref sb] s = true := fun w h => hts0 w (List.mem_filter.mp h).1
  have hts : ∀ w ∈ (Cond.initialized "RuleRoundsLaw") :: gs_w, w.before #[Value.ref sb] s = true := fun w h => by
    rcases List.mem_cons.mp h with z | z
    · rw [z]; exact ht _ w_0
    · exact ht w z
  obtain ⟨gs, x0⟩ := hR.cell
  obtain ⟨Z, m0, z0⟩ := hM.cell
  have q0 := h0 _ _ _ _ _ _ _ _ _ _ _ _ _ _ hRL
  obtain ⟨hs1, hs2⟩ := (h_pe_strata _ _ _ _ _ _ _ _ _ _ _ _ _ _ hRL)
  refine lv_aload_n hx hb d_LA_law_607 rfl (lv_at hl 3 rfl) ?_
  refine lv_aload_n hx hb d_LA_law_608 rfl (lv_at hl 4 rfl) ?_
  refine lv_iload hx hb d_LA_law_609 (lv_at hl 0 rfl) ?_
  refine lv_iconst (v := nI 1) hx hb d_LA_law_611 (by decide) ?_
  refine lv_iadd hx hb d_LA_law_612 ?_
  refine gs_top (nI_add i 1) ?_
  refine gs_sld hx hb hX hbl hbA hS (j := i + 1) (by omega) (by omega) d_LA_law_613 ?_
  refine gs_top (show xs (i + 1) = (nI rl) from e1) ?_
  refine lv_aload_n hx hb d_LA_law_614 rfl (lv_at hl 1 rfl) ?_
  refine gs_callSiH (As := [.ref rr, .int (nI rl), .ref out]) (rest := []) ⟨hx, hb, hml, hown, hts⟩ hK hE hz hG hS (c_LA_stratum l X σ rr out gs _ f (nI rl) _ x0 ⟨by decide, by decide, by decide, by decide⟩ (c_rr_stratum l hR hrl (by rw [hs1, if_pos hmk]; exact nI_nneg (by have := hs2 hmk; omega) (by decide))) (fun r9 σ9 z => by rw [z.2]; exact ho)) mSH_LA_stratum w_582 rfl hl.1 rfl (Nat.le_of_ble_eq_true rfl) ⟨by decide, by decide⟩ ⟨(by first | (show cells + 6 ≤ 601024; omega) | (show cells ≤ 601024; omega)), (by first | (show slots + 64 ≤ 7293034; omega) | (show slots ≤ 7293034; omega))⟩ d_LA_law_615 (fun r_615 σ_615 H locs hp_615 hG hS => ?_)
  obtain ⟨ek, r9, σ9, ⟨hans9, hu9⟩, ev⟩ := hp_615
  have hR9 : rrA X σ9 (out :: aM mo A) rr nr cw Q E Lt sa nw rc fc dr := by rw [hu9]; exact hR
  have hk9 : kG σ σ9 (out :: aM mo A) := fun q _ e he => by rw [hu9]; exact he
  refine gs_top ek ?_
  rw [ev] at hG
  obtain ⟨hR2, hM2⟩ := ans_put (f' := vp_updL f 0 r9.toInt64) hR9 hk9 hM ho
  obtain ⟨σ1, eσ1⟩ : ∃ z, z = gs_up σ9 out (gs_la X 1 (vp_updL f 0 r9.toInt64)) := ⟨_, rfl⟩
  rw [← eσ1] at hG hR2 hM2
  have ho2 : σ1 out = some (gs_la X 1 (vp_updL f 0 r9.toInt64)) := by rw [eσ1]; exact gs_us
  obtain ⟨Z2, m02, z02⟩ := hM2.cell
  refine lv_istore (lv' := [(5, .int (nI 0)), (4, .int (nI i)), (3, .ref out), (2, .ref mo), (1, .ref rr), (0, .ref sb)]) hx hb d_LA_law_618 hl (by decide) rfl (fun ls hl => ?_)
  refine lv_aload_n hx hb d_LA_law_620 rfl (lv_at hl 3 rfl) ?_
  refine lv_aload_n hx hb d_LA_law_621 rfl (lv_at hl 5 rfl) ?_
  refine lv_iload hx hb d_LA_law_622 (lv_at hl 1 rfl) ?_
  refine lv_iconst (v := nI 1) hx hb d_LA_law_624 (by decide) ?_
  refine lv_iadd hx hb d_LA_law_625 ?_
  refine gs_top (nI_add i 1) ?_
  refine gs_sld hx hb hX hbl hbA hS (j := i + 1) (by omega) (by omega) d_LA_law_626 ?_
  refine gs_top (show xs (i + 1) = (nI rl) from e1) ?_
  refine gs_callVi (As := [.int (nI rl)]) (rest := []) ⟨hx, hb, hml, hown, hts⟩ hK hE hz hG hS (c_MO_stratum l X σ1 mo A cd nr cw F T sa rc QM drM rl hM2 hrl hmk) mV_MO_stratum w_828 m02 rfl rfl hl.1 rfl (Nat.le_of_ble_eq_true rfl) ⟨by decide, by decide⟩ ⟨(by first | (show cells + 6 ≤ 601024; omega) | (show cells ≤ 601024; omega)), (by first | (show slots + 64 ≤ 7293034; omega) | (show slots ≤ 7293034; omega))⟩ d_LA_law_627 (fun r_627 σ_627 H locs hp_627 hG hS => ?_)
  obtain ⟨hM3, hf3, er3⟩ := hp_627
  have hR3 := hR2.mdl (hM2.gG ho2) hf3
  have ho3 := hf3 _ _ (out_nin hM2 ho2) ho2
  obtain ⟨Z3, m03, z03⟩ := hM3.cell
  refine gs_top er3 ?_
  refine lv_istore (lv' := [(6, .int (nI ((mfs QM nr).1 rl))), (5, .int (nI 0)), (4, .int (nI i)), (3, .ref out), (2, .ref mo), (1, .ref rr), (0, .ref sb)]) hx hb d_LA_law_630 hl (by decide) rfl (fun ls hl => ?_)
  refine lv_aload_n hx hb d_LA_law_632 rfl (lv_at hl 4 rfl) ?_
  refine gs_callVp (As := []) (rest := []) ⟨hx, hb, hml, hown, hts⟩ hK hE hz hG hS (c_MO_thrown l X σ_627 mo A Z3 m03) ⟨rfl, rfl⟩ mV_MO_thrown w_757 m03 rfl rfl hl.1 rfl (Nat.le_of_ble_eq_true rfl) ⟨by decide, by decide⟩ ⟨(by first | (show cells + 6 ≤ 601024; omega) | (show cells ≤ 601024; omega)), (by first | (show slots + 64 ≤ 7293034; omega) | (show slots ≤ 7293034; omega))⟩ d_LA_law_633 (fun r_633 hp_633 => ?_)
  refine gs_top (show r_633 = nI 0 from by rw [hp_633, z03]) ?_
  refine lv_iload hx hb d_LA_law_636 (lv_at hl 1 rfl) ?_
  refine lv_icmp_eq (tgt := 643) hx hb d_LA_law_638 (by decide) (fun c_638 => ?_) (fun c_638 => ?_)
  · have c_638 : 0 = 0 :=  (nI_eq (by omega) (by omega)).mp c_638
    refine lv_iload hx hb d_LA_law_643 (lv_at hl 1 rfl) ?_
    refine lv_if_ne (tgt := 660) hx hb d_LA_law_645 (by decide) (fun c_645 => ?_) (fun c_645 => ?_)
    · exact absurd c_645 (by decide)
    · have c_645 : 0 = 0 := gs_z (by omega) c_645
      refine lv_aload_n hx hb d_LA_law_648 rfl (lv_at hl 3 rfl) ?_
      refine lv_iconst (v := nI 0) hx hb d_LA_law_649 (by decide) ?_
      refine gs_lald hx hb hK hG ho3 (j := 0) (by omega) (by omega) d_LA_law_650 ?_
      refine lv_iload hx hb d_LA_law_651 (lv_at hl 0 rfl) ?_
      refine lv_i2l hx hb d_LA_law_653 rfl ?_
      refine W.lcmp hx hb d_LA_law_654 ?_
      refine lv_if_eq (tgt := 660) hx hb d_LA_law_655 (by decide) (fun c_655 => ?_) (fun c_655 => ?_)
      · refine lv_goto (tgt := 1085) hx hb d_LA_law_660 (by decide) ?_
        refine W.widen (k := cells + 6) (n := slots + 64) (by first | exact Nat.le_refl _ | exact Nat.le_add_right _ _) (by first | exact Nat.le_refl _ | exact Nat.le_add_right _ _) ?_
        exact kk σ_627 H locs ⟨_, _, _, _, _, _, _, _, _, _, _, _, _, _, _, _, hR3, hM3, hRL, ho3⟩ hG hS ls (lv_sub hl [2, 3, 4, 5, 6] rfl)
      · exact absurd (cmp_0.mpr (show vp_updL f 0 r9.toInt64 0 = _ from by unfold vp_updL; rw [if_pos rfl, hans9.trans (congrArg nI (h_pe_stratum _ _ _ _ _ _ _ _ _ _ _ _ _ _ hRL hmk rl hrl))])) c_655
  · exact absurd c_638 (by decide)
set_option maxHeartbeats 4000000 in
set_option maxRecDepth 100000 in
theorem lb_count_r {RL : RLT} (h0 : pe0 RL) {p : Program} {e : Env} {s : State} {m : MethodId} {below : List Frame} {meth : Method} {c : Code} (l : Launch) {sb L : Nat} {xs : Nat → Int32} {X : gs_X} (htr : l.stackTraces = false) (C0 : lw_At p s m meth c sb L xs) (hL : L ≤ 3072) (hXX : X.2.1 3 ≠ X.2.1 2) (hK : gs_T X s) (hE : gs_E X s) (hz : X.2.2 ≤ s.heap.size) (hbA : ¬ gs_A X sb) {rr mo out : Nat} {A : Nat → Nat} {σ : gs_St} {nr : Nat} {cw : Nat → Nat} {Q : List Rl} {E : List En} {Lt : List Nat} {sa : Nat} {nw : Bool} {rc fc : Nat} {dr : Option Dr} {F : List (Nat × Nat)} {T : List MT} {QM : List MR} {drM : Option MR} {cd : Nat} {f : Nat → Int64} (hR : rrA X σ (out :: aM mo A) rr nr cw Q E Lt sa nw rc fc dr) (hM : moA X σ mo A cd nr cw F T sa rc QM drM) (hRL : RL nr cw Q E Lt sa nw rc fc dr F T QM drM) (ho : σ out = some (gs_la X 1 f)) {i cells slots : Nat} (hi : i + 6 ≤ L) (hce : cells + 6 ≤ 601024) (hsl : slots + 64 ≤ 7293034)  (hok : wi nr (xs (i + 1)) = false) (kk : ∀ (σ' : gs_St) (H : Heap) (locs : List Loc), LI RL X σ' rr mo out A → gs_H X σ' H → va_S (gs_A X) s.heap H locs → ∀ ls, lv_has ls 7 [(4, .int (nI i)), (3, .ref out), (2, .ref mo), (1, .ref rr), (0, .ref sb)] → W p l e room_1 s m #[Value.ref sb] below meth c H locs (cells + 6) (slots + 64) (lw_Z below #[Value.ref sb] s) (F0 m 1085 ls [])) {H : Heap} {locs : List Loc} (hG : gs_H X σ H) (hS : va_S (gs_A X) s.heap H locs) {ls : Array Slot} (hl : lv_has ls 7 [(4, .int (nI i)), (3, .ref out), (2, .ref mo), (1, .ref rr), (0, .ref sb)]) : W p l e room_1 s m #[Value.ref sb] below meth c H locs cells slots (lw_Z below #[Value.ref sb] s) (F0 m 702 ls []) := by
  obtain ⟨hx, hb, hr, hml, hown, hts0, hX, hbl, hlocks, hgv⟩ := id C0
  have ht : ∀ w ∈ gs_w, w.before #[Value.ref sb] s = true := fun w h => hts0 w (List.mem_filter.mp h).1
  have hts : ∀ w ∈ (Cond.initialized "RuleRoundsLaw") :: gs_w, w.before #[Value.ref sb] s = true := fun w h => by
    rcases List.mem_cons.mp h with z | z
    · rw [z]; exact ht _ w_0
    · exact ht w z
  obtain ⟨gs, x0⟩ := hR.cell
  obtain ⟨Z, m0, z0⟩ := hM.cell
  have q0 := h0 _ _ _ _ _ _ _ _ _ _ _ _ _ _ hRL
  refine lv_aload_n hx hb d_LA_law_702 rfl (lv_at hl 3 rfl) ?_
  refine lv_aload_n hx hb d_LA_law_703 rfl (lv_at hl 4 rfl) ?_
  refine lv_iload hx hb d_LA_law_704 (lv_at hl 0 rfl) ?_
  refine lv_iconst (v := nI 1) hx hb d_LA_law_706 (by decide) ?_
  refine lv_iadd hx hb d_LA_law_707 ?_
  refine gs_top (nI_add i 1) ?_
  refine gs_sld hx hb hX hbl hbA hS (j := i + 1) (by omega) (by omega) d_LA_law_708 ?_
  refine lv_aload_n hx hb d_LA_law_709 rfl (lv_at hl 1 rfl) ?_
  refine gs_callSiH (As := [.ref rr, .int (xs (i + 1)), .ref out]) (rest := []) ⟨hx, hb, hml, hown, hts⟩ hK hE hz hG hS (c_LA_count_xI l X σ rr out gs _ (xs (i + 1)) x0 ⟨by decide, by decide, by decide, by decide⟩ (c_rr_count_r l hR htr hok)) mSH_LA_count w_590 rfl hl.1 rfl (Nat.le_of_ble_eq_true rfl) ⟨by decide, by decide⟩ ⟨(by first | (show cells + 6 ≤ 601024; omega) | (show cells ≤ 601024; omega)), (by first | (show slots + 64 ≤ 7293034; omega) | (show slots ≤ 7293034; omega))⟩ d_LA_law_710 (fun r_710 σ_710 H locs hp_710 hG hS => ?_)
  refine gs_top hp_710.1 ?_
  rw [hp_710.2] at hG
  refine lv_istore (lv' := [(5, .int (nI 1)), (4, .int (nI i)), (3, .ref out), (2, .ref mo), (1, .ref rr), (0, .ref sb)]) hx hb d_LA_law_713 hl (by decide) rfl (fun ls hl => ?_)
  refine lv_aload_n hx hb d_LA_law_715 rfl (lv_at hl 3 rfl) ?_
  refine lv_aload_n hx hb d_LA_law_716 rfl (lv_at hl 5 rfl) ?_
  refine lv_iload hx hb d_LA_law_717 (lv_at hl 1 rfl) ?_
  refine lv_iconst (v := nI 1) hx hb d_LA_law_719 (by decide) ?_
  refine lv_iadd hx hb d_LA_law_720 ?_
  refine gs_top (nI_add i 1) ?_
  refine gs_sld hx hb hX hbl hbA hS (j := i + 1) (by omega) (by omega) d_LA_law_721 ?_
  refine gs_callVi (As := [.int (xs (i + 1))]) (rest := []) ⟨hx, hb, hml, hown, hts⟩ hK hE hz hG hS (c_MO_count_r l X σ mo A cd nr cw F T sa rc QM drM (xs (i + 1)) hM hok) mV_MO_count w_880 m0 rfl rfl hl.1 rfl (Nat.le_of_ble_eq_true rfl) ⟨by decide, by decide⟩ ⟨(by first | (show cells + 6 ≤ 601024; omega) | (show cells ≤ 601024; omega)), (by first | (show slots + 64 ≤ 7293034; omega) | (show slots ≤ 7293034; omega))⟩ d_LA_law_722 (fun r_722 σ_722 H locs hp_722 hG hS => ?_)
  obtain ⟨hM3, hf3, er3⟩ := hp_722
  have hR3 := hR.mdl (hM.gG ho) hf3
  have ho3 := hf3 _ _ (out_nin hM ho) ho
  obtain ⟨Z3, m03, z03⟩ := hM3.cell
  refine gs_top er3 ?_
  refine lv_istore (lv' := [(6, .int (nI 0)), (5, .int (nI 1)), (4, .int (nI i)), (3, .ref out), (2, .ref mo), (1, .ref rr), (0, .ref sb)]) hx hb d_LA_law_725 hl (by decide) rfl (fun ls hl => ?_)
  refine lv_aload_n hx hb d_LA_law_727 rfl (lv_at hl 4 rfl) ?_
  refine gs_callVp (As := []) (rest := []) ⟨hx, hb, hml, hown, hts⟩ hK hE hz hG hS (c_MO_thrown l X σ_722 mo A Z3 m03) ⟨rfl, rfl⟩ mV_MO_thrown w_757 m03 rfl rfl hl.1 rfl (Nat.le_of_ble_eq_true rfl) ⟨by decide, by decide⟩ ⟨(by first | (show cells + 6 ≤ 601024; omega) | (show cells ≤ 601024; omega)), (by first | (show slots + 64 ≤ 7293034; omega) | (show slots ≤ 7293034; omega))⟩ d_LA_law_728 (fun r_728 hp_728 => ?_)
  refine gs_top (show r_728 = nI 1 from by rw [hp_728, z03]) ?_
  refine lv_iload hx hb d_LA_law_731 (lv_at hl 1 rfl) ?_
  refine lv_icmp_eq (tgt := 738) hx hb d_LA_law_733 (by decide) (fun c_733 => ?_) (fun c_733 => ?_)
  · have c_733 : 1 = 1 :=  (nI_eq (by omega) (by omega)).mp c_733
    refine lv_iload hx hb d_LA_law_738 (lv_at hl 1 rfl) ?_
    refine lv_if_ne (tgt := 755) hx hb d_LA_law_740 (by decide) (fun c_740 => ?_) (fun c_740 => ?_)
    · have c_740 : ¬ 1 = 0 := gs_zn (by omega) c_740
      refine lv_goto (tgt := 1085) hx hb d_LA_law_755 (by decide) ?_
      refine W.widen (k := cells + 6) (n := slots + 64) (by first | exact Nat.le_refl _ | exact Nat.le_add_right _ _) (by first | exact Nat.le_refl _ | exact Nat.le_add_right _ _) ?_
      exact kk σ_722 H locs ⟨_, _, _, _, _, _, _, _, _, _, _, _, _, _, _, _, hR3, hM3, hRL, ho3⟩ hG hS ls (lv_sub hl [2, 3, 4, 5, 6] rfl)
    · exact absurd c_740 (by decide)
  · exact absurd c_733 (by decide)
set_option maxHeartbeats 4000000 in
set_option maxRecDepth 100000 in
theorem lb_count_ok {RL : RLT} (h0 : pe0 RL) (h_pe_count : pe_count RL) {p : Program} {e : Env} {s : State} {m : MethodId} {below : List Frame} {meth : Method} {c : Code} (l : Launch) {sb L : Nat} {xs : Nat → Int32} {X : gs_X} (htr : l.stackTraces = false) (C0 : lw_At p s m meth c sb L xs) (hL : L ≤ 3072) (hXX : X.2.1 3 ≠ X.2.1 2) (hK : gs_T X s) (hE : gs_E X s) (hz : X.2.2 ≤ s.heap.size) (hbA : ¬ gs_A X sb) {rr mo out : Nat} {A : Nat → Nat} {σ : gs_St} {nr : Nat} {cw : Nat → Nat} {Q : List Rl} {E : List En} {Lt : List Nat} {sa : Nat} {nw : Bool} {rc fc : Nat} {dr : Option Dr} {F : List (Nat × Nat)} {T : List MT} {QM : List MR} {drM : Option MR} {cd : Nat} {f : Nat → Int64} (hR : rrA X σ (out :: aM mo A) rr nr cw Q E Lt sa nw rc fc dr) (hM : moA X σ mo A cd nr cw F T sa rc QM drM) (hRL : RL nr cw Q E Lt sa nw rc fc dr F T QM drM) (ho : σ out = some (gs_la X 1 f)) {i cells slots : Nat} (hi : i + 6 ≤ L) (hce : cells + 6 ≤ 601024) (hsl : slots + 64 ≤ 7293034) {rl : Nat} (e1 : xs (i + 1) = nI rl) (hrl : rl < nr) (kk : ∀ (σ' : gs_St) (H : Heap) (locs : List Loc), LI RL X σ' rr mo out A → gs_H X σ' H → va_S (gs_A X) s.heap H locs → ∀ ls, lv_has ls 7 [(4, .int (nI i)), (3, .ref out), (2, .ref mo), (1, .ref rr), (0, .ref sb)] → W p l e room_1 s m #[Value.ref sb] below meth c H locs (cells + 6) (slots + 64) (lw_Z below #[Value.ref sb] s) (F0 m 1085 ls [])) {H : Heap} {locs : List Loc} (hG : gs_H X σ H) (hS : va_S (gs_A X) s.heap H locs) {ls : Array Slot} (hl : lv_has ls 7 [(4, .int (nI i)), (3, .ref out), (2, .ref mo), (1, .ref rr), (0, .ref sb)]) : W p l e room_1 s m #[Value.ref sb] below meth c H locs cells slots (lw_Z below #[Value.ref sb] s) (F0 m 702 ls []) := by
  obtain ⟨hx, hb, hr, hml, hown, hts0, hX, hbl, hlocks, hgv⟩ := id C0
  have ht : ∀ w ∈ gs_w, w.before #[Value.ref sb] s = true := fun w h => hts0 w (List.mem_filter.mp h).1
  have hts : ∀ w ∈ (Cond.initialized "RuleRoundsLaw") :: gs_w, w.before #[Value.ref sb] s = true := fun w h => by
    rcases List.mem_cons.mp h with z | z
    · rw [z]; exact ht _ w_0
    · exact ht w z
  obtain ⟨gs, x0⟩ := hR.cell
  obtain ⟨Z, m0, z0⟩ := hM.cell
  have q0 := h0 _ _ _ _ _ _ _ _ _ _ _ _ _ _ hRL
  refine lv_aload_n hx hb d_LA_law_702 rfl (lv_at hl 3 rfl) ?_
  refine lv_aload_n hx hb d_LA_law_703 rfl (lv_at hl 4 rfl) ?_
  refine lv_iload hx hb d_LA_law_704 (lv_at hl 0 rfl) ?_
  refine lv_iconst (v := nI 1) hx hb d_LA_law_706 (by decide) ?_
  refine lv_iadd hx hb d_LA_law_707 ?_
  refine gs_top (nI_add i 1) ?_
  refine gs_sld hx hb hX hbl hbA hS (j := i + 1) (by omega) (by omega) d_LA_law_708 ?_
  refine gs_top (show xs (i + 1) = (nI rl) from e1) ?_
  refine lv_aload_n hx hb d_LA_law_709 rfl (lv_at hl 1 rfl) ?_
  refine gs_callSiH (As := [.ref rr, .int (nI rl), .ref out]) (rest := []) ⟨hx, hb, hml, hown, hts⟩ hK hE hz hG hS (c_LA_count l X σ rr out gs _ f (nI rl) _ x0 ⟨by decide, by decide, by decide, by decide⟩ (c_rr_count l hR hrl) (fun r9 σ9 z => by rw [z.2]; exact ho)) mSH_LA_count w_590 rfl hl.1 rfl (Nat.le_of_ble_eq_true rfl) ⟨by decide, by decide⟩ ⟨(by first | (show cells + 6 ≤ 601024; omega) | (show cells ≤ 601024; omega)), (by first | (show slots + 64 ≤ 7293034; omega) | (show slots ≤ 7293034; omega))⟩ d_LA_law_710 (fun r_710 σ_710 H locs hp_710 hG hS => ?_)
  obtain ⟨ek, r9, σ9, ⟨hans9, hu9⟩, ev⟩ := hp_710
  have hR9 : rrA X σ9 (out :: aM mo A) rr nr cw Q E Lt sa nw rc fc dr := by rw [hu9]; exact hR
  have hk9 : kG σ σ9 (out :: aM mo A) := fun q _ e he => by rw [hu9]; exact he
  refine gs_top ek ?_
  rw [ev] at hG
  obtain ⟨hR2, hM2⟩ := ans_put (f' := vp_updL f 0 r9.toInt64) hR9 hk9 hM ho
  obtain ⟨σ1, eσ1⟩ : ∃ z, z = gs_up σ9 out (gs_la X 1 (vp_updL f 0 r9.toInt64)) := ⟨_, rfl⟩
  rw [← eσ1] at hG hR2 hM2
  have ho2 : σ1 out = some (gs_la X 1 (vp_updL f 0 r9.toInt64)) := by rw [eσ1]; exact gs_us
  obtain ⟨Z2, m02, z02⟩ := hM2.cell
  refine lv_istore (lv' := [(5, .int (nI 0)), (4, .int (nI i)), (3, .ref out), (2, .ref mo), (1, .ref rr), (0, .ref sb)]) hx hb d_LA_law_713 hl (by decide) rfl (fun ls hl => ?_)
  refine lv_aload_n hx hb d_LA_law_715 rfl (lv_at hl 3 rfl) ?_
  refine lv_aload_n hx hb d_LA_law_716 rfl (lv_at hl 5 rfl) ?_
  refine lv_iload hx hb d_LA_law_717 (lv_at hl 1 rfl) ?_
  refine lv_iconst (v := nI 1) hx hb d_LA_law_719 (by decide) ?_
  refine lv_iadd hx hb d_LA_law_720 ?_
  refine gs_top (nI_add i 1) ?_
  refine gs_sld hx hb hX hbl hbA hS (j := i + 1) (by omega) (by omega) d_LA_law_721 ?_
  refine gs_top (show xs (i + 1) = (nI rl) from e1) ?_
  refine gs_callVi (As := [.int (nI rl)]) (rest := []) ⟨hx, hb, hml, hown, hts⟩ hK hE hz hG hS (c_MO_count l X σ1 mo A cd nr cw F T sa rc QM drM (nI rl) hM2 (wi_nI hrl (by have := hM.2.1; omega))) mV_MO_count w_880 m02 rfl rfl hl.1 rfl (Nat.le_of_ble_eq_true rfl) ⟨by decide, by decide⟩ ⟨(by first | (show cells + 6 ≤ 601024; omega) | (show cells ≤ 601024; omega)), (by first | (show slots + 64 ≤ 7293034; omega) | (show slots ≤ 7293034; omega))⟩ d_LA_law_722 (fun r_722 σ_722 H locs hp_722 hG hS => ?_)
  obtain ⟨hM3, hf3, er3⟩ := hp_722
  have hR3 := hR2.mdl (hM2.gG ho2) hf3
  have ho3 := hf3 _ _ (out_nin hM2 ho2) ho2
  obtain ⟨Z3, m03, z03⟩ := hM3.cell
  refine gs_top er3 ?_
  refine lv_istore (lv' := [(6, .int (nI (cnR T (nI rl)))), (5, .int (nI 0)), (4, .int (nI i)), (3, .ref out), (2, .ref mo), (1, .ref rr), (0, .ref sb)]) hx hb d_LA_law_725 hl (by decide) rfl (fun ls hl => ?_)
  refine lv_aload_n hx hb d_LA_law_727 rfl (lv_at hl 4 rfl) ?_
  refine gs_callVp (As := []) (rest := []) ⟨hx, hb, hml, hown, hts⟩ hK hE hz hG hS (c_MO_thrown l X σ_722 mo A Z3 m03) ⟨rfl, rfl⟩ mV_MO_thrown w_757 m03 rfl rfl hl.1 rfl (Nat.le_of_ble_eq_true rfl) ⟨by decide, by decide⟩ ⟨(by first | (show cells + 6 ≤ 601024; omega) | (show cells ≤ 601024; omega)), (by first | (show slots + 64 ≤ 7293034; omega) | (show slots ≤ 7293034; omega))⟩ d_LA_law_728 (fun r_728 hp_728 => ?_)
  refine gs_top (show r_728 = nI 0 from by rw [hp_728, z03]) ?_
  refine lv_iload hx hb d_LA_law_731 (lv_at hl 1 rfl) ?_
  refine lv_icmp_eq (tgt := 738) hx hb d_LA_law_733 (by decide) (fun c_733 => ?_) (fun c_733 => ?_)
  · have c_733 : 0 = 0 :=  (nI_eq (by omega) (by omega)).mp c_733
    refine lv_iload hx hb d_LA_law_738 (lv_at hl 1 rfl) ?_
    refine lv_if_ne (tgt := 755) hx hb d_LA_law_740 (by decide) (fun c_740 => ?_) (fun c_740 => ?_)
    · exact absurd c_740 (by decide)
    · have c_740 : 0 = 0 := gs_z (by omega) c_740
      refine lv_aload_n hx hb d_LA_law_743 rfl (lv_at hl 3 rfl) ?_
      refine lv_iconst (v := nI 0) hx hb d_LA_law_744 (by decide) ?_
      refine gs_lald hx hb hK hG ho3 (j := 0) (by omega) (by omega) d_LA_law_745 ?_
      refine lv_iload hx hb d_LA_law_746 (lv_at hl 0 rfl) ?_
      refine lv_i2l hx hb d_LA_law_748 rfl ?_
      refine W.lcmp hx hb d_LA_law_749 ?_
      refine lv_if_eq (tgt := 755) hx hb d_LA_law_750 (by decide) (fun c_750 => ?_) (fun c_750 => ?_)
      · refine lv_goto (tgt := 1085) hx hb d_LA_law_755 (by decide) ?_
        refine W.widen (k := cells + 6) (n := slots + 64) (by first | exact Nat.le_refl _ | exact Nat.le_add_right _ _) (by first | exact Nat.le_refl _ | exact Nat.le_add_right _ _) ?_
        exact kk σ_722 H locs ⟨_, _, _, _, _, _, _, _, _, _, _, _, _, _, _, _, hR3, hM3, hRL, ho3⟩ hG hS ls (lv_sub hl [2, 3, 4, 5, 6] rfl)
      · exact absurd (cmp_0.mpr (show vp_updL f 0 r9.toInt64 0 = _ from by unfold vp_updL; rw [if_pos rfl, hans9.trans (congrArg nI (h_pe_count _ _ _ _ _ _ _ _ _ _ _ _ _ _ hRL rl hrl))])) c_750
  · exact absurd c_733 (by decide)
set_option maxHeartbeats 4000000 in
set_option maxRecDepth 100000 in
theorem lb_tuple_r {RL : RLT} (h0 : pe0 RL) {p : Program} {e : Env} {s : State} {m : MethodId} {below : List Frame} {meth : Method} {c : Code} (l : Launch) {sb L : Nat} {xs : Nat → Int32} {X : gs_X} (htr : l.stackTraces = false) (C0 : lw_At p s m meth c sb L xs) (hL : L ≤ 3072) (hXX : X.2.1 3 ≠ X.2.1 2) (hK : gs_T X s) (hE : gs_E X s) (hz : X.2.2 ≤ s.heap.size) (hbA : ¬ gs_A X sb) {rr mo out : Nat} {A : Nat → Nat} {σ : gs_St} {nr : Nat} {cw : Nat → Nat} {Q : List Rl} {E : List En} {Lt : List Nat} {sa : Nat} {nw : Bool} {rc fc : Nat} {dr : Option Dr} {F : List (Nat × Nat)} {T : List MT} {QM : List MR} {drM : Option MR} {cd : Nat} {f : Nat → Int64} (hR : rrA X σ (out :: aM mo A) rr nr cw Q E Lt sa nw rc fc dr) (hM : moA X σ mo A cd nr cw F T sa rc QM drM) (hRL : RL nr cw Q E Lt sa nw rc fc dr F T QM drM) (ho : σ out = some (gs_la X 1 f)) {i cells slots : Nat} (hi : i + 6 ≤ L) (hce : cells + 6 ≤ 601024) (hsl : slots + 64 ≤ 7293034)  (hok : wi nr (xs (i + 1)) = false) (kk : ∀ (σ' : gs_St) (H : Heap) (locs : List Loc), LI RL X σ' rr mo out A → gs_H X σ' H → va_S (gs_A X) s.heap H locs → ∀ ls, lv_has ls 7 [(4, .int (nI i)), (3, .ref out), (2, .ref mo), (1, .ref rr), (0, .ref sb)] → W p l e room_1 s m #[Value.ref sb] below meth c H locs (cells + 6) (slots + 64) (lw_Z below #[Value.ref sb] s) (F0 m 1085 ls [])) {H : Heap} {locs : List Loc} (hG : gs_H X σ H) (hS : va_S (gs_A X) s.heap H locs) {ls : Array Slot} (hl : lv_has ls 7 [(4, .int (nI i)), (3, .ref out), (2, .ref mo), (1, .ref rr), (0, .ref sb)]) : W p l e room_1 s m #[Value.ref sb] below meth c H locs cells slots (lw_Z below #[Value.ref sb] s) (F0 m 857 ls []) := by
  obtain ⟨hx, hb, hr, hml, hown, hts0, hX, hbl, hlocks, hgv⟩ := id C0
  have ht : ∀ w ∈ gs_w, w.before #[Value.ref sb] s = true := fun w h => hts0 w (List.mem_filter.mp h).1
  have hts : ∀ w ∈ (Cond.initialized "RuleRoundsLaw") :: gs_w, w.before #[Value.ref sb] s = true := fun w h => by
    rcases List.mem_cons.mp h with z | z
    · rw [z]; exact ht _ w_0
    · exact ht w z
  obtain ⟨gs, x0⟩ := hR.cell
  obtain ⟨Z, m0, z0⟩ := hM.cell
  have q0 := h0 _ _ _ _ _ _ _ _ _ _ _ _ _ _ hRL
  refine lv_aload_n hx hb d_LA_law_857 rfl (lv_at hl 3 rfl) ?_
  refine lv_aload_n hx hb d_LA_law_858 rfl (lv_at hl 4 rfl) ?_
  refine lv_iload hx hb d_LA_law_859 (lv_at hl 0 rfl) ?_
  refine lv_iconst (v := nI 1) hx hb d_LA_law_861 (by decide) ?_
  refine lv_iadd hx hb d_LA_law_862 ?_
  refine gs_top (nI_add i 1) ?_
  refine gs_sld hx hb hX hbl hbA hS (j := i + 1) (by omega) (by omega) d_LA_law_863 ?_
  refine lv_aload_n hx hb d_LA_law_864 rfl (lv_at hl 4 rfl) ?_
  refine lv_iload hx hb d_LA_law_865 (lv_at hl 0 rfl) ?_
  refine lv_iconst (v := nI 2) hx hb d_LA_law_867 (by decide) ?_
  refine lv_iadd hx hb d_LA_law_868 ?_
  refine gs_top (nI_add i 2) ?_
  refine gs_sld hx hb hX hbl hbA hS (j := i + 2) (by omega) (by omega) d_LA_law_869 ?_
  refine lv_aload_n hx hb d_LA_law_870 rfl (lv_at hl 4 rfl) ?_
  refine lv_iload hx hb d_LA_law_871 (lv_at hl 0 rfl) ?_
  refine lv_iconst (v := nI 3) hx hb d_LA_law_873 (by decide) ?_
  refine lv_iadd hx hb d_LA_law_874 ?_
  refine gs_top (nI_add i 3) ?_
  refine gs_sld hx hb hX hbl hbA hS (j := i + 3) (by omega) (by omega) d_LA_law_875 ?_
  refine lv_aload_n hx hb d_LA_law_876 rfl (lv_at hl 1 rfl) ?_
  refine gs_callSiH (As := [.ref rr, .int (xs (i + 1)), .int (xs (i + 2)), .int (xs (i + 3)), .ref out]) (rest := []) ⟨hx, hb, hml, hown, hts⟩ hK hE hz hG hS (c_LA_tuple_xI l X σ rr out gs _ (xs (i + 1)) (xs (i + 2)) (xs (i + 3)) x0 ⟨by decide, by decide, by decide, by decide⟩ (c_rr_tuple_r l hR htr hok)) mSH_LA_tuple w_610 rfl hl.1 rfl (Nat.le_of_ble_eq_true rfl) ⟨by decide, by decide⟩ ⟨(by first | (show cells + 6 ≤ 601024; omega) | (show cells ≤ 601024; omega)), (by first | (show slots + 64 ≤ 7293034; omega) | (show slots ≤ 7293034; omega))⟩ d_LA_law_877 (fun r_877 σ_877 H locs hp_877 hG hS => ?_)
  refine gs_top hp_877.1 ?_
  rw [hp_877.2] at hG
  refine lv_istore (lv' := [(5, .int (nI 1)), (4, .int (nI i)), (3, .ref out), (2, .ref mo), (1, .ref rr), (0, .ref sb)]) hx hb d_LA_law_880 hl (by decide) rfl (fun ls hl => ?_)
  refine lv_aload_n hx hb d_LA_law_882 rfl (lv_at hl 3 rfl) ?_
  refine lv_aload_n hx hb d_LA_law_883 rfl (lv_at hl 5 rfl) ?_
  refine lv_iload hx hb d_LA_law_884 (lv_at hl 1 rfl) ?_
  refine lv_iconst (v := nI 1) hx hb d_LA_law_886 (by decide) ?_
  refine lv_iadd hx hb d_LA_law_887 ?_
  refine gs_top (nI_add i 1) ?_
  refine gs_sld hx hb hX hbl hbA hS (j := i + 1) (by omega) (by omega) d_LA_law_888 ?_
  refine lv_aload_n hx hb d_LA_law_889 rfl (lv_at hl 5 rfl) ?_
  refine lv_iload hx hb d_LA_law_890 (lv_at hl 1 rfl) ?_
  refine lv_iconst (v := nI 2) hx hb d_LA_law_892 (by decide) ?_
  refine lv_iadd hx hb d_LA_law_893 ?_
  refine gs_top (nI_add i 2) ?_
  refine gs_sld hx hb hX hbl hbA hS (j := i + 2) (by omega) (by omega) d_LA_law_894 ?_
  refine lv_aload_n hx hb d_LA_law_895 rfl (lv_at hl 5 rfl) ?_
  refine lv_iload hx hb d_LA_law_896 (lv_at hl 1 rfl) ?_
  refine lv_iconst (v := nI 3) hx hb d_LA_law_898 (by decide) ?_
  refine lv_iadd hx hb d_LA_law_899 ?_
  refine gs_top (nI_add i 3) ?_
  refine gs_sld hx hb hX hbl hbA hS (j := i + 3) (by omega) (by omega) d_LA_law_900 ?_
  refine gs_callVi (As := [.int (xs (i + 1)), .int (xs (i + 2)), .int (xs (i + 3))]) (rest := []) ⟨hx, hb, hml, hown, hts⟩ hK hE hz hG hS (c_MO_tuple_t l X σ mo A cd nr cw F T sa rc QM drM (xs (i + 1)) (xs (i + 2)) (xs (i + 3)) hM (fun z => by rw [hok] at z; cases z.1)) mV_MO_tuple w_888 m0 rfl rfl hl.1 rfl (Nat.le_of_ble_eq_true rfl) ⟨by decide, by decide⟩ ⟨(by first | (show cells + 6 ≤ 601024; omega) | (show cells ≤ 601024; omega)), (by first | (show slots + 64 ≤ 7293034; omega) | (show slots ≤ 7293034; omega))⟩ d_LA_law_901 (fun r_901 σ_901 H locs hp_901 hG hS => ?_)
  obtain ⟨hM3, hf3, er3⟩ := hp_901
  have hR3 := hR.mdl (hM.gG ho) hf3
  have ho3 := hf3 _ _ (out_nin hM ho) ho
  obtain ⟨Z3, m03, z03⟩ := hM3.cell
  refine gs_top er3 ?_
  refine lv_istore (lv' := [(6, .int (nI 0)), (5, .int (nI 1)), (4, .int (nI i)), (3, .ref out), (2, .ref mo), (1, .ref rr), (0, .ref sb)]) hx hb d_LA_law_904 hl (by decide) rfl (fun ls hl => ?_)
  refine lv_aload_n hx hb d_LA_law_906 rfl (lv_at hl 4 rfl) ?_
  refine gs_callVp (As := []) (rest := []) ⟨hx, hb, hml, hown, hts⟩ hK hE hz hG hS (c_MO_thrown l X σ_901 mo A Z3 m03) ⟨rfl, rfl⟩ mV_MO_thrown w_757 m03 rfl rfl hl.1 rfl (Nat.le_of_ble_eq_true rfl) ⟨by decide, by decide⟩ ⟨(by first | (show cells + 6 ≤ 601024; omega) | (show cells ≤ 601024; omega)), (by first | (show slots + 64 ≤ 7293034; omega) | (show slots ≤ 7293034; omega))⟩ d_LA_law_907 (fun r_907 hp_907 => ?_)
  refine gs_top (show r_907 = nI 1 from by rw [hp_907, z03]) ?_
  refine lv_iload hx hb d_LA_law_910 (lv_at hl 1 rfl) ?_
  refine lv_icmp_eq (tgt := 917) hx hb d_LA_law_912 (by decide) (fun c_912 => ?_) (fun c_912 => ?_)
  · have c_912 : 1 = 1 :=  (nI_eq (by omega) (by omega)).mp c_912
    refine lv_iload hx hb d_LA_law_917 (lv_at hl 1 rfl) ?_
    refine lv_if_ne (tgt := 934) hx hb d_LA_law_919 (by decide) (fun c_919 => ?_) (fun c_919 => ?_)
    · have c_919 : ¬ 1 = 0 := gs_zn (by omega) c_919
      refine lv_goto (tgt := 1085) hx hb d_LA_law_934 (by decide) ?_
      refine W.widen (k := cells + 6) (n := slots + 64) (by first | exact Nat.le_refl _ | exact Nat.le_add_right _ _) (by first | exact Nat.le_refl _ | exact Nat.le_add_right _ _) ?_
      exact kk σ_901 H locs ⟨_, _, _, _, _, _, _, _, _, _, _, _, _, _, _, _, hR3, hM3, hRL, ho3⟩ hG hS ls (lv_sub hl [2, 3, 4, 5, 6] rfl)
    · exact absurd c_919 (by decide)
  · exact absurd c_912 (by decide)
set_option maxHeartbeats 4000000 in
set_option maxRecDepth 100000 in
theorem lb_tuple_t {RL : RLT} (h0 : pe0 RL) (h_pe_tuple : pe_tuple RL) {p : Program} {e : Env} {s : State} {m : MethodId} {below : List Frame} {meth : Method} {c : Code} (l : Launch) {sb L : Nat} {xs : Nat → Int32} {X : gs_X} (htr : l.stackTraces = false) (C0 : lw_At p s m meth c sb L xs) (hL : L ≤ 3072) (hXX : X.2.1 3 ≠ X.2.1 2) (hK : gs_T X s) (hE : gs_E X s) (hz : X.2.2 ≤ s.heap.size) (hbA : ¬ gs_A X sb) {rr mo out : Nat} {A : Nat → Nat} {σ : gs_St} {nr : Nat} {cw : Nat → Nat} {Q : List Rl} {E : List En} {Lt : List Nat} {sa : Nat} {nw : Bool} {rc fc : Nat} {dr : Option Dr} {F : List (Nat × Nat)} {T : List MT} {QM : List MR} {drM : Option MR} {cd : Nat} {f : Nat → Int64} (hR : rrA X σ (out :: aM mo A) rr nr cw Q E Lt sa nw rc fc dr) (hM : moA X σ mo A cd nr cw F T sa rc QM drM) (hRL : RL nr cw Q E Lt sa nw rc fc dr F T QM drM) (ho : σ out = some (gs_la X 1 f)) {i cells slots : Nat} (hi : i + 6 ≤ L) (hce : cells + 6 ≤ 601024) (hsl : slots + 64 ≤ 7293034) {rl : Nat} (e1 : xs (i + 1) = nI rl) (hrl : rl < nr) (hok : ¬ (atT T (nI rl) (xs (i + 2)) T.length).isSome = true) (kk : ∀ (σ' : gs_St) (H : Heap) (locs : List Loc), LI RL X σ' rr mo out A → gs_H X σ' H → va_S (gs_A X) s.heap H locs → ∀ ls, lv_has ls 7 [(4, .int (nI i)), (3, .ref out), (2, .ref mo), (1, .ref rr), (0, .ref sb)] → W p l e room_1 s m #[Value.ref sb] below meth c H locs (cells + 6) (slots + 64) (lw_Z below #[Value.ref sb] s) (F0 m 1085 ls [])) {H : Heap} {locs : List Loc} (hG : gs_H X σ H) (hS : va_S (gs_A X) s.heap H locs) {ls : Array Slot} (hl : lv_has ls 7 [(4, .int (nI i)), (3, .ref out), (2, .ref mo), (1, .ref rr), (0, .ref sb)]) : W p l e room_1 s m #[Value.ref sb] below meth c H locs cells slots (lw_Z below #[Value.ref sb] s) (F0 m 857 ls []) := by
  obtain ⟨hx, hb, hr, hml, hown, hts0, hX, hbl, hlocks, hgv⟩ := id C0
  have ht : ∀ w ∈ gs_w, w.before #[Value.ref sb] s = true := fun w h => hts0 w (List.mem_filter.mp h).1
  have hts : ∀ w ∈ (Cond.initialized "RuleRoundsLaw") :: gs_w, w.before #[Value.ref sb] s = true := fun w h => by
    rcases List.mem_cons.mp h with z | z
    · rw [z]; exact ht _ w_0
    · exact ht w z
  obtain ⟨gs, x0⟩ := hR.cell
  obtain ⟨Z, m0, z0⟩ := hM.cell
  have q0 := h0 _ _ _ _ _ _ _ _ _ _ _ _ _ _ hRL
  refine lv_aload_n hx hb d_LA_law_857 rfl (lv_at hl 3 rfl) ?_
  refine lv_aload_n hx hb d_LA_law_858 rfl (lv_at hl 4 rfl) ?_
  refine lv_iload hx hb d_LA_law_859 (lv_at hl 0 rfl) ?_
  refine lv_iconst (v := nI 1) hx hb d_LA_law_861 (by decide) ?_
  refine lv_iadd hx hb d_LA_law_862 ?_
  refine gs_top (nI_add i 1) ?_
  refine gs_sld hx hb hX hbl hbA hS (j := i + 1) (by omega) (by omega) d_LA_law_863 ?_
  refine gs_top (show xs (i + 1) = (nI rl) from e1) ?_
  refine lv_aload_n hx hb d_LA_law_864 rfl (lv_at hl 4 rfl) ?_
  refine lv_iload hx hb d_LA_law_865 (lv_at hl 0 rfl) ?_
  refine lv_iconst (v := nI 2) hx hb d_LA_law_867 (by decide) ?_
  refine lv_iadd hx hb d_LA_law_868 ?_
  refine gs_top (nI_add i 2) ?_
  refine gs_sld hx hb hX hbl hbA hS (j := i + 2) (by omega) (by omega) d_LA_law_869 ?_
  refine lv_aload_n hx hb d_LA_law_870 rfl (lv_at hl 4 rfl) ?_
  refine lv_iload hx hb d_LA_law_871 (lv_at hl 0 rfl) ?_
  refine lv_iconst (v := nI 3) hx hb d_LA_law_873 (by decide) ?_
  refine lv_iadd hx hb d_LA_law_874 ?_
  refine gs_top (nI_add i 3) ?_
  refine gs_sld hx hb hX hbl hbA hS (j := i + 3) (by omega) (by omega) d_LA_law_875 ?_
  refine lv_aload_n hx hb d_LA_law_876 rfl (lv_at hl 1 rfl) ?_
  refine gs_callSiH (As := [.ref rr, .int (nI rl), .int (xs (i + 2)), .int (xs (i + 3)), .ref out]) (rest := []) ⟨hx, hb, hml, hown, hts⟩ hK hE hz hG hS (c_LA_tuple_xI l X σ rr out gs _ (nI rl) (xs (i + 2)) (xs (i + 3)) x0 ⟨by decide, by decide, by decide, by decide⟩ (c_rr_tuple_t l hR htr hrl (fun z => hok (((h_pe_tuple _ _ _ _ _ _ _ _ _ _ _ _ _ _ hRL rl hrl).1 _).mp z)))) mSH_LA_tuple w_610 rfl hl.1 rfl (Nat.le_of_ble_eq_true rfl) ⟨by decide, by decide⟩ ⟨(by first | (show cells + 6 ≤ 601024; omega) | (show cells ≤ 601024; omega)), (by first | (show slots + 64 ≤ 7293034; omega) | (show slots ≤ 7293034; omega))⟩ d_LA_law_877 (fun r_877 σ_877 H locs hp_877 hG hS => ?_)
  refine gs_top hp_877.1 ?_
  rw [hp_877.2] at hG
  refine lv_istore (lv' := [(5, .int (nI 1)), (4, .int (nI i)), (3, .ref out), (2, .ref mo), (1, .ref rr), (0, .ref sb)]) hx hb d_LA_law_880 hl (by decide) rfl (fun ls hl => ?_)
  refine lv_aload_n hx hb d_LA_law_882 rfl (lv_at hl 3 rfl) ?_
  refine lv_aload_n hx hb d_LA_law_883 rfl (lv_at hl 5 rfl) ?_
  refine lv_iload hx hb d_LA_law_884 (lv_at hl 1 rfl) ?_
  refine lv_iconst (v := nI 1) hx hb d_LA_law_886 (by decide) ?_
  refine lv_iadd hx hb d_LA_law_887 ?_
  refine gs_top (nI_add i 1) ?_
  refine gs_sld hx hb hX hbl hbA hS (j := i + 1) (by omega) (by omega) d_LA_law_888 ?_
  refine gs_top (show xs (i + 1) = (nI rl) from e1) ?_
  refine lv_aload_n hx hb d_LA_law_889 rfl (lv_at hl 5 rfl) ?_
  refine lv_iload hx hb d_LA_law_890 (lv_at hl 1 rfl) ?_
  refine lv_iconst (v := nI 2) hx hb d_LA_law_892 (by decide) ?_
  refine lv_iadd hx hb d_LA_law_893 ?_
  refine gs_top (nI_add i 2) ?_
  refine gs_sld hx hb hX hbl hbA hS (j := i + 2) (by omega) (by omega) d_LA_law_894 ?_
  refine lv_aload_n hx hb d_LA_law_895 rfl (lv_at hl 5 rfl) ?_
  refine lv_iload hx hb d_LA_law_896 (lv_at hl 1 rfl) ?_
  refine lv_iconst (v := nI 3) hx hb d_LA_law_898 (by decide) ?_
  refine lv_iadd hx hb d_LA_law_899 ?_
  refine gs_top (nI_add i 3) ?_
  refine gs_sld hx hb hX hbl hbA hS (j := i + 3) (by omega) (by omega) d_LA_law_900 ?_
  refine gs_callVi (As := [.int (nI rl), .int (xs (i + 2)), .int (xs (i + 3))]) (rest := []) ⟨hx, hb, hml, hown, hts⟩ hK hE hz hG hS (c_MO_tuple_t l X σ mo A cd nr cw F T sa rc QM drM (nI rl) (xs (i + 2)) (xs (i + 3)) hM (fun z => hok z.2.1)) mV_MO_tuple w_888 m0 rfl rfl hl.1 rfl (Nat.le_of_ble_eq_true rfl) ⟨by decide, by decide⟩ ⟨(by first | (show cells + 6 ≤ 601024; omega) | (show cells ≤ 601024; omega)), (by first | (show slots + 64 ≤ 7293034; omega) | (show slots ≤ 7293034; omega))⟩ d_LA_law_901 (fun r_901 σ_901 H locs hp_901 hG hS => ?_)
  obtain ⟨hM3, hf3, er3⟩ := hp_901
  have hR3 := hR.mdl (hM.gG ho) hf3
  have ho3 := hf3 _ _ (out_nin hM ho) ho
  obtain ⟨Z3, m03, z03⟩ := hM3.cell
  refine gs_top er3 ?_
  refine lv_istore (lv' := [(6, .int (nI 0)), (5, .int (nI 1)), (4, .int (nI i)), (3, .ref out), (2, .ref mo), (1, .ref rr), (0, .ref sb)]) hx hb d_LA_law_904 hl (by decide) rfl (fun ls hl => ?_)
  refine lv_aload_n hx hb d_LA_law_906 rfl (lv_at hl 4 rfl) ?_
  refine gs_callVp (As := []) (rest := []) ⟨hx, hb, hml, hown, hts⟩ hK hE hz hG hS (c_MO_thrown l X σ_901 mo A Z3 m03) ⟨rfl, rfl⟩ mV_MO_thrown w_757 m03 rfl rfl hl.1 rfl (Nat.le_of_ble_eq_true rfl) ⟨by decide, by decide⟩ ⟨(by first | (show cells + 6 ≤ 601024; omega) | (show cells ≤ 601024; omega)), (by first | (show slots + 64 ≤ 7293034; omega) | (show slots ≤ 7293034; omega))⟩ d_LA_law_907 (fun r_907 hp_907 => ?_)
  refine gs_top (show r_907 = nI 1 from by rw [hp_907, z03]) ?_
  refine lv_iload hx hb d_LA_law_910 (lv_at hl 1 rfl) ?_
  refine lv_icmp_eq (tgt := 917) hx hb d_LA_law_912 (by decide) (fun c_912 => ?_) (fun c_912 => ?_)
  · have c_912 : 1 = 1 :=  (nI_eq (by omega) (by omega)).mp c_912
    refine lv_iload hx hb d_LA_law_917 (lv_at hl 1 rfl) ?_
    refine lv_if_ne (tgt := 934) hx hb d_LA_law_919 (by decide) (fun c_919 => ?_) (fun c_919 => ?_)
    · have c_919 : ¬ 1 = 0 := gs_zn (by omega) c_919
      refine lv_goto (tgt := 1085) hx hb d_LA_law_934 (by decide) ?_
      refine W.widen (k := cells + 6) (n := slots + 64) (by first | exact Nat.le_refl _ | exact Nat.le_add_right _ _) (by first | exact Nat.le_refl _ | exact Nat.le_add_right _ _) ?_
      exact kk σ_901 H locs ⟨_, _, _, _, _, _, _, _, _, _, _, _, _, _, _, _, hR3, hM3, hRL, ho3⟩ hG hS ls (lv_sub hl [2, 3, 4, 5, 6] rfl)
    · exact absurd c_919 (by decide)
  · exact absurd c_912 (by decide)
set_option maxHeartbeats 4000000 in
set_option maxRecDepth 100000 in
theorem lb_tuple_w {RL : RLT} (h0 : pe0 RL) {p : Program} {e : Env} {s : State} {m : MethodId} {below : List Frame} {meth : Method} {c : Code} (l : Launch) {sb L : Nat} {xs : Nat → Int32} {X : gs_X} (htr : l.stackTraces = false) (C0 : lw_At p s m meth c sb L xs) (hL : L ≤ 3072) (hXX : X.2.1 3 ≠ X.2.1 2) (hK : gs_T X s) (hE : gs_E X s) (hz : X.2.2 ≤ s.heap.size) (hbA : ¬ gs_A X sb) {rr mo out : Nat} {A : Nat → Nat} {σ : gs_St} {nr : Nat} {cw : Nat → Nat} {Q : List Rl} {E : List En} {Lt : List Nat} {sa : Nat} {nw : Bool} {rc fc : Nat} {dr : Option Dr} {F : List (Nat × Nat)} {T : List MT} {QM : List MR} {drM : Option MR} {cd : Nat} {f : Nat → Int64} (hR : rrA X σ (out :: aM mo A) rr nr cw Q E Lt sa nw rc fc dr) (hM : moA X σ mo A cd nr cw F T sa rc QM drM) (hRL : RL nr cw Q E Lt sa nw rc fc dr F T QM drM) (ho : σ out = some (gs_la X 1 f)) {i cells slots : Nat} (hi : i + 6 ≤ L) (hce : cells + 6 ≤ 601024) (hsl : slots + 64 ≤ 7293034) {rl pl : Nat} (e1 : xs (i + 1) = nI rl) (hrl : rl < nr) (e2 : xs (i + 2) = nI pl) (hpl : pl < cb (cds E) ((rl + 1) * 262144) - cb (cds E) (rl * 262144)) (hok : (xs (i + 3)).toInt < 0 ∨ 4 < (xs (i + 3)).toInt) (hok2 : ¬ (¬ xs (i + 3) < 0 ∧ xs (i + 3) ≤ nI 4)) (kk : ∀ (σ' : gs_St) (H : Heap) (locs : List Loc), LI RL X σ' rr mo out A → gs_H X σ' H → va_S (gs_A X) s.heap H locs → ∀ ls, lv_has ls 7 [(4, .int (nI i)), (3, .ref out), (2, .ref mo), (1, .ref rr), (0, .ref sb)] → W p l e room_1 s m #[Value.ref sb] below meth c H locs (cells + 6) (slots + 64) (lw_Z below #[Value.ref sb] s) (F0 m 1085 ls [])) {H : Heap} {locs : List Loc} (hG : gs_H X σ H) (hS : va_S (gs_A X) s.heap H locs) {ls : Array Slot} (hl : lv_has ls 7 [(4, .int (nI i)), (3, .ref out), (2, .ref mo), (1, .ref rr), (0, .ref sb)]) : W p l e room_1 s m #[Value.ref sb] below meth c H locs cells slots (lw_Z below #[Value.ref sb] s) (F0 m 857 ls []) := by
  obtain ⟨hx, hb, hr, hml, hown, hts0, hX, hbl, hlocks, hgv⟩ := id C0
  have ht : ∀ w ∈ gs_w, w.before #[Value.ref sb] s = true := fun w h => hts0 w (List.mem_filter.mp h).1
  have hts : ∀ w ∈ (Cond.initialized "RuleRoundsLaw") :: gs_w, w.before #[Value.ref sb] s = true := fun w h => by
    rcases List.mem_cons.mp h with z | z
    · rw [z]; exact ht _ w_0
    · exact ht w z
  obtain ⟨gs, x0⟩ := hR.cell
  obtain ⟨Z, m0, z0⟩ := hM.cell
  have q0 := h0 _ _ _ _ _ _ _ _ _ _ _ _ _ _ hRL
  refine lv_aload_n hx hb d_LA_law_857 rfl (lv_at hl 3 rfl) ?_
  refine lv_aload_n hx hb d_LA_law_858 rfl (lv_at hl 4 rfl) ?_
  refine lv_iload hx hb d_LA_law_859 (lv_at hl 0 rfl) ?_
  refine lv_iconst (v := nI 1) hx hb d_LA_law_861 (by decide) ?_
  refine lv_iadd hx hb d_LA_law_862 ?_
  refine gs_top (nI_add i 1) ?_
  refine gs_sld hx hb hX hbl hbA hS (j := i + 1) (by omega) (by omega) d_LA_law_863 ?_
  refine gs_top (show xs (i + 1) = (nI rl) from e1) ?_
  refine lv_aload_n hx hb d_LA_law_864 rfl (lv_at hl 4 rfl) ?_
  refine lv_iload hx hb d_LA_law_865 (lv_at hl 0 rfl) ?_
  refine lv_iconst (v := nI 2) hx hb d_LA_law_867 (by decide) ?_
  refine lv_iadd hx hb d_LA_law_868 ?_
  refine gs_top (nI_add i 2) ?_
  refine gs_sld hx hb hX hbl hbA hS (j := i + 2) (by omega) (by omega) d_LA_law_869 ?_
  refine gs_top (show xs (i + 2) = (nI pl) from e2) ?_
  refine lv_aload_n hx hb d_LA_law_870 rfl (lv_at hl 4 rfl) ?_
  refine lv_iload hx hb d_LA_law_871 (lv_at hl 0 rfl) ?_
  refine lv_iconst (v := nI 3) hx hb d_LA_law_873 (by decide) ?_
  refine lv_iadd hx hb d_LA_law_874 ?_
  refine gs_top (nI_add i 3) ?_
  refine gs_sld hx hb hX hbl hbA hS (j := i + 3) (by omega) (by omega) d_LA_law_875 ?_
  refine lv_aload_n hx hb d_LA_law_876 rfl (lv_at hl 1 rfl) ?_
  refine gs_callSiH (As := [.ref rr, .int (nI rl), .int (nI pl), .int (xs (i + 3)), .ref out]) (rest := []) ⟨hx, hb, hml, hown, hts⟩ hK hE hz hG hS (c_LA_tuple_xI l X σ rr out gs _ (nI rl) (nI pl) (xs (i + 3)) x0 ⟨by decide, by decide, by decide, by decide⟩ (c_rr_tuple_w l hR htr hrl hpl hok)) mSH_LA_tuple w_610 rfl hl.1 rfl (Nat.le_of_ble_eq_true rfl) ⟨by decide, by decide⟩ ⟨(by first | (show cells + 6 ≤ 601024; omega) | (show cells ≤ 601024; omega)), (by first | (show slots + 64 ≤ 7293034; omega) | (show slots ≤ 7293034; omega))⟩ d_LA_law_877 (fun r_877 σ_877 H locs hp_877 hG hS => ?_)
  refine gs_top hp_877.1 ?_
  rw [hp_877.2] at hG
  refine lv_istore (lv' := [(5, .int (nI 1)), (4, .int (nI i)), (3, .ref out), (2, .ref mo), (1, .ref rr), (0, .ref sb)]) hx hb d_LA_law_880 hl (by decide) rfl (fun ls hl => ?_)
  refine lv_aload_n hx hb d_LA_law_882 rfl (lv_at hl 3 rfl) ?_
  refine lv_aload_n hx hb d_LA_law_883 rfl (lv_at hl 5 rfl) ?_
  refine lv_iload hx hb d_LA_law_884 (lv_at hl 1 rfl) ?_
  refine lv_iconst (v := nI 1) hx hb d_LA_law_886 (by decide) ?_
  refine lv_iadd hx hb d_LA_law_887 ?_
  refine gs_top (nI_add i 1) ?_
  refine gs_sld hx hb hX hbl hbA hS (j := i + 1) (by omega) (by omega) d_LA_law_888 ?_
  refine gs_top (show xs (i + 1) = (nI rl) from e1) ?_
  refine lv_aload_n hx hb d_LA_law_889 rfl (lv_at hl 5 rfl) ?_
  refine lv_iload hx hb d_LA_law_890 (lv_at hl 1 rfl) ?_
  refine lv_iconst (v := nI 2) hx hb d_LA_law_892 (by decide) ?_
  refine lv_iadd hx hb d_LA_law_893 ?_
  refine gs_top (nI_add i 2) ?_
  refine gs_sld hx hb hX hbl hbA hS (j := i + 2) (by omega) (by omega) d_LA_law_894 ?_
  refine gs_top (show xs (i + 2) = (nI pl) from e2) ?_
  refine lv_aload_n hx hb d_LA_law_895 rfl (lv_at hl 5 rfl) ?_
  refine lv_iload hx hb d_LA_law_896 (lv_at hl 1 rfl) ?_
  refine lv_iconst (v := nI 3) hx hb d_LA_law_898 (by decide) ?_
  refine lv_iadd hx hb d_LA_law_899 ?_
  refine gs_top (nI_add i 3) ?_
  refine gs_sld hx hb hX hbl hbA hS (j := i + 3) (by omega) (by omega) d_LA_law_900 ?_
  refine gs_callVi (As := [.int (nI rl), .int (nI pl), .int (xs (i + 3))]) (rest := []) ⟨hx, hb, hml, hown, hts⟩ hK hE hz hG hS (c_MO_tuple_t l X σ mo A cd nr cw F T sa rc QM drM (nI rl) (nI pl) (xs (i + 3)) hM (fun z => hok2 z.2.2)) mV_MO_tuple w_888 m0 rfl rfl hl.1 rfl (Nat.le_of_ble_eq_true rfl) ⟨by decide, by decide⟩ ⟨(by first | (show cells + 6 ≤ 601024; omega) | (show cells ≤ 601024; omega)), (by first | (show slots + 64 ≤ 7293034; omega) | (show slots ≤ 7293034; omega))⟩ d_LA_law_901 (fun r_901 σ_901 H locs hp_901 hG hS => ?_)
  obtain ⟨hM3, hf3, er3⟩ := hp_901
  have hR3 := hR.mdl (hM.gG ho) hf3
  have ho3 := hf3 _ _ (out_nin hM ho) ho
  obtain ⟨Z3, m03, z03⟩ := hM3.cell
  refine gs_top er3 ?_
  refine lv_istore (lv' := [(6, .int (nI 0)), (5, .int (nI 1)), (4, .int (nI i)), (3, .ref out), (2, .ref mo), (1, .ref rr), (0, .ref sb)]) hx hb d_LA_law_904 hl (by decide) rfl (fun ls hl => ?_)
  refine lv_aload_n hx hb d_LA_law_906 rfl (lv_at hl 4 rfl) ?_
  refine gs_callVp (As := []) (rest := []) ⟨hx, hb, hml, hown, hts⟩ hK hE hz hG hS (c_MO_thrown l X σ_901 mo A Z3 m03) ⟨rfl, rfl⟩ mV_MO_thrown w_757 m03 rfl rfl hl.1 rfl (Nat.le_of_ble_eq_true rfl) ⟨by decide, by decide⟩ ⟨(by first | (show cells + 6 ≤ 601024; omega) | (show cells ≤ 601024; omega)), (by first | (show slots + 64 ≤ 7293034; omega) | (show slots ≤ 7293034; omega))⟩ d_LA_law_907 (fun r_907 hp_907 => ?_)
  refine gs_top (show r_907 = nI 1 from by rw [hp_907, z03]) ?_
  refine lv_iload hx hb d_LA_law_910 (lv_at hl 1 rfl) ?_
  refine lv_icmp_eq (tgt := 917) hx hb d_LA_law_912 (by decide) (fun c_912 => ?_) (fun c_912 => ?_)
  · have c_912 : 1 = 1 :=  (nI_eq (by omega) (by omega)).mp c_912
    refine lv_iload hx hb d_LA_law_917 (lv_at hl 1 rfl) ?_
    refine lv_if_ne (tgt := 934) hx hb d_LA_law_919 (by decide) (fun c_919 => ?_) (fun c_919 => ?_)
    · have c_919 : ¬ 1 = 0 := gs_zn (by omega) c_919
      refine lv_goto (tgt := 1085) hx hb d_LA_law_934 (by decide) ?_
      refine W.widen (k := cells + 6) (n := slots + 64) (by first | exact Nat.le_refl _ | exact Nat.le_add_right _ _) (by first | exact Nat.le_refl _ | exact Nat.le_add_right _ _) ?_
      exact kk σ_901 H locs ⟨_, _, _, _, _, _, _, _, _, _, _, _, _, _, _, _, hR3, hM3, hRL, ho3⟩ hG hS ls (lv_sub hl [2, 3, 4, 5, 6] rfl)
    · exact absurd c_919 (by decide)
  · exact absurd c_912 (by decide)
set_option maxHeartbeats 4000000 in
set_option maxRecDepth 100000 in
theorem lb_tuple_ok {RL : RLT} (h0 : pe0 RL) (h_pe_tuple : pe_tuple RL) {p : Program} {e : Env} {s : State} {m : MethodId} {below : List Frame} {meth : Method} {c : Code} (l : Launch) {sb L : Nat} {xs : Nat → Int32} {X : gs_X} (htr : l.stackTraces = false) (C0 : lw_At p s m meth c sb L xs) (hL : L ≤ 3072) (hXX : X.2.1 3 ≠ X.2.1 2) (hK : gs_T X s) (hE : gs_E X s) (hz : X.2.2 ≤ s.heap.size) (hbA : ¬ gs_A X sb) {rr mo out : Nat} {A : Nat → Nat} {σ : gs_St} {nr : Nat} {cw : Nat → Nat} {Q : List Rl} {E : List En} {Lt : List Nat} {sa : Nat} {nw : Bool} {rc fc : Nat} {dr : Option Dr} {F : List (Nat × Nat)} {T : List MT} {QM : List MR} {drM : Option MR} {cd : Nat} {f : Nat → Int64} (hR : rrA X σ (out :: aM mo A) rr nr cw Q E Lt sa nw rc fc dr) (hM : moA X σ mo A cd nr cw F T sa rc QM drM) (hRL : RL nr cw Q E Lt sa nw rc fc dr F T QM drM) (ho : σ out = some (gs_la X 1 f)) {i cells slots : Nat} (hi : i + 6 ≤ L) (hce : cells + 6 ≤ 601024) (hsl : slots + 64 ≤ 7293034) {rl pl wh k9 : Nat} {x9 : MT} (e1 : xs (i + 1) = nI rl) (hrl : rl < nr) (e2 : xs (i + 2) = nI pl) (e3 : xs (i + 3) = nI wh) (hpl : pl < cb (cds E) ((rl + 1) * 262144) - cb (cds E) (rl * 262144)) (hwh : wh < 5) (hat : atT T (nI rl) (nI pl) T.length = some k9) (hx9 : T[k9]? = some x9) (kk : ∀ (σ' : gs_St) (H : Heap) (locs : List Loc), LI RL X σ' rr mo out A → gs_H X σ' H → va_S (gs_A X) s.heap H locs → ∀ ls, lv_has ls 7 [(4, .int (nI i)), (3, .ref out), (2, .ref mo), (1, .ref rr), (0, .ref sb)] → W p l e room_1 s m #[Value.ref sb] below meth c H locs (cells + 6) (slots + 64) (lw_Z below #[Value.ref sb] s) (F0 m 1085 ls [])) {H : Heap} {locs : List Loc} (hG : gs_H X σ H) (hS : va_S (gs_A X) s.heap H locs) {ls : Array Slot} (hl : lv_has ls 7 [(4, .int (nI i)), (3, .ref out), (2, .ref mo), (1, .ref rr), (0, .ref sb)]) : W p l e room_1 s m #[Value.ref sb] below meth c H locs cells slots (lw_Z below #[Value.ref sb] s) (F0 m 857 ls []) := by
  obtain ⟨hx, hb, hr, hml, hown, hts0, hX, hbl, hlocks, hgv⟩ := id C0
  have ht : ∀ w ∈ gs_w, w.before #[Value.ref sb] s = true := fun w h => hts0 w (List.mem_filter.mp h).1
  have hts : ∀ w ∈ (Cond.initialized "RuleRoundsLaw") :: gs_w, w.before #[Value.ref sb] s = true := fun w h => by
    rcases List.mem_cons.mp h with z | z
    · rw [z]; exact ht _ w_0
    · exact ht w z
  obtain ⟨gs, x0⟩ := hR.cell
  obtain ⟨Z, m0, z0⟩ := hM.cell
  have q0 := h0 _ _ _ _ _ _ _ _ _ _ _ _ _ _ hRL
  refine lv_aload_n hx hb d_LA_law_857 rfl (lv_at hl 3 rfl) ?_
  refine lv_aload_n hx hb d_LA_law_858 rfl (lv_at hl 4 rfl) ?_
  refine lv_iload hx hb d_LA_law_859 (lv_at hl 0 rfl) ?_
  refine lv_iconst (v := nI 1) hx hb d_LA_law_861 (by decide) ?_
  refine lv_iadd hx hb d_LA_law_862 ?_
  refine gs_top (nI_add i 1) ?_
  refine gs_sld hx hb hX hbl hbA hS (j := i + 1) (by omega) (by omega) d_LA_law_863 ?_
  refine gs_top (show xs (i + 1) = (nI rl) from e1) ?_
  refine lv_aload_n hx hb d_LA_law_864 rfl (lv_at hl 4 rfl) ?_
  refine lv_iload hx hb d_LA_law_865 (lv_at hl 0 rfl) ?_
  refine lv_iconst (v := nI 2) hx hb d_LA_law_867 (by decide) ?_
  refine lv_iadd hx hb d_LA_law_868 ?_
  refine gs_top (nI_add i 2) ?_
  refine gs_sld hx hb hX hbl hbA hS (j := i + 2) (by omega) (by omega) d_LA_law_869 ?_
  refine gs_top (show xs (i + 2) = (nI pl) from e2) ?_
  refine lv_aload_n hx hb d_LA_law_870 rfl (lv_at hl 4 rfl) ?_
  refine lv_iload hx hb d_LA_law_871 (lv_at hl 0 rfl) ?_
  refine lv_iconst (v := nI 3) hx hb d_LA_law_873 (by decide) ?_
  refine lv_iadd hx hb d_LA_law_874 ?_
  refine gs_top (nI_add i 3) ?_
  refine gs_sld hx hb hX hbl hbA hS (j := i + 3) (by omega) (by omega) d_LA_law_875 ?_
  refine gs_top (show xs (i + 3) = (nI wh) from e3) ?_
  refine lv_aload_n hx hb d_LA_law_876 rfl (lv_at hl 1 rfl) ?_
  refine gs_callSiH (As := [.ref rr, .int (nI rl), .int (nI pl), .int (nI wh), .ref out]) (rest := []) ⟨hx, hb, hml, hown, hts⟩ hK hE hz hG hS (c_LA_tuple l X σ rr out gs _ f (nI rl) (nI pl) (nI wh) _ x0 ⟨by decide, by decide, by decide, by decide⟩ (c_rr_tuple l hR hrl hpl hwh) (fun r9 σ9 z => by rw [z.2]; exact ho)) mSH_LA_tuple w_610 rfl hl.1 rfl (Nat.le_of_ble_eq_true rfl) ⟨by decide, by decide⟩ ⟨(by first | (show cells + 6 ≤ 601024; omega) | (show cells ≤ 601024; omega)), (by first | (show slots + 64 ≤ 7293034; omega) | (show slots ≤ 7293034; omega))⟩ d_LA_law_877 (fun r_877 σ_877 H locs hp_877 hG hS => ?_)
  obtain ⟨ek, r9, σ9, ⟨hans9, hu9⟩, ev⟩ := hp_877
  have hR9 : rrA X σ9 (out :: aM mo A) rr nr cw Q E Lt sa nw rc fc dr := by rw [hu9]; exact hR
  have hk9 : kG σ σ9 (out :: aM mo A) := fun q _ e he => by rw [hu9]; exact he
  refine gs_top ek ?_
  rw [ev] at hG
  obtain ⟨hR2, hM2⟩ := ans_put (f' := vp_updL f 0 r9.toInt64) hR9 hk9 hM ho
  obtain ⟨σ1, eσ1⟩ : ∃ z, z = gs_up σ9 out (gs_la X 1 (vp_updL f 0 r9.toInt64)) := ⟨_, rfl⟩
  rw [← eσ1] at hG hR2 hM2
  have ho2 : σ1 out = some (gs_la X 1 (vp_updL f 0 r9.toInt64)) := by rw [eσ1]; exact gs_us
  obtain ⟨Z2, m02, z02⟩ := hM2.cell
  refine lv_istore (lv' := [(5, .int (nI 0)), (4, .int (nI i)), (3, .ref out), (2, .ref mo), (1, .ref rr), (0, .ref sb)]) hx hb d_LA_law_880 hl (by decide) rfl (fun ls hl => ?_)
  refine lv_aload_n hx hb d_LA_law_882 rfl (lv_at hl 3 rfl) ?_
  refine lv_aload_n hx hb d_LA_law_883 rfl (lv_at hl 5 rfl) ?_
  refine lv_iload hx hb d_LA_law_884 (lv_at hl 1 rfl) ?_
  refine lv_iconst (v := nI 1) hx hb d_LA_law_886 (by decide) ?_
  refine lv_iadd hx hb d_LA_law_887 ?_
  refine gs_top (nI_add i 1) ?_
  refine gs_sld hx hb hX hbl hbA hS (j := i + 1) (by omega) (by omega) d_LA_law_888 ?_
  refine gs_top (show xs (i + 1) = (nI rl) from e1) ?_
  refine lv_aload_n hx hb d_LA_law_889 rfl (lv_at hl 5 rfl) ?_
  refine lv_iload hx hb d_LA_law_890 (lv_at hl 1 rfl) ?_
  refine lv_iconst (v := nI 2) hx hb d_LA_law_892 (by decide) ?_
  refine lv_iadd hx hb d_LA_law_893 ?_
  refine gs_top (nI_add i 2) ?_
  refine gs_sld hx hb hX hbl hbA hS (j := i + 2) (by omega) (by omega) d_LA_law_894 ?_
  refine gs_top (show xs (i + 2) = (nI pl) from e2) ?_
  refine lv_aload_n hx hb d_LA_law_895 rfl (lv_at hl 5 rfl) ?_
  refine lv_iload hx hb d_LA_law_896 (lv_at hl 1 rfl) ?_
  refine lv_iconst (v := nI 3) hx hb d_LA_law_898 (by decide) ?_
  refine lv_iadd hx hb d_LA_law_899 ?_
  refine gs_top (nI_add i 3) ?_
  refine gs_sld hx hb hX hbl hbA hS (j := i + 3) (by omega) (by omega) d_LA_law_900 ?_
  refine gs_top (show xs (i + 3) = (nI wh) from e3) ?_
  refine gs_callVi (As := [.int (nI rl), .int (nI pl), .int (nI wh)]) (rest := []) ⟨hx, hb, hml, hown, hts⟩ hK hE hz hG hS (c_MO_tuple l X σ1 mo A cd nr cw F T sa rc QM drM (nI rl) (nI pl) rl k9 wh x9 hM2 rfl hrl hat hx9 hwh) mV_MO_tuple w_888 m02 rfl rfl hl.1 rfl (Nat.le_of_ble_eq_true rfl) ⟨by decide, by decide⟩ ⟨(by first | (show cells + 6 ≤ 601024; omega) | (show cells ≤ 601024; omega)), (by first | (show slots + 64 ≤ 7293034; omega) | (show slots ≤ 7293034; omega))⟩ d_LA_law_901 (fun r_901 σ_901 H locs hp_901 hG hS => ?_)
  obtain ⟨hM3, hf3, er3⟩ := hp_901
  have hR3 := hR2.mdl (hM2.gG ho2) hf3
  have ho3 := hf3 _ _ (out_nin hM2 ho2) ho2
  obtain ⟨Z3, m03, z03⟩ := hM3.cell
  refine gs_top er3 ?_
  refine lv_topi (fun v_1 ev_1 => ?_)
  refine lv_istore (lv' := [(6, .int v_1), (5, .int (nI 0)), (4, .int (nI i)), (3, .ref out), (2, .ref mo), (1, .ref rr), (0, .ref sb)]) hx hb d_LA_law_904 hl (by decide) rfl (fun ls hl => ?_)
  refine lv_aload_n hx hb d_LA_law_906 rfl (lv_at hl 4 rfl) ?_
  refine gs_callVp (As := []) (rest := []) ⟨hx, hb, hml, hown, hts⟩ hK hE hz hG hS (c_MO_thrown l X σ_901 mo A Z3 m03) ⟨rfl, rfl⟩ mV_MO_thrown w_757 m03 rfl rfl hl.1 rfl (Nat.le_of_ble_eq_true rfl) ⟨by decide, by decide⟩ ⟨(by first | (show cells + 6 ≤ 601024; omega) | (show cells ≤ 601024; omega)), (by first | (show slots + 64 ≤ 7293034; omega) | (show slots ≤ 7293034; omega))⟩ d_LA_law_907 (fun r_907 hp_907 => ?_)
  refine gs_top (show r_907 = nI 0 from by rw [hp_907, z03]) ?_
  refine lv_iload hx hb d_LA_law_910 (lv_at hl 1 rfl) ?_
  refine lv_icmp_eq (tgt := 917) hx hb d_LA_law_912 (by decide) (fun c_912 => ?_) (fun c_912 => ?_)
  · have c_912 : 0 = 0 :=  (nI_eq (by omega) (by omega)).mp c_912
    refine lv_iload hx hb d_LA_law_917 (lv_at hl 1 rfl) ?_
    refine lv_if_ne (tgt := 934) hx hb d_LA_law_919 (by decide) (fun c_919 => ?_) (fun c_919 => ?_)
    · exact absurd c_919 (by decide)
    · have c_919 : 0 = 0 := gs_z (by omega) c_919
      refine lv_aload_n hx hb d_LA_law_922 rfl (lv_at hl 3 rfl) ?_
      refine lv_iconst (v := nI 0) hx hb d_LA_law_923 (by decide) ?_
      refine gs_lald hx hb hK hG ho3 (j := 0) (by omega) (by omega) d_LA_law_924 ?_
      refine lv_iload hx hb d_LA_law_925 (lv_at hl 0 rfl) ?_
      refine lv_i2l hx hb d_LA_law_927 rfl ?_
      refine W.lcmp hx hb d_LA_law_928 ?_
      refine lv_if_eq (tgt := 934) hx hb d_LA_law_929 (by decide) (fun c_929 => ?_) (fun c_929 => ?_)
      · refine lv_goto (tgt := 1085) hx hb d_LA_law_934 (by decide) ?_
        refine W.widen (k := cells + 6) (n := slots + 64) (by first | exact Nat.le_refl _ | exact Nat.le_add_right _ _) (by first | exact Nat.le_refl _ | exact Nat.le_add_right _ _) ?_
        exact kk σ_901 H locs ⟨_, _, _, _, _, _, _, _, _, _, _, _, _, _, _, _, hR3, hM3, hRL, ho3⟩ hG hS ls (lv_sub hl [2, 3, 4, 5, 6] rfl)
      · exact absurd (cmp_0.mpr (show vp_updL f 0 r9.toInt64 0 = _ from by unfold vp_updL; rw [if_pos rfl, show r9 = v_1 from by obtain ⟨x8, w1, w2⟩ := hans9; exact (w2.trans ((h_pe_tuple _ _ _ _ _ _ _ _ _ _ _ _ _ _ hRL rl hrl).2 pl x8 k9 x9 wh hpl w1 hat hx9 hwh)).trans ev_1.symm])) c_929
  · exact absurd c_912 (by decide)
set_option maxHeartbeats 4000000 in
set_option maxRecDepth 100000 in
theorem lb_like_r {RL : RLT} (h0 : pe0 RL) {p : Program} {e : Env} {s : State} {m : MethodId} {below : List Frame} {meth : Method} {c : Code} (l : Launch) {sb L : Nat} {xs : Nat → Int32} {X : gs_X} (htr : l.stackTraces = false) (C0 : lw_At p s m meth c sb L xs) (hL : L ≤ 3072) (hXX : X.2.1 3 ≠ X.2.1 2) (hK : gs_T X s) (hE : gs_E X s) (hz : X.2.2 ≤ s.heap.size) (hbA : ¬ gs_A X sb) {rr mo out : Nat} {A : Nat → Nat} {σ : gs_St} {nr : Nat} {cw : Nat → Nat} {Q : List Rl} {E : List En} {Lt : List Nat} {sa : Nat} {nw : Bool} {rc fc : Nat} {dr : Option Dr} {F : List (Nat × Nat)} {T : List MT} {QM : List MR} {drM : Option MR} {cd : Nat} {f : Nat → Int64} (hR : rrA X σ (out :: aM mo A) rr nr cw Q E Lt sa nw rc fc dr) (hM : moA X σ mo A cd nr cw F T sa rc QM drM) (hRL : RL nr cw Q E Lt sa nw rc fc dr F T QM drM) (ho : σ out = some (gs_la X 1 f)) {i cells slots : Nat} (hi : i + 6 ≤ L) (hce : cells + 6 ≤ 601024) (hsl : slots + 64 ≤ 7293034)  (hok : wi nr (xs (i + 1)) = false) (kk : ∀ (σ' : gs_St) (H : Heap) (locs : List Loc), LI RL X σ' rr mo out A → gs_H X σ' H → va_S (gs_A X) s.heap H locs → ∀ ls, lv_has ls 7 [(4, .int (nI i)), (3, .ref out), (2, .ref mo), (1, .ref rr), (0, .ref sb)] → W p l e room_1 s m #[Value.ref sb] below meth c H locs (cells + 6) (slots + 64) (lw_Z below #[Value.ref sb] s) (F0 m 1085 ls [])) {H : Heap} {locs : List Loc} (hG : gs_H X σ H) (hS : va_S (gs_A X) s.heap H locs) {ls : Array Slot} (hl : lv_has ls 7 [(4, .int (nI i)), (3, .ref out), (2, .ref mo), (1, .ref rr), (0, .ref sb)]) : W p l e room_1 s m #[Value.ref sb] below meth c H locs cells slots (lw_Z below #[Value.ref sb] s) (F0 m 937 ls []) := by
  obtain ⟨hx, hb, hr, hml, hown, hts0, hX, hbl, hlocks, hgv⟩ := id C0
  have ht : ∀ w ∈ gs_w, w.before #[Value.ref sb] s = true := fun w h => hts0 w (List.mem_filter.mp h).1
  have hts : ∀ w ∈ (Cond.initialized "RuleRoundsLaw") :: gs_w, w.before #[Value.ref sb] s = true := fun w h => by
    rcases List.mem_cons.mp h with z | z
    · rw [z]; exact ht _ w_0
    · exact ht w z
  obtain ⟨gs, x0⟩ := hR.cell
  obtain ⟨Z, m0, z0⟩ := hM.cell
  have q0 := h0 _ _ _ _ _ _ _ _ _ _ _ _ _ _ hRL
  refine lv_aload_n hx hb d_LA_law_937 rfl (lv_at hl 3 rfl) ?_
  refine lv_aload_n hx hb d_LA_law_938 rfl (lv_at hl 4 rfl) ?_
  refine lv_iload hx hb d_LA_law_939 (lv_at hl 0 rfl) ?_
  refine lv_iconst (v := nI 1) hx hb d_LA_law_941 (by decide) ?_
  refine lv_iadd hx hb d_LA_law_942 ?_
  refine gs_top (nI_add i 1) ?_
  refine gs_sld hx hb hX hbl hbA hS (j := i + 1) (by omega) (by omega) d_LA_law_943 ?_
  refine lv_aload_n hx hb d_LA_law_944 rfl (lv_at hl 4 rfl) ?_
  refine lv_iload hx hb d_LA_law_945 (lv_at hl 0 rfl) ?_
  refine lv_iconst (v := nI 2) hx hb d_LA_law_947 (by decide) ?_
  refine lv_iadd hx hb d_LA_law_948 ?_
  refine gs_top (nI_add i 2) ?_
  refine gs_sld hx hb hX hbl hbA hS (j := i + 2) (by omega) (by omega) d_LA_law_949 ?_
  refine lv_aload_n hx hb d_LA_law_950 rfl (lv_at hl 4 rfl) ?_
  refine lv_iload hx hb d_LA_law_951 (lv_at hl 0 rfl) ?_
  refine lv_iconst (v := nI 3) hx hb d_LA_law_953 (by decide) ?_
  refine lv_iadd hx hb d_LA_law_954 ?_
  refine gs_top (nI_add i 3) ?_
  refine gs_sld hx hb hX hbl hbA hS (j := i + 3) (by omega) (by omega) d_LA_law_955 ?_
  refine lv_aload_n hx hb d_LA_law_956 rfl (lv_at hl 4 rfl) ?_
  refine lv_iload hx hb d_LA_law_957 (lv_at hl 0 rfl) ?_
  refine lv_iconst (v := nI 4) hx hb d_LA_law_959 (by decide) ?_
  refine lv_iadd hx hb d_LA_law_960 ?_
  refine gs_top (nI_add i 4) ?_
  refine gs_sld hx hb hX hbl hbA hS (j := i + 4) (by omega) (by omega) d_LA_law_961 ?_
  refine lv_aload_n hx hb d_LA_law_962 rfl (lv_at hl 1 rfl) ?_
  refine gs_callSiH (As := [.ref rr, .int (xs (i + 1)), .int (xs (i + 2)), .int (xs (i + 3)), .int (xs (i + 4)), .ref out]) (rest := []) ⟨hx, hb, hml, hown, hts⟩ hK hE hz hG hS (c_LA_like_xI l X σ rr out gs _ (xs (i + 1)) (xs (i + 2)) (xs (i + 3)) (xs (i + 4)) x0 ⟨by decide, by decide, by decide, by decide⟩ (c_rr_like_r l hR htr hok)) mSH_LA_like w_620 rfl hl.1 rfl (Nat.le_of_ble_eq_true rfl) ⟨by decide, by decide⟩ ⟨(by first | (show cells + 6 ≤ 601024; omega) | (show cells ≤ 601024; omega)), (by first | (show slots + 64 ≤ 7293034; omega) | (show slots ≤ 7293034; omega))⟩ d_LA_law_963 (fun r_963 σ_963 H locs hp_963 hG hS => ?_)
  refine gs_top hp_963.1 ?_
  rw [hp_963.2] at hG
  refine lv_istore (lv' := [(5, .int (nI 1)), (4, .int (nI i)), (3, .ref out), (2, .ref mo), (1, .ref rr), (0, .ref sb)]) hx hb d_LA_law_966 hl (by decide) rfl (fun ls hl => ?_)
  refine lv_aload_n hx hb d_LA_law_968 rfl (lv_at hl 3 rfl) ?_
  refine lv_aload_n hx hb d_LA_law_969 rfl (lv_at hl 5 rfl) ?_
  refine lv_iload hx hb d_LA_law_970 (lv_at hl 1 rfl) ?_
  refine lv_iconst (v := nI 1) hx hb d_LA_law_972 (by decide) ?_
  refine lv_iadd hx hb d_LA_law_973 ?_
  refine gs_top (nI_add i 1) ?_
  refine gs_sld hx hb hX hbl hbA hS (j := i + 1) (by omega) (by omega) d_LA_law_974 ?_
  refine lv_aload_n hx hb d_LA_law_975 rfl (lv_at hl 5 rfl) ?_
  refine lv_iload hx hb d_LA_law_976 (lv_at hl 1 rfl) ?_
  refine lv_iconst (v := nI 2) hx hb d_LA_law_978 (by decide) ?_
  refine lv_iadd hx hb d_LA_law_979 ?_
  refine gs_top (nI_add i 2) ?_
  refine gs_sld hx hb hX hbl hbA hS (j := i + 2) (by omega) (by omega) d_LA_law_980 ?_
  refine lv_aload_n hx hb d_LA_law_981 rfl (lv_at hl 5 rfl) ?_
  refine lv_iload hx hb d_LA_law_982 (lv_at hl 1 rfl) ?_
  refine lv_iconst (v := nI 3) hx hb d_LA_law_984 (by decide) ?_
  refine lv_iadd hx hb d_LA_law_985 ?_
  refine gs_top (nI_add i 3) ?_
  refine gs_sld hx hb hX hbl hbA hS (j := i + 3) (by omega) (by omega) d_LA_law_986 ?_
  refine lv_aload_n hx hb d_LA_law_987 rfl (lv_at hl 5 rfl) ?_
  refine lv_iload hx hb d_LA_law_988 (lv_at hl 1 rfl) ?_
  refine lv_iconst (v := nI 4) hx hb d_LA_law_990 (by decide) ?_
  refine lv_iadd hx hb d_LA_law_991 ?_
  refine gs_top (nI_add i 4) ?_
  refine gs_sld hx hb hX hbl hbA hS (j := i + 4) (by omega) (by omega) d_LA_law_992 ?_
  refine gs_callVi (As := [.int (xs (i + 1)), .int (xs (i + 2)), .int (xs (i + 3)), .int (xs (i + 4))]) (rest := []) ⟨hx, hb, hml, hown, hts⟩ hK hE hz hG hS (c_MO_like_t l X σ mo A cd nr cw F T sa rc QM drM (xs (i + 1)) (xs (i + 2)) (xs (i + 3)) (xs (i + 4)) hM (fitR_r hok)) mV_MO_like w_892 m0 rfl rfl hl.1 rfl (Nat.le_of_ble_eq_true rfl) ⟨by decide, by decide⟩ ⟨(by first | (show cells + 6 ≤ 601024; omega) | (show cells ≤ 601024; omega)), (by first | (show slots + 64 ≤ 7293034; omega) | (show slots ≤ 7293034; omega))⟩ d_LA_law_993 (fun r_993 σ_993 H locs hp_993 hG hS => ?_)
  obtain ⟨hM3, hf3, er3⟩ := hp_993
  have hR3 := hR.mdl (hM.gG ho) hf3
  have ho3 := hf3 _ _ (out_nin hM ho) ho
  obtain ⟨Z3, m03, z03⟩ := hM3.cell
  refine gs_top er3 ?_
  refine lv_istore (lv' := [(6, .int (nI 0)), (5, .int (nI 1)), (4, .int (nI i)), (3, .ref out), (2, .ref mo), (1, .ref rr), (0, .ref sb)]) hx hb d_LA_law_996 hl (by decide) rfl (fun ls hl => ?_)
  refine lv_aload_n hx hb d_LA_law_998 rfl (lv_at hl 4 rfl) ?_
  refine gs_callVp (As := []) (rest := []) ⟨hx, hb, hml, hown, hts⟩ hK hE hz hG hS (c_MO_thrown l X σ_993 mo A Z3 m03) ⟨rfl, rfl⟩ mV_MO_thrown w_757 m03 rfl rfl hl.1 rfl (Nat.le_of_ble_eq_true rfl) ⟨by decide, by decide⟩ ⟨(by first | (show cells + 6 ≤ 601024; omega) | (show cells ≤ 601024; omega)), (by first | (show slots + 64 ≤ 7293034; omega) | (show slots ≤ 7293034; omega))⟩ d_LA_law_999 (fun r_999 hp_999 => ?_)
  refine gs_top (show r_999 = nI 1 from by rw [hp_999, z03]) ?_
  refine lv_iload hx hb d_LA_law_1002 (lv_at hl 1 rfl) ?_
  refine lv_icmp_eq (tgt := 1009) hx hb d_LA_law_1004 (by decide) (fun c_1004 => ?_) (fun c_1004 => ?_)
  · have c_1004 : 1 = 1 :=  (nI_eq (by omega) (by omega)).mp c_1004
    refine lv_iload hx hb d_LA_law_1009 (lv_at hl 1 rfl) ?_
    refine lv_if_ne (tgt := 1026) hx hb d_LA_law_1011 (by decide) (fun c_1011 => ?_) (fun c_1011 => ?_)
    · have c_1011 : ¬ 1 = 0 := gs_zn (by omega) c_1011
      refine lv_goto (tgt := 1085) hx hb d_LA_law_1026 (by decide) ?_
      refine W.widen (k := cells + 6) (n := slots + 64) (by first | exact Nat.le_refl _ | exact Nat.le_add_right _ _) (by first | exact Nat.le_refl _ | exact Nat.le_add_right _ _) ?_
      exact kk σ_993 H locs ⟨_, _, _, _, _, _, _, _, _, _, _, _, _, _, _, _, hR3, hM3, hRL, ho3⟩ hG hS ls (lv_sub hl [2, 3, 4, 5, 6] rfl)
    · exact absurd c_1011 (by decide)
  · exact absurd c_1004 (by decide)
set_option maxHeartbeats 4000000 in
set_option maxRecDepth 100000 in
theorem lb_like_t {RL : RLT} (h0 : pe0 RL) {p : Program} {e : Env} {s : State} {m : MethodId} {below : List Frame} {meth : Method} {c : Code} (l : Launch) {sb L : Nat} {xs : Nat → Int32} {X : gs_X} (htr : l.stackTraces = false) (C0 : lw_At p s m meth c sb L xs) (hL : L ≤ 3072) (hXX : X.2.1 3 ≠ X.2.1 2) (hK : gs_T X s) (hE : gs_E X s) (hz : X.2.2 ≤ s.heap.size) (hbA : ¬ gs_A X sb) {rr mo out : Nat} {A : Nat → Nat} {σ : gs_St} {nr : Nat} {cw : Nat → Nat} {Q : List Rl} {E : List En} {Lt : List Nat} {sa : Nat} {nw : Bool} {rc fc : Nat} {dr : Option Dr} {F : List (Nat × Nat)} {T : List MT} {QM : List MR} {drM : Option MR} {cd : Nat} {f : Nat → Int64} (hR : rrA X σ (out :: aM mo A) rr nr cw Q E Lt sa nw rc fc dr) (hM : moA X σ mo A cd nr cw F T sa rc QM drM) (hRL : RL nr cw Q E Lt sa nw rc fc dr F T QM drM) (ho : σ out = some (gs_la X 1 f)) {i cells slots : Nat} (hi : i + 6 ≤ L) (hce : cells + 6 ≤ 601024) (hsl : slots + 64 ≤ 7293034) {rl : Nat} (e1 : xs (i + 1) = nI rl) (hrl : rl < nr) (hok : wi3 72 (cw rl) (xs (i + 2)) (xs (i + 3)) (xs (i + 4)) = false) (kk : ∀ (σ' : gs_St) (H : Heap) (locs : List Loc), LI RL X σ' rr mo out A → gs_H X σ' H → va_S (gs_A X) s.heap H locs → ∀ ls, lv_has ls 7 [(4, .int (nI i)), (3, .ref out), (2, .ref mo), (1, .ref rr), (0, .ref sb)] → W p l e room_1 s m #[Value.ref sb] below meth c H locs (cells + 6) (slots + 64) (lw_Z below #[Value.ref sb] s) (F0 m 1085 ls [])) {H : Heap} {locs : List Loc} (hG : gs_H X σ H) (hS : va_S (gs_A X) s.heap H locs) {ls : Array Slot} (hl : lv_has ls 7 [(4, .int (nI i)), (3, .ref out), (2, .ref mo), (1, .ref rr), (0, .ref sb)]) : W p l e room_1 s m #[Value.ref sb] below meth c H locs cells slots (lw_Z below #[Value.ref sb] s) (F0 m 937 ls []) := by
  obtain ⟨hx, hb, hr, hml, hown, hts0, hX, hbl, hlocks, hgv⟩ := id C0
  have ht : ∀ w ∈ gs_w, w.before #[Value.ref sb] s = true := fun w h => hts0 w (List.mem_filter.mp h).1
  have hts : ∀ w ∈ (Cond.initialized "RuleRoundsLaw") :: gs_w, w.before #[Value.ref sb] s = true := fun w h => by
    rcases List.mem_cons.mp h with z | z
    · rw [z]; exact ht _ w_0
    · exact ht w z
  obtain ⟨gs, x0⟩ := hR.cell
  obtain ⟨Z, m0, z0⟩ := hM.cell
  have q0 := h0 _ _ _ _ _ _ _ _ _ _ _ _ _ _ hRL
  refine lv_aload_n hx hb d_LA_law_937 rfl (lv_at hl 3 rfl) ?_
  refine lv_aload_n hx hb d_LA_law_938 rfl (lv_at hl 4 rfl) ?_
  refine lv_iload hx hb d_LA_law_939 (lv_at hl 0 rfl) ?_
  refine lv_iconst (v := nI 1) hx hb d_LA_law_941 (by decide) ?_
  refine lv_iadd hx hb d_LA_law_942 ?_
  refine gs_top (nI_add i 1) ?_
  refine gs_sld hx hb hX hbl hbA hS (j := i + 1) (by omega) (by omega) d_LA_law_943 ?_
  refine gs_top (show xs (i + 1) = (nI rl) from e1) ?_
  refine lv_aload_n hx hb d_LA_law_944 rfl (lv_at hl 4 rfl) ?_
  refine lv_iload hx hb d_LA_law_945 (lv_at hl 0 rfl) ?_
  refine lv_iconst (v := nI 2) hx hb d_LA_law_947 (by decide) ?_
  refine lv_iadd hx hb d_LA_law_948 ?_
  refine gs_top (nI_add i 2) ?_
  refine gs_sld hx hb hX hbl hbA hS (j := i + 2) (by omega) (by omega) d_LA_law_949 ?_
  refine lv_aload_n hx hb d_LA_law_950 rfl (lv_at hl 4 rfl) ?_
  refine lv_iload hx hb d_LA_law_951 (lv_at hl 0 rfl) ?_
  refine lv_iconst (v := nI 3) hx hb d_LA_law_953 (by decide) ?_
  refine lv_iadd hx hb d_LA_law_954 ?_
  refine gs_top (nI_add i 3) ?_
  refine gs_sld hx hb hX hbl hbA hS (j := i + 3) (by omega) (by omega) d_LA_law_955 ?_
  refine lv_aload_n hx hb d_LA_law_956 rfl (lv_at hl 4 rfl) ?_
  refine lv_iload hx hb d_LA_law_957 (lv_at hl 0 rfl) ?_
  refine lv_iconst (v := nI 4) hx hb d_LA_law_959 (by decide) ?_
  refine lv_iadd hx hb d_LA_law_960 ?_
  refine gs_top (nI_add i 4) ?_
  refine gs_sld hx hb hX hbl hbA hS (j := i + 4) (by omega) (by omega) d_LA_law_961 ?_
  refine lv_aload_n hx hb d_LA_law_962 rfl (lv_at hl 1 rfl) ?_
  refine gs_callSiH (As := [.ref rr, .int (nI rl), .int (xs (i + 2)), .int (xs (i + 3)), .int (xs (i + 4)), .ref out]) (rest := []) ⟨hx, hb, hml, hown, hts⟩ hK hE hz hG hS (c_LA_like_xI l X σ rr out gs _ (nI rl) (xs (i + 2)) (xs (i + 3)) (xs (i + 4)) x0 ⟨by decide, by decide, by decide, by decide⟩ (c_rr_like_t l hR htr hrl hok)) mSH_LA_like w_620 rfl hl.1 rfl (Nat.le_of_ble_eq_true rfl) ⟨by decide, by decide⟩ ⟨(by first | (show cells + 6 ≤ 601024; omega) | (show cells ≤ 601024; omega)), (by first | (show slots + 64 ≤ 7293034; omega) | (show slots ≤ 7293034; omega))⟩ d_LA_law_963 (fun r_963 σ_963 H locs hp_963 hG hS => ?_)
  refine gs_top hp_963.1 ?_
  rw [hp_963.2] at hG
  refine lv_istore (lv' := [(5, .int (nI 1)), (4, .int (nI i)), (3, .ref out), (2, .ref mo), (1, .ref rr), (0, .ref sb)]) hx hb d_LA_law_966 hl (by decide) rfl (fun ls hl => ?_)
  refine lv_aload_n hx hb d_LA_law_968 rfl (lv_at hl 3 rfl) ?_
  refine lv_aload_n hx hb d_LA_law_969 rfl (lv_at hl 5 rfl) ?_
  refine lv_iload hx hb d_LA_law_970 (lv_at hl 1 rfl) ?_
  refine lv_iconst (v := nI 1) hx hb d_LA_law_972 (by decide) ?_
  refine lv_iadd hx hb d_LA_law_973 ?_
  refine gs_top (nI_add i 1) ?_
  refine gs_sld hx hb hX hbl hbA hS (j := i + 1) (by omega) (by omega) d_LA_law_974 ?_
  refine gs_top (show xs (i + 1) = (nI rl) from e1) ?_
  refine lv_aload_n hx hb d_LA_law_975 rfl (lv_at hl 5 rfl) ?_
  refine lv_iload hx hb d_LA_law_976 (lv_at hl 1 rfl) ?_
  refine lv_iconst (v := nI 2) hx hb d_LA_law_978 (by decide) ?_
  refine lv_iadd hx hb d_LA_law_979 ?_
  refine gs_top (nI_add i 2) ?_
  refine gs_sld hx hb hX hbl hbA hS (j := i + 2) (by omega) (by omega) d_LA_law_980 ?_
  refine lv_aload_n hx hb d_LA_law_981 rfl (lv_at hl 5 rfl) ?_
  refine lv_iload hx hb d_LA_law_982 (lv_at hl 1 rfl) ?_
  refine lv_iconst (v := nI 3) hx hb d_LA_law_984 (by decide) ?_
  refine lv_iadd hx hb d_LA_law_985 ?_
  refine gs_top (nI_add i 3) ?_
  refine gs_sld hx hb hX hbl hbA hS (j := i + 3) (by omega) (by omega) d_LA_law_986 ?_
  refine lv_aload_n hx hb d_LA_law_987 rfl (lv_at hl 5 rfl) ?_
  refine lv_iload hx hb d_LA_law_988 (lv_at hl 1 rfl) ?_
  refine lv_iconst (v := nI 4) hx hb d_LA_law_990 (by decide) ?_
  refine lv_iadd hx hb d_LA_law_991 ?_
  refine gs_top (nI_add i 4) ?_
  refine gs_sld hx hb hX hbl hbA hS (j := i + 4) (by omega) (by omega) d_LA_law_992 ?_
  refine gs_callVi (As := [.int (nI rl), .int (xs (i + 2)), .int (xs (i + 3)), .int (xs (i + 4))]) (rest := []) ⟨hx, hb, hml, hown, hts⟩ hK hE hz hG hS (c_MO_like_t l X σ mo A cd nr cw F T sa rc QM drM (nI rl) (xs (i + 2)) (xs (i + 3)) (xs (i + 4)) hM (by rw [fitR_n hrl hM.2.1]; exact hok)) mV_MO_like w_892 m0 rfl rfl hl.1 rfl (Nat.le_of_ble_eq_true rfl) ⟨by decide, by decide⟩ ⟨(by first | (show cells + 6 ≤ 601024; omega) | (show cells ≤ 601024; omega)), (by first | (show slots + 64 ≤ 7293034; omega) | (show slots ≤ 7293034; omega))⟩ d_LA_law_993 (fun r_993 σ_993 H locs hp_993 hG hS => ?_)
  obtain ⟨hM3, hf3, er3⟩ := hp_993
  have hR3 := hR.mdl (hM.gG ho) hf3
  have ho3 := hf3 _ _ (out_nin hM ho) ho
  obtain ⟨Z3, m03, z03⟩ := hM3.cell
  refine gs_top er3 ?_
  refine lv_istore (lv' := [(6, .int (nI 0)), (5, .int (nI 1)), (4, .int (nI i)), (3, .ref out), (2, .ref mo), (1, .ref rr), (0, .ref sb)]) hx hb d_LA_law_996 hl (by decide) rfl (fun ls hl => ?_)
  refine lv_aload_n hx hb d_LA_law_998 rfl (lv_at hl 4 rfl) ?_
  refine gs_callVp (As := []) (rest := []) ⟨hx, hb, hml, hown, hts⟩ hK hE hz hG hS (c_MO_thrown l X σ_993 mo A Z3 m03) ⟨rfl, rfl⟩ mV_MO_thrown w_757 m03 rfl rfl hl.1 rfl (Nat.le_of_ble_eq_true rfl) ⟨by decide, by decide⟩ ⟨(by first | (show cells + 6 ≤ 601024; omega) | (show cells ≤ 601024; omega)), (by first | (show slots + 64 ≤ 7293034; omega) | (show slots ≤ 7293034; omega))⟩ d_LA_law_999 (fun r_999 hp_999 => ?_)
  refine gs_top (show r_999 = nI 1 from by rw [hp_999, z03]) ?_
  refine lv_iload hx hb d_LA_law_1002 (lv_at hl 1 rfl) ?_
  refine lv_icmp_eq (tgt := 1009) hx hb d_LA_law_1004 (by decide) (fun c_1004 => ?_) (fun c_1004 => ?_)
  · have c_1004 : 1 = 1 :=  (nI_eq (by omega) (by omega)).mp c_1004
    refine lv_iload hx hb d_LA_law_1009 (lv_at hl 1 rfl) ?_
    refine lv_if_ne (tgt := 1026) hx hb d_LA_law_1011 (by decide) (fun c_1011 => ?_) (fun c_1011 => ?_)
    · have c_1011 : ¬ 1 = 0 := gs_zn (by omega) c_1011
      refine lv_goto (tgt := 1085) hx hb d_LA_law_1026 (by decide) ?_
      refine W.widen (k := cells + 6) (n := slots + 64) (by first | exact Nat.le_refl _ | exact Nat.le_add_right _ _) (by first | exact Nat.le_refl _ | exact Nat.le_add_right _ _) ?_
      exact kk σ_993 H locs ⟨_, _, _, _, _, _, _, _, _, _, _, _, _, _, _, _, hR3, hM3, hRL, ho3⟩ hG hS ls (lv_sub hl [2, 3, 4, 5, 6] rfl)
    · exact absurd c_1011 (by decide)
  · exact absurd c_1004 (by decide)
set_option maxHeartbeats 4000000 in
set_option maxRecDepth 100000 in
theorem lb_like_ok {RL : RLT} (h0 : pe0 RL) (h_pe_like : pe_like RL) {p : Program} {e : Env} {s : State} {m : MethodId} {below : List Frame} {meth : Method} {c : Code} (l : Launch) {sb L : Nat} {xs : Nat → Int32} {X : gs_X} (htr : l.stackTraces = false) (C0 : lw_At p s m meth c sb L xs) (hL : L ≤ 3072) (hXX : X.2.1 3 ≠ X.2.1 2) (hK : gs_T X s) (hE : gs_E X s) (hz : X.2.2 ≤ s.heap.size) (hbA : ¬ gs_A X sb) {rr mo out : Nat} {A : Nat → Nat} {σ : gs_St} {nr : Nat} {cw : Nat → Nat} {Q : List Rl} {E : List En} {Lt : List Nat} {sa : Nat} {nw : Bool} {rc fc : Nat} {dr : Option Dr} {F : List (Nat × Nat)} {T : List MT} {QM : List MR} {drM : Option MR} {cd : Nat} {f : Nat → Int64} (hR : rrA X σ (out :: aM mo A) rr nr cw Q E Lt sa nw rc fc dr) (hM : moA X σ mo A cd nr cw F T sa rc QM drM) (hRL : RL nr cw Q E Lt sa nw rc fc dr F T QM drM) (ho : σ out = some (gs_la X 1 f)) {i cells slots : Nat} (hi : i + 6 ≤ L) (hce : cells + 6 ≤ 601024) (hsl : slots + 64 ≤ 7293034) {rl a b cz : Nat} (e1 : xs (i + 1) = nI rl) (e2 : xs (i + 2) = nI a) (e3 : xs (i + 3) = nI b) (e4 : xs (i + 4) = nI cz) (hrl : rl < nr) (ha : a < 72) (hb9 : b < 72) (hc9 : cz < 72) (hok : wi3 72 (cw rl) (nI a) (nI b) (nI cz) = true) (kk : ∀ (σ' : gs_St) (H : Heap) (locs : List Loc), LI RL X σ' rr mo out A → gs_H X σ' H → va_S (gs_A X) s.heap H locs → ∀ ls, lv_has ls 7 [(4, .int (nI i)), (3, .ref out), (2, .ref mo), (1, .ref rr), (0, .ref sb)] → W p l e room_1 s m #[Value.ref sb] below meth c H locs (cells + 6) (slots + 64) (lw_Z below #[Value.ref sb] s) (F0 m 1085 ls [])) {H : Heap} {locs : List Loc} (hG : gs_H X σ H) (hS : va_S (gs_A X) s.heap H locs) {ls : Array Slot} (hl : lv_has ls 7 [(4, .int (nI i)), (3, .ref out), (2, .ref mo), (1, .ref rr), (0, .ref sb)]) : W p l e room_1 s m #[Value.ref sb] below meth c H locs cells slots (lw_Z below #[Value.ref sb] s) (F0 m 937 ls []) := by
  obtain ⟨hx, hb, hr, hml, hown, hts0, hX, hbl, hlocks, hgv⟩ := id C0
  have ht : ∀ w ∈ gs_w, w.before #[Value.ref sb] s = true := fun w h => hts0 w (List.mem_filter.mp h).1
  have hts : ∀ w ∈ (Cond.initialized "RuleRoundsLaw") :: gs_w, w.before #[Value.ref sb] s = true := fun w h => by
    rcases List.mem_cons.mp h with z | z
    · rw [z]; exact ht _ w_0
    · exact ht w z
  obtain ⟨gs, x0⟩ := hR.cell
  obtain ⟨Z, m0, z0⟩ := hM.cell
  have q0 := h0 _ _ _ _ _ _ _ _ _ _ _ _ _ _ hRL
  refine lv_aload_n hx hb d_LA_law_937 rfl (lv_at hl 3 rfl) ?_
  refine lv_aload_n hx hb d_LA_law_938 rfl (lv_at hl 4 rfl) ?_
  refine lv_iload hx hb d_LA_law_939 (lv_at hl 0 rfl) ?_
  refine lv_iconst (v := nI 1) hx hb d_LA_law_941 (by decide) ?_
  refine lv_iadd hx hb d_LA_law_942 ?_
  refine gs_top (nI_add i 1) ?_
  refine gs_sld hx hb hX hbl hbA hS (j := i + 1) (by omega) (by omega) d_LA_law_943 ?_
  refine gs_top (show xs (i + 1) = (nI rl) from e1) ?_
  refine lv_aload_n hx hb d_LA_law_944 rfl (lv_at hl 4 rfl) ?_
  refine lv_iload hx hb d_LA_law_945 (lv_at hl 0 rfl) ?_
  refine lv_iconst (v := nI 2) hx hb d_LA_law_947 (by decide) ?_
  refine lv_iadd hx hb d_LA_law_948 ?_
  refine gs_top (nI_add i 2) ?_
  refine gs_sld hx hb hX hbl hbA hS (j := i + 2) (by omega) (by omega) d_LA_law_949 ?_
  refine gs_top (show xs (i + 2) = (nI a) from e2) ?_
  refine lv_aload_n hx hb d_LA_law_950 rfl (lv_at hl 4 rfl) ?_
  refine lv_iload hx hb d_LA_law_951 (lv_at hl 0 rfl) ?_
  refine lv_iconst (v := nI 3) hx hb d_LA_law_953 (by decide) ?_
  refine lv_iadd hx hb d_LA_law_954 ?_
  refine gs_top (nI_add i 3) ?_
  refine gs_sld hx hb hX hbl hbA hS (j := i + 3) (by omega) (by omega) d_LA_law_955 ?_
  refine gs_top (show xs (i + 3) = (nI b) from e3) ?_
  refine lv_aload_n hx hb d_LA_law_956 rfl (lv_at hl 4 rfl) ?_
  refine lv_iload hx hb d_LA_law_957 (lv_at hl 0 rfl) ?_
  refine lv_iconst (v := nI 4) hx hb d_LA_law_959 (by decide) ?_
  refine lv_iadd hx hb d_LA_law_960 ?_
  refine gs_top (nI_add i 4) ?_
  refine gs_sld hx hb hX hbl hbA hS (j := i + 4) (by omega) (by omega) d_LA_law_961 ?_
  refine gs_top (show xs (i + 4) = (nI cz) from e4) ?_
  refine lv_aload_n hx hb d_LA_law_962 rfl (lv_at hl 1 rfl) ?_
  refine gs_callSiH (As := [.ref rr, .int (nI rl), .int (nI a), .int (nI b), .int (nI cz), .ref out]) (rest := []) ⟨hx, hb, hml, hown, hts⟩ hK hE hz hG hS (c_LA_like l X σ rr out gs _ f (nI rl) (nI a) (nI b) (nI cz) _ x0 ⟨by decide, by decide, by decide, by decide⟩ (c_rr_like l hR hXX hrl ha hb9 hc9 hok) (fun r9 σ9 z => by obtain ⟨v, z1, z2, z3⟩ := z; exact z2 out List.mem_cons_self _ ho)) mSH_LA_like w_620 rfl hl.1 rfl (Nat.le_of_ble_eq_true rfl) ⟨by decide, by decide⟩ ⟨(by first | (show cells + 6 ≤ 601024; omega) | (show cells ≤ 601024; omega)), (by first | (show slots + 64 ≤ 7293034; omega) | (show slots ≤ 7293034; omega))⟩ d_LA_law_963 (fun r_963 σ_963 H locs hp_963 hG hS => ?_)
  obtain ⟨ek, r9, σ9, ⟨v9, hR9, hk9, hans9⟩, ev⟩ := hp_963
  refine gs_top ek ?_
  rw [ev] at hG
  obtain ⟨hR2, hM2⟩ := ans_put (f' := vp_updL f 0 r9.toInt64) hR9 hk9 hM ho
  obtain ⟨σ1, eσ1⟩ : ∃ z, z = gs_up σ9 out (gs_la X 1 (vp_updL f 0 r9.toInt64)) := ⟨_, rfl⟩
  rw [← eσ1] at hG hR2 hM2
  have ho2 : σ1 out = some (gs_la X 1 (vp_updL f 0 r9.toInt64)) := by rw [eσ1]; exact gs_us
  obtain ⟨Z2, m02, z02⟩ := hM2.cell
  refine lv_istore (lv' := [(5, .int (nI 0)), (4, .int (nI i)), (3, .ref out), (2, .ref mo), (1, .ref rr), (0, .ref sb)]) hx hb d_LA_law_966 hl (by decide) rfl (fun ls hl => ?_)
  refine lv_aload_n hx hb d_LA_law_968 rfl (lv_at hl 3 rfl) ?_
  refine lv_aload_n hx hb d_LA_law_969 rfl (lv_at hl 5 rfl) ?_
  refine lv_iload hx hb d_LA_law_970 (lv_at hl 1 rfl) ?_
  refine lv_iconst (v := nI 1) hx hb d_LA_law_972 (by decide) ?_
  refine lv_iadd hx hb d_LA_law_973 ?_
  refine gs_top (nI_add i 1) ?_
  refine gs_sld hx hb hX hbl hbA hS (j := i + 1) (by omega) (by omega) d_LA_law_974 ?_
  refine gs_top (show xs (i + 1) = (nI rl) from e1) ?_
  refine lv_aload_n hx hb d_LA_law_975 rfl (lv_at hl 5 rfl) ?_
  refine lv_iload hx hb d_LA_law_976 (lv_at hl 1 rfl) ?_
  refine lv_iconst (v := nI 2) hx hb d_LA_law_978 (by decide) ?_
  refine lv_iadd hx hb d_LA_law_979 ?_
  refine gs_top (nI_add i 2) ?_
  refine gs_sld hx hb hX hbl hbA hS (j := i + 2) (by omega) (by omega) d_LA_law_980 ?_
  refine gs_top (show xs (i + 2) = (nI a) from e2) ?_
  refine lv_aload_n hx hb d_LA_law_981 rfl (lv_at hl 5 rfl) ?_
  refine lv_iload hx hb d_LA_law_982 (lv_at hl 1 rfl) ?_
  refine lv_iconst (v := nI 3) hx hb d_LA_law_984 (by decide) ?_
  refine lv_iadd hx hb d_LA_law_985 ?_
  refine gs_top (nI_add i 3) ?_
  refine gs_sld hx hb hX hbl hbA hS (j := i + 3) (by omega) (by omega) d_LA_law_986 ?_
  refine gs_top (show xs (i + 3) = (nI b) from e3) ?_
  refine lv_aload_n hx hb d_LA_law_987 rfl (lv_at hl 5 rfl) ?_
  refine lv_iload hx hb d_LA_law_988 (lv_at hl 1 rfl) ?_
  refine lv_iconst (v := nI 4) hx hb d_LA_law_990 (by decide) ?_
  refine lv_iadd hx hb d_LA_law_991 ?_
  refine gs_top (nI_add i 4) ?_
  refine gs_sld hx hb hX hbl hbA hS (j := i + 4) (by omega) (by omega) d_LA_law_992 ?_
  refine gs_top (show xs (i + 4) = (nI cz) from e4) ?_
  refine gs_callVi (As := [.int (nI rl), .int (nI a), .int (nI b), .int (nI cz)]) (rest := []) ⟨hx, hb, hml, hown, hts⟩ hK hE hz hG hS (c_MO_like l X σ1 mo A cd nr cw F T sa rc QM drM rl a b cz hM2 hrl ha hb9 hc9 hok) mV_MO_like w_892 m02 rfl rfl hl.1 rfl (Nat.le_of_ble_eq_true rfl) ⟨by decide, by decide⟩ ⟨(by first | (show cells + 6 ≤ 601024; omega) | (show cells ≤ 601024; omega)), (by first | (show slots + 64 ≤ 7293034; omega) | (show slots ≤ 7293034; omega))⟩ d_LA_law_993 (fun r_993 σ_993 H locs hp_993 hG hS => ?_)
  obtain ⟨hM3, hf3, er3⟩ := hp_993
  have hR3 := hR2.mdl (hM2.gG ho2) hf3
  have ho3 := hf3 _ _ (out_nin hM2 ho2) ho2
  obtain ⟨Z3, m03, z03⟩ := hM3.cell
  refine gs_top er3 ?_
  refine lv_istore (lv' := [(6, .int (nI (lkN rl a b cz T))), (5, .int (nI 0)), (4, .int (nI i)), (3, .ref out), (2, .ref mo), (1, .ref rr), (0, .ref sb)]) hx hb d_LA_law_996 hl (by decide) rfl (fun ls hl => ?_)
  refine lv_aload_n hx hb d_LA_law_998 rfl (lv_at hl 4 rfl) ?_
  refine gs_callVp (As := []) (rest := []) ⟨hx, hb, hml, hown, hts⟩ hK hE hz hG hS (c_MO_thrown l X σ_993 mo A Z3 m03) ⟨rfl, rfl⟩ mV_MO_thrown w_757 m03 rfl rfl hl.1 rfl (Nat.le_of_ble_eq_true rfl) ⟨by decide, by decide⟩ ⟨(by first | (show cells + 6 ≤ 601024; omega) | (show cells ≤ 601024; omega)), (by first | (show slots + 64 ≤ 7293034; omega) | (show slots ≤ 7293034; omega))⟩ d_LA_law_999 (fun r_999 hp_999 => ?_)
  refine gs_top (show r_999 = nI 0 from by rw [hp_999, z03]) ?_
  refine lv_iload hx hb d_LA_law_1002 (lv_at hl 1 rfl) ?_
  refine lv_icmp_eq (tgt := 1009) hx hb d_LA_law_1004 (by decide) (fun c_1004 => ?_) (fun c_1004 => ?_)
  · have c_1004 : 0 = 0 :=  (nI_eq (by omega) (by omega)).mp c_1004
    refine lv_iload hx hb d_LA_law_1009 (lv_at hl 1 rfl) ?_
    refine lv_if_ne (tgt := 1026) hx hb d_LA_law_1011 (by decide) (fun c_1011 => ?_) (fun c_1011 => ?_)
    · exact absurd c_1011 (by decide)
    · have c_1011 : 0 = 0 := gs_z (by omega) c_1011
      refine lv_aload_n hx hb d_LA_law_1014 rfl (lv_at hl 3 rfl) ?_
      refine lv_iconst (v := nI 0) hx hb d_LA_law_1015 (by decide) ?_
      refine gs_lald hx hb hK hG ho3 (j := 0) (by omega) (by omega) d_LA_law_1016 ?_
      refine lv_iload hx hb d_LA_law_1017 (lv_at hl 0 rfl) ?_
      refine lv_i2l hx hb d_LA_law_1019 rfl ?_
      refine W.lcmp hx hb d_LA_law_1020 ?_
      refine lv_if_eq (tgt := 1026) hx hb d_LA_law_1021 (by decide) (fun c_1021 => ?_) (fun c_1021 => ?_)
      · refine lv_goto (tgt := 1085) hx hb d_LA_law_1026 (by decide) ?_
        refine W.widen (k := cells + 6) (n := slots + 64) (by first | exact Nat.le_refl _ | exact Nat.le_add_right _ _) (by first | exact Nat.le_refl _ | exact Nat.le_add_right _ _) ?_
        exact kk σ_993 H locs ⟨_, _, _, _, _, _, _, _, _, _, _, _, _, _, _, _, hR3, hM3, hRL, ho3⟩ hG hS ls (lv_sub hl [2, 3, 4, 5, 6] rfl)
      · exact absurd (cmp_0.mpr (show vp_updL f 0 r9.toInt64 0 = _ from by unfold vp_updL; rw [if_pos rfl, hans9.trans (congrArg nI (h_pe_like _ _ _ _ _ _ _ _ _ _ _ _ _ _ hRL rl a b cz hrl ha hb9 hc9 hok v9))])) c_1021
  · exact absurd c_1004 (by decide)
set_option maxHeartbeats 4000000 in
set_option maxRecDepth 100000 in
theorem lb_matches_t {RL : RLT} (h0 : pe0 RL) {p : Program} {e : Env} {s : State} {m : MethodId} {below : List Frame} {meth : Method} {c : Code} (l : Launch) {sb L : Nat} {xs : Nat → Int32} {X : gs_X} (htr : l.stackTraces = false) (C0 : lw_At p s m meth c sb L xs) (hL : L ≤ 3072) (hXX : X.2.1 3 ≠ X.2.1 2) (hK : gs_T X s) (hE : gs_E X s) (hz : X.2.2 ≤ s.heap.size) (hbA : ¬ gs_A X sb) {rr mo out : Nat} {A : Nat → Nat} {σ : gs_St} {nr : Nat} {cw : Nat → Nat} {Q : List Rl} {E : List En} {Lt : List Nat} {sa : Nat} {nw : Bool} {rc fc : Nat} {dr : Option Dr} {F : List (Nat × Nat)} {T : List MT} {QM : List MR} {drM : Option MR} {cd : Nat} {f : Nat → Int64} (hR : rrA X σ (out :: aM mo A) rr nr cw Q E Lt sa nw rc fc dr) (hM : moA X σ mo A cd nr cw F T sa rc QM drM) (hRL : RL nr cw Q E Lt sa nw rc fc dr F T QM drM) (ho : σ out = some (gs_la X 1 f)) {i cells slots : Nat} (hi : i + 6 ≤ L) (hce : cells + 6 ≤ 601024) (hsl : slots + 64 ≤ 7293034)  (hok : wi QM.length (xs (i + 1)) = false) (kk : ∀ (σ' : gs_St) (H : Heap) (locs : List Loc), LI RL X σ' rr mo out A → gs_H X σ' H → va_S (gs_A X) s.heap H locs → ∀ ls, lv_has ls 7 [(4, .int (nI i)), (3, .ref out), (2, .ref mo), (1, .ref rr), (0, .ref sb)] → W p l e room_1 s m #[Value.ref sb] below meth c H locs (cells + 6) (slots + 64) (lw_Z below #[Value.ref sb] s) (F0 m 1085 ls [])) {H : Heap} {locs : List Loc} (hG : gs_H X σ H) (hS : va_S (gs_A X) s.heap H locs) {ls : Array Slot} (hl : lv_has ls 7 [(4, .int (nI i)), (3, .ref out), (2, .ref mo), (1, .ref rr), (0, .ref sb)]) : W p l e room_1 s m #[Value.ref sb] below meth c H locs cells slots (lw_Z below #[Value.ref sb] s) (F0 m 1029 ls []) := by
  obtain ⟨hx, hb, hr, hml, hown, hts0, hX, hbl, hlocks, hgv⟩ := id C0
  have ht : ∀ w ∈ gs_w, w.before #[Value.ref sb] s = true := fun w h => hts0 w (List.mem_filter.mp h).1
  have hts : ∀ w ∈ (Cond.initialized "RuleRoundsLaw") :: gs_w, w.before #[Value.ref sb] s = true := fun w h => by
    rcases List.mem_cons.mp h with z | z
    · rw [z]; exact ht _ w_0
    · exact ht w z
  obtain ⟨gs, x0⟩ := hR.cell
  obtain ⟨Z, m0, z0⟩ := hM.cell
  have q0 := h0 _ _ _ _ _ _ _ _ _ _ _ _ _ _ hRL
  have hql := q0.2.2.2.2.2.2.1
  refine lv_aload_n hx hb d_LA_law_1029 rfl (lv_at hl 3 rfl) ?_
  refine lv_aload_n hx hb d_LA_law_1030 rfl (lv_at hl 4 rfl) ?_
  refine lv_iload hx hb d_LA_law_1031 (lv_at hl 0 rfl) ?_
  refine lv_iconst (v := nI 1) hx hb d_LA_law_1033 (by decide) ?_
  refine lv_iadd hx hb d_LA_law_1034 ?_
  refine gs_top (nI_add i 1) ?_
  refine gs_sld hx hb hX hbl hbA hS (j := i + 1) (by omega) (by omega) d_LA_law_1035 ?_
  refine lv_aload_n hx hb d_LA_law_1036 rfl (lv_at hl 1 rfl) ?_
  refine gs_callSiH (As := [.ref rr, .int (xs (i + 1)), .ref out]) (rest := []) ⟨hx, hb, hml, hown, hts⟩ hK hE hz hG hS (c_LA_matches_xI l X σ rr out gs _ (xs (i + 1)) x0 ⟨by decide, by decide, by decide, by decide⟩ (c_rr_matches_t l hR htr (by rw [hql]; exact hok))) mSH_LA_matches w_647 rfl hl.1 rfl (Nat.le_of_ble_eq_true rfl) ⟨by decide, by decide⟩ ⟨(by first | (show cells + 6 ≤ 601024; omega) | (show cells ≤ 601024; omega)), (by first | (show slots + 64 ≤ 7293034; omega) | (show slots ≤ 7293034; omega))⟩ d_LA_law_1037 (fun r_1037 σ_1037 H locs hp_1037 hG hS => ?_)
  refine gs_top hp_1037.1 ?_
  rw [hp_1037.2] at hG
  refine lv_istore (lv' := [(5, .int (nI 1)), (4, .int (nI i)), (3, .ref out), (2, .ref mo), (1, .ref rr), (0, .ref sb)]) hx hb d_LA_law_1040 hl (by decide) rfl (fun ls hl => ?_)
  refine lv_aload_n hx hb d_LA_law_1042 rfl (lv_at hl 3 rfl) ?_
  refine lv_aload_n hx hb d_LA_law_1043 rfl (lv_at hl 5 rfl) ?_
  refine lv_iload hx hb d_LA_law_1044 (lv_at hl 1 rfl) ?_
  refine lv_iconst (v := nI 1) hx hb d_LA_law_1046 (by decide) ?_
  refine lv_iadd hx hb d_LA_law_1047 ?_
  refine gs_top (nI_add i 1) ?_
  refine gs_sld hx hb hX hbl hbA hS (j := i + 1) (by omega) (by omega) d_LA_law_1048 ?_
  refine gs_callVi (As := [.int (xs (i + 1))]) (rest := []) ⟨hx, hb, hml, hown, hts⟩ hK hE hz hG hS (c_MO_matches_t l X σ mo A cd nr cw F T sa rc QM drM (xs (i + 1)) hM hok) mV_MO_matches w_896 m0 rfl rfl hl.1 rfl (Nat.le_of_ble_eq_true rfl) ⟨by decide, by decide⟩ ⟨(by first | (show cells + 6 ≤ 601024; omega) | (show cells ≤ 601024; omega)), (by first | (show slots + 64 ≤ 7293034; omega) | (show slots ≤ 7293034; omega))⟩ d_LA_law_1049 (fun r_1049 σ_1049 H locs hp_1049 hG hS => ?_)
  obtain ⟨hM3, hf3, er3⟩ := hp_1049
  have hR3 := hR.mdl (hM.gG ho) hf3
  have ho3 := hf3 _ _ (out_nin hM ho) ho
  obtain ⟨Z3, m03, z03⟩ := hM3.cell
  refine gs_top er3 ?_
  refine lv_istore (lv' := [(6, .int (nI 0)), (5, .int (nI 1)), (4, .int (nI i)), (3, .ref out), (2, .ref mo), (1, .ref rr), (0, .ref sb)]) hx hb d_LA_law_1052 hl (by decide) rfl (fun ls hl => ?_)
  refine lv_aload_n hx hb d_LA_law_1054 rfl (lv_at hl 4 rfl) ?_
  refine gs_callVp (As := []) (rest := []) ⟨hx, hb, hml, hown, hts⟩ hK hE hz hG hS (c_MO_thrown l X σ_1049 mo A Z3 m03) ⟨rfl, rfl⟩ mV_MO_thrown w_757 m03 rfl rfl hl.1 rfl (Nat.le_of_ble_eq_true rfl) ⟨by decide, by decide⟩ ⟨(by first | (show cells + 6 ≤ 601024; omega) | (show cells ≤ 601024; omega)), (by first | (show slots + 64 ≤ 7293034; omega) | (show slots ≤ 7293034; omega))⟩ d_LA_law_1055 (fun r_1055 hp_1055 => ?_)
  refine gs_top (show r_1055 = nI 1 from by rw [hp_1055, z03]) ?_
  refine lv_iload hx hb d_LA_law_1058 (lv_at hl 1 rfl) ?_
  refine lv_icmp_eq (tgt := 1065) hx hb d_LA_law_1060 (by decide) (fun c_1060 => ?_) (fun c_1060 => ?_)
  · have c_1060 : 1 = 1 :=  (nI_eq (by omega) (by omega)).mp c_1060
    refine lv_iload hx hb d_LA_law_1065 (lv_at hl 1 rfl) ?_
    refine lv_if_ne (tgt := 1082) hx hb d_LA_law_1067 (by decide) (fun c_1067 => ?_) (fun c_1067 => ?_)
    · have c_1067 : ¬ 1 = 0 := gs_zn (by omega) c_1067
      refine lv_goto (tgt := 1085) hx hb d_LA_law_1082 (by decide) ?_
      refine W.widen (k := cells + 6) (n := slots + 64) (by first | exact Nat.le_refl _ | exact Nat.le_add_right _ _) (by first | exact Nat.le_refl _ | exact Nat.le_add_right _ _) ?_
      exact kk σ_1049 H locs ⟨_, _, _, _, _, _, _, _, _, _, _, _, _, _, _, _, hR3, hM3, hRL, ho3⟩ hG hS ls (lv_sub hl [2, 3, 4, 5, 6] rfl)
    · exact absurd c_1067 (by decide)
  · exact absurd c_1060 (by decide)
set_option maxHeartbeats 4000000 in
set_option maxRecDepth 100000 in
theorem lb_matches_ok {RL : RLT} (h0 : pe0 RL) (h_pe_matches : pe_matches RL) {p : Program} {e : Env} {s : State} {m : MethodId} {below : List Frame} {meth : Method} {c : Code} (l : Launch) {sb L : Nat} {xs : Nat → Int32} {X : gs_X} (htr : l.stackTraces = false) (C0 : lw_At p s m meth c sb L xs) (hL : L ≤ 3072) (hXX : X.2.1 3 ≠ X.2.1 2) (hK : gs_T X s) (hE : gs_E X s) (hz : X.2.2 ≤ s.heap.size) (hbA : ¬ gs_A X sb) {rr mo out : Nat} {A : Nat → Nat} {σ : gs_St} {nr : Nat} {cw : Nat → Nat} {Q : List Rl} {E : List En} {Lt : List Nat} {sa : Nat} {nw : Bool} {rc fc : Nat} {dr : Option Dr} {F : List (Nat × Nat)} {T : List MT} {QM : List MR} {drM : Option MR} {cd : Nat} {f : Nat → Int64} (hR : rrA X σ (out :: aM mo A) rr nr cw Q E Lt sa nw rc fc dr) (hM : moA X σ mo A cd nr cw F T sa rc QM drM) (hRL : RL nr cw Q E Lt sa nw rc fc dr F T QM drM) (ho : σ out = some (gs_la X 1 f)) {i cells slots : Nat} (hi : i + 6 ≤ L) (hce : cells + 6 ≤ 601024) (hsl : slots + 64 ≤ 7293034) {qn : Nat} {RC : Rl} {RM : MR} (e1 : xs (i + 1) = nI qn) (hq1 : Q[qn]? = some RC) (hq2 : QM[qn]? = some RM) (kk : ∀ (σ' : gs_St) (H : Heap) (locs : List Loc), LI RL X σ' rr mo out A → gs_H X σ' H → va_S (gs_A X) s.heap H locs → ∀ ls, lv_has ls 7 [(4, .int (nI i)), (3, .ref out), (2, .ref mo), (1, .ref rr), (0, .ref sb)] → W p l e room_1 s m #[Value.ref sb] below meth c H locs (cells + 6) (slots + 64) (lw_Z below #[Value.ref sb] s) (F0 m 1085 ls [])) {H : Heap} {locs : List Loc} (hG : gs_H X σ H) (hS : va_S (gs_A X) s.heap H locs) {ls : Array Slot} (hl : lv_has ls 7 [(4, .int (nI i)), (3, .ref out), (2, .ref mo), (1, .ref rr), (0, .ref sb)]) : W p l e room_1 s m #[Value.ref sb] below meth c H locs cells slots (lw_Z below #[Value.ref sb] s) (F0 m 1029 ls []) := by
  obtain ⟨hx, hb, hr, hml, hown, hts0, hX, hbl, hlocks, hgv⟩ := id C0
  have ht : ∀ w ∈ gs_w, w.before #[Value.ref sb] s = true := fun w h => hts0 w (List.mem_filter.mp h).1
  have hts : ∀ w ∈ (Cond.initialized "RuleRoundsLaw") :: gs_w, w.before #[Value.ref sb] s = true := fun w h => by
    rcases List.mem_cons.mp h with z | z
    · rw [z]; exact ht _ w_0
    · exact ht w z
  obtain ⟨gs, x0⟩ := hR.cell
  obtain ⟨Z, m0, z0⟩ := hM.cell
  have q0 := h0 _ _ _ _ _ _ _ _ _ _ _ _ _ _ hRL
  refine lv_aload_n hx hb d_LA_law_1029 rfl (lv_at hl 3 rfl) ?_
  refine lv_aload_n hx hb d_LA_law_1030 rfl (lv_at hl 4 rfl) ?_
  refine lv_iload hx hb d_LA_law_1031 (lv_at hl 0 rfl) ?_
  refine lv_iconst (v := nI 1) hx hb d_LA_law_1033 (by decide) ?_
  refine lv_iadd hx hb d_LA_law_1034 ?_
  refine gs_top (nI_add i 1) ?_
  refine gs_sld hx hb hX hbl hbA hS (j := i + 1) (by omega) (by omega) d_LA_law_1035 ?_
  refine gs_top (show xs (i + 1) = (nI qn) from e1) ?_
  refine lv_aload_n hx hb d_LA_law_1036 rfl (lv_at hl 1 rfl) ?_
  refine gs_callSiH (As := [.ref rr, .int (nI qn), .ref out]) (rest := []) ⟨hx, hb, hml, hown, hts⟩ hK hE hz hG hS (c_LA_matches l X σ rr out gs _ f (nI qn) _ x0 ⟨by decide, by decide, by decide, by decide⟩ (c_rr_matches l hR hXX hq1) (fun r9 σ9 z => by obtain ⟨v, z1, z2, z3⟩ := z; exact z2 out List.mem_cons_self _ ho)) mSH_LA_matches w_647 rfl hl.1 rfl (Nat.le_of_ble_eq_true rfl) ⟨by decide, by decide⟩ ⟨(by first | (show cells + 6 ≤ 601024; omega) | (show cells ≤ 601024; omega)), (by first | (show slots + 64 ≤ 7293034; omega) | (show slots ≤ 7293034; omega))⟩ d_LA_law_1037 (fun r_1037 σ_1037 H locs hp_1037 hG hS => ?_)
  obtain ⟨ek, r9, σ9, ⟨v9, hR9, hk9, hans9⟩, ev⟩ := hp_1037
  refine gs_top ek ?_
  rw [ev] at hG
  obtain ⟨hR2, hM2⟩ := ans_put (f' := vp_updL f 0 r9.toInt64) hR9 hk9 hM ho
  obtain ⟨σ1, eσ1⟩ : ∃ z, z = gs_up σ9 out (gs_la X 1 (vp_updL f 0 r9.toInt64)) := ⟨_, rfl⟩
  rw [← eσ1] at hG hR2 hM2
  have ho2 : σ1 out = some (gs_la X 1 (vp_updL f 0 r9.toInt64)) := by rw [eσ1]; exact gs_us
  obtain ⟨Z2, m02, z02⟩ := hM2.cell
  refine lv_istore (lv' := [(5, .int (nI 0)), (4, .int (nI i)), (3, .ref out), (2, .ref mo), (1, .ref rr), (0, .ref sb)]) hx hb d_LA_law_1040 hl (by decide) rfl (fun ls hl => ?_)
  refine lv_aload_n hx hb d_LA_law_1042 rfl (lv_at hl 3 rfl) ?_
  refine lv_aload_n hx hb d_LA_law_1043 rfl (lv_at hl 5 rfl) ?_
  refine lv_iload hx hb d_LA_law_1044 (lv_at hl 1 rfl) ?_
  refine lv_iconst (v := nI 1) hx hb d_LA_law_1046 (by decide) ?_
  refine lv_iadd hx hb d_LA_law_1047 ?_
  refine gs_top (nI_add i 1) ?_
  refine gs_sld hx hb hX hbl hbA hS (j := i + 1) (by omega) (by omega) d_LA_law_1048 ?_
  refine gs_top (show xs (i + 1) = (nI qn) from e1) ?_
  refine gs_callVi (As := [.int (nI qn)]) (rest := []) ⟨hx, hb, hml, hown, hts⟩ hK hE hz hG hS (c_MO_matches l X σ1 mo A cd nr cw F T sa rc QM drM qn RM hM2 hq2 (q0.2.2.2.2.2.1 RM (List.mem_of_getElem? hq2)).1 (q0.2.2.2.2.2.1 RM (List.mem_of_getElem? hq2)).2) mV_MO_matches w_896 m02 rfl rfl hl.1 rfl (Nat.le_of_ble_eq_true rfl) ⟨by decide, by decide⟩ ⟨(by first | (show cells + 6 ≤ 601024; omega) | (show cells ≤ 601024; omega)), (by first | (show slots + 64 ≤ 7293034; omega) | (show slots ≤ 7293034; omega))⟩ d_LA_law_1049 (fun r_1049 σ_1049 H locs hp_1049 hG hS => ?_)
  obtain ⟨hM3, hf3, er3⟩ := hp_1049
  have hR3 := hR2.mdl (hM2.gG ho2) hf3
  have ho3 := hf3 _ _ (out_nin hM2 ho2) ho2
  obtain ⟨Z3, m03, z03⟩ := hM3.cell
  refine gs_top er3 ?_
  refine lv_istore (lv' := [(6, .int (nI ((trM cw T rc qn RM false (hls RM) (fun _ => none) ([], false, 0)).2.2))), (5, .int (nI 0)), (4, .int (nI i)), (3, .ref out), (2, .ref mo), (1, .ref rr), (0, .ref sb)]) hx hb d_LA_law_1052 hl (by decide) rfl (fun ls hl => ?_)
  refine lv_aload_n hx hb d_LA_law_1054 rfl (lv_at hl 4 rfl) ?_
  refine gs_callVp (As := []) (rest := []) ⟨hx, hb, hml, hown, hts⟩ hK hE hz hG hS (c_MO_thrown l X σ_1049 mo A Z3 m03) ⟨rfl, rfl⟩ mV_MO_thrown w_757 m03 rfl rfl hl.1 rfl (Nat.le_of_ble_eq_true rfl) ⟨by decide, by decide⟩ ⟨(by first | (show cells + 6 ≤ 601024; omega) | (show cells ≤ 601024; omega)), (by first | (show slots + 64 ≤ 7293034; omega) | (show slots ≤ 7293034; omega))⟩ d_LA_law_1055 (fun r_1055 hp_1055 => ?_)
  refine gs_top (show r_1055 = nI 0 from by rw [hp_1055, z03]) ?_
  refine lv_iload hx hb d_LA_law_1058 (lv_at hl 1 rfl) ?_
  refine lv_icmp_eq (tgt := 1065) hx hb d_LA_law_1060 (by decide) (fun c_1060 => ?_) (fun c_1060 => ?_)
  · have c_1060 : 0 = 0 :=  (nI_eq (by omega) (by omega)).mp c_1060
    refine lv_iload hx hb d_LA_law_1065 (lv_at hl 1 rfl) ?_
    refine lv_if_ne (tgt := 1082) hx hb d_LA_law_1067 (by decide) (fun c_1067 => ?_) (fun c_1067 => ?_)
    · exact absurd c_1067 (by decide)
    · have c_1067 : 0 = 0 := gs_z (by omega) c_1067
      refine lv_aload_n hx hb d_LA_law_1070 rfl (lv_at hl 3 rfl) ?_
      refine lv_iconst (v := nI 0) hx hb d_LA_law_1071 (by decide) ?_
      refine gs_lald hx hb hK hG ho3 (j := 0) (by omega) (by omega) d_LA_law_1072 ?_
      refine lv_iload hx hb d_LA_law_1073 (lv_at hl 0 rfl) ?_
      refine lv_i2l hx hb d_LA_law_1075 rfl ?_
      refine W.lcmp hx hb d_LA_law_1076 ?_
      refine lv_if_eq (tgt := 1082) hx hb d_LA_law_1077 (by decide) (fun c_1077 => ?_) (fun c_1077 => ?_)
      · refine lv_goto (tgt := 1085) hx hb d_LA_law_1082 (by decide) ?_
        refine W.widen (k := cells + 6) (n := slots + 64) (by first | exact Nat.le_refl _ | exact Nat.le_add_right _ _) (by first | exact Nat.le_refl _ | exact Nat.le_add_right _ _) ?_
        exact kk σ_1049 H locs ⟨_, _, _, _, _, _, _, _, _, _, _, _, _, _, _, _, hR3, hM3, hRL, ho3⟩ hG hS ls (lv_sub hl [2, 3, 4, 5, 6] rfl)
      · exact absurd (cmp_0.mpr (show vp_updL f 0 r9.toInt64 0 = _ from by unfold vp_updL; rw [if_pos rfl, hans9.trans (congrArg nI (h_pe_matches _ _ _ _ _ _ _ _ _ _ _ _ _ _ hRL qn RC RM v9 hq1 hq2))])) c_1077
  · exact absurd c_1060 (by decide)
