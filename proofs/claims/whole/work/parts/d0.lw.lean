set_option maxHeartbeats 4000000 in
set_option maxRecDepth 100000 in
theorem lb_strata {RL : RLT} (h0 : pe0 RL) (h_pe_strata : pe_strata RL) {p : Program} {e : Env} {s : State} {m : MethodId} {below : List Frame} {meth : Method} {c : Code} (l : Launch) {sb L : Nat} {xs : Nat → Int32} {X : gs_X} (htr : l.stackTraces = false) (C0 : lw_At p s m meth c sb L xs) (hL : L ≤ 3072) (hXX : X.2.1 3 ≠ X.2.1 2) (hK : gs_T X s) (hE : gs_E X s) (hz : X.2.2 ≤ s.heap.size) (hbA : ¬ gs_A X sb) {rr mo out : Nat} {A : Nat → Nat} {σ : gs_St} {nr : Nat} {cw : Nat → Nat} {Q : List Rl} {E : List En} {Lt : List Nat} {sa : Nat} {nw : Bool} {rc fc : Nat} {dr : Option Dr} {F : List (Nat × Nat)} {T : List MT} {QM : List MR} {drM : Option MR} {cd : Nat} {f : Nat → Int64} (hR : rrA X σ (out :: aM mo A) rr nr cw Q E Lt sa nw rc fc dr) (hM : moA X σ mo A cd nr cw F T sa rc QM drM) (hRL : RL nr cw Q E Lt sa nw rc fc dr F T QM drM) (ho : σ out = some (gs_la X 1 f)) {i cells slots : Nat} (hi : i + 6 ≤ L) (hce : cells + 6 ≤ 601024) (hsl : slots + 64 ≤ 7293034) (kk : ∀ (σ' : gs_St) (H : Heap) (locs : List Loc), LI RL X σ' rr mo out A → gs_H X σ' H → va_S (gs_A X) s.heap H locs → ∀ ls, lv_has ls 7 [(4, .int (nI i)), (3, .ref out), (2, .ref mo), (1, .ref rr), (0, .ref sb)] → W p l e room_1 s m #[Value.ref sb] below meth c H locs (cells + 6) (slots + 64) (lw_Z below #[Value.ref sb] s) (F0 m 1085 ls [])) {H : Heap} {locs : List Loc} (hG : gs_H X σ H) (hS : va_S (gs_A X) s.heap H locs) {ls : Array Slot} (hl : lv_has ls 7 [(4, .int (nI i)), (3, .ref out), (2, .ref mo), (1, .ref rr), (0, .ref sb)]) : W p l e room_1 s m #[Value.ref sb] below meth c H locs cells slots (lw_Z below #[Value.ref sb] s) (F0 m 594 ls []) := by
  obtain ⟨hx, hb, hr, hml, hown, hts0, hX, hbl, hlocks, hgv⟩ := id C0
  have ht : ∀ w ∈ gs_w, w.before #[Value.ref sb] s = true := fun w h => hts0 w (List.mem_filter.mp h).1
  have hts : ∀ w ∈ (Cond.initialized "RuleRoundsLaw") :: gs_w, w.before #[Value.ref sb] s = true := fun w h => by
    rcases List.mem_cons.mp h with z | z
    · rw [z]; exact ht _ w_0
    · exact ht w z
  obtain ⟨gs, x0⟩ := hR.cell
  obtain ⟨Z, m0, z0⟩ := hM.cell
  have q0 := h0 _ _ _ _ _ _ _ _ _ _ _ _ _ _ hRL
  refine lv_aload_n hx hb d_LA_law_594 rfl (lv_at hl 3 rfl) ?_
  refine gs_callVi (As := []) (rest := []) ⟨hx, hb, hml, hown, hts⟩ hK hE hz hG hS (c_rr_strata l hR) mV_RR_strata w_156 x0 rfl rfl hl.1 rfl (Nat.le_of_ble_eq_true rfl) ⟨by decide, by decide⟩ ⟨(by first | (show cells + 6 ≤ 601024; omega) | (show cells ≤ 601024; omega)), (by first | (show slots + 64 ≤ 7293034; omega) | (show slots ≤ 7293034; omega))⟩ d_LA_law_595 (fun r_595 σ_595 H locs hp_595 hG hS => ?_)
  obtain ⟨hans9, hu9⟩ := hp_595
  rw [hu9] at hG
  have hR2 := hR
  have hM2 := hM
  have ho2 := ho
  refine lv_aload_n hx hb d_LA_law_598 rfl (lv_at hl 2 rfl) ?_
  refine gs_callVi (As := []) (rest := [.int r_595]) ⟨hx, hb, hml, hown, hts⟩ hK hE hz hG hS (c_MO_strata l X σ mo A cd nr cw F T sa rc QM drM hM2) mV_MO_strata w_816 m0 rfl rfl hl.1 rfl (Nat.le_of_ble_eq_true rfl) ⟨by decide, by decide⟩ ⟨(by first | (show cells + 6 ≤ 601024; omega) | (show cells ≤ 601024; omega)), (by first | (show slots + 64 ≤ 7293034; omega) | (show slots ≤ 7293034; omega))⟩ d_LA_law_599 (fun r_599 σ_599 H locs hp_599 hG hS => ?_)
  obtain ⟨hM3, hf3, er3⟩ := hp_599
  have hR3 := hR2.mdl (hM2.gG ho2) hf3
  have ho3 := hf3 _ _ (out_nin hM2 ho2) ho2
  have heq : r_595 = r_599 := hans9.trans ((h_pe_strata _ _ _ _ _ _ _ _ _ _ _ _ _ _ hRL).1.trans er3.symm)
  refine lv_icmp_eq (tgt := 1085) hx hb d_LA_law_602 (by decide) (fun c_602 => ?_) (fun c_602 => ?_)
  · refine W.widen (k := cells + 6) (n := slots + 64) (by first | exact Nat.le_refl _ | exact Nat.le_add_right _ _) (by first | exact Nat.le_refl _ | exact Nat.le_add_right _ _) ?_
    exact kk σ_599 H locs ⟨_, _, _, _, _, _, _, _, _, _, _, _, _, _, _, _, hR3, hM3, hRL, ho3⟩ hG hS ls (lv_sub hl [0, 1, 2, 3, 4] rfl)
  · exact absurd heq c_602
set_option maxHeartbeats 4000000 in
set_option maxRecDepth 100000 in
theorem lb_step {RL : RLT} (h0 : pe0 RL) (h_pe_step : pe_step RL) {p : Program} {e : Env} {s : State} {m : MethodId} {below : List Frame} {meth : Method} {c : Code} (l : Launch) {sb L : Nat} {xs : Nat → Int32} {X : gs_X} (htr : l.stackTraces = false) (C0 : lw_At p s m meth c sb L xs) (hL : L ≤ 3072) (hXX : X.2.1 3 ≠ X.2.1 2) (hK : gs_T X s) (hE : gs_E X s) (hz : X.2.2 ≤ s.heap.size) (hbA : ¬ gs_A X sb) {rr mo out : Nat} {A : Nat → Nat} {σ : gs_St} {nr : Nat} {cw : Nat → Nat} {Q : List Rl} {E : List En} {Lt : List Nat} {sa : Nat} {nw : Bool} {rc fc : Nat} {dr : Option Dr} {F : List (Nat × Nat)} {T : List MT} {QM : List MR} {drM : Option MR} {cd : Nat} {f : Nat → Int64} (hR : rrA X σ (out :: aM mo A) rr nr cw Q E Lt sa nw rc fc dr) (hM : moA X σ mo A cd nr cw F T sa rc QM drM) (hRL : RL nr cw Q E Lt sa nw rc fc dr F T QM drM) (ho : σ out = some (gs_la X 1 f)) {i cells slots : Nat} (hi : i + 6 ≤ L) (hce : cells + 6 ≤ 601024) (hsl : slots + 64 ≤ 7293034) (kk : ∀ (σ' : gs_St) (H : Heap) (locs : List Loc), LI RL X σ' rr mo out A → gs_H X σ' H → va_S (gs_A X) s.heap H locs → ∀ ls, lv_has ls 7 [(4, .int (nI i)), (3, .ref out), (2, .ref mo), (1, .ref rr), (0, .ref sb)] → W p l e room_1 s m #[Value.ref sb] below meth c H locs (cells + 6) (slots + 64) (lw_Z below #[Value.ref sb] s) (F0 m 1085 ls [])) {H : Heap} {locs : List Loc} (hG : gs_H X σ H) (hS : va_S (gs_A X) s.heap H locs) {ls : Array Slot} (hl : lv_has ls 7 [(4, .int (nI i)), (3, .ref out), (2, .ref mo), (1, .ref rr), (0, .ref sb)]) : W p l e room_1 s m #[Value.ref sb] below meth c H locs cells slots (lw_Z below #[Value.ref sb] s) (F0 m 663 ls []) := by
  obtain ⟨hx, hb, hr, hml, hown, hts0, hX, hbl, hlocks, hgv⟩ := id C0
  have ht : ∀ w ∈ gs_w, w.before #[Value.ref sb] s = true := fun w h => hts0 w (List.mem_filter.mp h).1
  have hts : ∀ w ∈ (Cond.initialized "RuleRoundsLaw") :: gs_w, w.before #[Value.ref sb] s = true := fun w h => by
    rcases List.mem_cons.mp h with z | z
    · rw [z]; exact ht _ w_0
    · exact ht w z
  obtain ⟨gs, x0⟩ := hR.cell
  obtain ⟨Z, m0, z0⟩ := hM.cell
  have q0 := h0 _ _ _ _ _ _ _ _ _ _ _ _ _ _ hRL
  have hsa9 := q0.2.2.2.1
  have hrc9 := q0.2.2.2.2.1
  refine lv_aload_n hx hb d_LA_law_663 rfl (lv_at hl 3 rfl) ?_
  refine gs_callVi (As := []) (rest := []) ⟨hx, hb, hml, hown, hts⟩ hK hE hz hG hS (c_rr_step l hR hXX (by omega) (by omega)) mV_RR_step w_160 x0 rfl rfl hl.1 rfl (Nat.le_of_ble_eq_true rfl) ⟨by decide, by decide⟩ ⟨(by first | (show cells + 6 ≤ 601024; omega) | (show cells ≤ 601024; omega)), (by first | (show slots + 64 ≤ 7293034; omega) | (show slots ≤ 7293034; omega))⟩ d_LA_law_664 (fun r_664 σ_664 H locs hp_664 hG hS => ?_)
  obtain ⟨v9, E', Lt', v', sa', nw', rc', hn9, hR2, hk9⟩ := hp_664
  have hM2 := hM.kept (fun q hq e he => hk9 q (List.mem_cons_of_mem _ hq) e he)
  have ho2 := hk9 out List.mem_cons_self _ ho
  obtain ⟨p1, p2, p3, p4⟩ := (h_pe_step _ _ _ _ _ _ _ _ _ _ _ _ _ _ hRL v9 _ _ _ _ _ _ _ hn9)
  obtain ⟨Z2, m02, z02⟩ := hM2.cell
  refine lv_aload_n hx hb d_LA_law_667 rfl (lv_at hl 2 rfl) ?_
  refine gs_callVi (As := []) (rest := [.int r_664]) ⟨hx, hb, hml, hown, hts⟩ hK hE hz hG hS (c_MO_step l X σ_664 mo A cd nr cw F T sa rc QM drM hM2 (by omega) q0.2.2.2.2.2.1 (by omega)) mV_MO_step w_832 m02 rfl rfl hl.1 rfl (Nat.le_of_ble_eq_true rfl) ⟨by decide, by decide⟩ ⟨(by first | (show cells + 6 ≤ 601024; omega) | (show cells ≤ 601024; omega)), (by first | (show slots + 64 ≤ 7293034; omega) | (show slots ≤ 7293034; omega))⟩ d_LA_law_668 (fun r_668 σ_668 H locs hp_668 hG hS => ?_)
  obtain ⟨hM3, hf3, er3⟩ := hp_668
  have hR3 := hR2.mdl (hM2.gG ho2) hf3
  have ho3 := hf3 _ _ (out_nin hM2 ho2) ho2
  rw [← p2, ← p3] at hM3
  have heq : r_664 = r_668 := p1.trans er3.symm
  refine lv_icmp_eq (tgt := 1085) hx hb d_LA_law_671 (by decide) (fun c_671 => ?_) (fun c_671 => ?_)
  · refine W.widen (k := cells + 6) (n := slots + 64) (by first | exact Nat.le_refl _ | exact Nat.le_add_right _ _) (by first | exact Nat.le_refl _ | exact Nat.le_add_right _ _) ?_
    exact kk σ_668 H locs ⟨_, _, _, _, _, _, _, _, _, _, _, _, _, _, _, _, hR3, hM3, p4, ho3⟩ hG hS ls (lv_sub hl [0, 1, 2, 3, 4] rfl)
  · exact absurd heq c_671
set_option maxHeartbeats 4000000 in
set_option maxRecDepth 100000 in
theorem lb_run {RL : RLT} (h0 : pe0 RL) (h_pe_run : pe_run RL) {p : Program} {e : Env} {s : State} {m : MethodId} {below : List Frame} {meth : Method} {c : Code} (l : Launch) {sb L : Nat} {xs : Nat → Int32} {X : gs_X} (htr : l.stackTraces = false) (C0 : lw_At p s m meth c sb L xs) (hL : L ≤ 3072) (hXX : X.2.1 3 ≠ X.2.1 2) (hK : gs_T X s) (hE : gs_E X s) (hz : X.2.2 ≤ s.heap.size) (hbA : ¬ gs_A X sb) {rr mo out : Nat} {A : Nat → Nat} {σ : gs_St} {nr : Nat} {cw : Nat → Nat} {Q : List Rl} {E : List En} {Lt : List Nat} {sa : Nat} {nw : Bool} {rc fc : Nat} {dr : Option Dr} {F : List (Nat × Nat)} {T : List MT} {QM : List MR} {drM : Option MR} {cd : Nat} {f : Nat → Int64} (hR : rrA X σ (out :: aM mo A) rr nr cw Q E Lt sa nw rc fc dr) (hM : moA X σ mo A cd nr cw F T sa rc QM drM) (hRL : RL nr cw Q E Lt sa nw rc fc dr F T QM drM) (ho : σ out = some (gs_la X 1 f)) {i cells slots : Nat} (hi : i + 6 ≤ L) (hce : cells + 6 ≤ 601024) (hsl : slots + 64 ≤ 7293034) (kk : ∀ (σ' : gs_St) (H : Heap) (locs : List Loc), LI RL X σ' rr mo out A → gs_H X σ' H → va_S (gs_A X) s.heap H locs → ∀ ls, lv_has ls 7 [(4, .int (nI i)), (3, .ref out), (2, .ref mo), (1, .ref rr), (0, .ref sb)] → W p l e room_1 s m #[Value.ref sb] below meth c H locs (cells + 6) (slots + 64) (lw_Z below #[Value.ref sb] s) (F0 m 1085 ls [])) {H : Heap} {locs : List Loc} (hG : gs_H X σ H) (hS : va_S (gs_A X) s.heap H locs) {ls : Array Slot} (hl : lv_has ls 7 [(4, .int (nI i)), (3, .ref out), (2, .ref mo), (1, .ref rr), (0, .ref sb)]) : W p l e room_1 s m #[Value.ref sb] below meth c H locs cells slots (lw_Z below #[Value.ref sb] s) (F0 m 676 ls []) := by
  obtain ⟨hx, hb, hr, hml, hown, hts0, hX, hbl, hlocks, hgv⟩ := id C0
  have ht : ∀ w ∈ gs_w, w.before #[Value.ref sb] s = true := fun w h => hts0 w (List.mem_filter.mp h).1
  have hts : ∀ w ∈ (Cond.initialized "RuleRoundsLaw") :: gs_w, w.before #[Value.ref sb] s = true := fun w h => by
    rcases List.mem_cons.mp h with z | z
    · rw [z]; exact ht _ w_0
    · exact ht w z
  obtain ⟨gs, x0⟩ := hR.cell
  obtain ⟨Z, m0, z0⟩ := hM.cell
  have q0 := h0 _ _ _ _ _ _ _ _ _ _ _ _ _ _ hRL
  have hsa9 := q0.2.2.2.1
  have hrc9 := q0.2.2.2.2.1
  refine lv_aload_n hx hb d_LA_law_676 rfl (lv_at hl 3 rfl) ?_
  refine gs_callVi (As := []) (rest := []) ⟨hx, hb, hml, hown, hts⟩ hK hE hz hG hS (c_rr_run l hR hXX (by omega) (by omega)) mV_RR_run w_249 x0 rfl rfl hl.1 rfl (Nat.le_of_ble_eq_true rfl) ⟨by decide, by decide⟩ ⟨(by first | (show cells + 6 ≤ 601024; omega) | (show cells ≤ 601024; omega)), (by first | (show slots + 64 ≤ 7293034; omega) | (show slots ≤ 7293034; omega))⟩ d_LA_law_677 (fun r_677 σ_677 H locs hp_677 hG hS => ?_)
  obtain ⟨v9, E', Lt', v', sa', nw', rc', cm9, hn9, hR2, hk9, hans9⟩ := hp_677
  have hM2 := hM.kept (fun q hq e he => hk9 q (List.mem_cons_of_mem _ hq) e he)
  have ho2 := hk9 out List.mem_cons_self _ ho
  obtain ⟨p1, p5, p2, p3, p4⟩ := (h_pe_run _ _ _ _ _ _ _ _ _ _ _ _ _ _ hRL v9 _ _ _ _ _ _ _ hn9)
  obtain ⟨Z2, m02, z02⟩ := hM2.cell
  refine lv_aload_n hx hb d_LA_law_680 rfl (lv_at hl 2 rfl) ?_
  refine gs_callVi (As := []) (rest := [.int r_677]) ⟨hx, hb, hml, hown, hts⟩ hK hE hz hG hS (c_MO_run l X σ_677 mo A cd nr cw F T sa rc QM drM hM2 q0.2.2.2.2.2.1 1000 q0.2.2.2.2.2.2.2.1 (by omega) (by omega) q0.2.2.2.2.2.2.2.2.1) mV_MO_run w_872 m02 rfl rfl hl.1 rfl (Nat.le_of_ble_eq_true rfl) ⟨by decide, by decide⟩ ⟨(by first | (show cells + 6 ≤ 601024; omega) | (show cells ≤ 601024; omega)), (by first | (show slots + 64 ≤ 7293034; omega) | (show slots ≤ 7293034; omega))⟩ d_LA_law_681 (fun r_681 σ_681 H locs hp_681 hG hS => ?_)
  obtain ⟨hM3, hf3, er3⟩ := hp_681
  have hR3 := hR2.mdl (hM2.gG ho2) hf3
  have ho3 := hf3 _ _ (out_nin hM2 ho2) ho2
  rw [← p2, ← p3] at hM3
  have heq : r_677 = r_681 := by rw [hans9, er3, p1, p5, q0.2.2.1]
  refine lv_icmp_eq (tgt := 1085) hx hb d_LA_law_684 (by decide) (fun c_684 => ?_) (fun c_684 => ?_)
  · refine W.widen (k := cells + 6) (n := slots + 64) (by first | exact Nat.le_refl _ | exact Nat.le_add_right _ _) (by first | exact Nat.le_refl _ | exact Nat.le_add_right _ _) ?_
    exact kk σ_681 H locs ⟨_, _, _, _, _, _, _, _, _, _, _, _, _, _, _, _, hR3, hM3, p4, ho3⟩ hG hS ls (lv_sub hl [0, 1, 2, 3, 4] rfl)
  · exact absurd heq c_684
set_option maxHeartbeats 4000000 in
set_option maxRecDepth 100000 in
theorem lb_rounds {RL : RLT} (h0 : pe0 RL) {p : Program} {e : Env} {s : State} {m : MethodId} {below : List Frame} {meth : Method} {c : Code} (l : Launch) {sb L : Nat} {xs : Nat → Int32} {X : gs_X} (htr : l.stackTraces = false) (C0 : lw_At p s m meth c sb L xs) (hL : L ≤ 3072) (hXX : X.2.1 3 ≠ X.2.1 2) (hK : gs_T X s) (hE : gs_E X s) (hz : X.2.2 ≤ s.heap.size) (hbA : ¬ gs_A X sb) {rr mo out : Nat} {A : Nat → Nat} {σ : gs_St} {nr : Nat} {cw : Nat → Nat} {Q : List Rl} {E : List En} {Lt : List Nat} {sa : Nat} {nw : Bool} {rc fc : Nat} {dr : Option Dr} {F : List (Nat × Nat)} {T : List MT} {QM : List MR} {drM : Option MR} {cd : Nat} {f : Nat → Int64} (hR : rrA X σ (out :: aM mo A) rr nr cw Q E Lt sa nw rc fc dr) (hM : moA X σ mo A cd nr cw F T sa rc QM drM) (hRL : RL nr cw Q E Lt sa nw rc fc dr F T QM drM) (ho : σ out = some (gs_la X 1 f)) {i cells slots : Nat} (hi : i + 6 ≤ L) (hce : cells + 6 ≤ 601024) (hsl : slots + 64 ≤ 7293034) (kk : ∀ (σ' : gs_St) (H : Heap) (locs : List Loc), LI RL X σ' rr mo out A → gs_H X σ' H → va_S (gs_A X) s.heap H locs → ∀ ls, lv_has ls 7 [(4, .int (nI i)), (3, .ref out), (2, .ref mo), (1, .ref rr), (0, .ref sb)] → W p l e room_1 s m #[Value.ref sb] below meth c H locs (cells + 6) (slots + 64) (lw_Z below #[Value.ref sb] s) (F0 m 1085 ls [])) {H : Heap} {locs : List Loc} (hG : gs_H X σ H) (hS : va_S (gs_A X) s.heap H locs) {ls : Array Slot} (hl : lv_has ls 7 [(4, .int (nI i)), (3, .ref out), (2, .ref mo), (1, .ref rr), (0, .ref sb)]) : W p l e room_1 s m #[Value.ref sb] below meth c H locs cells slots (lw_Z below #[Value.ref sb] s) (F0 m 689 ls []) := by
  obtain ⟨hx, hb, hr, hml, hown, hts0, hX, hbl, hlocks, hgv⟩ := id C0
  have ht : ∀ w ∈ gs_w, w.before #[Value.ref sb] s = true := fun w h => hts0 w (List.mem_filter.mp h).1
  have hts : ∀ w ∈ (Cond.initialized "RuleRoundsLaw") :: gs_w, w.before #[Value.ref sb] s = true := fun w h => by
    rcases List.mem_cons.mp h with z | z
    · rw [z]; exact ht _ w_0
    · exact ht w z
  obtain ⟨gs, x0⟩ := hR.cell
  obtain ⟨Z, m0, z0⟩ := hM.cell
  have q0 := h0 _ _ _ _ _ _ _ _ _ _ _ _ _ _ hRL
  refine lv_aload_n hx hb d_LA_law_689 rfl (lv_at hl 3 rfl) ?_
  refine gs_callVi (As := []) (rest := []) ⟨hx, hb, hml, hown, hts⟩ hK hE hz hG hS (c_rr_rounds l hR) mV_RR_rounds w_253 x0 rfl rfl hl.1 rfl (Nat.le_of_ble_eq_true rfl) ⟨by decide, by decide⟩ ⟨(by first | (show cells + 6 ≤ 601024; omega) | (show cells ≤ 601024; omega)), (by first | (show slots + 64 ≤ 7293034; omega) | (show slots ≤ 7293034; omega))⟩ d_LA_law_690 (fun r_690 σ_690 H locs hp_690 hG hS => ?_)
  obtain ⟨hans9, hu9⟩ := hp_690
  rw [hu9] at hG
  have hR2 := hR
  have hM2 := hM
  have ho2 := ho
  obtain ⟨_, _, _, _, hrc8, ⟨Z4, m04, z00, z1, z4, z7, z16, z17, z25, z26⟩, _⟩ := id hM
  refine lv_aload_n hx hb d_LA_law_693 rfl (lv_at hl 2 rfl) ?_
  refine gs_callVi (As := []) (rest := [.int r_690]) ⟨hx, hb, hml, hown, hts⟩ hK hE hz hG hS (c_MO_rounds l X σ mo A Z4 m04) mV_MO_rounds w_876 m04 rfl rfl hl.1 rfl (Nat.le_of_ble_eq_true rfl) ⟨by decide, by decide⟩ ⟨(by first | (show cells + 6 ≤ 601024; omega) | (show cells ≤ 601024; omega)), (by first | (show slots + 64 ≤ 7293034; omega) | (show slots ≤ 7293034; omega))⟩ d_LA_law_694 (fun r_694 σ_694 H locs hp_694 hG hS => ?_)
  obtain ⟨m09, hf0, er3⟩ := hp_694
  have hM3 := hM.num hf0 ⟨_, m09, rfl, z1, z4, z7, z16, z17, z25, z26⟩ hrc8
  have hf3 := hf0.wk (B := aM mo A) (by simp)
  have hR3 := hR2.mdl (hM2.gG ho2) hf3
  have ho3 := hf3 _ _ (out_nin hM2 ho2) ho2
  have heq : r_690 = r_694 := hans9.trans (by rw [er3, z26])
  refine lv_icmp_eq (tgt := 1085) hx hb d_LA_law_697 (by decide) (fun c_697 => ?_) (fun c_697 => ?_)
  · refine W.widen (k := cells + 6) (n := slots + 64) (by first | exact Nat.le_refl _ | exact Nat.le_add_right _ _) (by first | exact Nat.le_refl _ | exact Nat.le_add_right _ _) ?_
    exact kk σ_694 H locs ⟨_, _, _, _, _, _, _, _, _, _, _, _, _, _, _, _, hR3, hM3, hRL, ho3⟩ hG hS ls (lv_sub hl [0, 1, 2, 3, 4] rfl)
  · exact absurd heq c_697
