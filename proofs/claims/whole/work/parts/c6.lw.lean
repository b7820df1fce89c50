set_option maxHeartbeats 4000000 in
set_option maxRecDepth 100000 in
theorem lb_relation_t {RL : RLT} (h0 : pe0 RL) {p : Program} {e : Env} {s : State} {m : MethodId} {below : List Frame} {meth : Method} {c : Code} (l : Launch) {sb L : Nat} {xs : Nat → Int32} {X : gs_X} (htr : l.stackTraces = false) (C0 : lw_At p s m meth c sb L xs) (hL : L ≤ 3072) (hXX : X.2.1 3 ≠ X.2.1 2) (hK : gs_T X s) (hE : gs_E X s) (hz : X.2.2 ≤ s.heap.size) (hbA : ¬ gs_A X sb) {rr mo out : Nat} {A : Nat → Nat} {σ : gs_St} {nr : Nat} {cw : Nat → Nat} {Q : List Rl} {E : List En} {Lt : List Nat} {sa : Nat} {nw : Bool} {rc fc : Nat} {dr : Option Dr} {F : List (Nat × Nat)} {T : List MT} {QM : List MR} {drM : Option MR} {cd : Nat} {f : Nat → Int64} (hR : rrA X σ (out :: aM mo A) rr nr cw Q E Lt sa nw rc fc dr) (hM : moA X σ mo A cd nr cw F T sa rc QM drM) (hRL : RL nr cw Q E Lt sa nw rc fc dr F T QM drM) (ho : σ out = some (gs_la X 1 f)) {i cells slots : Nat} (hi : i + 6 ≤ L) (hce : cells + 6 ≤ 601024) (hsl : slots + 64 ≤ 7293034)  (hok : ¬ (¬ xs (i + 1) < nI 1 ∧ xs (i + 1) ≤ nI 3)) (kk : ∀ (σ' : gs_St) (H : Heap) (locs : List Loc), LI RL X σ' rr mo out A → gs_H X σ' H → va_S (gs_A X) s.heap H locs → ∀ ls, lv_has ls 7 [(4, .int (nI i)), (3, .ref out), (2, .ref mo), (1, .ref rr), (0, .ref sb)] → W p l e room_1 s m #[Value.ref sb] below meth c H locs (cells + 6) (slots + 64) (lw_Z below #[Value.ref sb] s) (F0 m 1085 ls [])) {H : Heap} {locs : List Loc} (hG : gs_H X σ H) (hS : va_S (gs_A X) s.heap H locs) {ls : Array Slot} (hl : lv_has ls 7 [(4, .int (nI i)), (3, .ref out), (2, .ref mo), (1, .ref rr), (0, .ref sb)]) : W p l e room_1 s m #[Value.ref sb] below meth c H locs cells slots (lw_Z below #[Value.ref sb] s) (F0 m 120 ls []) := by
  obtain ⟨hx, hb, hr, hml, hown, hts0, hX, hbl, hlocks, hgv⟩ := id C0
  have ht : ∀ w ∈ gs_w, w.before #[Value.ref sb] s = true := fun w h => hts0 w (List.mem_filter.mp h).1
  have hts : ∀ w ∈ (Cond.initialized "RuleRoundsLaw") :: gs_w, w.before #[Value.ref sb] s = true := fun w h => by
    rcases List.mem_cons.mp h with z | z
    · rw [z]; exact ht _ w_0
    · exact ht w z
  obtain ⟨gs, x0⟩ := hR.cell
  obtain ⟨Z, m0, z0⟩ := hM.cell
  have q0 := h0 _ _ _ _ _ _ _ _ _ _ _ _ _ _ hRL
  refine lv_aload_n hx hb d_LA_law_120 rfl (lv_at hl 3 rfl) ?_
  refine lv_aload_n hx hb d_LA_law_121 rfl (lv_at hl 4 rfl) ?_
  refine lv_iload hx hb d_LA_law_122 (lv_at hl 0 rfl) ?_
  refine lv_iconst (v := nI 1) hx hb d_LA_law_124 (by decide) ?_
  refine lv_iadd hx hb d_LA_law_125 ?_
  refine gs_top (nI_add i 1) ?_
  refine gs_sld hx hb hX hbl hbA hS (j := i + 1) (by omega) (by omega) d_LA_law_126 ?_
  refine lv_aload_n hx hb d_LA_law_127 rfl (lv_at hl 1 rfl) ?_
  refine gs_callSiH (As := [.ref rr, .int (xs (i + 1)), .ref out]) (rest := []) ⟨hx, hb, hml, hown, hts⟩ hK hE hz hG hS (c_LA_relation_xI l X σ rr out gs _ (xs (i + 1)) x0 ⟨by decide, by decide, by decide, by decide⟩ (c_rr_relation_t l hR htr hok)) mSH_LA_relation w_257 rfl hl.1 rfl (Nat.le_of_ble_eq_true rfl) ⟨by decide, by decide⟩ ⟨(by first | (show cells + 6 ≤ 601024; omega) | (show cells ≤ 601024; omega)), (by first | (show slots + 64 ≤ 7293034; omega) | (show slots ≤ 7293034; omega))⟩ d_LA_law_128 (fun r_128 σ_128 H locs hp_128 hG hS => ?_)
  refine gs_top hp_128.1 ?_
  rw [hp_128.2] at hG
  refine lv_istore (lv' := [(5, .int (nI 1)), (4, .int (nI i)), (3, .ref out), (2, .ref mo), (1, .ref rr), (0, .ref sb)]) hx hb d_LA_law_131 hl (by decide) rfl (fun ls hl => ?_)
  refine lv_aload_n hx hb d_LA_law_133 rfl (lv_at hl 3 rfl) ?_
  refine lv_aload_n hx hb d_LA_law_134 rfl (lv_at hl 5 rfl) ?_
  refine lv_iload hx hb d_LA_law_135 (lv_at hl 1 rfl) ?_
  refine lv_iconst (v := nI 1) hx hb d_LA_law_137 (by decide) ?_
  refine lv_iadd hx hb d_LA_law_138 ?_
  refine gs_top (nI_add i 1) ?_
  refine gs_sld hx hb hX hbl hbA hS (j := i + 1) (by omega) (by omega) d_LA_law_139 ?_
  refine gs_callVi (As := [.int (xs (i + 1))]) (rest := []) ⟨hx, hb, hml, hown, hts⟩ hK hE hz hG hS (c_MO_relation_t l X σ mo A cd nr cw F T sa rc QM drM (xs (i + 1)) hM hok) mV_MO_relation w_761 m0 rfl rfl hl.1 rfl (Nat.le_of_ble_eq_true rfl) ⟨by decide, by decide⟩ ⟨(by first | (show cells + 6 ≤ 601024; omega) | (show cells ≤ 601024; omega)), (by first | (show slots + 64 ≤ 7293034; omega) | (show slots ≤ 7293034; omega))⟩ d_LA_law_140 (fun r_140 σ_140 H locs hp_140 hG hS => ?_)
  obtain ⟨hM3, hf3, er3⟩ := hp_140
  have hR3 := hR.mdl (hM.gG ho) hf3
  have ho3 := hf3 _ _ (out_nin hM ho) ho
  obtain ⟨Z3, m03, z03⟩ := hM3.cell
  refine gs_top er3 ?_
  refine lv_istore (lv' := [(6, .int (nI 0)), (5, .int (nI 1)), (4, .int (nI i)), (3, .ref out), (2, .ref mo), (1, .ref rr), (0, .ref sb)]) hx hb d_LA_law_143 hl (by decide) rfl (fun ls hl => ?_)
  refine lv_aload_n hx hb d_LA_law_145 rfl (lv_at hl 4 rfl) ?_
  refine gs_callVp (As := []) (rest := []) ⟨hx, hb, hml, hown, hts⟩ hK hE hz hG hS (c_MO_thrown l X σ_140 mo A Z3 m03) ⟨rfl, rfl⟩ mV_MO_thrown w_757 m03 rfl rfl hl.1 rfl (Nat.le_of_ble_eq_true rfl) ⟨by decide, by decide⟩ ⟨(by first | (show cells + 6 ≤ 601024; omega) | (show cells ≤ 601024; omega)), (by first | (show slots + 64 ≤ 7293034; omega) | (show slots ≤ 7293034; omega))⟩ d_LA_law_146 (fun r_146 hp_146 => ?_)
  refine gs_top (show r_146 = nI 1 from by rw [hp_146, z03]) ?_
  refine lv_iload hx hb d_LA_law_149 (lv_at hl 1 rfl) ?_
  refine lv_icmp_eq (tgt := 156) hx hb d_LA_law_151 (by decide) (fun c_151 => ?_) (fun c_151 => ?_)
  · have c_151 : 1 = 1 :=  (nI_eq (by omega) (by omega)).mp c_151
    refine lv_iload hx hb d_LA_law_156 (lv_at hl 1 rfl) ?_
    refine lv_if_ne (tgt := 173) hx hb d_LA_law_158 (by decide) (fun c_158 => ?_) (fun c_158 => ?_)
    · have c_158 : ¬ 1 = 0 := gs_zn (by omega) c_158
      refine lv_goto (tgt := 1085) hx hb d_LA_law_173 (by decide) ?_
      refine W.widen (k := cells + 6) (n := slots + 64) (by first | exact Nat.le_refl _ | exact Nat.le_add_right _ _) (by first | exact Nat.le_refl _ | exact Nat.le_add_right _ _) ?_
      exact kk σ_140 H locs ⟨_, _, _, _, _, _, _, _, _, _, _, _, _, _, _, _, hR3, hM3, hRL, ho3⟩ hG hS ls (lv_sub hl [2, 3, 4, 5, 6] rfl)
    · exact absurd c_158 (by decide)
  · exact absurd c_151 (by decide)
set_option maxHeartbeats 4000000 in
set_option maxRecDepth 100000 in
theorem lb_relation_s {RL : RLT} (h0 : pe0 RL) {p : Program} {e : Env} {s : State} {m : MethodId} {below : List Frame} {meth : Method} {c : Code} (l : Launch) {sb L : Nat} {xs : Nat → Int32} {X : gs_X} (htr : l.stackTraces = false) (C0 : lw_At p s m meth c sb L xs) (hL : L ≤ 3072) (hXX : X.2.1 3 ≠ X.2.1 2) (hK : gs_T X s) (hE : gs_E X s) (hz : X.2.2 ≤ s.heap.size) (hbA : ¬ gs_A X sb) {rr mo out : Nat} {A : Nat → Nat} {σ : gs_St} {nr : Nat} {cw : Nat → Nat} {Q : List Rl} {E : List En} {Lt : List Nat} {sa : Nat} {nw : Bool} {rc fc : Nat} {dr : Option Dr} {F : List (Nat × Nat)} {T : List MT} {QM : List MR} {drM : Option MR} {cd : Nat} {f : Nat → Int64} (hR : rrA X σ (out :: aM mo A) rr nr cw Q E Lt sa nw rc fc dr) (hM : moA X σ mo A cd nr cw F T sa rc QM drM) (hRL : RL nr cw Q E Lt sa nw rc fc dr F T QM drM) (ho : σ out = some (gs_la X 1 f)) {i cells slots : Nat} (hi : i + 6 ≤ L) (hce : cells + 6 ≤ 601024) (hsl : slots + 64 ≤ 7293034) {wd : Nat} (e1 : xs (i + 1) = nI wd) (hw1 : 1 ≤ wd) (hw3 : wd ≤ 3) (hok : nr = 12) (kk : ∀ (σ' : gs_St) (H : Heap) (locs : List Loc), LI RL X σ' rr mo out A → gs_H X σ' H → va_S (gs_A X) s.heap H locs → ∀ ls, lv_has ls 7 [(4, .int (nI i)), (3, .ref out), (2, .ref mo), (1, .ref rr), (0, .ref sb)] → W p l e room_1 s m #[Value.ref sb] below meth c H locs (cells + 6) (slots + 64) (lw_Z below #[Value.ref sb] s) (F0 m 1085 ls [])) {H : Heap} {locs : List Loc} (hG : gs_H X σ H) (hS : va_S (gs_A X) s.heap H locs) {ls : Array Slot} (hl : lv_has ls 7 [(4, .int (nI i)), (3, .ref out), (2, .ref mo), (1, .ref rr), (0, .ref sb)]) : W p l e room_1 s m #[Value.ref sb] below meth c H locs cells slots (lw_Z below #[Value.ref sb] s) (F0 m 120 ls []) := by
  obtain ⟨hx, hb, hr, hml, hown, hts0, hX, hbl, hlocks, hgv⟩ := id C0
  have ht : ∀ w ∈ gs_w, w.before #[Value.ref sb] s = true := fun w h => hts0 w (List.mem_filter.mp h).1
  have hts : ∀ w ∈ (Cond.initialized "RuleRoundsLaw") :: gs_w, w.before #[Value.ref sb] s = true := fun w h => by
    rcases List.mem_cons.mp h with z | z
    · rw [z]; exact ht _ w_0
    · exact ht w z
  obtain ⟨gs, x0⟩ := hR.cell
  obtain ⟨Z, m0, z0⟩ := hM.cell
  have q0 := h0 _ _ _ _ _ _ _ _ _ _ _ _ _ _ hRL
  refine lv_aload_n hx hb d_LA_law_120 rfl (lv_at hl 3 rfl) ?_
  refine lv_aload_n hx hb d_LA_law_121 rfl (lv_at hl 4 rfl) ?_
  refine lv_iload hx hb d_LA_law_122 (lv_at hl 0 rfl) ?_
  refine lv_iconst (v := nI 1) hx hb d_LA_law_124 (by decide) ?_
  refine lv_iadd hx hb d_LA_law_125 ?_
  refine gs_top (nI_add i 1) ?_
  refine gs_sld hx hb hX hbl hbA hS (j := i + 1) (by omega) (by omega) d_LA_law_126 ?_
  refine gs_top (show xs (i + 1) = (nI wd) from e1) ?_
  refine lv_aload_n hx hb d_LA_law_127 rfl (lv_at hl 1 rfl) ?_
  refine gs_callSiH (As := [.ref rr, .int (nI wd), .ref out]) (rest := []) ⟨hx, hb, hml, hown, hts⟩ hK hE hz hG hS (c_LA_relation_xS l X σ rr out gs _ (nI wd) x0 ⟨by decide, by decide, by decide, by decide⟩ (c_rr_relation_s l hR htr hw1 hw3 hok)) mSH_LA_relation w_257 rfl hl.1 rfl (Nat.le_of_ble_eq_true rfl) ⟨by decide, by decide⟩ ⟨(by first | (show cells + 6 ≤ 601024; omega) | (show cells ≤ 601024; omega)), (by first | (show slots + 64 ≤ 7293034; omega) | (show slots ≤ 7293034; omega))⟩ d_LA_law_128 (fun r_128 σ_128 H locs hp_128 hG hS => ?_)
  refine gs_top hp_128.1 ?_
  rw [hp_128.2] at hG
  refine lv_istore (lv' := [(5, .int (nI 2)), (4, .int (nI i)), (3, .ref out), (2, .ref mo), (1, .ref rr), (0, .ref sb)]) hx hb d_LA_law_131 hl (by decide) rfl (fun ls hl => ?_)
  refine lv_aload_n hx hb d_LA_law_133 rfl (lv_at hl 3 rfl) ?_
  refine lv_aload_n hx hb d_LA_law_134 rfl (lv_at hl 5 rfl) ?_
  refine lv_iload hx hb d_LA_law_135 (lv_at hl 1 rfl) ?_
  refine lv_iconst (v := nI 1) hx hb d_LA_law_137 (by decide) ?_
  refine lv_iadd hx hb d_LA_law_138 ?_
  refine gs_top (nI_add i 1) ?_
  refine gs_sld hx hb hX hbl hbA hS (j := i + 1) (by omega) (by omega) d_LA_law_139 ?_
  refine gs_top (show xs (i + 1) = (nI wd) from e1) ?_
  refine gs_callVi (As := [.int (nI wd)]) (rest := []) ⟨hx, hb, hml, hown, hts⟩ hK hE hz hG hS (c_MO_relation_s l X σ mo A cd nr cw F T sa rc QM drM wd hM hw1 hw3 hok) mV_MO_relation w_761 m0 rfl rfl hl.1 rfl (Nat.le_of_ble_eq_true rfl) ⟨by decide, by decide⟩ ⟨(by first | (show cells + 6 ≤ 601024; omega) | (show cells ≤ 601024; omega)), (by first | (show slots + 64 ≤ 7293034; omega) | (show slots ≤ 7293034; omega))⟩ d_LA_law_140 (fun r_140 σ_140 H locs hp_140 hG hS => ?_)
  obtain ⟨hM3, hf3, er3⟩ := hp_140
  have hR3 := hR.mdl (hM.gG ho) hf3
  have ho3 := hf3 _ _ (out_nin hM ho) ho
  obtain ⟨Z3, m03, z03⟩ := hM3.cell
  refine gs_top er3 ?_
  refine lv_istore (lv' := [(6, .int (nI 0)), (5, .int (nI 2)), (4, .int (nI i)), (3, .ref out), (2, .ref mo), (1, .ref rr), (0, .ref sb)]) hx hb d_LA_law_143 hl (by decide) rfl (fun ls hl => ?_)
  refine lv_aload_n hx hb d_LA_law_145 rfl (lv_at hl 4 rfl) ?_
  refine gs_callVp (As := []) (rest := []) ⟨hx, hb, hml, hown, hts⟩ hK hE hz hG hS (c_MO_thrown l X σ_140 mo A Z3 m03) ⟨rfl, rfl⟩ mV_MO_thrown w_757 m03 rfl rfl hl.1 rfl (Nat.le_of_ble_eq_true rfl) ⟨by decide, by decide⟩ ⟨(by first | (show cells + 6 ≤ 601024; omega) | (show cells ≤ 601024; omega)), (by first | (show slots + 64 ≤ 7293034; omega) | (show slots ≤ 7293034; omega))⟩ d_LA_law_146 (fun r_146 hp_146 => ?_)
  refine gs_top (show r_146 = nI 2 from by rw [hp_146, z03]) ?_
  refine lv_iload hx hb d_LA_law_149 (lv_at hl 1 rfl) ?_
  refine lv_icmp_eq (tgt := 156) hx hb d_LA_law_151 (by decide) (fun c_151 => ?_) (fun c_151 => ?_)
  · have c_151 : 2 = 2 :=  (nI_eq (by omega) (by omega)).mp c_151
    refine lv_iload hx hb d_LA_law_156 (lv_at hl 1 rfl) ?_
    refine lv_if_ne (tgt := 173) hx hb d_LA_law_158 (by decide) (fun c_158 => ?_) (fun c_158 => ?_)
    · have c_158 : ¬ 2 = 0 := gs_zn (by omega) c_158
      refine lv_goto (tgt := 1085) hx hb d_LA_law_173 (by decide) ?_
      refine W.widen (k := cells + 6) (n := slots + 64) (by first | exact Nat.le_refl _ | exact Nat.le_add_right _ _) (by first | exact Nat.le_refl _ | exact Nat.le_add_right _ _) ?_
      exact kk σ_140 H locs ⟨_, _, _, _, _, _, _, _, _, _, _, _, _, _, _, _, hR3, hM3, hRL, ho3⟩ hG hS ls (lv_sub hl [2, 3, 4, 5, 6] rfl)
    · exact absurd c_158 (by decide)
  · exact absurd c_151 (by decide)
set_option maxHeartbeats 4000000 in
set_option maxRecDepth 100000 in
theorem lb_relation_ok {RL : RLT} (h0 : pe0 RL) (h_pe_relation : pe_relation RL) {p : Program} {e : Env} {s : State} {m : MethodId} {below : List Frame} {meth : Method} {c : Code} (l : Launch) {sb L : Nat} {xs : Nat → Int32} {X : gs_X} (htr : l.stackTraces = false) (C0 : lw_At p s m meth c sb L xs) (hL : L ≤ 3072) (hXX : X.2.1 3 ≠ X.2.1 2) (hK : gs_T X s) (hE : gs_E X s) (hz : X.2.2 ≤ s.heap.size) (hbA : ¬ gs_A X sb) {rr mo out : Nat} {A : Nat → Nat} {σ : gs_St} {nr : Nat} {cw : Nat → Nat} {Q : List Rl} {E : List En} {Lt : List Nat} {sa : Nat} {nw : Bool} {rc fc : Nat} {dr : Option Dr} {F : List (Nat × Nat)} {T : List MT} {QM : List MR} {drM : Option MR} {cd : Nat} {f : Nat → Int64} (hR : rrA X σ (out :: aM mo A) rr nr cw Q E Lt sa nw rc fc dr) (hM : moA X σ mo A cd nr cw F T sa rc QM drM) (hRL : RL nr cw Q E Lt sa nw rc fc dr F T QM drM) (ho : σ out = some (gs_la X 1 f)) {i cells slots : Nat} (hi : i + 6 ≤ L) (hce : cells + 6 ≤ 601024) (hsl : slots + 64 ≤ 7293034) {wd : Nat} (e1 : xs (i + 1) = nI wd) (hw1 : 1 ≤ wd) (hw3 : wd ≤ 3) (hok : nr < 12) (kk : ∀ (σ' : gs_St) (H : Heap) (locs : List Loc), LI RL X σ' rr mo out A → gs_H X σ' H → va_S (gs_A X) s.heap H locs → ∀ ls, lv_has ls 7 [(4, .int (nI i)), (3, .ref out), (2, .ref mo), (1, .ref rr), (0, .ref sb)] → W p l e room_1 s m #[Value.ref sb] below meth c H locs (cells + 6) (slots + 64) (lw_Z below #[Value.ref sb] s) (F0 m 1085 ls [])) {H : Heap} {locs : List Loc} (hG : gs_H X σ H) (hS : va_S (gs_A X) s.heap H locs) {ls : Array Slot} (hl : lv_has ls 7 [(4, .int (nI i)), (3, .ref out), (2, .ref mo), (1, .ref rr), (0, .ref sb)]) : W p l e room_1 s m #[Value.ref sb] below meth c H locs cells slots (lw_Z below #[Value.ref sb] s) (F0 m 120 ls []) := by
  obtain ⟨hx, hb, hr, hml, hown, hts0, hX, hbl, hlocks, hgv⟩ := id C0
  have ht : ∀ w ∈ gs_w, w.before #[Value.ref sb] s = true := fun w h => hts0 w (List.mem_filter.mp h).1
  have hts : ∀ w ∈ (Cond.initialized "RuleRoundsLaw") :: gs_w, w.before #[Value.ref sb] s = true := fun w h => by
    rcases List.mem_cons.mp h with z | z
    · rw [z]; exact ht _ w_0
    · exact ht w z
  obtain ⟨gs, x0⟩ := hR.cell
  obtain ⟨Z, m0, z0⟩ := hM.cell
  have q0 := h0 _ _ _ _ _ _ _ _ _ _ _ _ _ _ hRL
  refine lv_aload_n hx hb d_LA_law_120 rfl (lv_at hl 3 rfl) ?_
  refine lv_aload_n hx hb d_LA_law_121 rfl (lv_at hl 4 rfl) ?_
  refine lv_iload hx hb d_LA_law_122 (lv_at hl 0 rfl) ?_
  refine lv_iconst (v := nI 1) hx hb d_LA_law_124 (by decide) ?_
  refine lv_iadd hx hb d_LA_law_125 ?_
  refine gs_top (nI_add i 1) ?_
  refine gs_sld hx hb hX hbl hbA hS (j := i + 1) (by omega) (by omega) d_LA_law_126 ?_
  refine gs_top (show xs (i + 1) = (nI wd) from e1) ?_
  refine lv_aload_n hx hb d_LA_law_127 rfl (lv_at hl 1 rfl) ?_
  refine gs_callSiH (As := [.ref rr, .int (nI wd), .ref out]) (rest := []) ⟨hx, hb, hml, hown, hts⟩ hK hE hz hG hS (c_LA_relation l X σ rr out gs _ f (nI wd) _ x0 ⟨by decide, by decide, by decide, by decide⟩ (c_rr_relation l hR hXX hok hw1 hw3) (fun r9 σ9 z => z.2.1 out List.mem_cons_self _ ho)) mSH_LA_relation w_257 rfl hl.1 rfl (Nat.le_of_ble_eq_true rfl) ⟨by decide, by decide⟩ ⟨(by first | (show cells + 6 ≤ 601024; omega) | (show cells ≤ 601024; omega)), (by first | (show slots + 64 ≤ 7293034; omega) | (show slots ≤ 7293034; omega))⟩ d_LA_law_128 (fun r_128 σ_128 H locs hp_128 hG hS => ?_)
  obtain ⟨ek, r9, σ9, ⟨hR9, hk9, hans9⟩, ev⟩ := hp_128
  refine gs_top ek ?_
  rw [ev] at hG
  obtain ⟨hR2, hM2⟩ := ans_put (f' := vp_updL f 0 r9.toInt64) hR9 hk9 hM ho
  obtain ⟨σ1, eσ1⟩ : ∃ z, z = gs_up σ9 out (gs_la X 1 (vp_updL f 0 r9.toInt64)) := ⟨_, rfl⟩
  rw [← eσ1] at hG hR2 hM2
  have ho2 : σ1 out = some (gs_la X 1 (vp_updL f 0 r9.toInt64)) := by rw [eσ1]; exact gs_us
  obtain ⟨Z2, m02, z02⟩ := hM2.cell
  refine lv_istore (lv' := [(5, .int (nI 0)), (4, .int (nI i)), (3, .ref out), (2, .ref mo), (1, .ref rr), (0, .ref sb)]) hx hb d_LA_law_131 hl (by decide) rfl (fun ls hl => ?_)
  refine lv_aload_n hx hb d_LA_law_133 rfl (lv_at hl 3 rfl) ?_
  refine lv_aload_n hx hb d_LA_law_134 rfl (lv_at hl 5 rfl) ?_
  refine lv_iload hx hb d_LA_law_135 (lv_at hl 1 rfl) ?_
  refine lv_iconst (v := nI 1) hx hb d_LA_law_137 (by decide) ?_
  refine lv_iadd hx hb d_LA_law_138 ?_
  refine gs_top (nI_add i 1) ?_
  refine gs_sld hx hb hX hbl hbA hS (j := i + 1) (by omega) (by omega) d_LA_law_139 ?_
  refine gs_top (show xs (i + 1) = (nI wd) from e1) ?_
  refine gs_callVi (As := [.int (nI wd)]) (rest := []) ⟨hx, hb, hml, hown, hts⟩ hK hE hz hG hS (c_MO_relation l X σ1 mo A cd nr cw F T sa rc QM drM wd hM2 hw1 hw3 hok) mV_MO_relation w_761 m02 rfl rfl hl.1 rfl (Nat.le_of_ble_eq_true rfl) ⟨by decide, by decide⟩ ⟨(by first | (show cells + 6 ≤ 601024; omega) | (show cells ≤ 601024; omega)), (by first | (show slots + 64 ≤ 7293034; omega) | (show slots ≤ 7293034; omega))⟩ d_LA_law_140 (fun r_140 σ_140 H locs hp_140 hG hS => ?_)
  obtain ⟨hM3, hf3, er3⟩ := hp_140
  have hR3 := hR2.mdl (hM2.gG ho2) hf3
  have ho3 := hf3 _ _ (out_nin hM2 ho2) ho2
  obtain ⟨Z3, m03, z03⟩ := hM3.cell
  refine gs_top er3 ?_
  refine lv_istore (lv' := [(6, .int (nI nr)), (5, .int (nI 0)), (4, .int (nI i)), (3, .ref out), (2, .ref mo), (1, .ref rr), (0, .ref sb)]) hx hb d_LA_law_143 hl (by decide) rfl (fun ls hl => ?_)
  refine lv_aload_n hx hb d_LA_law_145 rfl (lv_at hl 4 rfl) ?_
  refine gs_callVp (As := []) (rest := []) ⟨hx, hb, hml, hown, hts⟩ hK hE hz hG hS (c_MO_thrown l X σ_140 mo A Z3 m03) ⟨rfl, rfl⟩ mV_MO_thrown w_757 m03 rfl rfl hl.1 rfl (Nat.le_of_ble_eq_true rfl) ⟨by decide, by decide⟩ ⟨(by first | (show cells + 6 ≤ 601024; omega) | (show cells ≤ 601024; omega)), (by first | (show slots + 64 ≤ 7293034; omega) | (show slots ≤ 7293034; omega))⟩ d_LA_law_146 (fun r_146 hp_146 => ?_)
  refine gs_top (show r_146 = nI 0 from by rw [hp_146, z03]) ?_
  refine lv_iload hx hb d_LA_law_149 (lv_at hl 1 rfl) ?_
  refine lv_icmp_eq (tgt := 156) hx hb d_LA_law_151 (by decide) (fun c_151 => ?_) (fun c_151 => ?_)
  · have c_151 : 0 = 0 :=  (nI_eq (by omega) (by omega)).mp c_151
    refine lv_iload hx hb d_LA_law_156 (lv_at hl 1 rfl) ?_
    refine lv_if_ne (tgt := 173) hx hb d_LA_law_158 (by decide) (fun c_158 => ?_) (fun c_158 => ?_)
    · exact absurd c_158 (by decide)
    · have c_158 : 0 = 0 := gs_z (by omega) c_158
      refine lv_aload_n hx hb d_LA_law_161 rfl (lv_at hl 3 rfl) ?_
      refine lv_iconst (v := nI 0) hx hb d_LA_law_162 (by decide) ?_
      refine gs_lald hx hb hK hG ho3 (j := 0) (by omega) (by omega) d_LA_law_163 ?_
      refine lv_iload hx hb d_LA_law_164 (lv_at hl 0 rfl) ?_
      refine lv_i2l hx hb d_LA_law_166 rfl ?_
      refine W.lcmp hx hb d_LA_law_167 ?_
      refine lv_if_eq (tgt := 173) hx hb d_LA_law_168 (by decide) (fun c_168 => ?_) (fun c_168 => ?_)
      · refine lv_goto (tgt := 1085) hx hb d_LA_law_173 (by decide) ?_
        refine W.widen (k := cells + 6) (n := slots + 64) (by first | exact Nat.le_refl _ | exact Nat.le_add_right _ _) (by first | exact Nat.le_refl _ | exact Nat.le_add_right _ _) ?_
        exact kk σ_140 H locs ⟨_, _, _, _, _, _, _, _, _, _, _, _, _, _, _, _, hR3, hM3, h_pe_relation _ _ _ _ _ _ _ _ _ _ _ _ _ _ hRL wd hok hw1 hw3, ho3⟩ hG hS ls (lv_sub hl [2, 3, 4, 5, 6] rfl)
      · exact absurd (cmp_0.mpr (show vp_updL f 0 r9.toInt64 0 = _ from by unfold vp_updL; rw [if_pos rfl, hans9])) c_168
  · exact absurd c_151 (by decide)
