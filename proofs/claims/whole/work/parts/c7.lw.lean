set_option maxHeartbeats 4000000 in
set_option maxRecDepth 100000 in
theorem lb_fact_r {RL : RLT} (h0 : pe0 RL) {p : Program} {e : Env} {s : State} {m : MethodId} {below : List Frame} {meth : Method} {c : Code} (l : Launch) {sb L : Nat} {xs : Nat → Int32} {X : gs_X} (htr : l.stackTraces = false) (C0 : lw_At p s m meth c sb L xs) (hL : L ≤ 3072) (hXX : X.2.1 3 ≠ X.2.1 2) (hK : gs_T X s) (hE : gs_E X s) (hz : X.2.2 ≤ s.heap.size) (hbA : ¬ gs_A X sb) {rr mo out : Nat} {A : Nat → Nat} {σ : gs_St} {nr : Nat} {cw : Nat → Nat} {Q : List Rl} {E : List En} {Lt : List Nat} {sa : Nat} {nw : Bool} {rc fc : Nat} {dr : Option Dr} {F : List (Nat × Nat)} {T : List MT} {QM : List MR} {drM : Option MR} {cd : Nat} {f : Nat → Int64} (hR : rrA X σ (out :: aM mo A) rr nr cw Q E Lt sa nw rc fc dr) (hM : moA X σ mo A cd nr cw F T sa rc QM drM) (hRL : RL nr cw Q E Lt sa nw rc fc dr F T QM drM) (ho : σ out = some (gs_la X 1 f)) {i cells slots : Nat} (hi : i + 6 ≤ L) (hce : cells + 6 ≤ 601024) (hsl : slots + 64 ≤ 7293034)  (hok : wi nr (xs (i + 1)) = false) (kk : ∀ (σ' : gs_St) (H : Heap) (locs : List Loc), LI RL X σ' rr mo out A → gs_H X σ' H → va_S (gs_A X) s.heap H locs → ∀ ls, lv_has ls 7 [(4, .int (nI i)), (3, .ref out), (2, .ref mo), (1, .ref rr), (0, .ref sb)] → W p l e room_1 s m #[Value.ref sb] below meth c H locs (cells + 6) (slots + 64) (lw_Z below #[Value.ref sb] s) (F0 m 1085 ls [])) {H : Heap} {locs : List Loc} (hG : gs_H X σ H) (hS : va_S (gs_A X) s.heap H locs) {ls : Array Slot} (hl : lv_has ls 7 [(4, .int (nI i)), (3, .ref out), (2, .ref mo), (1, .ref rr), (0, .ref sb)]) : W p l e room_1 s m #[Value.ref sb] below meth c H locs cells slots (lw_Z below #[Value.ref sb] s) (F0 m 176 ls []) := by
  obtain ⟨hx, hb, hr, hml, hown, hts0, hX, hbl, hlocks, hgv⟩ := id C0
  have ht : ∀ w ∈ gs_w, w.before #[Value.ref sb] s = true := fun w h => hts0 w (List.mem_filter.mp h).1
  have hts : ∀ w ∈ (Cond.initialized "RuleRoundsLaw") :: gs_w, w.before #[Value.ref sb] s = true := fun w h => by
    rcases List.mem_cons.mp h with z | z
    · rw [z]; exact ht _ w_0
    · exact ht w z
  obtain ⟨gs, x0⟩ := hR.cell
  obtain ⟨Z, m0, z0⟩ := hM.cell
  have q0 := h0 _ _ _ _ _ _ _ _ _ _ _ _ _ _ hRL
  refine lv_aload_n hx hb d_LA_law_176 rfl (lv_at hl 3 rfl) ?_
  refine lv_aload_n hx hb d_LA_law_177 rfl (lv_at hl 4 rfl) ?_
  refine lv_iload hx hb d_LA_law_178 (lv_at hl 0 rfl) ?_
  refine lv_iconst (v := nI 1) hx hb d_LA_law_180 (by decide) ?_
  refine lv_iadd hx hb d_LA_law_181 ?_
  refine gs_top (nI_add i 1) ?_
  refine gs_sld hx hb hX hbl hbA hS (j := i + 1) (by omega) (by omega) d_LA_law_182 ?_
  refine lv_aload_n hx hb d_LA_law_183 rfl (lv_at hl 4 rfl) ?_
  refine lv_iload hx hb d_LA_law_184 (lv_at hl 0 rfl) ?_
  refine lv_iconst (v := nI 2) hx hb d_LA_law_186 (by decide) ?_
  refine lv_iadd hx hb d_LA_law_187 ?_
  refine gs_top (nI_add i 2) ?_
  refine gs_sld hx hb hX hbl hbA hS (j := i + 2) (by omega) (by omega) d_LA_law_188 ?_
  refine lv_aload_n hx hb d_LA_law_189 rfl (lv_at hl 4 rfl) ?_
  refine lv_iload hx hb d_LA_law_190 (lv_at hl 0 rfl) ?_
  refine lv_iconst (v := nI 3) hx hb d_LA_law_192 (by decide) ?_
  refine lv_iadd hx hb d_LA_law_193 ?_
  refine gs_top (nI_add i 3) ?_
  refine gs_sld hx hb hX hbl hbA hS (j := i + 3) (by omega) (by omega) d_LA_law_194 ?_
  refine lv_aload_n hx hb d_LA_law_195 rfl (lv_at hl 4 rfl) ?_
  refine lv_iload hx hb d_LA_law_196 (lv_at hl 0 rfl) ?_
  refine lv_iconst (v := nI 4) hx hb d_LA_law_198 (by decide) ?_
  refine lv_iadd hx hb d_LA_law_199 ?_
  refine gs_top (nI_add i 4) ?_
  refine gs_sld hx hb hX hbl hbA hS (j := i + 4) (by omega) (by omega) d_LA_law_200 ?_
  refine lv_aload_n hx hb d_LA_law_201 rfl (lv_at hl 1 rfl) ?_
  refine gs_callSiH (As := [.ref rr, .int (xs (i + 1)), .int (xs (i + 2)), .int (xs (i + 3)), .int (xs (i + 4)), .ref out]) (rest := []) ⟨hx, hb, hml, hown, hts⟩ hK hE hz hG hS (c_LA_fact_xI l X σ rr out gs _ (xs (i + 1)) (xs (i + 2)) (xs (i + 3)) (xs (i + 4)) x0 ⟨by decide, by decide, by decide, by decide⟩ (c_rr_fact_r l hR htr hok)) mSH_LA_fact w_380 rfl hl.1 rfl (Nat.le_of_ble_eq_true rfl) ⟨by decide, by decide⟩ ⟨(by first | (show cells + 6 ≤ 601024; omega) | (show cells ≤ 601024; omega)), (by first | (show slots + 64 ≤ 7293034; omega) | (show slots ≤ 7293034; omega))⟩ d_LA_law_202 (fun r_202 σ_202 H locs hp_202 hG hS => ?_)
  refine gs_top hp_202.1 ?_
  rw [hp_202.2] at hG
  refine lv_istore (lv' := [(5, .int (nI 1)), (4, .int (nI i)), (3, .ref out), (2, .ref mo), (1, .ref rr), (0, .ref sb)]) hx hb d_LA_law_205 hl (by decide) rfl (fun ls hl => ?_)
  refine lv_aload_n hx hb d_LA_law_207 rfl (lv_at hl 3 rfl) ?_
  refine lv_aload_n hx hb d_LA_law_208 rfl (lv_at hl 5 rfl) ?_
  refine lv_iload hx hb d_LA_law_209 (lv_at hl 1 rfl) ?_
  refine lv_iconst (v := nI 1) hx hb d_LA_law_211 (by decide) ?_
  refine lv_iadd hx hb d_LA_law_212 ?_
  refine gs_top (nI_add i 1) ?_
  refine gs_sld hx hb hX hbl hbA hS (j := i + 1) (by omega) (by omega) d_LA_law_213 ?_
  refine lv_aload_n hx hb d_LA_law_214 rfl (lv_at hl 5 rfl) ?_
  refine lv_iload hx hb d_LA_law_215 (lv_at hl 1 rfl) ?_
  refine lv_iconst (v := nI 2) hx hb d_LA_law_217 (by decide) ?_
  refine lv_iadd hx hb d_LA_law_218 ?_
  refine gs_top (nI_add i 2) ?_
  refine gs_sld hx hb hX hbl hbA hS (j := i + 2) (by omega) (by omega) d_LA_law_219 ?_
  refine lv_aload_n hx hb d_LA_law_220 rfl (lv_at hl 5 rfl) ?_
  refine lv_iload hx hb d_LA_law_221 (lv_at hl 1 rfl) ?_
  refine lv_iconst (v := nI 3) hx hb d_LA_law_223 (by decide) ?_
  refine lv_iadd hx hb d_LA_law_224 ?_
  refine gs_top (nI_add i 3) ?_
  refine gs_sld hx hb hX hbl hbA hS (j := i + 3) (by omega) (by omega) d_LA_law_225 ?_
  refine lv_aload_n hx hb d_LA_law_226 rfl (lv_at hl 5 rfl) ?_
  refine lv_iload hx hb d_LA_law_227 (lv_at hl 1 rfl) ?_
  refine lv_iconst (v := nI 4) hx hb d_LA_law_229 (by decide) ?_
  refine lv_iadd hx hb d_LA_law_230 ?_
  refine gs_top (nI_add i 4) ?_
  refine gs_sld hx hb hX hbl hbA hS (j := i + 4) (by omega) (by omega) d_LA_law_231 ?_
  refine gs_callVi (As := [.int (xs (i + 1)), .int (xs (i + 2)), .int (xs (i + 3)), .int (xs (i + 4))]) (rest := []) ⟨hx, hb, hml, hown, hts⟩ hK hE hz hG hS (c_MO_fact_r l X σ mo A cd nr cw F T sa rc QM drM (xs (i + 1)) (xs (i + 2)) (xs (i + 3)) (xs (i + 4)) hM hok) mV_MO_fact w_773 m0 rfl rfl hl.1 rfl (Nat.le_of_ble_eq_true rfl) ⟨by decide, by decide⟩ ⟨(by first | (show cells + 6 ≤ 601024; omega) | (show cells ≤ 601024; omega)), (by first | (show slots + 64 ≤ 7293034; omega) | (show slots ≤ 7293034; omega))⟩ d_LA_law_232 (fun r_232 σ_232 H locs hp_232 hG hS => ?_)
  obtain ⟨hM3, hf3, er3⟩ := hp_232
  have hR3 := hR.mdl (hM.gG ho) hf3
  have ho3 := hf3 _ _ (out_nin hM ho) ho
  obtain ⟨Z3, m03, z03⟩ := hM3.cell
  refine gs_top er3 ?_
  refine lv_istore (lv' := [(6, .int (nI 0)), (5, .int (nI 1)), (4, .int (nI i)), (3, .ref out), (2, .ref mo), (1, .ref rr), (0, .ref sb)]) hx hb d_LA_law_235 hl (by decide) rfl (fun ls hl => ?_)
  refine lv_aload_n hx hb d_LA_law_237 rfl (lv_at hl 4 rfl) ?_
  refine gs_callVp (As := []) (rest := []) ⟨hx, hb, hml, hown, hts⟩ hK hE hz hG hS (c_MO_thrown l X σ_232 mo A Z3 m03) ⟨rfl, rfl⟩ mV_MO_thrown w_757 m03 rfl rfl hl.1 rfl (Nat.le_of_ble_eq_true rfl) ⟨by decide, by decide⟩ ⟨(by first | (show cells + 6 ≤ 601024; omega) | (show cells ≤ 601024; omega)), (by first | (show slots + 64 ≤ 7293034; omega) | (show slots ≤ 7293034; omega))⟩ d_LA_law_238 (fun r_238 hp_238 => ?_)
  refine gs_top (show r_238 = nI 1 from by rw [hp_238, z03]) ?_
  refine lv_iload hx hb d_LA_law_241 (lv_at hl 1 rfl) ?_
  refine lv_icmp_eq (tgt := 248) hx hb d_LA_law_243 (by decide) (fun c_243 => ?_) (fun c_243 => ?_)
  · have c_243 : 1 = 1 :=  (nI_eq (by omega) (by omega)).mp c_243
    refine lv_iload hx hb d_LA_law_248 (lv_at hl 1 rfl) ?_
    refine lv_if_ne (tgt := 272) hx hb d_LA_law_250 (by decide) (fun c_250 => ?_) (fun c_250 => ?_)
    · have c_250 : ¬ 1 = 0 := gs_zn (by omega) c_250
      refine lv_goto (tgt := 1085) hx hb d_LA_law_272 (by decide) ?_
      refine W.widen (k := cells + 6) (n := slots + 64) (by first | exact Nat.le_refl _ | exact Nat.le_add_right _ _) (by first | exact Nat.le_refl _ | exact Nat.le_add_right _ _) ?_
      exact kk σ_232 H locs ⟨_, _, _, _, _, _, _, _, _, _, _, _, _, _, _, _, hR3, hM3, hRL, ho3⟩ hG hS ls (lv_sub hl [2, 3, 4, 5, 6] rfl)
    · exact absurd c_250 (by decide)
  · exact absurd c_243 (by decide)
set_option maxHeartbeats 4000000 in
set_option maxRecDepth 100000 in
theorem lb_fact_t {RL : RLT} (h0 : pe0 RL) {p : Program} {e : Env} {s : State} {m : MethodId} {below : List Frame} {meth : Method} {c : Code} (l : Launch) {sb L : Nat} {xs : Nat → Int32} {X : gs_X} (htr : l.stackTraces = false) (C0 : lw_At p s m meth c sb L xs) (hL : L ≤ 3072) (hXX : X.2.1 3 ≠ X.2.1 2) (hK : gs_T X s) (hE : gs_E X s) (hz : X.2.2 ≤ s.heap.size) (hbA : ¬ gs_A X sb) {rr mo out : Nat} {A : Nat → Nat} {σ : gs_St} {nr : Nat} {cw : Nat → Nat} {Q : List Rl} {E : List En} {Lt : List Nat} {sa : Nat} {nw : Bool} {rc fc : Nat} {dr : Option Dr} {F : List (Nat × Nat)} {T : List MT} {QM : List MR} {drM : Option MR} {cd : Nat} {f : Nat → Int64} (hR : rrA X σ (out :: aM mo A) rr nr cw Q E Lt sa nw rc fc dr) (hM : moA X σ mo A cd nr cw F T sa rc QM drM) (hRL : RL nr cw Q E Lt sa nw rc fc dr F T QM drM) (ho : σ out = some (gs_la X 1 f)) {i cells slots : Nat} (hi : i + 6 ≤ L) (hce : cells + 6 ≤ 601024) (hsl : slots + 64 ≤ 7293034) {rl : Nat} (e1 : xs (i + 1) = nI rl) (hrl : rl < nr) (hok : wi3 64 (cw rl) (xs (i + 2)) (xs (i + 3)) (xs (i + 4)) = false) (kk : ∀ (σ' : gs_St) (H : Heap) (locs : List Loc), LI RL X σ' rr mo out A → gs_H X σ' H → va_S (gs_A X) s.heap H locs → ∀ ls, lv_has ls 7 [(4, .int (nI i)), (3, .ref out), (2, .ref mo), (1, .ref rr), (0, .ref sb)] → W p l e room_1 s m #[Value.ref sb] below meth c H locs (cells + 6) (slots + 64) (lw_Z below #[Value.ref sb] s) (F0 m 1085 ls [])) {H : Heap} {locs : List Loc} (hG : gs_H X σ H) (hS : va_S (gs_A X) s.heap H locs) {ls : Array Slot} (hl : lv_has ls 7 [(4, .int (nI i)), (3, .ref out), (2, .ref mo), (1, .ref rr), (0, .ref sb)]) : W p l e room_1 s m #[Value.ref sb] below meth c H locs cells slots (lw_Z below #[Value.ref sb] s) (F0 m 176 ls []) := by
  obtain ⟨hx, hb, hr, hml, hown, hts0, hX, hbl, hlocks, hgv⟩ := id C0
  have ht : ∀ w ∈ gs_w, w.before #[Value.ref sb] s = true := fun w h => hts0 w (List.mem_filter.mp h).1
  have hts : ∀ w ∈ (Cond.initialized "RuleRoundsLaw") :: gs_w, w.before #[Value.ref sb] s = true := fun w h => by
    rcases List.mem_cons.mp h with z | z
    · rw [z]; exact ht _ w_0
    · exact ht w z
  obtain ⟨gs, x0⟩ := hR.cell
  obtain ⟨Z, m0, z0⟩ := hM.cell
  have q0 := h0 _ _ _ _ _ _ _ _ _ _ _ _ _ _ hRL
  refine lv_aload_n hx hb d_LA_law_176 rfl (lv_at hl 3 rfl) ?_
  refine lv_aload_n hx hb d_LA_law_177 rfl (lv_at hl 4 rfl) ?_
  refine lv_iload hx hb d_LA_law_178 (lv_at hl 0 rfl) ?_
  refine lv_iconst (v := nI 1) hx hb d_LA_law_180 (by decide) ?_
  refine lv_iadd hx hb d_LA_law_181 ?_
  refine gs_top (nI_add i 1) ?_
  refine gs_sld hx hb hX hbl hbA hS (j := i + 1) (by omega) (by omega) d_LA_law_182 ?_
  refine gs_top (show xs (i + 1) = (nI rl) from e1) ?_
  refine lv_aload_n hx hb d_LA_law_183 rfl (lv_at hl 4 rfl) ?_
  refine lv_iload hx hb d_LA_law_184 (lv_at hl 0 rfl) ?_
  refine lv_iconst (v := nI 2) hx hb d_LA_law_186 (by decide) ?_
  refine lv_iadd hx hb d_LA_law_187 ?_
  refine gs_top (nI_add i 2) ?_
  refine gs_sld hx hb hX hbl hbA hS (j := i + 2) (by omega) (by omega) d_LA_law_188 ?_
  refine lv_aload_n hx hb d_LA_law_189 rfl (lv_at hl 4 rfl) ?_
  refine lv_iload hx hb d_LA_law_190 (lv_at hl 0 rfl) ?_
  refine lv_iconst (v := nI 3) hx hb d_LA_law_192 (by decide) ?_
  refine lv_iadd hx hb d_LA_law_193 ?_
  refine gs_top (nI_add i 3) ?_
  refine gs_sld hx hb hX hbl hbA hS (j := i + 3) (by omega) (by omega) d_LA_law_194 ?_
  refine lv_aload_n hx hb d_LA_law_195 rfl (lv_at hl 4 rfl) ?_
  refine lv_iload hx hb d_LA_law_196 (lv_at hl 0 rfl) ?_
  refine lv_iconst (v := nI 4) hx hb d_LA_law_198 (by decide) ?_
  refine lv_iadd hx hb d_LA_law_199 ?_
  refine gs_top (nI_add i 4) ?_
  refine gs_sld hx hb hX hbl hbA hS (j := i + 4) (by omega) (by omega) d_LA_law_200 ?_
  refine lv_aload_n hx hb d_LA_law_201 rfl (lv_at hl 1 rfl) ?_
  refine gs_callSiH (As := [.ref rr, .int (nI rl), .int (xs (i + 2)), .int (xs (i + 3)), .int (xs (i + 4)), .ref out]) (rest := []) ⟨hx, hb, hml, hown, hts⟩ hK hE hz hG hS (c_LA_fact_xI l X σ rr out gs _ (nI rl) (xs (i + 2)) (xs (i + 3)) (xs (i + 4)) x0 ⟨by decide, by decide, by decide, by decide⟩ (c_rr_fact_t l hR htr hrl hok)) mSH_LA_fact w_380 rfl hl.1 rfl (Nat.le_of_ble_eq_true rfl) ⟨by decide, by decide⟩ ⟨(by first | (show cells + 6 ≤ 601024; omega) | (show cells ≤ 601024; omega)), (by first | (show slots + 64 ≤ 7293034; omega) | (show slots ≤ 7293034; omega))⟩ d_LA_law_202 (fun r_202 σ_202 H locs hp_202 hG hS => ?_)
  refine gs_top hp_202.1 ?_
  rw [hp_202.2] at hG
  refine lv_istore (lv' := [(5, .int (nI 1)), (4, .int (nI i)), (3, .ref out), (2, .ref mo), (1, .ref rr), (0, .ref sb)]) hx hb d_LA_law_205 hl (by decide) rfl (fun ls hl => ?_)
  refine lv_aload_n hx hb d_LA_law_207 rfl (lv_at hl 3 rfl) ?_
  refine lv_aload_n hx hb d_LA_law_208 rfl (lv_at hl 5 rfl) ?_
  refine lv_iload hx hb d_LA_law_209 (lv_at hl 1 rfl) ?_
  refine lv_iconst (v := nI 1) hx hb d_LA_law_211 (by decide) ?_
  refine lv_iadd hx hb d_LA_law_212 ?_
  refine gs_top (nI_add i 1) ?_
  refine gs_sld hx hb hX hbl hbA hS (j := i + 1) (by omega) (by omega) d_LA_law_213 ?_
  refine gs_top (show xs (i + 1) = (nI rl) from e1) ?_
  refine lv_aload_n hx hb d_LA_law_214 rfl (lv_at hl 5 rfl) ?_
  refine lv_iload hx hb d_LA_law_215 (lv_at hl 1 rfl) ?_
  refine lv_iconst (v := nI 2) hx hb d_LA_law_217 (by decide) ?_
  refine lv_iadd hx hb d_LA_law_218 ?_
  refine gs_top (nI_add i 2) ?_
  refine gs_sld hx hb hX hbl hbA hS (j := i + 2) (by omega) (by omega) d_LA_law_219 ?_
  refine lv_aload_n hx hb d_LA_law_220 rfl (lv_at hl 5 rfl) ?_
  refine lv_iload hx hb d_LA_law_221 (lv_at hl 1 rfl) ?_
  refine lv_iconst (v := nI 3) hx hb d_LA_law_223 (by decide) ?_
  refine lv_iadd hx hb d_LA_law_224 ?_
  refine gs_top (nI_add i 3) ?_
  refine gs_sld hx hb hX hbl hbA hS (j := i + 3) (by omega) (by omega) d_LA_law_225 ?_
  refine lv_aload_n hx hb d_LA_law_226 rfl (lv_at hl 5 rfl) ?_
  refine lv_iload hx hb d_LA_law_227 (lv_at hl 1 rfl) ?_
  refine lv_iconst (v := nI 4) hx hb d_LA_law_229 (by decide) ?_
  refine lv_iadd hx hb d_LA_law_230 ?_
  refine gs_top (nI_add i 4) ?_
  refine gs_sld hx hb hX hbl hbA hS (j := i + 4) (by omega) (by omega) d_LA_law_231 ?_
  refine gs_callVi (As := [.int (nI rl), .int (xs (i + 2)), .int (xs (i + 3)), .int (xs (i + 4))]) (rest := []) ⟨hx, hb, hml, hown, hts⟩ hK hE hz hG hS (c_MO_fact_t l X σ mo A cd nr cw F T sa rc QM drM rl (xs (i + 2)) (xs (i + 3)) (xs (i + 4)) hM hrl hok) mV_MO_fact w_773 m0 rfl rfl hl.1 rfl (Nat.le_of_ble_eq_true rfl) ⟨by decide, by decide⟩ ⟨(by first | (show cells + 6 ≤ 601024; omega) | (show cells ≤ 601024; omega)), (by first | (show slots + 64 ≤ 7293034; omega) | (show slots ≤ 7293034; omega))⟩ d_LA_law_232 (fun r_232 σ_232 H locs hp_232 hG hS => ?_)
  obtain ⟨hM3, hf3, er3⟩ := hp_232
  have hR3 := hR.mdl (hM.gG ho) hf3
  have ho3 := hf3 _ _ (out_nin hM ho) ho
  obtain ⟨Z3, m03, z03⟩ := hM3.cell
  refine gs_top er3 ?_
  refine lv_istore (lv' := [(6, .int (nI 0)), (5, .int (nI 1)), (4, .int (nI i)), (3, .ref out), (2, .ref mo), (1, .ref rr), (0, .ref sb)]) hx hb d_LA_law_235 hl (by decide) rfl (fun ls hl => ?_)
  refine lv_aload_n hx hb d_LA_law_237 rfl (lv_at hl 4 rfl) ?_
  refine gs_callVp (As := []) (rest := []) ⟨hx, hb, hml, hown, hts⟩ hK hE hz hG hS (c_MO_thrown l X σ_232 mo A Z3 m03) ⟨rfl, rfl⟩ mV_MO_thrown w_757 m03 rfl rfl hl.1 rfl (Nat.le_of_ble_eq_true rfl) ⟨by decide, by decide⟩ ⟨(by first | (show cells + 6 ≤ 601024; omega) | (show cells ≤ 601024; omega)), (by first | (show slots + 64 ≤ 7293034; omega) | (show slots ≤ 7293034; omega))⟩ d_LA_law_238 (fun r_238 hp_238 => ?_)
  refine gs_top (show r_238 = nI 1 from by rw [hp_238, z03]) ?_
  refine lv_iload hx hb d_LA_law_241 (lv_at hl 1 rfl) ?_
  refine lv_icmp_eq (tgt := 248) hx hb d_LA_law_243 (by decide) (fun c_243 => ?_) (fun c_243 => ?_)
  · have c_243 : 1 = 1 :=  (nI_eq (by omega) (by omega)).mp c_243
    refine lv_iload hx hb d_LA_law_248 (lv_at hl 1 rfl) ?_
    refine lv_if_ne (tgt := 272) hx hb d_LA_law_250 (by decide) (fun c_250 => ?_) (fun c_250 => ?_)
    · have c_250 : ¬ 1 = 0 := gs_zn (by omega) c_250
      refine lv_goto (tgt := 1085) hx hb d_LA_law_272 (by decide) ?_
      refine W.widen (k := cells + 6) (n := slots + 64) (by first | exact Nat.le_refl _ | exact Nat.le_add_right _ _) (by first | exact Nat.le_refl _ | exact Nat.le_add_right _ _) ?_
      exact kk σ_232 H locs ⟨_, _, _, _, _, _, _, _, _, _, _, _, _, _, _, _, hR3, hM3, hRL, ho3⟩ hG hS ls (lv_sub hl [2, 3, 4, 5, 6] rfl)
    · exact absurd c_250 (by decide)
  · exact absurd c_243 (by decide)
set_option maxHeartbeats 4000000 in
set_option maxRecDepth 100000 in
theorem lb_drop_r {RL : RLT} (h0 : pe0 RL) {p : Program} {e : Env} {s : State} {m : MethodId} {below : List Frame} {meth : Method} {c : Code} (l : Launch) {sb L : Nat} {xs : Nat → Int32} {X : gs_X} (htr : l.stackTraces = false) (C0 : lw_At p s m meth c sb L xs) (hL : L ≤ 3072) (hXX : X.2.1 3 ≠ X.2.1 2) (hK : gs_T X s) (hE : gs_E X s) (hz : X.2.2 ≤ s.heap.size) (hbA : ¬ gs_A X sb) {rr mo out : Nat} {A : Nat → Nat} {σ : gs_St} {nr : Nat} {cw : Nat → Nat} {Q : List Rl} {E : List En} {Lt : List Nat} {sa : Nat} {nw : Bool} {rc fc : Nat} {dr : Option Dr} {F : List (Nat × Nat)} {T : List MT} {QM : List MR} {drM : Option MR} {cd : Nat} {f : Nat → Int64} (hR : rrA X σ (out :: aM mo A) rr nr cw Q E Lt sa nw rc fc dr) (hM : moA X σ mo A cd nr cw F T sa rc QM drM) (hRL : RL nr cw Q E Lt sa nw rc fc dr F T QM drM) (ho : σ out = some (gs_la X 1 f)) {i cells slots : Nat} (hi : i + 6 ≤ L) (hce : cells + 6 ≤ 601024) (hsl : slots + 64 ≤ 7293034)  (hok : wi nr (xs (i + 1)) = false) (kk : ∀ (σ' : gs_St) (H : Heap) (locs : List Loc), LI RL X σ' rr mo out A → gs_H X σ' H → va_S (gs_A X) s.heap H locs → ∀ ls, lv_has ls 7 [(4, .int (nI i)), (3, .ref out), (2, .ref mo), (1, .ref rr), (0, .ref sb)] → W p l e room_1 s m #[Value.ref sb] below meth c H locs (cells + 6) (slots + 64) (lw_Z below #[Value.ref sb] s) (F0 m 1085 ls [])) {H : Heap} {locs : List Loc} (hG : gs_H X σ H) (hS : va_S (gs_A X) s.heap H locs) {ls : Array Slot} (hl : lv_has ls 7 [(4, .int (nI i)), (3, .ref out), (2, .ref mo), (1, .ref rr), (0, .ref sb)]) : W p l e room_1 s m #[Value.ref sb] below meth c H locs cells slots (lw_Z below #[Value.ref sb] s) (F0 m 275 ls []) := by
  obtain ⟨hx, hb, hr, hml, hown, hts0, hX, hbl, hlocks, hgv⟩ := id C0
  have ht : ∀ w ∈ gs_w, w.before #[Value.ref sb] s = true := fun w h => hts0 w (List.mem_filter.mp h).1
  have hts : ∀ w ∈ (Cond.initialized "RuleRoundsLaw") :: gs_w, w.before #[Value.ref sb] s = true := fun w h => by
    rcases List.mem_cons.mp h with z | z
    · rw [z]; exact ht _ w_0
    · exact ht w z
  obtain ⟨gs, x0⟩ := hR.cell
  obtain ⟨Z, m0, z0⟩ := hM.cell
  have q0 := h0 _ _ _ _ _ _ _ _ _ _ _ _ _ _ hRL
  refine lv_aload_n hx hb d_LA_law_275 rfl (lv_at hl 3 rfl) ?_
  refine lv_aload_n hx hb d_LA_law_276 rfl (lv_at hl 4 rfl) ?_
  refine lv_iload hx hb d_LA_law_277 (lv_at hl 0 rfl) ?_
  refine lv_iconst (v := nI 1) hx hb d_LA_law_279 (by decide) ?_
  refine lv_iadd hx hb d_LA_law_280 ?_
  refine gs_top (nI_add i 1) ?_
  refine gs_sld hx hb hX hbl hbA hS (j := i + 1) (by omega) (by omega) d_LA_law_281 ?_
  refine lv_aload_n hx hb d_LA_law_282 rfl (lv_at hl 4 rfl) ?_
  refine lv_iload hx hb d_LA_law_283 (lv_at hl 0 rfl) ?_
  refine lv_iconst (v := nI 2) hx hb d_LA_law_285 (by decide) ?_
  refine lv_iadd hx hb d_LA_law_286 ?_
  refine gs_top (nI_add i 2) ?_
  refine gs_sld hx hb hX hbl hbA hS (j := i + 2) (by omega) (by omega) d_LA_law_287 ?_
  refine lv_aload_n hx hb d_LA_law_288 rfl (lv_at hl 4 rfl) ?_
  refine lv_iload hx hb d_LA_law_289 (lv_at hl 0 rfl) ?_
  refine lv_iconst (v := nI 3) hx hb d_LA_law_291 (by decide) ?_
  refine lv_iadd hx hb d_LA_law_292 ?_
  refine gs_top (nI_add i 3) ?_
  refine gs_sld hx hb hX hbl hbA hS (j := i + 3) (by omega) (by omega) d_LA_law_293 ?_
  refine lv_aload_n hx hb d_LA_law_294 rfl (lv_at hl 4 rfl) ?_
  refine lv_iload hx hb d_LA_law_295 (lv_at hl 0 rfl) ?_
  refine lv_iconst (v := nI 4) hx hb d_LA_law_297 (by decide) ?_
  refine lv_iadd hx hb d_LA_law_298 ?_
  refine gs_top (nI_add i 4) ?_
  refine gs_sld hx hb hX hbl hbA hS (j := i + 4) (by omega) (by omega) d_LA_law_299 ?_
  refine lv_aload_n hx hb d_LA_law_300 rfl (lv_at hl 1 rfl) ?_
  refine gs_callSiH (As := [.ref rr, .int (xs (i + 1)), .int (xs (i + 2)), .int (xs (i + 3)), .int (xs (i + 4)), .ref out]) (rest := []) ⟨hx, hb, hml, hown, hts⟩ hK hE hz hG hS (c_LA_drop_xI l X σ rr out gs _ (xs (i + 1)) (xs (i + 2)) (xs (i + 3)) (xs (i + 4)) x0 ⟨by decide, by decide, by decide, by decide⟩ (c_rr_drop_r l hR htr hok)) mSH_LA_drop w_412 rfl hl.1 rfl (Nat.le_of_ble_eq_true rfl) ⟨by decide, by decide⟩ ⟨(by first | (show cells + 6 ≤ 601024; omega) | (show cells ≤ 601024; omega)), (by first | (show slots + 64 ≤ 7293034; omega) | (show slots ≤ 7293034; omega))⟩ d_LA_law_301 (fun r_301 σ_301 H locs hp_301 hG hS => ?_)
  refine gs_top hp_301.1 ?_
  rw [hp_301.2] at hG
  refine lv_istore (lv' := [(5, .int (nI 1)), (4, .int (nI i)), (3, .ref out), (2, .ref mo), (1, .ref rr), (0, .ref sb)]) hx hb d_LA_law_304 hl (by decide) rfl (fun ls hl => ?_)
  refine lv_aload_n hx hb d_LA_law_306 rfl (lv_at hl 3 rfl) ?_
  refine lv_aload_n hx hb d_LA_law_307 rfl (lv_at hl 5 rfl) ?_
  refine lv_iload hx hb d_LA_law_308 (lv_at hl 1 rfl) ?_
  refine lv_iconst (v := nI 1) hx hb d_LA_law_310 (by decide) ?_
  refine lv_iadd hx hb d_LA_law_311 ?_
  refine gs_top (nI_add i 1) ?_
  refine gs_sld hx hb hX hbl hbA hS (j := i + 1) (by omega) (by omega) d_LA_law_312 ?_
  refine lv_aload_n hx hb d_LA_law_313 rfl (lv_at hl 5 rfl) ?_
  refine lv_iload hx hb d_LA_law_314 (lv_at hl 1 rfl) ?_
  refine lv_iconst (v := nI 2) hx hb d_LA_law_316 (by decide) ?_
  refine lv_iadd hx hb d_LA_law_317 ?_
  refine gs_top (nI_add i 2) ?_
  refine gs_sld hx hb hX hbl hbA hS (j := i + 2) (by omega) (by omega) d_LA_law_318 ?_
  refine lv_aload_n hx hb d_LA_law_319 rfl (lv_at hl 5 rfl) ?_
  refine lv_iload hx hb d_LA_law_320 (lv_at hl 1 rfl) ?_
  refine lv_iconst (v := nI 3) hx hb d_LA_law_322 (by decide) ?_
  refine lv_iadd hx hb d_LA_law_323 ?_
  refine gs_top (nI_add i 3) ?_
  refine gs_sld hx hb hX hbl hbA hS (j := i + 3) (by omega) (by omega) d_LA_law_324 ?_
  refine lv_aload_n hx hb d_LA_law_325 rfl (lv_at hl 5 rfl) ?_
  refine lv_iload hx hb d_LA_law_326 (lv_at hl 1 rfl) ?_
  refine lv_iconst (v := nI 4) hx hb d_LA_law_328 (by decide) ?_
  refine lv_iadd hx hb d_LA_law_329 ?_
  refine gs_top (nI_add i 4) ?_
  refine gs_sld hx hb hX hbl hbA hS (j := i + 4) (by omega) (by omega) d_LA_law_330 ?_
  refine gs_callVi (As := [.int (xs (i + 1)), .int (xs (i + 2)), .int (xs (i + 3)), .int (xs (i + 4))]) (rest := []) ⟨hx, hb, hml, hown, hts⟩ hK hE hz hG hS (c_MO_drop_r l X σ mo A cd nr cw F T sa rc QM drM (xs (i + 1)) (xs (i + 2)) (xs (i + 3)) (xs (i + 4)) hM hok) mV_MO_drop w_788 m0 rfl rfl hl.1 rfl (Nat.le_of_ble_eq_true rfl) ⟨by decide, by decide⟩ ⟨(by first | (show cells + 6 ≤ 601024; omega) | (show cells ≤ 601024; omega)), (by first | (show slots + 64 ≤ 7293034; omega) | (show slots ≤ 7293034; omega))⟩ d_LA_law_331 (fun r_331 σ_331 H locs hp_331 hG hS => ?_)
  obtain ⟨hM3, hf3, er3⟩ := hp_331
  have hR3 := hR.mdl (hM.gG ho) hf3
  have ho3 := hf3 _ _ (out_nin hM ho) ho
  obtain ⟨Z3, m03, z03⟩ := hM3.cell
  refine gs_top er3 ?_
  refine lv_istore (lv' := [(6, .int (nI 0)), (5, .int (nI 1)), (4, .int (nI i)), (3, .ref out), (2, .ref mo), (1, .ref rr), (0, .ref sb)]) hx hb d_LA_law_334 hl (by decide) rfl (fun ls hl => ?_)
  refine lv_aload_n hx hb d_LA_law_336 rfl (lv_at hl 4 rfl) ?_
  refine gs_callVp (As := []) (rest := []) ⟨hx, hb, hml, hown, hts⟩ hK hE hz hG hS (c_MO_thrown l X σ_331 mo A Z3 m03) ⟨rfl, rfl⟩ mV_MO_thrown w_757 m03 rfl rfl hl.1 rfl (Nat.le_of_ble_eq_true rfl) ⟨by decide, by decide⟩ ⟨(by first | (show cells + 6 ≤ 601024; omega) | (show cells ≤ 601024; omega)), (by first | (show slots + 64 ≤ 7293034; omega) | (show slots ≤ 7293034; omega))⟩ d_LA_law_337 (fun r_337 hp_337 => ?_)
  refine gs_top (show r_337 = nI 1 from by rw [hp_337, z03]) ?_
  refine lv_iload hx hb d_LA_law_340 (lv_at hl 1 rfl) ?_
  refine lv_icmp_eq (tgt := 347) hx hb d_LA_law_342 (by decide) (fun c_342 => ?_) (fun c_342 => ?_)
  · have c_342 : 1 = 1 :=  (nI_eq (by omega) (by omega)).mp c_342
    refine lv_iload hx hb d_LA_law_347 (lv_at hl 1 rfl) ?_
    refine lv_if_ne (tgt := 371) hx hb d_LA_law_349 (by decide) (fun c_349 => ?_) (fun c_349 => ?_)
    · have c_349 : ¬ 1 = 0 := gs_zn (by omega) c_349
      refine lv_goto (tgt := 1085) hx hb d_LA_law_371 (by decide) ?_
      refine W.widen (k := cells + 6) (n := slots + 64) (by first | exact Nat.le_refl _ | exact Nat.le_add_right _ _) (by first | exact Nat.le_refl _ | exact Nat.le_add_right _ _) ?_
      exact kk σ_331 H locs ⟨_, _, _, _, _, _, _, _, _, _, _, _, _, _, _, _, hR3, hM3, hRL, ho3⟩ hG hS ls (lv_sub hl [2, 3, 4, 5, 6] rfl)
    · exact absurd c_349 (by decide)
  · exact absurd c_342 (by decide)
set_option maxHeartbeats 4000000 in
set_option maxRecDepth 100000 in
theorem lb_drop_t {RL : RLT} (h0 : pe0 RL) {p : Program} {e : Env} {s : State} {m : MethodId} {below : List Frame} {meth : Method} {c : Code} (l : Launch) {sb L : Nat} {xs : Nat → Int32} {X : gs_X} (htr : l.stackTraces = false) (C0 : lw_At p s m meth c sb L xs) (hL : L ≤ 3072) (hXX : X.2.1 3 ≠ X.2.1 2) (hK : gs_T X s) (hE : gs_E X s) (hz : X.2.2 ≤ s.heap.size) (hbA : ¬ gs_A X sb) {rr mo out : Nat} {A : Nat → Nat} {σ : gs_St} {nr : Nat} {cw : Nat → Nat} {Q : List Rl} {E : List En} {Lt : List Nat} {sa : Nat} {nw : Bool} {rc fc : Nat} {dr : Option Dr} {F : List (Nat × Nat)} {T : List MT} {QM : List MR} {drM : Option MR} {cd : Nat} {f : Nat → Int64} (hR : rrA X σ (out :: aM mo A) rr nr cw Q E Lt sa nw rc fc dr) (hM : moA X σ mo A cd nr cw F T sa rc QM drM) (hRL : RL nr cw Q E Lt sa nw rc fc dr F T QM drM) (ho : σ out = some (gs_la X 1 f)) {i cells slots : Nat} (hi : i + 6 ≤ L) (hce : cells + 6 ≤ 601024) (hsl : slots + 64 ≤ 7293034) {rl : Nat} (e1 : xs (i + 1) = nI rl) (hrl : rl < nr) (hok : wi3 64 (cw rl) (xs (i + 2)) (xs (i + 3)) (xs (i + 4)) = false) (kk : ∀ (σ' : gs_St) (H : Heap) (locs : List Loc), LI RL X σ' rr mo out A → gs_H X σ' H → va_S (gs_A X) s.heap H locs → ∀ ls, lv_has ls 7 [(4, .int (nI i)), (3, .ref out), (2, .ref mo), (1, .ref rr), (0, .ref sb)] → W p l e room_1 s m #[Value.ref sb] below meth c H locs (cells + 6) (slots + 64) (lw_Z below #[Value.ref sb] s) (F0 m 1085 ls [])) {H : Heap} {locs : List Loc} (hG : gs_H X σ H) (hS : va_S (gs_A X) s.heap H locs) {ls : Array Slot} (hl : lv_has ls 7 [(4, .int (nI i)), (3, .ref out), (2, .ref mo), (1, .ref rr), (0, .ref sb)]) : W p l e room_1 s m #[Value.ref sb] below meth c H locs cells slots (lw_Z below #[Value.ref sb] s) (F0 m 275 ls []) := by
  obtain ⟨hx, hb, hr, hml, hown, hts0, hX, hbl, hlocks, hgv⟩ := id C0
  have ht : ∀ w ∈ gs_w, w.before #[Value.ref sb] s = true := fun w h => hts0 w (List.mem_filter.mp h).1
  have hts : ∀ w ∈ (Cond.initialized "RuleRoundsLaw") :: gs_w, w.before #[Value.ref sb] s = true := fun w h => by
    rcases List.mem_cons.mp h with z | z
    · rw [z]; exact ht _ w_0
    · exact ht w z
  obtain ⟨gs, x0⟩ := hR.cell
  obtain ⟨Z, m0, z0⟩ := hM.cell
  have q0 := h0 _ _ _ _ _ _ _ _ _ _ _ _ _ _ hRL
  refine lv_aload_n hx hb d_LA_law_275 rfl (lv_at hl 3 rfl) ?_
  refine lv_aload_n hx hb d_LA_law_276 rfl (lv_at hl 4 rfl) ?_
  refine lv_iload hx hb d_LA_law_277 (lv_at hl 0 rfl) ?_
  refine lv_iconst (v := nI 1) hx hb d_LA_law_279 (by decide) ?_
  refine lv_iadd hx hb d_LA_law_280 ?_
  refine gs_top (nI_add i 1) ?_
  refine gs_sld hx hb hX hbl hbA hS (j := i + 1) (by omega) (by omega) d_LA_law_281 ?_
  refine gs_top (show xs (i + 1) = (nI rl) from e1) ?_
  refine lv_aload_n hx hb d_LA_law_282 rfl (lv_at hl 4 rfl) ?_
  refine lv_iload hx hb d_LA_law_283 (lv_at hl 0 rfl) ?_
  refine lv_iconst (v := nI 2) hx hb d_LA_law_285 (by decide) ?_
  refine lv_iadd hx hb d_LA_law_286 ?_
  refine gs_top (nI_add i 2) ?_
  refine gs_sld hx hb hX hbl hbA hS (j := i + 2) (by omega) (by omega) d_LA_law_287 ?_
  refine lv_aload_n hx hb d_LA_law_288 rfl (lv_at hl 4 rfl) ?_
  refine lv_iload hx hb d_LA_law_289 (lv_at hl 0 rfl) ?_
  refine lv_iconst (v := nI 3) hx hb d_LA_law_291 (by decide) ?_
  refine lv_iadd hx hb d_LA_law_292 ?_
  refine gs_top (nI_add i 3) ?_
  refine gs_sld hx hb hX hbl hbA hS (j := i + 3) (by omega) (by omega) d_LA_law_293 ?_
  refine lv_aload_n hx hb d_LA_law_294 rfl (lv_at hl 4 rfl) ?_
  refine lv_iload hx hb d_LA_law_295 (lv_at hl 0 rfl) ?_
  refine lv_iconst (v := nI 4) hx hb d_LA_law_297 (by decide) ?_
  refine lv_iadd hx hb d_LA_law_298 ?_
  refine gs_top (nI_add i 4) ?_
  refine gs_sld hx hb hX hbl hbA hS (j := i + 4) (by omega) (by omega) d_LA_law_299 ?_
  refine lv_aload_n hx hb d_LA_law_300 rfl (lv_at hl 1 rfl) ?_
  refine gs_callSiH (As := [.ref rr, .int (nI rl), .int (xs (i + 2)), .int (xs (i + 3)), .int (xs (i + 4)), .ref out]) (rest := []) ⟨hx, hb, hml, hown, hts⟩ hK hE hz hG hS (c_LA_drop_xI l X σ rr out gs _ (nI rl) (xs (i + 2)) (xs (i + 3)) (xs (i + 4)) x0 ⟨by decide, by decide, by decide, by decide⟩ (c_rr_drop_t l hR htr hrl hok)) mSH_LA_drop w_412 rfl hl.1 rfl (Nat.le_of_ble_eq_true rfl) ⟨by decide, by decide⟩ ⟨(by first | (show cells + 6 ≤ 601024; omega) | (show cells ≤ 601024; omega)), (by first | (show slots + 64 ≤ 7293034; omega) | (show slots ≤ 7293034; omega))⟩ d_LA_law_301 (fun r_301 σ_301 H locs hp_301 hG hS => ?_)
  refine gs_top hp_301.1 ?_
  rw [hp_301.2] at hG
  refine lv_istore (lv' := [(5, .int (nI 1)), (4, .int (nI i)), (3, .ref out), (2, .ref mo), (1, .ref rr), (0, .ref sb)]) hx hb d_LA_law_304 hl (by decide) rfl (fun ls hl => ?_)
  refine lv_aload_n hx hb d_LA_law_306 rfl (lv_at hl 3 rfl) ?_
  refine lv_aload_n hx hb d_LA_law_307 rfl (lv_at hl 5 rfl) ?_
  refine lv_iload hx hb d_LA_law_308 (lv_at hl 1 rfl) ?_
  refine lv_iconst (v := nI 1) hx hb d_LA_law_310 (by decide) ?_
  refine lv_iadd hx hb d_LA_law_311 ?_
  refine gs_top (nI_add i 1) ?_
  refine gs_sld hx hb hX hbl hbA hS (j := i + 1) (by omega) (by omega) d_LA_law_312 ?_
  refine gs_top (show xs (i + 1) = (nI rl) from e1) ?_
  refine lv_aload_n hx hb d_LA_law_313 rfl (lv_at hl 5 rfl) ?_
  refine lv_iload hx hb d_LA_law_314 (lv_at hl 1 rfl) ?_
  refine lv_iconst (v := nI 2) hx hb d_LA_law_316 (by decide) ?_
  refine lv_iadd hx hb d_LA_law_317 ?_
  refine gs_top (nI_add i 2) ?_
  refine gs_sld hx hb hX hbl hbA hS (j := i + 2) (by omega) (by omega) d_LA_law_318 ?_
  refine lv_aload_n hx hb d_LA_law_319 rfl (lv_at hl 5 rfl) ?_
  refine lv_iload hx hb d_LA_law_320 (lv_at hl 1 rfl) ?_
  refine lv_iconst (v := nI 3) hx hb d_LA_law_322 (by decide) ?_
  refine lv_iadd hx hb d_LA_law_323 ?_
  refine gs_top (nI_add i 3) ?_
  refine gs_sld hx hb hX hbl hbA hS (j := i + 3) (by omega) (by omega) d_LA_law_324 ?_
  refine lv_aload_n hx hb d_LA_law_325 rfl (lv_at hl 5 rfl) ?_
  refine lv_iload hx hb d_LA_law_326 (lv_at hl 1 rfl) ?_
  refine lv_iconst (v := nI 4) hx hb d_LA_law_328 (by decide) ?_
  refine lv_iadd hx hb d_LA_law_329 ?_
  refine gs_top (nI_add i 4) ?_
  refine gs_sld hx hb hX hbl hbA hS (j := i + 4) (by omega) (by omega) d_LA_law_330 ?_
  refine gs_callVi (As := [.int (nI rl), .int (xs (i + 2)), .int (xs (i + 3)), .int (xs (i + 4))]) (rest := []) ⟨hx, hb, hml, hown, hts⟩ hK hE hz hG hS (c_MO_drop_t l X σ mo A cd nr cw F T sa rc QM drM rl (xs (i + 2)) (xs (i + 3)) (xs (i + 4)) hM hrl hok) mV_MO_drop w_788 m0 rfl rfl hl.1 rfl (Nat.le_of_ble_eq_true rfl) ⟨by decide, by decide⟩ ⟨(by first | (show cells + 6 ≤ 601024; omega) | (show cells ≤ 601024; omega)), (by first | (show slots + 64 ≤ 7293034; omega) | (show slots ≤ 7293034; omega))⟩ d_LA_law_331 (fun r_331 σ_331 H locs hp_331 hG hS => ?_)
  obtain ⟨hM3, hf3, er3⟩ := hp_331
  have hR3 := hR.mdl (hM.gG ho) hf3
  have ho3 := hf3 _ _ (out_nin hM ho) ho
  obtain ⟨Z3, m03, z03⟩ := hM3.cell
  refine gs_top er3 ?_
  refine lv_istore (lv' := [(6, .int (nI 0)), (5, .int (nI 1)), (4, .int (nI i)), (3, .ref out), (2, .ref mo), (1, .ref rr), (0, .ref sb)]) hx hb d_LA_law_334 hl (by decide) rfl (fun ls hl => ?_)
  refine lv_aload_n hx hb d_LA_law_336 rfl (lv_at hl 4 rfl) ?_
  refine gs_callVp (As := []) (rest := []) ⟨hx, hb, hml, hown, hts⟩ hK hE hz hG hS (c_MO_thrown l X σ_331 mo A Z3 m03) ⟨rfl, rfl⟩ mV_MO_thrown w_757 m03 rfl rfl hl.1 rfl (Nat.le_of_ble_eq_true rfl) ⟨by decide, by decide⟩ ⟨(by first | (show cells + 6 ≤ 601024; omega) | (show cells ≤ 601024; omega)), (by first | (show slots + 64 ≤ 7293034; omega) | (show slots ≤ 7293034; omega))⟩ d_LA_law_337 (fun r_337 hp_337 => ?_)
  refine gs_top (show r_337 = nI 1 from by rw [hp_337, z03]) ?_
  refine lv_iload hx hb d_LA_law_340 (lv_at hl 1 rfl) ?_
  refine lv_icmp_eq (tgt := 347) hx hb d_LA_law_342 (by decide) (fun c_342 => ?_) (fun c_342 => ?_)
  · have c_342 : 1 = 1 :=  (nI_eq (by omega) (by omega)).mp c_342
    refine lv_iload hx hb d_LA_law_347 (lv_at hl 1 rfl) ?_
    refine lv_if_ne (tgt := 371) hx hb d_LA_law_349 (by decide) (fun c_349 => ?_) (fun c_349 => ?_)
    · have c_349 : ¬ 1 = 0 := gs_zn (by omega) c_349
      refine lv_goto (tgt := 1085) hx hb d_LA_law_371 (by decide) ?_
      refine W.widen (k := cells + 6) (n := slots + 64) (by first | exact Nat.le_refl _ | exact Nat.le_add_right _ _) (by first | exact Nat.le_refl _ | exact Nat.le_add_right _ _) ?_
      exact kk σ_331 H locs ⟨_, _, _, _, _, _, _, _, _, _, _, _, _, _, _, _, hR3, hM3, hRL, ho3⟩ hG hS ls (lv_sub hl [2, 3, 4, 5, 6] rfl)
    · exact absurd c_349 (by decide)
  · exact absurd c_342 (by decide)
set_option maxHeartbeats 4000000 in
set_option maxRecDepth 100000 in
theorem lb_has_r {RL : RLT} (h0 : pe0 RL) {p : Program} {e : Env} {s : State} {m : MethodId} {below : List Frame} {meth : Method} {c : Code} (l : Launch) {sb L : Nat} {xs : Nat → Int32} {X : gs_X} (htr : l.stackTraces = false) (C0 : lw_At p s m meth c sb L xs) (hL : L ≤ 3072) (hXX : X.2.1 3 ≠ X.2.1 2) (hK : gs_T X s) (hE : gs_E X s) (hz : X.2.2 ≤ s.heap.size) (hbA : ¬ gs_A X sb) {rr mo out : Nat} {A : Nat → Nat} {σ : gs_St} {nr : Nat} {cw : Nat → Nat} {Q : List Rl} {E : List En} {Lt : List Nat} {sa : Nat} {nw : Bool} {rc fc : Nat} {dr : Option Dr} {F : List (Nat × Nat)} {T : List MT} {QM : List MR} {drM : Option MR} {cd : Nat} {f : Nat → Int64} (hR : rrA X σ (out :: aM mo A) rr nr cw Q E Lt sa nw rc fc dr) (hM : moA X σ mo A cd nr cw F T sa rc QM drM) (hRL : RL nr cw Q E Lt sa nw rc fc dr F T QM drM) (ho : σ out = some (gs_la X 1 f)) {i cells slots : Nat} (hi : i + 6 ≤ L) (hce : cells + 6 ≤ 601024) (hsl : slots + 64 ≤ 7293034)  (hok : wi nr (xs (i + 1)) = false) (kk : ∀ (σ' : gs_St) (H : Heap) (locs : List Loc), LI RL X σ' rr mo out A → gs_H X σ' H → va_S (gs_A X) s.heap H locs → ∀ ls, lv_has ls 7 [(4, .int (nI i)), (3, .ref out), (2, .ref mo), (1, .ref rr), (0, .ref sb)] → W p l e room_1 s m #[Value.ref sb] below meth c H locs (cells + 6) (slots + 64) (lw_Z below #[Value.ref sb] s) (F0 m 1085 ls [])) {H : Heap} {locs : List Loc} (hG : gs_H X σ H) (hS : va_S (gs_A X) s.heap H locs) {ls : Array Slot} (hl : lv_has ls 7 [(4, .int (nI i)), (3, .ref out), (2, .ref mo), (1, .ref rr), (0, .ref sb)]) : W p l e room_1 s m #[Value.ref sb] below meth c H locs cells slots (lw_Z below #[Value.ref sb] s) (F0 m 758 ls []) := by
  obtain ⟨hx, hb, hr, hml, hown, hts0, hX, hbl, hlocks, hgv⟩ := id C0
  have ht : ∀ w ∈ gs_w, w.before #[Value.ref sb] s = true := fun w h => hts0 w (List.mem_filter.mp h).1
  have hts : ∀ w ∈ (Cond.initialized "RuleRoundsLaw") :: gs_w, w.before #[Value.ref sb] s = true := fun w h => by
    rcases List.mem_cons.mp h with z | z
    · rw [z]; exact ht _ w_0
    · exact ht w z
  obtain ⟨gs, x0⟩ := hR.cell
  obtain ⟨Z, m0, z0⟩ := hM.cell
  have q0 := h0 _ _ _ _ _ _ _ _ _ _ _ _ _ _ hRL
  refine lv_aload_n hx hb d_LA_law_758 rfl (lv_at hl 3 rfl) ?_
  refine lv_aload_n hx hb d_LA_law_759 rfl (lv_at hl 4 rfl) ?_
  refine lv_iload hx hb d_LA_law_760 (lv_at hl 0 rfl) ?_
  refine lv_iconst (v := nI 1) hx hb d_LA_law_762 (by decide) ?_
  refine lv_iadd hx hb d_LA_law_763 ?_
  refine gs_top (nI_add i 1) ?_
  refine gs_sld hx hb hX hbl hbA hS (j := i + 1) (by omega) (by omega) d_LA_law_764 ?_
  refine lv_aload_n hx hb d_LA_law_765 rfl (lv_at hl 4 rfl) ?_
  refine lv_iload hx hb d_LA_law_766 (lv_at hl 0 rfl) ?_
  refine lv_iconst (v := nI 2) hx hb d_LA_law_768 (by decide) ?_
  refine lv_iadd hx hb d_LA_law_769 ?_
  refine gs_top (nI_add i 2) ?_
  refine gs_sld hx hb hX hbl hbA hS (j := i + 2) (by omega) (by omega) d_LA_law_770 ?_
  refine lv_aload_n hx hb d_LA_law_771 rfl (lv_at hl 4 rfl) ?_
  refine lv_iload hx hb d_LA_law_772 (lv_at hl 0 rfl) ?_
  refine lv_iconst (v := nI 3) hx hb d_LA_law_774 (by decide) ?_
  refine lv_iadd hx hb d_LA_law_775 ?_
  refine gs_top (nI_add i 3) ?_
  refine gs_sld hx hb hX hbl hbA hS (j := i + 3) (by omega) (by omega) d_LA_law_776 ?_
  refine lv_aload_n hx hb d_LA_law_777 rfl (lv_at hl 4 rfl) ?_
  refine lv_iload hx hb d_LA_law_778 (lv_at hl 0 rfl) ?_
  refine lv_iconst (v := nI 4) hx hb d_LA_law_780 (by decide) ?_
  refine lv_iadd hx hb d_LA_law_781 ?_
  refine gs_top (nI_add i 4) ?_
  refine gs_sld hx hb hX hbl hbA hS (j := i + 4) (by omega) (by omega) d_LA_law_782 ?_
  refine lv_aload_n hx hb d_LA_law_783 rfl (lv_at hl 1 rfl) ?_
  refine gs_callSiH (As := [.ref rr, .int (xs (i + 1)), .int (xs (i + 2)), .int (xs (i + 3)), .int (xs (i + 4)), .ref out]) (rest := []) ⟨hx, hb, hml, hown, hts⟩ hK hE hz hG hS (c_LA_has_xI l X σ rr out gs _ (xs (i + 1)) (xs (i + 2)) (xs (i + 3)) (xs (i + 4)) x0 ⟨by decide, by decide, by decide, by decide⟩ (c_rr_has_r l hR htr hok)) mSH_LA_has w_602 rfl hl.1 rfl (Nat.le_of_ble_eq_true rfl) ⟨by decide, by decide⟩ ⟨(by first | (show cells + 6 ≤ 601024; omega) | (show cells ≤ 601024; omega)), (by first | (show slots + 64 ≤ 7293034; omega) | (show slots ≤ 7293034; omega))⟩ d_LA_law_784 (fun r_784 σ_784 H locs hp_784 hG hS => ?_)
  refine gs_top hp_784.1 ?_
  rw [hp_784.2] at hG
  refine lv_istore (lv' := [(5, .int (nI 1)), (4, .int (nI i)), (3, .ref out), (2, .ref mo), (1, .ref rr), (0, .ref sb)]) hx hb d_LA_law_787 hl (by decide) rfl (fun ls hl => ?_)
  refine lv_aload_n hx hb d_LA_law_789 rfl (lv_at hl 3 rfl) ?_
  refine lv_aload_n hx hb d_LA_law_790 rfl (lv_at hl 5 rfl) ?_
  refine lv_iload hx hb d_LA_law_791 (lv_at hl 1 rfl) ?_
  refine lv_iconst (v := nI 1) hx hb d_LA_law_793 (by decide) ?_
  refine lv_iadd hx hb d_LA_law_794 ?_
  refine gs_top (nI_add i 1) ?_
  refine gs_sld hx hb hX hbl hbA hS (j := i + 1) (by omega) (by omega) d_LA_law_795 ?_
  refine lv_aload_n hx hb d_LA_law_796 rfl (lv_at hl 5 rfl) ?_
  refine lv_iload hx hb d_LA_law_797 (lv_at hl 1 rfl) ?_
  refine lv_iconst (v := nI 2) hx hb d_LA_law_799 (by decide) ?_
  refine lv_iadd hx hb d_LA_law_800 ?_
  refine gs_top (nI_add i 2) ?_
  refine gs_sld hx hb hX hbl hbA hS (j := i + 2) (by omega) (by omega) d_LA_law_801 ?_
  refine lv_aload_n hx hb d_LA_law_802 rfl (lv_at hl 5 rfl) ?_
  refine lv_iload hx hb d_LA_law_803 (lv_at hl 1 rfl) ?_
  refine lv_iconst (v := nI 3) hx hb d_LA_law_805 (by decide) ?_
  refine lv_iadd hx hb d_LA_law_806 ?_
  refine gs_top (nI_add i 3) ?_
  refine gs_sld hx hb hX hbl hbA hS (j := i + 3) (by omega) (by omega) d_LA_law_807 ?_
  refine lv_aload_n hx hb d_LA_law_808 rfl (lv_at hl 5 rfl) ?_
  refine lv_iload hx hb d_LA_law_809 (lv_at hl 1 rfl) ?_
  refine lv_iconst (v := nI 4) hx hb d_LA_law_811 (by decide) ?_
  refine lv_iadd hx hb d_LA_law_812 ?_
  refine gs_top (nI_add i 4) ?_
  refine gs_sld hx hb hX hbl hbA hS (j := i + 4) (by omega) (by omega) d_LA_law_813 ?_
  refine gs_callVi (As := [.int (xs (i + 1)), .int (xs (i + 2)), .int (xs (i + 3)), .int (xs (i + 4))]) (rest := []) ⟨hx, hb, hml, hown, hts⟩ hK hE hz hG hS (c_MO_has_r l X σ mo A cd nr cw F T sa rc QM drM (xs (i + 1)) (xs (i + 2)) (xs (i + 3)) (xs (i + 4)) hM hok) mV_MO_has w_884 m0 rfl rfl hl.1 rfl (Nat.le_of_ble_eq_true rfl) ⟨by decide, by decide⟩ ⟨(by first | (show cells + 6 ≤ 601024; omega) | (show cells ≤ 601024; omega)), (by first | (show slots + 64 ≤ 7293034; omega) | (show slots ≤ 7293034; omega))⟩ d_LA_law_814 (fun r_814 σ_814 H locs hp_814 hG hS => ?_)
  obtain ⟨hM3, hf3, er3⟩ := hp_814
  have hR3 := hR.mdl (hM.gG ho) hf3
  have ho3 := hf3 _ _ (out_nin hM ho) ho
  obtain ⟨Z3, m03, z03⟩ := hM3.cell
  refine gs_top er3 ?_
  refine lv_istore (lv' := [(6, .int (nI 0)), (5, .int (nI 1)), (4, .int (nI i)), (3, .ref out), (2, .ref mo), (1, .ref rr), (0, .ref sb)]) hx hb d_LA_law_817 hl (by decide) rfl (fun ls hl => ?_)
  refine lv_aload_n hx hb d_LA_law_819 rfl (lv_at hl 4 rfl) ?_
  refine gs_callVp (As := []) (rest := []) ⟨hx, hb, hml, hown, hts⟩ hK hE hz hG hS (c_MO_thrown l X σ_814 mo A Z3 m03) ⟨rfl, rfl⟩ mV_MO_thrown w_757 m03 rfl rfl hl.1 rfl (Nat.le_of_ble_eq_true rfl) ⟨by decide, by decide⟩ ⟨(by first | (show cells + 6 ≤ 601024; omega) | (show cells ≤ 601024; omega)), (by first | (show slots + 64 ≤ 7293034; omega) | (show slots ≤ 7293034; omega))⟩ d_LA_law_820 (fun r_820 hp_820 => ?_)
  refine gs_top (show r_820 = nI 1 from by rw [hp_820, z03]) ?_
  refine lv_iload hx hb d_LA_law_823 (lv_at hl 1 rfl) ?_
  refine lv_icmp_eq (tgt := 830) hx hb d_LA_law_825 (by decide) (fun c_825 => ?_) (fun c_825 => ?_)
  · have c_825 : 1 = 1 :=  (nI_eq (by omega) (by omega)).mp c_825
    refine lv_iload hx hb d_LA_law_830 (lv_at hl 1 rfl) ?_
    refine lv_if_ne (tgt := 854) hx hb d_LA_law_832 (by decide) (fun c_832 => ?_) (fun c_832 => ?_)
    · have c_832 : ¬ 1 = 0 := gs_zn (by omega) c_832
      refine lv_goto (tgt := 1085) hx hb d_LA_law_854 (by decide) ?_
      refine W.widen (k := cells + 6) (n := slots + 64) (by first | exact Nat.le_refl _ | exact Nat.le_add_right _ _) (by first | exact Nat.le_refl _ | exact Nat.le_add_right _ _) ?_
      exact kk σ_814 H locs ⟨_, _, _, _, _, _, _, _, _, _, _, _, _, _, _, _, hR3, hM3, hRL, ho3⟩ hG hS ls (lv_sub hl [2, 3, 4, 5, 6] rfl)
    · exact absurd c_832 (by decide)
  · exact absurd c_825 (by decide)
set_option maxHeartbeats 4000000 in
set_option maxRecDepth 100000 in
theorem lb_has_t {RL : RLT} (h0 : pe0 RL) {p : Program} {e : Env} {s : State} {m : MethodId} {below : List Frame} {meth : Method} {c : Code} (l : Launch) {sb L : Nat} {xs : Nat → Int32} {X : gs_X} (htr : l.stackTraces = false) (C0 : lw_At p s m meth c sb L xs) (hL : L ≤ 3072) (hXX : X.2.1 3 ≠ X.2.1 2) (hK : gs_T X s) (hE : gs_E X s) (hz : X.2.2 ≤ s.heap.size) (hbA : ¬ gs_A X sb) {rr mo out : Nat} {A : Nat → Nat} {σ : gs_St} {nr : Nat} {cw : Nat → Nat} {Q : List Rl} {E : List En} {Lt : List Nat} {sa : Nat} {nw : Bool} {rc fc : Nat} {dr : Option Dr} {F : List (Nat × Nat)} {T : List MT} {QM : List MR} {drM : Option MR} {cd : Nat} {f : Nat → Int64} (hR : rrA X σ (out :: aM mo A) rr nr cw Q E Lt sa nw rc fc dr) (hM : moA X σ mo A cd nr cw F T sa rc QM drM) (hRL : RL nr cw Q E Lt sa nw rc fc dr F T QM drM) (ho : σ out = some (gs_la X 1 f)) {i cells slots : Nat} (hi : i + 6 ≤ L) (hce : cells + 6 ≤ 601024) (hsl : slots + 64 ≤ 7293034) {rl : Nat} (e1 : xs (i + 1) = nI rl) (hrl : rl < nr) (hok : wi3 64 (cw rl) (xs (i + 2)) (xs (i + 3)) (xs (i + 4)) = false) (kk : ∀ (σ' : gs_St) (H : Heap) (locs : List Loc), LI RL X σ' rr mo out A → gs_H X σ' H → va_S (gs_A X) s.heap H locs → ∀ ls, lv_has ls 7 [(4, .int (nI i)), (3, .ref out), (2, .ref mo), (1, .ref rr), (0, .ref sb)] → W p l e room_1 s m #[Value.ref sb] below meth c H locs (cells + 6) (slots + 64) (lw_Z below #[Value.ref sb] s) (F0 m 1085 ls [])) {H : Heap} {locs : List Loc} (hG : gs_H X σ H) (hS : va_S (gs_A X) s.heap H locs) {ls : Array Slot} (hl : lv_has ls 7 [(4, .int (nI i)), (3, .ref out), (2, .ref mo), (1, .ref rr), (0, .ref sb)]) : W p l e room_1 s m #[Value.ref sb] below meth c H locs cells slots (lw_Z below #[Value.ref sb] s) (F0 m 758 ls []) := by
  obtain ⟨hx, hb, hr, hml, hown, hts0, hX, hbl, hlocks, hgv⟩ := id C0
  have ht : ∀ w ∈ gs_w, w.before #[Value.ref sb] s = true := fun w h => hts0 w (List.mem_filter.mp h).1
  have hts : ∀ w ∈ (Cond.initialized "RuleRoundsLaw") :: gs_w, w.before #[Value.ref sb] s = true := fun w h => by
    rcases List.mem_cons.mp h with z | z
    · rw [z]; exact ht _ w_0
    · exact ht w z
  obtain ⟨gs, x0⟩ := hR.cell
  obtain ⟨Z, m0, z0⟩ := hM.cell
  have q0 := h0 _ _ _ _ _ _ _ _ _ _ _ _ _ _ hRL
  refine lv_aload_n hx hb d_LA_law_758 rfl (lv_at hl 3 rfl) ?_
  refine lv_aload_n hx hb d_LA_law_759 rfl (lv_at hl 4 rfl) ?_
  refine lv_iload hx hb d_LA_law_760 (lv_at hl 0 rfl) ?_
  refine lv_iconst (v := nI 1) hx hb d_LA_law_762 (by decide) ?_
  refine lv_iadd hx hb d_LA_law_763 ?_
  refine gs_top (nI_add i 1) ?_
  refine gs_sld hx hb hX hbl hbA hS (j := i + 1) (by omega) (by omega) d_LA_law_764 ?_
  refine gs_top (show xs (i + 1) = (nI rl) from e1) ?_
  refine lv_aload_n hx hb d_LA_law_765 rfl (lv_at hl 4 rfl) ?_
  refine lv_iload hx hb d_LA_law_766 (lv_at hl 0 rfl) ?_
  refine lv_iconst (v := nI 2) hx hb d_LA_law_768 (by decide) ?_
  refine lv_iadd hx hb d_LA_law_769 ?_
  refine gs_top (nI_add i 2) ?_
  refine gs_sld hx hb hX hbl hbA hS (j := i + 2) (by omega) (by omega) d_LA_law_770 ?_
  refine lv_aload_n hx hb d_LA_law_771 rfl (lv_at hl 4 rfl) ?_
  refine lv_iload hx hb d_LA_law_772 (lv_at hl 0 rfl) ?_
  refine lv_iconst (v := nI 3) hx hb d_LA_law_774 (by decide) ?_
  refine lv_iadd hx hb d_LA_law_775 ?_
  refine gs_top (nI_add i 3) ?_
  refine gs_sld hx hb hX hbl hbA hS (j := i + 3) (by omega) (by omega) d_LA_law_776 ?_
  refine lv_aload_n hx hb d_LA_law_777 rfl (lv_at hl 4 rfl) ?_
  refine lv_iload hx hb d_LA_law_778 (lv_at hl 0 rfl) ?_
  refine lv_iconst (v := nI 4) hx hb d_LA_law_780 (by decide) ?_
  refine lv_iadd hx hb d_LA_law_781 ?_
  refine gs_top (nI_add i 4) ?_
  refine gs_sld hx hb hX hbl hbA hS (j := i + 4) (by omega) (by omega) d_LA_law_782 ?_
  refine lv_aload_n hx hb d_LA_law_783 rfl (lv_at hl 1 rfl) ?_
  refine gs_callSiH (As := [.ref rr, .int (nI rl), .int (xs (i + 2)), .int (xs (i + 3)), .int (xs (i + 4)), .ref out]) (rest := []) ⟨hx, hb, hml, hown, hts⟩ hK hE hz hG hS (c_LA_has_xI l X σ rr out gs _ (nI rl) (xs (i + 2)) (xs (i + 3)) (xs (i + 4)) x0 ⟨by decide, by decide, by decide, by decide⟩ (c_rr_has_t l hR htr hrl hok)) mSH_LA_has w_602 rfl hl.1 rfl (Nat.le_of_ble_eq_true rfl) ⟨by decide, by decide⟩ ⟨(by first | (show cells + 6 ≤ 601024; omega) | (show cells ≤ 601024; omega)), (by first | (show slots + 64 ≤ 7293034; omega) | (show slots ≤ 7293034; omega))⟩ d_LA_law_784 (fun r_784 σ_784 H locs hp_784 hG hS => ?_)
  refine gs_top hp_784.1 ?_
  rw [hp_784.2] at hG
  refine lv_istore (lv' := [(5, .int (nI 1)), (4, .int (nI i)), (3, .ref out), (2, .ref mo), (1, .ref rr), (0, .ref sb)]) hx hb d_LA_law_787 hl (by decide) rfl (fun ls hl => ?_)
  refine lv_aload_n hx hb d_LA_law_789 rfl (lv_at hl 3 rfl) ?_
  refine lv_aload_n hx hb d_LA_law_790 rfl (lv_at hl 5 rfl) ?_
  refine lv_iload hx hb d_LA_law_791 (lv_at hl 1 rfl) ?_
  refine lv_iconst (v := nI 1) hx hb d_LA_law_793 (by decide) ?_
  refine lv_iadd hx hb d_LA_law_794 ?_
  refine gs_top (nI_add i 1) ?_
  refine gs_sld hx hb hX hbl hbA hS (j := i + 1) (by omega) (by omega) d_LA_law_795 ?_
  refine gs_top (show xs (i + 1) = (nI rl) from e1) ?_
  refine lv_aload_n hx hb d_LA_law_796 rfl (lv_at hl 5 rfl) ?_
  refine lv_iload hx hb d_LA_law_797 (lv_at hl 1 rfl) ?_
  refine lv_iconst (v := nI 2) hx hb d_LA_law_799 (by decide) ?_
  refine lv_iadd hx hb d_LA_law_800 ?_
  refine gs_top (nI_add i 2) ?_
  refine gs_sld hx hb hX hbl hbA hS (j := i + 2) (by omega) (by omega) d_LA_law_801 ?_
  refine lv_aload_n hx hb d_LA_law_802 rfl (lv_at hl 5 rfl) ?_
  refine lv_iload hx hb d_LA_law_803 (lv_at hl 1 rfl) ?_
  refine lv_iconst (v := nI 3) hx hb d_LA_law_805 (by decide) ?_
  refine lv_iadd hx hb d_LA_law_806 ?_
  refine gs_top (nI_add i 3) ?_
  refine gs_sld hx hb hX hbl hbA hS (j := i + 3) (by omega) (by omega) d_LA_law_807 ?_
  refine lv_aload_n hx hb d_LA_law_808 rfl (lv_at hl 5 rfl) ?_
  refine lv_iload hx hb d_LA_law_809 (lv_at hl 1 rfl) ?_
  refine lv_iconst (v := nI 4) hx hb d_LA_law_811 (by decide) ?_
  refine lv_iadd hx hb d_LA_law_812 ?_
  refine gs_top (nI_add i 4) ?_
  refine gs_sld hx hb hX hbl hbA hS (j := i + 4) (by omega) (by omega) d_LA_law_813 ?_
  refine gs_callVi (As := [.int (nI rl), .int (xs (i + 2)), .int (xs (i + 3)), .int (xs (i + 4))]) (rest := []) ⟨hx, hb, hml, hown, hts⟩ hK hE hz hG hS (c_MO_has_t l X σ mo A cd nr cw F T sa rc QM drM rl (xs (i + 2)) (xs (i + 3)) (xs (i + 4)) hM hrl hok) mV_MO_has w_884 m0 rfl rfl hl.1 rfl (Nat.le_of_ble_eq_true rfl) ⟨by decide, by decide⟩ ⟨(by first | (show cells + 6 ≤ 601024; omega) | (show cells ≤ 601024; omega)), (by first | (show slots + 64 ≤ 7293034; omega) | (show slots ≤ 7293034; omega))⟩ d_LA_law_814 (fun r_814 σ_814 H locs hp_814 hG hS => ?_)
  obtain ⟨hM3, hf3, er3⟩ := hp_814
  have hR3 := hR.mdl (hM.gG ho) hf3
  have ho3 := hf3 _ _ (out_nin hM ho) ho
  obtain ⟨Z3, m03, z03⟩ := hM3.cell
  refine gs_top er3 ?_
  refine lv_istore (lv' := [(6, .int (nI 0)), (5, .int (nI 1)), (4, .int (nI i)), (3, .ref out), (2, .ref mo), (1, .ref rr), (0, .ref sb)]) hx hb d_LA_law_817 hl (by decide) rfl (fun ls hl => ?_)
  refine lv_aload_n hx hb d_LA_law_819 rfl (lv_at hl 4 rfl) ?_
  refine gs_callVp (As := []) (rest := []) ⟨hx, hb, hml, hown, hts⟩ hK hE hz hG hS (c_MO_thrown l X σ_814 mo A Z3 m03) ⟨rfl, rfl⟩ mV_MO_thrown w_757 m03 rfl rfl hl.1 rfl (Nat.le_of_ble_eq_true rfl) ⟨by decide, by decide⟩ ⟨(by first | (show cells + 6 ≤ 601024; omega) | (show cells ≤ 601024; omega)), (by first | (show slots + 64 ≤ 7293034; omega) | (show slots ≤ 7293034; omega))⟩ d_LA_law_820 (fun r_820 hp_820 => ?_)
  refine gs_top (show r_820 = nI 1 from by rw [hp_820, z03]) ?_
  refine lv_iload hx hb d_LA_law_823 (lv_at hl 1 rfl) ?_
  refine lv_icmp_eq (tgt := 830) hx hb d_LA_law_825 (by decide) (fun c_825 => ?_) (fun c_825 => ?_)
  · have c_825 : 1 = 1 :=  (nI_eq (by omega) (by omega)).mp c_825
    refine lv_iload hx hb d_LA_law_830 (lv_at hl 1 rfl) ?_
    refine lv_if_ne (tgt := 854) hx hb d_LA_law_832 (by decide) (fun c_832 => ?_) (fun c_832 => ?_)
    · have c_832 : ¬ 1 = 0 := gs_zn (by omega) c_832
      refine lv_goto (tgt := 1085) hx hb d_LA_law_854 (by decide) ?_
      refine W.widen (k := cells + 6) (n := slots + 64) (by first | exact Nat.le_refl _ | exact Nat.le_add_right _ _) (by first | exact Nat.le_refl _ | exact Nat.le_add_right _ _) ?_
      exact kk σ_814 H locs ⟨_, _, _, _, _, _, _, _, _, _, _, _, _, _, _, _, hR3, hM3, hRL, ho3⟩ hG hS ls (lv_sub hl [2, 3, 4, 5, 6] rfl)
    · exact absurd c_832 (by decide)
  · exact absurd c_825 (by decide)
set_option maxHeartbeats 4000000 in
set_option maxRecDepth 100000 in
theorem lb_fact_o {RL : RLT} (h0 : pe0 RL) (h_pe_in : pe_in RL) {p : Program} {e : Env} {s : State} {m : MethodId} {below : List Frame} {meth : Method} {c : Code} (l : Launch) {sb L : Nat} {xs : Nat → Int32} {X : gs_X} (htr : l.stackTraces = false) (C0 : lw_At p s m meth c sb L xs) (hL : L ≤ 3072) (hXX : X.2.1 3 ≠ X.2.1 2) (hK : gs_T X s) (hE : gs_E X s) (hz : X.2.2 ≤ s.heap.size) (hbA : ¬ gs_A X sb) {rr mo out : Nat} {A : Nat → Nat} {σ : gs_St} {nr : Nat} {cw : Nat → Nat} {Q : List Rl} {E : List En} {Lt : List Nat} {sa : Nat} {nw : Bool} {rc fc : Nat} {dr : Option Dr} {F : List (Nat × Nat)} {T : List MT} {QM : List MR} {drM : Option MR} {cd : Nat} {f : Nat → Int64} (hR : rrA X σ (out :: aM mo A) rr nr cw Q E Lt sa nw rc fc dr) (hM : moA X σ mo A cd nr cw F T sa rc QM drM) (hRL : RL nr cw Q E Lt sa nw rc fc dr F T QM drM) (ho : σ out = some (gs_la X 1 f)) {i cells slots : Nat} (hi : i + 6 ≤ L) (hce : cells + 6 ≤ 601024) (hsl : slots + 64 ≤ 7293034) {rl a b cz : Nat} (e1 : xs (i + 1) = nI rl) (e2 : xs (i + 2) = nI a) (e3 : xs (i + 3) = nI b) (e4 : xs (i + 4) = nI cz) (hrl : rl < nr) (ha : a < 64) (hb9 : b < 64) (hc9 : cz < 64) (hok : wi3 64 (cw rl) (nI a) (nI b) (nI cz) = true) (hin : fIx F (rl, a * 4096 + b * 64 + cz) < F.length) (kk : ∀ (σ' : gs_St) (H : Heap) (locs : List Loc), LI RL X σ' rr mo out A → gs_H X σ' H → va_S (gs_A X) s.heap H locs → ∀ ls, lv_has ls 7 [(4, .int (nI i)), (3, .ref out), (2, .ref mo), (1, .ref rr), (0, .ref sb)] → W p l e room_1 s m #[Value.ref sb] below meth c H locs (cells + 6) (slots + 64) (lw_Z below #[Value.ref sb] s) (F0 m 1085 ls [])) {H : Heap} {locs : List Loc} (hG : gs_H X σ H) (hS : va_S (gs_A X) s.heap H locs) {ls : Array Slot} (hl : lv_has ls 7 [(4, .int (nI i)), (3, .ref out), (2, .ref mo), (1, .ref rr), (0, .ref sb)]) : W p l e room_1 s m #[Value.ref sb] below meth c H locs cells slots (lw_Z below #[Value.ref sb] s) (F0 m 176 ls []) := by
  obtain ⟨hx, hb, hr, hml, hown, hts0, hX, hbl, hlocks, hgv⟩ := id C0
  have ht : ∀ w ∈ gs_w, w.before #[Value.ref sb] s = true := fun w h => hts0 w (List.mem_filter.mp h).1
  have hts : ∀ w ∈ (Cond.initialized "RuleRoundsLaw") :: gs_w, w.before #[Value.ref sb] s = true := fun w h => by
    rcases List.mem_cons.mp h with z | z
    · rw [z]; exact ht _ w_0
    · exact ht w z
  obtain ⟨gs, x0⟩ := hR.cell
  obtain ⟨Z, m0, z0⟩ := hM.cell
  have q0 := h0 _ _ _ _ _ _ _ _ _ _ _ _ _ _ hRL
  refine lv_aload_n hx hb d_LA_law_176 rfl (lv_at hl 3 rfl) ?_
  refine lv_aload_n hx hb d_LA_law_177 rfl (lv_at hl 4 rfl) ?_
  refine lv_iload hx hb d_LA_law_178 (lv_at hl 0 rfl) ?_
  refine lv_iconst (v := nI 1) hx hb d_LA_law_180 (by decide) ?_
  refine lv_iadd hx hb d_LA_law_181 ?_
  refine gs_top (nI_add i 1) ?_
  refine gs_sld hx hb hX hbl hbA hS (j := i + 1) (by omega) (by omega) d_LA_law_182 ?_
  refine gs_top (show xs (i + 1) = (nI rl) from e1) ?_
  refine lv_aload_n hx hb d_LA_law_183 rfl (lv_at hl 4 rfl) ?_
  refine lv_iload hx hb d_LA_law_184 (lv_at hl 0 rfl) ?_
  refine lv_iconst (v := nI 2) hx hb d_LA_law_186 (by decide) ?_
  refine lv_iadd hx hb d_LA_law_187 ?_
  refine gs_top (nI_add i 2) ?_
  refine gs_sld hx hb hX hbl hbA hS (j := i + 2) (by omega) (by omega) d_LA_law_188 ?_
  refine gs_top (show xs (i + 2) = (nI a) from e2) ?_
  refine lv_aload_n hx hb d_LA_law_189 rfl (lv_at hl 4 rfl) ?_
  refine lv_iload hx hb d_LA_law_190 (lv_at hl 0 rfl) ?_
  refine lv_iconst (v := nI 3) hx hb d_LA_law_192 (by decide) ?_
  refine lv_iadd hx hb d_LA_law_193 ?_
  refine gs_top (nI_add i 3) ?_
  refine gs_sld hx hb hX hbl hbA hS (j := i + 3) (by omega) (by omega) d_LA_law_194 ?_
  refine gs_top (show xs (i + 3) = (nI b) from e3) ?_
  refine lv_aload_n hx hb d_LA_law_195 rfl (lv_at hl 4 rfl) ?_
  refine lv_iload hx hb d_LA_law_196 (lv_at hl 0 rfl) ?_
  refine lv_iconst (v := nI 4) hx hb d_LA_law_198 (by decide) ?_
  refine lv_iadd hx hb d_LA_law_199 ?_
  refine gs_top (nI_add i 4) ?_
  refine gs_sld hx hb hX hbl hbA hS (j := i + 4) (by omega) (by omega) d_LA_law_200 ?_
  refine gs_top (show xs (i + 4) = (nI cz) from e4) ?_
  refine lv_aload_n hx hb d_LA_law_201 rfl (lv_at hl 1 rfl) ?_
  refine gs_callSiH (As := [.ref rr, .int (nI rl), .int (nI a), .int (nI b), .int (nI cz), .ref out]) (rest := []) ⟨hx, hb, hml, hown, hts⟩ hK hE hz hG hS (c_LA_fact l X σ rr out gs _ f (nI rl) (nI a) (nI b) (nI cz) _ x0 ⟨by decide, by decide, by decide, by decide⟩ (c_rr_fact_o l hR hrl ha hb9 hc9 hok q0.1 ((h_pe_in _ _ _ _ _ _ _ _ _ _ _ _ _ _ hRL rl a b cz hrl ha hb9 hc9 hok).mpr hin)) (fun r9 σ9 z => by rw [z.2]; exact ho)) mSH_LA_fact w_380 rfl hl.1 rfl (Nat.le_of_ble_eq_true rfl) ⟨by decide, by decide⟩ ⟨(by first | (show cells + 6 ≤ 601024; omega) | (show cells ≤ 601024; omega)), (by first | (show slots + 64 ≤ 7293034; omega) | (show slots ≤ 7293034; omega))⟩ d_LA_law_202 (fun r_202 σ_202 H locs hp_202 hG hS => ?_)
  obtain ⟨ek, r9, σ9, ⟨hans9, hu9⟩, ev⟩ := hp_202
  have hR9 : rrA X σ9 (out :: aM mo A) rr nr cw Q E Lt sa nw rc fc dr := by rw [hu9]; exact hR
  have hk9 : kG σ σ9 (out :: aM mo A) := fun q _ e he => by rw [hu9]; exact he
  refine gs_top ek ?_
  rw [ev] at hG
  obtain ⟨hR2, hM2⟩ := ans_put (f' := vp_updL f 0 (if r9 = 0 then 0 else 1)) hR9 hk9 hM ho
  obtain ⟨σ1, eσ1⟩ : ∃ z, z = gs_up σ9 out (gs_la X 1 (vp_updL f 0 (if r9 = 0 then 0 else 1))) := ⟨_, rfl⟩
  rw [← eσ1] at hG hR2 hM2
  have ho2 : σ1 out = some (gs_la X 1 (vp_updL f 0 (if r9 = 0 then 0 else 1))) := by rw [eσ1]; exact gs_us
  obtain ⟨Z2, m02, z02⟩ := hM2.cell
  refine lv_istore (lv' := [(5, .int (nI 0)), (4, .int (nI i)), (3, .ref out), (2, .ref mo), (1, .ref rr), (0, .ref sb)]) hx hb d_LA_law_205 hl (by decide) rfl (fun ls hl => ?_)
  refine lv_aload_n hx hb d_LA_law_207 rfl (lv_at hl 3 rfl) ?_
  refine lv_aload_n hx hb d_LA_law_208 rfl (lv_at hl 5 rfl) ?_
  refine lv_iload hx hb d_LA_law_209 (lv_at hl 1 rfl) ?_
  refine lv_iconst (v := nI 1) hx hb d_LA_law_211 (by decide) ?_
  refine lv_iadd hx hb d_LA_law_212 ?_
  refine gs_top (nI_add i 1) ?_
  refine gs_sld hx hb hX hbl hbA hS (j := i + 1) (by omega) (by omega) d_LA_law_213 ?_
  refine gs_top (show xs (i + 1) = (nI rl) from e1) ?_
  refine lv_aload_n hx hb d_LA_law_214 rfl (lv_at hl 5 rfl) ?_
  refine lv_iload hx hb d_LA_law_215 (lv_at hl 1 rfl) ?_
  refine lv_iconst (v := nI 2) hx hb d_LA_law_217 (by decide) ?_
  refine lv_iadd hx hb d_LA_law_218 ?_
  refine gs_top (nI_add i 2) ?_
  refine gs_sld hx hb hX hbl hbA hS (j := i + 2) (by omega) (by omega) d_LA_law_219 ?_
  refine gs_top (show xs (i + 2) = (nI a) from e2) ?_
  refine lv_aload_n hx hb d_LA_law_220 rfl (lv_at hl 5 rfl) ?_
  refine lv_iload hx hb d_LA_law_221 (lv_at hl 1 rfl) ?_
  refine lv_iconst (v := nI 3) hx hb d_LA_law_223 (by decide) ?_
  refine lv_iadd hx hb d_LA_law_224 ?_
  refine gs_top (nI_add i 3) ?_
  refine gs_sld hx hb hX hbl hbA hS (j := i + 3) (by omega) (by omega) d_LA_law_225 ?_
  refine gs_top (show xs (i + 3) = (nI b) from e3) ?_
  refine lv_aload_n hx hb d_LA_law_226 rfl (lv_at hl 5 rfl) ?_
  refine lv_iload hx hb d_LA_law_227 (lv_at hl 1 rfl) ?_
  refine lv_iconst (v := nI 4) hx hb d_LA_law_229 (by decide) ?_
  refine lv_iadd hx hb d_LA_law_230 ?_
  refine gs_top (nI_add i 4) ?_
  refine gs_sld hx hb hX hbl hbA hS (j := i + 4) (by omega) (by omega) d_LA_law_231 ?_
  refine gs_top (show xs (i + 4) = (nI cz) from e4) ?_
  refine gs_callVi (As := [.int (nI rl), .int (nI a), .int (nI b), .int (nI cz)]) (rest := []) ⟨hx, hb, hml, hown, hts⟩ hK hE hz hG hS (c_MO_fact_o l X σ1 mo A cd nr cw F T sa rc QM drM rl a b cz hM2 hrl ha hb9 hc9 hok hin) mV_MO_fact w_773 m02 rfl rfl hl.1 rfl (Nat.le_of_ble_eq_true rfl) ⟨by decide, by decide⟩ ⟨(by first | (show cells + 6 ≤ 601024; omega) | (show cells ≤ 601024; omega)), (by first | (show slots + 64 ≤ 7293034; omega) | (show slots ≤ 7293034; omega))⟩ d_LA_law_232 (fun r_232 σ_232 H locs hp_232 hG hS => ?_)
  obtain ⟨hM3, hf3, er3⟩ := hp_232
  have hR3 := hR2.mdl (hM2.gG ho2) hf3
  have ho3 := hf3 _ _ (out_nin hM2 ho2) ho2
  obtain ⟨Z3, m03, z03⟩ := hM3.cell
  refine gs_top er3 ?_
  refine lv_istore (lv' := [(6, .int (nI 0)), (5, .int (nI 0)), (4, .int (nI i)), (3, .ref out), (2, .ref mo), (1, .ref rr), (0, .ref sb)]) hx hb d_LA_law_235 hl (by decide) rfl (fun ls hl => ?_)
  refine lv_aload_n hx hb d_LA_law_237 rfl (lv_at hl 4 rfl) ?_
  refine gs_callVp (As := []) (rest := []) ⟨hx, hb, hml, hown, hts⟩ hK hE hz hG hS (c_MO_thrown l X σ_232 mo A Z3 m03) ⟨rfl, rfl⟩ mV_MO_thrown w_757 m03 rfl rfl hl.1 rfl (Nat.le_of_ble_eq_true rfl) ⟨by decide, by decide⟩ ⟨(by first | (show cells + 6 ≤ 601024; omega) | (show cells ≤ 601024; omega)), (by first | (show slots + 64 ≤ 7293034; omega) | (show slots ≤ 7293034; omega))⟩ d_LA_law_238 (fun r_238 hp_238 => ?_)
  refine gs_top (show r_238 = nI 0 from by rw [hp_238, z03]) ?_
  refine lv_iload hx hb d_LA_law_241 (lv_at hl 1 rfl) ?_
  refine lv_icmp_eq (tgt := 248) hx hb d_LA_law_243 (by decide) (fun c_243 => ?_) (fun c_243 => ?_)
  · have c_243 : 0 = 0 :=  (nI_eq (by omega) (by omega)).mp c_243
    refine lv_iload hx hb d_LA_law_248 (lv_at hl 1 rfl) ?_
    refine lv_if_ne (tgt := 272) hx hb d_LA_law_250 (by decide) (fun c_250 => ?_) (fun c_250 => ?_)
    · exact absurd c_250 (by decide)
    · have c_250 : 0 = 0 := gs_z (by omega) c_250
      refine lv_aload_n hx hb d_LA_law_253 rfl (lv_at hl 3 rfl) ?_
      refine lv_iconst (v := nI 0) hx hb d_LA_law_254 (by decide) ?_
      refine gs_lald hx hb hK hG ho3 (j := 0) (by omega) (by omega) d_LA_law_255 ?_
      refine lv_iload hx hb d_LA_law_256 (lv_at hl 0 rfl) ?_
      refine lv_if_eq (tgt := 265) hx hb d_LA_law_258 (by decide) (fun c_258 => ?_) (fun c_258 => ?_)
      · have c_258 : 0 = 0 := gs_z (by omega) c_258
        refine lv_lconst (v := 0) hx hb d_LA_law_265 rfl ?_
        refine W.lcmp hx hb d_LA_law_266 ?_
        refine lv_if_eq (tgt := 272) hx hb d_LA_law_267 (by decide) (fun c_267 => ?_) (fun c_267 => ?_)
        · refine lv_goto (tgt := 1085) hx hb d_LA_law_272 (by decide) ?_
          refine W.widen (k := cells + 6) (n := slots + 64) (by first | exact Nat.le_refl _ | exact Nat.le_add_right _ _) (by first | exact Nat.le_refl _ | exact Nat.le_add_right _ _) ?_
          exact kk σ_232 H locs ⟨_, _, _, _, _, _, _, _, _, _, _, _, _, _, _, _, hR3, hM3, hRL, ho3⟩ hG hS ls (lv_sub hl [2, 3, 4, 5, 6] rfl)
        · exact absurd (cmp_0.mpr (show vp_updL f 0 (if r9 = 0 then 0 else 1) 0 = _ from by unfold vp_updL; rw [if_pos rfl, hans9]; first | rfl | decide | (rw [if_pos (by decide)]) | (rw [if_neg (by decide)]))) c_267
      · exact absurd c_258 (by decide)
  · exact absurd c_243 (by decide)
set_option maxHeartbeats 4000000 in
set_option maxRecDepth 100000 in
theorem lb_fact_s {RL : RLT} (h0 : pe0 RL) (h_pe_in : pe_in RL) {p : Program} {e : Env} {s : State} {m : MethodId} {below : List Frame} {meth : Method} {c : Code} (l : Launch) {sb L : Nat} {xs : Nat → Int32} {X : gs_X} (htr : l.stackTraces = false) (C0 : lw_At p s m meth c sb L xs) (hL : L ≤ 3072) (hXX : X.2.1 3 ≠ X.2.1 2) (hK : gs_T X s) (hE : gs_E X s) (hz : X.2.2 ≤ s.heap.size) (hbA : ¬ gs_A X sb) {rr mo out : Nat} {A : Nat → Nat} {σ : gs_St} {nr : Nat} {cw : Nat → Nat} {Q : List Rl} {E : List En} {Lt : List Nat} {sa : Nat} {nw : Bool} {rc fc : Nat} {dr : Option Dr} {F : List (Nat × Nat)} {T : List MT} {QM : List MR} {drM : Option MR} {cd : Nat} {f : Nat → Int64} (hR : rrA X σ (out :: aM mo A) rr nr cw Q E Lt sa nw rc fc dr) (hM : moA X σ mo A cd nr cw F T sa rc QM drM) (hRL : RL nr cw Q E Lt sa nw rc fc dr F T QM drM) (ho : σ out = some (gs_la X 1 f)) {i cells slots : Nat} (hi : i + 6 ≤ L) (hce : cells + 6 ≤ 601024) (hsl : slots + 64 ≤ 7293034) {rl a b cz : Nat} (e1 : xs (i + 1) = nI rl) (e2 : xs (i + 2) = nI a) (e3 : xs (i + 3) = nI b) (e4 : xs (i + 4) = nI cz) (hrl : rl < nr) (ha : a < 64) (hb9 : b < 64) (hc9 : cz < 64) (hok : wi3 64 (cw rl) (nI a) (nI b) (nI cz) = true) (hin : ¬ fIx F (rl, a * 4096 + b * 64 + cz) < F.length) (hfu : F.length = 200) (kk : ∀ (σ' : gs_St) (H : Heap) (locs : List Loc), LI RL X σ' rr mo out A → gs_H X σ' H → va_S (gs_A X) s.heap H locs → ∀ ls, lv_has ls 7 [(4, .int (nI i)), (3, .ref out), (2, .ref mo), (1, .ref rr), (0, .ref sb)] → W p l e room_1 s m #[Value.ref sb] below meth c H locs (cells + 6) (slots + 64) (lw_Z below #[Value.ref sb] s) (F0 m 1085 ls [])) {H : Heap} {locs : List Loc} (hG : gs_H X σ H) (hS : va_S (gs_A X) s.heap H locs) {ls : Array Slot} (hl : lv_has ls 7 [(4, .int (nI i)), (3, .ref out), (2, .ref mo), (1, .ref rr), (0, .ref sb)]) : W p l e room_1 s m #[Value.ref sb] below meth c H locs cells slots (lw_Z below #[Value.ref sb] s) (F0 m 176 ls []) := by
  obtain ⟨hx, hb, hr, hml, hown, hts0, hX, hbl, hlocks, hgv⟩ := id C0
  have ht : ∀ w ∈ gs_w, w.before #[Value.ref sb] s = true := fun w h => hts0 w (List.mem_filter.mp h).1
  have hts : ∀ w ∈ (Cond.initialized "RuleRoundsLaw") :: gs_w, w.before #[Value.ref sb] s = true := fun w h => by
    rcases List.mem_cons.mp h with z | z
    · rw [z]; exact ht _ w_0
    · exact ht w z
  obtain ⟨gs, x0⟩ := hR.cell
  obtain ⟨Z, m0, z0⟩ := hM.cell
  have q0 := h0 _ _ _ _ _ _ _ _ _ _ _ _ _ _ hRL
  refine lv_aload_n hx hb d_LA_law_176 rfl (lv_at hl 3 rfl) ?_
  refine lv_aload_n hx hb d_LA_law_177 rfl (lv_at hl 4 rfl) ?_
  refine lv_iload hx hb d_LA_law_178 (lv_at hl 0 rfl) ?_
  refine lv_iconst (v := nI 1) hx hb d_LA_law_180 (by decide) ?_
  refine lv_iadd hx hb d_LA_law_181 ?_
  refine gs_top (nI_add i 1) ?_
  refine gs_sld hx hb hX hbl hbA hS (j := i + 1) (by omega) (by omega) d_LA_law_182 ?_
  refine gs_top (show xs (i + 1) = (nI rl) from e1) ?_
  refine lv_aload_n hx hb d_LA_law_183 rfl (lv_at hl 4 rfl) ?_
  refine lv_iload hx hb d_LA_law_184 (lv_at hl 0 rfl) ?_
  refine lv_iconst (v := nI 2) hx hb d_LA_law_186 (by decide) ?_
  refine lv_iadd hx hb d_LA_law_187 ?_
  refine gs_top (nI_add i 2) ?_
  refine gs_sld hx hb hX hbl hbA hS (j := i + 2) (by omega) (by omega) d_LA_law_188 ?_
  refine gs_top (show xs (i + 2) = (nI a) from e2) ?_
  refine lv_aload_n hx hb d_LA_law_189 rfl (lv_at hl 4 rfl) ?_
  refine lv_iload hx hb d_LA_law_190 (lv_at hl 0 rfl) ?_
  refine lv_iconst (v := nI 3) hx hb d_LA_law_192 (by decide) ?_
  refine lv_iadd hx hb d_LA_law_193 ?_
  refine gs_top (nI_add i 3) ?_
  refine gs_sld hx hb hX hbl hbA hS (j := i + 3) (by omega) (by omega) d_LA_law_194 ?_
  refine gs_top (show xs (i + 3) = (nI b) from e3) ?_
  refine lv_aload_n hx hb d_LA_law_195 rfl (lv_at hl 4 rfl) ?_
  refine lv_iload hx hb d_LA_law_196 (lv_at hl 0 rfl) ?_
  refine lv_iconst (v := nI 4) hx hb d_LA_law_198 (by decide) ?_
  refine lv_iadd hx hb d_LA_law_199 ?_
  refine gs_top (nI_add i 4) ?_
  refine gs_sld hx hb hX hbl hbA hS (j := i + 4) (by omega) (by omega) d_LA_law_200 ?_
  refine gs_top (show xs (i + 4) = (nI cz) from e4) ?_
  refine lv_aload_n hx hb d_LA_law_201 rfl (lv_at hl 1 rfl) ?_
  refine gs_callSiH (As := [.ref rr, .int (nI rl), .int (nI a), .int (nI b), .int (nI cz), .ref out]) (rest := []) ⟨hx, hb, hml, hown, hts⟩ hK hE hz hG hS (c_LA_fact_xS l X σ rr out gs _ (nI rl) (nI a) (nI b) (nI cz) x0 ⟨by decide, by decide, by decide, by decide⟩ (c_rr_fact_s l hR htr hrl ha hb9 hc9 hok q0.1 (fun z => hin ((h_pe_in _ _ _ _ _ _ _ _ _ _ _ _ _ _ hRL rl a b cz hrl ha hb9 hc9 hok).mp z)) (by rw [q0.2.2.1]; omega) (by rw [q0.2.2.1]; omega))) mSH_LA_fact w_380 rfl hl.1 rfl (Nat.le_of_ble_eq_true rfl) ⟨by decide, by decide⟩ ⟨(by first | (show cells + 6 ≤ 601024; omega) | (show cells ≤ 601024; omega)), (by first | (show slots + 64 ≤ 7293034; omega) | (show slots ≤ 7293034; omega))⟩ d_LA_law_202 (fun r_202 σ_202 H locs hp_202 hG hS => ?_)
  refine gs_top hp_202.1 ?_
  rw [hp_202.2] at hG
  refine lv_istore (lv' := [(5, .int (nI 2)), (4, .int (nI i)), (3, .ref out), (2, .ref mo), (1, .ref rr), (0, .ref sb)]) hx hb d_LA_law_205 hl (by decide) rfl (fun ls hl => ?_)
  refine lv_aload_n hx hb d_LA_law_207 rfl (lv_at hl 3 rfl) ?_
  refine lv_aload_n hx hb d_LA_law_208 rfl (lv_at hl 5 rfl) ?_
  refine lv_iload hx hb d_LA_law_209 (lv_at hl 1 rfl) ?_
  refine lv_iconst (v := nI 1) hx hb d_LA_law_211 (by decide) ?_
  refine lv_iadd hx hb d_LA_law_212 ?_
  refine gs_top (nI_add i 1) ?_
  refine gs_sld hx hb hX hbl hbA hS (j := i + 1) (by omega) (by omega) d_LA_law_213 ?_
  refine gs_top (show xs (i + 1) = (nI rl) from e1) ?_
  refine lv_aload_n hx hb d_LA_law_214 rfl (lv_at hl 5 rfl) ?_
  refine lv_iload hx hb d_LA_law_215 (lv_at hl 1 rfl) ?_
  refine lv_iconst (v := nI 2) hx hb d_LA_law_217 (by decide) ?_
  refine lv_iadd hx hb d_LA_law_218 ?_
  refine gs_top (nI_add i 2) ?_
  refine gs_sld hx hb hX hbl hbA hS (j := i + 2) (by omega) (by omega) d_LA_law_219 ?_
  refine gs_top (show xs (i + 2) = (nI a) from e2) ?_
  refine lv_aload_n hx hb d_LA_law_220 rfl (lv_at hl 5 rfl) ?_
  refine lv_iload hx hb d_LA_law_221 (lv_at hl 1 rfl) ?_
  refine lv_iconst (v := nI 3) hx hb d_LA_law_223 (by decide) ?_
  refine lv_iadd hx hb d_LA_law_224 ?_
  refine gs_top (nI_add i 3) ?_
  refine gs_sld hx hb hX hbl hbA hS (j := i + 3) (by omega) (by omega) d_LA_law_225 ?_
  refine gs_top (show xs (i + 3) = (nI b) from e3) ?_
  refine lv_aload_n hx hb d_LA_law_226 rfl (lv_at hl 5 rfl) ?_
  refine lv_iload hx hb d_LA_law_227 (lv_at hl 1 rfl) ?_
  refine lv_iconst (v := nI 4) hx hb d_LA_law_229 (by decide) ?_
  refine lv_iadd hx hb d_LA_law_230 ?_
  refine gs_top (nI_add i 4) ?_
  refine gs_sld hx hb hX hbl hbA hS (j := i + 4) (by omega) (by omega) d_LA_law_231 ?_
  refine gs_top (show xs (i + 4) = (nI cz) from e4) ?_
  refine gs_callVi (As := [.int (nI rl), .int (nI a), .int (nI b), .int (nI cz)]) (rest := []) ⟨hx, hb, hml, hown, hts⟩ hK hE hz hG hS (c_MO_fact_s l X σ mo A cd nr cw F T sa rc QM drM rl a b cz hM hrl ha hb9 hc9 hok hin hfu) mV_MO_fact w_773 m0 rfl rfl hl.1 rfl (Nat.le_of_ble_eq_true rfl) ⟨by decide, by decide⟩ ⟨(by first | (show cells + 6 ≤ 601024; omega) | (show cells ≤ 601024; omega)), (by first | (show slots + 64 ≤ 7293034; omega) | (show slots ≤ 7293034; omega))⟩ d_LA_law_232 (fun r_232 σ_232 H locs hp_232 hG hS => ?_)
  obtain ⟨hM3, hf3, er3⟩ := hp_232
  have hR3 := hR.mdl (hM.gG ho) hf3
  have ho3 := hf3 _ _ (out_nin hM ho) ho
  obtain ⟨Z3, m03, z03⟩ := hM3.cell
  refine gs_top er3 ?_
  refine lv_istore (lv' := [(6, .int (nI 0)), (5, .int (nI 2)), (4, .int (nI i)), (3, .ref out), (2, .ref mo), (1, .ref rr), (0, .ref sb)]) hx hb d_LA_law_235 hl (by decide) rfl (fun ls hl => ?_)
  refine lv_aload_n hx hb d_LA_law_237 rfl (lv_at hl 4 rfl) ?_
  refine gs_callVp (As := []) (rest := []) ⟨hx, hb, hml, hown, hts⟩ hK hE hz hG hS (c_MO_thrown l X σ_232 mo A Z3 m03) ⟨rfl, rfl⟩ mV_MO_thrown w_757 m03 rfl rfl hl.1 rfl (Nat.le_of_ble_eq_true rfl) ⟨by decide, by decide⟩ ⟨(by first | (show cells + 6 ≤ 601024; omega) | (show cells ≤ 601024; omega)), (by first | (show slots + 64 ≤ 7293034; omega) | (show slots ≤ 7293034; omega))⟩ d_LA_law_238 (fun r_238 hp_238 => ?_)
  refine gs_top (show r_238 = nI 2 from by rw [hp_238, z03]) ?_
  refine lv_iload hx hb d_LA_law_241 (lv_at hl 1 rfl) ?_
  refine lv_icmp_eq (tgt := 248) hx hb d_LA_law_243 (by decide) (fun c_243 => ?_) (fun c_243 => ?_)
  · have c_243 : 2 = 2 :=  (nI_eq (by omega) (by omega)).mp c_243
    refine lv_iload hx hb d_LA_law_248 (lv_at hl 1 rfl) ?_
    refine lv_if_ne (tgt := 272) hx hb d_LA_law_250 (by decide) (fun c_250 => ?_) (fun c_250 => ?_)
    · have c_250 : ¬ 2 = 0 := gs_zn (by omega) c_250
      refine lv_goto (tgt := 1085) hx hb d_LA_law_272 (by decide) ?_
      refine W.widen (k := cells + 6) (n := slots + 64) (by first | exact Nat.le_refl _ | exact Nat.le_add_right _ _) (by first | exact Nat.le_refl _ | exact Nat.le_add_right _ _) ?_
      exact kk σ_232 H locs ⟨_, _, _, _, _, _, _, _, _, _, _, _, _, _, _, _, hR3, hM3, hRL, ho3⟩ hG hS ls (lv_sub hl [2, 3, 4, 5, 6] rfl)
    · exact absurd c_250 (by decide)
  · exact absurd c_243 (by decide)
set_option maxHeartbeats 4000000 in
set_option maxRecDepth 100000 in
theorem lb_fact_ok {RL : RLT} (h0 : pe0 RL) (h_pe_in : pe_in RL) (h_pe_fact : pe_fact RL) {p : Program} {e : Env} {s : State} {m : MethodId} {below : List Frame} {meth : Method} {c : Code} (l : Launch) {sb L : Nat} {xs : Nat → Int32} {X : gs_X} (htr : l.stackTraces = false) (C0 : lw_At p s m meth c sb L xs) (hL : L ≤ 3072) (hXX : X.2.1 3 ≠ X.2.1 2) (hK : gs_T X s) (hE : gs_E X s) (hz : X.2.2 ≤ s.heap.size) (hbA : ¬ gs_A X sb) {rr mo out : Nat} {A : Nat → Nat} {σ : gs_St} {nr : Nat} {cw : Nat → Nat} {Q : List Rl} {E : List En} {Lt : List Nat} {sa : Nat} {nw : Bool} {rc fc : Nat} {dr : Option Dr} {F : List (Nat × Nat)} {T : List MT} {QM : List MR} {drM : Option MR} {cd : Nat} {f : Nat → Int64} (hR : rrA X σ (out :: aM mo A) rr nr cw Q E Lt sa nw rc fc dr) (hM : moA X σ mo A cd nr cw F T sa rc QM drM) (hRL : RL nr cw Q E Lt sa nw rc fc dr F T QM drM) (ho : σ out = some (gs_la X 1 f)) {i cells slots : Nat} (hi : i + 6 ≤ L) (hce : cells + 6 ≤ 601024) (hsl : slots + 64 ≤ 7293034) {rl a b cz : Nat} (e1 : xs (i + 1) = nI rl) (e2 : xs (i + 2) = nI a) (e3 : xs (i + 3) = nI b) (e4 : xs (i + 4) = nI cz) (hrl : rl < nr) (ha : a < 64) (hb9 : b < 64) (hc9 : cz < 64) (hok : wi3 64 (cw rl) (nI a) (nI b) (nI cz) = true) (hin : ¬ fIx F (rl, a * 4096 + b * 64 + cz) < F.length) (hfu : F.length < 200) (kk : ∀ (σ' : gs_St) (H : Heap) (locs : List Loc), LI RL X σ' rr mo out A → gs_H X σ' H → va_S (gs_A X) s.heap H locs → ∀ ls, lv_has ls 7 [(4, .int (nI i)), (3, .ref out), (2, .ref mo), (1, .ref rr), (0, .ref sb)] → W p l e room_1 s m #[Value.ref sb] below meth c H locs (cells + 6) (slots + 64) (lw_Z below #[Value.ref sb] s) (F0 m 1085 ls [])) {H : Heap} {locs : List Loc} (hG : gs_H X σ H) (hS : va_S (gs_A X) s.heap H locs) {ls : Array Slot} (hl : lv_has ls 7 [(4, .int (nI i)), (3, .ref out), (2, .ref mo), (1, .ref rr), (0, .ref sb)]) : W p l e room_1 s m #[Value.ref sb] below meth c H locs cells slots (lw_Z below #[Value.ref sb] s) (F0 m 176 ls []) := by
  obtain ⟨hx, hb, hr, hml, hown, hts0, hX, hbl, hlocks, hgv⟩ := id C0
  have ht : ∀ w ∈ gs_w, w.before #[Value.ref sb] s = true := fun w h => hts0 w (List.mem_filter.mp h).1
  have hts : ∀ w ∈ (Cond.initialized "RuleRoundsLaw") :: gs_w, w.before #[Value.ref sb] s = true := fun w h => by
    rcases List.mem_cons.mp h with z | z
    · rw [z]; exact ht _ w_0
    · exact ht w z
  obtain ⟨gs, x0⟩ := hR.cell
  obtain ⟨Z, m0, z0⟩ := hM.cell
  have q0 := h0 _ _ _ _ _ _ _ _ _ _ _ _ _ _ hRL
  refine lv_aload_n hx hb d_LA_law_176 rfl (lv_at hl 3 rfl) ?_
  refine lv_aload_n hx hb d_LA_law_177 rfl (lv_at hl 4 rfl) ?_
  refine lv_iload hx hb d_LA_law_178 (lv_at hl 0 rfl) ?_
  refine lv_iconst (v := nI 1) hx hb d_LA_law_180 (by decide) ?_
  refine lv_iadd hx hb d_LA_law_181 ?_
  refine gs_top (nI_add i 1) ?_
  refine gs_sld hx hb hX hbl hbA hS (j := i + 1) (by omega) (by omega) d_LA_law_182 ?_
  refine gs_top (show xs (i + 1) = (nI rl) from e1) ?_
  refine lv_aload_n hx hb d_LA_law_183 rfl (lv_at hl 4 rfl) ?_
  refine lv_iload hx hb d_LA_law_184 (lv_at hl 0 rfl) ?_
  refine lv_iconst (v := nI 2) hx hb d_LA_law_186 (by decide) ?_
  refine lv_iadd hx hb d_LA_law_187 ?_
  refine gs_top (nI_add i 2) ?_
  refine gs_sld hx hb hX hbl hbA hS (j := i + 2) (by omega) (by omega) d_LA_law_188 ?_
  refine gs_top (show xs (i + 2) = (nI a) from e2) ?_
  refine lv_aload_n hx hb d_LA_law_189 rfl (lv_at hl 4 rfl) ?_
  refine lv_iload hx hb d_LA_law_190 (lv_at hl 0 rfl) ?_
  refine lv_iconst (v := nI 3) hx hb d_LA_law_192 (by decide) ?_
  refine lv_iadd hx hb d_LA_law_193 ?_
  refine gs_top (nI_add i 3) ?_
  refine gs_sld hx hb hX hbl hbA hS (j := i + 3) (by omega) (by omega) d_LA_law_194 ?_
  refine gs_top (show xs (i + 3) = (nI b) from e3) ?_
  refine lv_aload_n hx hb d_LA_law_195 rfl (lv_at hl 4 rfl) ?_
  refine lv_iload hx hb d_LA_law_196 (lv_at hl 0 rfl) ?_
  refine lv_iconst (v := nI 4) hx hb d_LA_law_198 (by decide) ?_
  refine lv_iadd hx hb d_LA_law_199 ?_
  refine gs_top (nI_add i 4) ?_
  refine gs_sld hx hb hX hbl hbA hS (j := i + 4) (by omega) (by omega) d_LA_law_200 ?_
  refine gs_top (show xs (i + 4) = (nI cz) from e4) ?_
  refine lv_aload_n hx hb d_LA_law_201 rfl (lv_at hl 1 rfl) ?_
  refine gs_callSiH (As := [.ref rr, .int (nI rl), .int (nI a), .int (nI b), .int (nI cz), .ref out]) (rest := []) ⟨hx, hb, hml, hown, hts⟩ hK hE hz hG hS (c_LA_fact l X σ rr out gs _ f (nI rl) (nI a) (nI b) (nI cz) _ x0 ⟨by decide, by decide, by decide, by decide⟩ (c_rr_fact l hR hXX hrl ha hb9 hc9 hok q0.1 (fun z => hin ((h_pe_in _ _ _ _ _ _ _ _ _ _ _ _ _ _ hRL rl a b cz hrl ha hb9 hc9 hok).mp z)) (by rw [q0.2.2.1]; exact hfu) q0.2.1) (fun r9 σ9 z => z.2.1 out List.mem_cons_self _ ho)) mSH_LA_fact w_380 rfl hl.1 rfl (Nat.le_of_ble_eq_true rfl) ⟨by decide, by decide⟩ ⟨(by first | (show cells + 6 ≤ 601024; omega) | (show cells ≤ 601024; omega)), (by first | (show slots + 64 ≤ 7293034; omega) | (show slots ≤ 7293034; omega))⟩ d_LA_law_202 (fun r_202 σ_202 H locs hp_202 hG hS => ?_)
  obtain ⟨ek, r9, σ9, ⟨hR9, hk9, hans9⟩, ev⟩ := hp_202
  refine gs_top ek ?_
  rw [ev] at hG
  obtain ⟨hR2, hM2⟩ := ans_put (f' := vp_updL f 0 (if r9 = 0 then 0 else 1)) hR9 hk9 hM ho
  obtain ⟨σ1, eσ1⟩ : ∃ z, z = gs_up σ9 out (gs_la X 1 (vp_updL f 0 (if r9 = 0 then 0 else 1))) := ⟨_, rfl⟩
  rw [← eσ1] at hG hR2 hM2
  have ho2 : σ1 out = some (gs_la X 1 (vp_updL f 0 (if r9 = 0 then 0 else 1))) := by rw [eσ1]; exact gs_us
  obtain ⟨Z2, m02, z02⟩ := hM2.cell
  refine lv_istore (lv' := [(5, .int (nI 0)), (4, .int (nI i)), (3, .ref out), (2, .ref mo), (1, .ref rr), (0, .ref sb)]) hx hb d_LA_law_205 hl (by decide) rfl (fun ls hl => ?_)
  refine lv_aload_n hx hb d_LA_law_207 rfl (lv_at hl 3 rfl) ?_
  refine lv_aload_n hx hb d_LA_law_208 rfl (lv_at hl 5 rfl) ?_
  refine lv_iload hx hb d_LA_law_209 (lv_at hl 1 rfl) ?_
  refine lv_iconst (v := nI 1) hx hb d_LA_law_211 (by decide) ?_
  refine lv_iadd hx hb d_LA_law_212 ?_
  refine gs_top (nI_add i 1) ?_
  refine gs_sld hx hb hX hbl hbA hS (j := i + 1) (by omega) (by omega) d_LA_law_213 ?_
  refine gs_top (show xs (i + 1) = (nI rl) from e1) ?_
  refine lv_aload_n hx hb d_LA_law_214 rfl (lv_at hl 5 rfl) ?_
  refine lv_iload hx hb d_LA_law_215 (lv_at hl 1 rfl) ?_
  refine lv_iconst (v := nI 2) hx hb d_LA_law_217 (by decide) ?_
  refine lv_iadd hx hb d_LA_law_218 ?_
  refine gs_top (nI_add i 2) ?_
  refine gs_sld hx hb hX hbl hbA hS (j := i + 2) (by omega) (by omega) d_LA_law_219 ?_
  refine gs_top (show xs (i + 2) = (nI a) from e2) ?_
  refine lv_aload_n hx hb d_LA_law_220 rfl (lv_at hl 5 rfl) ?_
  refine lv_iload hx hb d_LA_law_221 (lv_at hl 1 rfl) ?_
  refine lv_iconst (v := nI 3) hx hb d_LA_law_223 (by decide) ?_
  refine lv_iadd hx hb d_LA_law_224 ?_
  refine gs_top (nI_add i 3) ?_
  refine gs_sld hx hb hX hbl hbA hS (j := i + 3) (by omega) (by omega) d_LA_law_225 ?_
  refine gs_top (show xs (i + 3) = (nI b) from e3) ?_
  refine lv_aload_n hx hb d_LA_law_226 rfl (lv_at hl 5 rfl) ?_
  refine lv_iload hx hb d_LA_law_227 (lv_at hl 1 rfl) ?_
  refine lv_iconst (v := nI 4) hx hb d_LA_law_229 (by decide) ?_
  refine lv_iadd hx hb d_LA_law_230 ?_
  refine gs_top (nI_add i 4) ?_
  refine gs_sld hx hb hX hbl hbA hS (j := i + 4) (by omega) (by omega) d_LA_law_231 ?_
  refine gs_top (show xs (i + 4) = (nI cz) from e4) ?_
  refine gs_callVi (As := [.int (nI rl), .int (nI a), .int (nI b), .int (nI cz)]) (rest := []) ⟨hx, hb, hml, hown, hts⟩ hK hE hz hG hS (c_MO_fact l X σ1 mo A cd nr cw F T sa rc QM drM rl a b cz hM2 hrl ha hb9 hc9 hok hin hfu) mV_MO_fact w_773 m02 rfl rfl hl.1 rfl (Nat.le_of_ble_eq_true rfl) ⟨by decide, by decide⟩ ⟨(by first | (show cells + 6 ≤ 601024; omega) | (show cells ≤ 601024; omega)), (by first | (show slots + 64 ≤ 7293034; omega) | (show slots ≤ 7293034; omega))⟩ d_LA_law_232 (fun r_232 σ_232 H locs hp_232 hG hS => ?_)
  obtain ⟨hM3, hf3, er3⟩ := hp_232
  have hR3 := hR2.mdl (hM2.gG ho2) hf3
  have ho3 := hf3 _ _ (out_nin hM2 ho2) ho2
  obtain ⟨Z3, m03, z03⟩ := hM3.cell
  refine gs_top er3 ?_
  refine lv_istore (lv' := [(6, .int (nI 1)), (5, .int (nI 0)), (4, .int (nI i)), (3, .ref out), (2, .ref mo), (1, .ref rr), (0, .ref sb)]) hx hb d_LA_law_235 hl (by decide) rfl (fun ls hl => ?_)
  refine lv_aload_n hx hb d_LA_law_237 rfl (lv_at hl 4 rfl) ?_
  refine gs_callVp (As := []) (rest := []) ⟨hx, hb, hml, hown, hts⟩ hK hE hz hG hS (c_MO_thrown l X σ_232 mo A Z3 m03) ⟨rfl, rfl⟩ mV_MO_thrown w_757 m03 rfl rfl hl.1 rfl (Nat.le_of_ble_eq_true rfl) ⟨by decide, by decide⟩ ⟨(by first | (show cells + 6 ≤ 601024; omega) | (show cells ≤ 601024; omega)), (by first | (show slots + 64 ≤ 7293034; omega) | (show slots ≤ 7293034; omega))⟩ d_LA_law_238 (fun r_238 hp_238 => ?_)
  refine gs_top (show r_238 = nI 0 from by rw [hp_238, z03]) ?_
  refine lv_iload hx hb d_LA_law_241 (lv_at hl 1 rfl) ?_
  refine lv_icmp_eq (tgt := 248) hx hb d_LA_law_243 (by decide) (fun c_243 => ?_) (fun c_243 => ?_)
  · have c_243 : 0 = 0 :=  (nI_eq (by omega) (by omega)).mp c_243
    refine lv_iload hx hb d_LA_law_248 (lv_at hl 1 rfl) ?_
    refine lv_if_ne (tgt := 272) hx hb d_LA_law_250 (by decide) (fun c_250 => ?_) (fun c_250 => ?_)
    · exact absurd c_250 (by decide)
    · have c_250 : 0 = 0 := gs_z (by omega) c_250
      refine lv_aload_n hx hb d_LA_law_253 rfl (lv_at hl 3 rfl) ?_
      refine lv_iconst (v := nI 0) hx hb d_LA_law_254 (by decide) ?_
      refine gs_lald hx hb hK hG ho3 (j := 0) (by omega) (by omega) d_LA_law_255 ?_
      refine lv_iload hx hb d_LA_law_256 (lv_at hl 0 rfl) ?_
      refine lv_if_eq (tgt := 265) hx hb d_LA_law_258 (by decide) (fun c_258 => ?_) (fun c_258 => ?_)
      · exact absurd c_258 (by decide)
      · have c_258 : ¬ 1 = 0 := gs_zn (by omega) c_258
        refine lv_lconst (v := 1) hx hb d_LA_law_261 rfl ?_
        refine lv_goto (tgt := 266) hx hb d_LA_law_262 (by decide) ?_
        refine W.lcmp hx hb d_LA_law_266 ?_
        refine lv_if_eq (tgt := 272) hx hb d_LA_law_267 (by decide) (fun c_267 => ?_) (fun c_267 => ?_)
        · refine lv_goto (tgt := 1085) hx hb d_LA_law_272 (by decide) ?_
          refine W.widen (k := cells + 6) (n := slots + 64) (by first | exact Nat.le_refl _ | exact Nat.le_add_right _ _) (by first | exact Nat.le_refl _ | exact Nat.le_add_right _ _) ?_
          exact kk σ_232 H locs ⟨_, _, _, _, _, _, _, _, _, _, _, _, _, _, _, _, hR3, hM3, (h_pe_fact _ _ _ _ _ _ _ _ _ _ _ _ _ _ hRL rl a b cz hrl ha hb9 hc9 hok hin hfu), ho3⟩ hG hS ls (lv_sub hl [2, 3, 4, 5, 6] rfl)
        · exact absurd (cmp_0.mpr (show vp_updL f 0 (if r9 = 0 then 0 else 1) 0 = _ from by unfold vp_updL; rw [if_pos rfl, hans9]; first | rfl | decide | (rw [if_pos (by decide)]) | (rw [if_neg (by decide)]))) c_267
  · exact absurd c_243 (by decide)
set_option maxHeartbeats 4000000 in
set_option maxRecDepth 100000 in
theorem lb_drop_o {RL : RLT} (h0 : pe0 RL) (h_pe_in : pe_in RL) {p : Program} {e : Env} {s : State} {m : MethodId} {below : List Frame} {meth : Method} {c : Code} (l : Launch) {sb L : Nat} {xs : Nat → Int32} {X : gs_X} (htr : l.stackTraces = false) (C0 : lw_At p s m meth c sb L xs) (hL : L ≤ 3072) (hXX : X.2.1 3 ≠ X.2.1 2) (hK : gs_T X s) (hE : gs_E X s) (hz : X.2.2 ≤ s.heap.size) (hbA : ¬ gs_A X sb) {rr mo out : Nat} {A : Nat → Nat} {σ : gs_St} {nr : Nat} {cw : Nat → Nat} {Q : List Rl} {E : List En} {Lt : List Nat} {sa : Nat} {nw : Bool} {rc fc : Nat} {dr : Option Dr} {F : List (Nat × Nat)} {T : List MT} {QM : List MR} {drM : Option MR} {cd : Nat} {f : Nat → Int64} (hR : rrA X σ (out :: aM mo A) rr nr cw Q E Lt sa nw rc fc dr) (hM : moA X σ mo A cd nr cw F T sa rc QM drM) (hRL : RL nr cw Q E Lt sa nw rc fc dr F T QM drM) (ho : σ out = some (gs_la X 1 f)) {i cells slots : Nat} (hi : i + 6 ≤ L) (hce : cells + 6 ≤ 601024) (hsl : slots + 64 ≤ 7293034) {rl a b cz : Nat} (e1 : xs (i + 1) = nI rl) (e2 : xs (i + 2) = nI a) (e3 : xs (i + 3) = nI b) (e4 : xs (i + 4) = nI cz) (hrl : rl < nr) (ha : a < 64) (hb9 : b < 64) (hc9 : cz < 64) (hok : wi3 64 (cw rl) (nI a) (nI b) (nI cz) = true) (hin : ¬ fIx F (rl, a * 4096 + b * 64 + cz) < F.length) (kk : ∀ (σ' : gs_St) (H : Heap) (locs : List Loc), LI RL X σ' rr mo out A → gs_H X σ' H → va_S (gs_A X) s.heap H locs → ∀ ls, lv_has ls 7 [(4, .int (nI i)), (3, .ref out), (2, .ref mo), (1, .ref rr), (0, .ref sb)] → W p l e room_1 s m #[Value.ref sb] below meth c H locs (cells + 6) (slots + 64) (lw_Z below #[Value.ref sb] s) (F0 m 1085 ls [])) {H : Heap} {locs : List Loc} (hG : gs_H X σ H) (hS : va_S (gs_A X) s.heap H locs) {ls : Array Slot} (hl : lv_has ls 7 [(4, .int (nI i)), (3, .ref out), (2, .ref mo), (1, .ref rr), (0, .ref sb)]) : W p l e room_1 s m #[Value.ref sb] below meth c H locs cells slots (lw_Z below #[Value.ref sb] s) (F0 m 275 ls []) := by
  obtain ⟨hx, hb, hr, hml, hown, hts0, hX, hbl, hlocks, hgv⟩ := id C0
  have ht : ∀ w ∈ gs_w, w.before #[Value.ref sb] s = true := fun w h => hts0 w (List.mem_filter.mp h).1
  have hts : ∀ w ∈ (Cond.initialized "RuleRoundsLaw") :: gs_w, w.before #[Value.ref sb] s = true := fun w h => by
    rcases List.mem_cons.mp h with z | z
    · rw [z]; exact ht _ w_0
    · exact ht w z
  obtain ⟨gs, x0⟩ := hR.cell
  obtain ⟨Z, m0, z0⟩ := hM.cell
  have q0 := h0 _ _ _ _ _ _ _ _ _ _ _ _ _ _ hRL
  refine lv_aload_n hx hb d_LA_law_275 rfl (lv_at hl 3 rfl) ?_
  refine lv_aload_n hx hb d_LA_law_276 rfl (lv_at hl 4 rfl) ?_
  refine lv_iload hx hb d_LA_law_277 (lv_at hl 0 rfl) ?_
  refine lv_iconst (v := nI 1) hx hb d_LA_law_279 (by decide) ?_
  refine lv_iadd hx hb d_LA_law_280 ?_
  refine gs_top (nI_add i 1) ?_
  refine gs_sld hx hb hX hbl hbA hS (j := i + 1) (by omega) (by omega) d_LA_law_281 ?_
  refine gs_top (show xs (i + 1) = (nI rl) from e1) ?_
  refine lv_aload_n hx hb d_LA_law_282 rfl (lv_at hl 4 rfl) ?_
  refine lv_iload hx hb d_LA_law_283 (lv_at hl 0 rfl) ?_
  refine lv_iconst (v := nI 2) hx hb d_LA_law_285 (by decide) ?_
  refine lv_iadd hx hb d_LA_law_286 ?_
  refine gs_top (nI_add i 2) ?_
  refine gs_sld hx hb hX hbl hbA hS (j := i + 2) (by omega) (by omega) d_LA_law_287 ?_
  refine gs_top (show xs (i + 2) = (nI a) from e2) ?_
  refine lv_aload_n hx hb d_LA_law_288 rfl (lv_at hl 4 rfl) ?_
  refine lv_iload hx hb d_LA_law_289 (lv_at hl 0 rfl) ?_
  refine lv_iconst (v := nI 3) hx hb d_LA_law_291 (by decide) ?_
  refine lv_iadd hx hb d_LA_law_292 ?_
  refine gs_top (nI_add i 3) ?_
  refine gs_sld hx hb hX hbl hbA hS (j := i + 3) (by omega) (by omega) d_LA_law_293 ?_
  refine gs_top (show xs (i + 3) = (nI b) from e3) ?_
  refine lv_aload_n hx hb d_LA_law_294 rfl (lv_at hl 4 rfl) ?_
  refine lv_iload hx hb d_LA_law_295 (lv_at hl 0 rfl) ?_
  refine lv_iconst (v := nI 4) hx hb d_LA_law_297 (by decide) ?_
  refine lv_iadd hx hb d_LA_law_298 ?_
  refine gs_top (nI_add i 4) ?_
  refine gs_sld hx hb hX hbl hbA hS (j := i + 4) (by omega) (by omega) d_LA_law_299 ?_
  refine gs_top (show xs (i + 4) = (nI cz) from e4) ?_
  refine lv_aload_n hx hb d_LA_law_300 rfl (lv_at hl 1 rfl) ?_
  refine gs_callSiH (As := [.ref rr, .int (nI rl), .int (nI a), .int (nI b), .int (nI cz), .ref out]) (rest := []) ⟨hx, hb, hml, hown, hts⟩ hK hE hz hG hS (c_LA_drop l X σ rr out gs _ f (nI rl) (nI a) (nI b) (nI cz) _ x0 ⟨by decide, by decide, by decide, by decide⟩ (c_rr_drop_o l hR hrl ha hb9 hc9 hok q0.1 (fun z => hin ((h_pe_in _ _ _ _ _ _ _ _ _ _ _ _ _ _ hRL rl a b cz hrl ha hb9 hc9 hok).mp z))) (fun r9 σ9 z => by rw [z.2]; exact ho)) mSH_LA_drop w_412 rfl hl.1 rfl (Nat.le_of_ble_eq_true rfl) ⟨by decide, by decide⟩ ⟨(by first | (show cells + 6 ≤ 601024; omega) | (show cells ≤ 601024; omega)), (by first | (show slots + 64 ≤ 7293034; omega) | (show slots ≤ 7293034; omega))⟩ d_LA_law_301 (fun r_301 σ_301 H locs hp_301 hG hS => ?_)
  obtain ⟨ek, r9, σ9, ⟨hans9, hu9⟩, ev⟩ := hp_301
  have hR9 : rrA X σ9 (out :: aM mo A) rr nr cw Q E Lt sa nw rc fc dr := by rw [hu9]; exact hR
  have hk9 : kG σ σ9 (out :: aM mo A) := fun q _ e he => by rw [hu9]; exact he
  refine gs_top ek ?_
  rw [ev] at hG
  obtain ⟨hR2, hM2⟩ := ans_put (f' := vp_updL f 0 (if r9 = 0 then 0 else 1)) hR9 hk9 hM ho
  obtain ⟨σ1, eσ1⟩ : ∃ z, z = gs_up σ9 out (gs_la X 1 (vp_updL f 0 (if r9 = 0 then 0 else 1))) := ⟨_, rfl⟩
  rw [← eσ1] at hG hR2 hM2
  have ho2 : σ1 out = some (gs_la X 1 (vp_updL f 0 (if r9 = 0 then 0 else 1))) := by rw [eσ1]; exact gs_us
  obtain ⟨Z2, m02, z02⟩ := hM2.cell
  refine lv_istore (lv' := [(5, .int (nI 0)), (4, .int (nI i)), (3, .ref out), (2, .ref mo), (1, .ref rr), (0, .ref sb)]) hx hb d_LA_law_304 hl (by decide) rfl (fun ls hl => ?_)
  refine lv_aload_n hx hb d_LA_law_306 rfl (lv_at hl 3 rfl) ?_
  refine lv_aload_n hx hb d_LA_law_307 rfl (lv_at hl 5 rfl) ?_
  refine lv_iload hx hb d_LA_law_308 (lv_at hl 1 rfl) ?_
  refine lv_iconst (v := nI 1) hx hb d_LA_law_310 (by decide) ?_
  refine lv_iadd hx hb d_LA_law_311 ?_
  refine gs_top (nI_add i 1) ?_
  refine gs_sld hx hb hX hbl hbA hS (j := i + 1) (by omega) (by omega) d_LA_law_312 ?_
  refine gs_top (show xs (i + 1) = (nI rl) from e1) ?_
  refine lv_aload_n hx hb d_LA_law_313 rfl (lv_at hl 5 rfl) ?_
  refine lv_iload hx hb d_LA_law_314 (lv_at hl 1 rfl) ?_
  refine lv_iconst (v := nI 2) hx hb d_LA_law_316 (by decide) ?_
  refine lv_iadd hx hb d_LA_law_317 ?_
  refine gs_top (nI_add i 2) ?_
  refine gs_sld hx hb hX hbl hbA hS (j := i + 2) (by omega) (by omega) d_LA_law_318 ?_
  refine gs_top (show xs (i + 2) = (nI a) from e2) ?_
  refine lv_aload_n hx hb d_LA_law_319 rfl (lv_at hl 5 rfl) ?_
  refine lv_iload hx hb d_LA_law_320 (lv_at hl 1 rfl) ?_
  refine lv_iconst (v := nI 3) hx hb d_LA_law_322 (by decide) ?_
  refine lv_iadd hx hb d_LA_law_323 ?_
  refine gs_top (nI_add i 3) ?_
  refine gs_sld hx hb hX hbl hbA hS (j := i + 3) (by omega) (by omega) d_LA_law_324 ?_
  refine gs_top (show xs (i + 3) = (nI b) from e3) ?_
  refine lv_aload_n hx hb d_LA_law_325 rfl (lv_at hl 5 rfl) ?_
  refine lv_iload hx hb d_LA_law_326 (lv_at hl 1 rfl) ?_
  refine lv_iconst (v := nI 4) hx hb d_LA_law_328 (by decide) ?_
  refine lv_iadd hx hb d_LA_law_329 ?_
  refine gs_top (nI_add i 4) ?_
  refine gs_sld hx hb hX hbl hbA hS (j := i + 4) (by omega) (by omega) d_LA_law_330 ?_
  refine gs_top (show xs (i + 4) = (nI cz) from e4) ?_
  refine gs_callVi (As := [.int (nI rl), .int (nI a), .int (nI b), .int (nI cz)]) (rest := []) ⟨hx, hb, hml, hown, hts⟩ hK hE hz hG hS (c_MO_drop_o l X σ1 mo A cd nr cw F T sa rc QM drM rl a b cz hM2 hrl ha hb9 hc9 hok hin) mV_MO_drop w_788 m02 rfl rfl hl.1 rfl (Nat.le_of_ble_eq_true rfl) ⟨by decide, by decide⟩ ⟨(by first | (show cells + 6 ≤ 601024; omega) | (show cells ≤ 601024; omega)), (by first | (show slots + 64 ≤ 7293034; omega) | (show slots ≤ 7293034; omega))⟩ d_LA_law_331 (fun r_331 σ_331 H locs hp_331 hG hS => ?_)
  obtain ⟨hM3, hf3, er3⟩ := hp_331
  have hR3 := hR2.mdl (hM2.gG ho2) hf3
  have ho3 := hf3 _ _ (out_nin hM2 ho2) ho2
  obtain ⟨Z3, m03, z03⟩ := hM3.cell
  refine gs_top er3 ?_
  refine lv_istore (lv' := [(6, .int (nI 0)), (5, .int (nI 0)), (4, .int (nI i)), (3, .ref out), (2, .ref mo), (1, .ref rr), (0, .ref sb)]) hx hb d_LA_law_334 hl (by decide) rfl (fun ls hl => ?_)
  refine lv_aload_n hx hb d_LA_law_336 rfl (lv_at hl 4 rfl) ?_
  refine gs_callVp (As := []) (rest := []) ⟨hx, hb, hml, hown, hts⟩ hK hE hz hG hS (c_MO_thrown l X σ_331 mo A Z3 m03) ⟨rfl, rfl⟩ mV_MO_thrown w_757 m03 rfl rfl hl.1 rfl (Nat.le_of_ble_eq_true rfl) ⟨by decide, by decide⟩ ⟨(by first | (show cells + 6 ≤ 601024; omega) | (show cells ≤ 601024; omega)), (by first | (show slots + 64 ≤ 7293034; omega) | (show slots ≤ 7293034; omega))⟩ d_LA_law_337 (fun r_337 hp_337 => ?_)
  refine gs_top (show r_337 = nI 0 from by rw [hp_337, z03]) ?_
  refine lv_iload hx hb d_LA_law_340 (lv_at hl 1 rfl) ?_
  refine lv_icmp_eq (tgt := 347) hx hb d_LA_law_342 (by decide) (fun c_342 => ?_) (fun c_342 => ?_)
  · have c_342 : 0 = 0 :=  (nI_eq (by omega) (by omega)).mp c_342
    refine lv_iload hx hb d_LA_law_347 (lv_at hl 1 rfl) ?_
    refine lv_if_ne (tgt := 371) hx hb d_LA_law_349 (by decide) (fun c_349 => ?_) (fun c_349 => ?_)
    · exact absurd c_349 (by decide)
    · have c_349 : 0 = 0 := gs_z (by omega) c_349
      refine lv_aload_n hx hb d_LA_law_352 rfl (lv_at hl 3 rfl) ?_
      refine lv_iconst (v := nI 0) hx hb d_LA_law_353 (by decide) ?_
      refine gs_lald hx hb hK hG ho3 (j := 0) (by omega) (by omega) d_LA_law_354 ?_
      refine lv_iload hx hb d_LA_law_355 (lv_at hl 0 rfl) ?_
      refine lv_if_eq (tgt := 364) hx hb d_LA_law_357 (by decide) (fun c_357 => ?_) (fun c_357 => ?_)
      · have c_357 : 0 = 0 := gs_z (by omega) c_357
        refine lv_lconst (v := 0) hx hb d_LA_law_364 rfl ?_
        refine W.lcmp hx hb d_LA_law_365 ?_
        refine lv_if_eq (tgt := 371) hx hb d_LA_law_366 (by decide) (fun c_366 => ?_) (fun c_366 => ?_)
        · refine lv_goto (tgt := 1085) hx hb d_LA_law_371 (by decide) ?_
          refine W.widen (k := cells + 6) (n := slots + 64) (by first | exact Nat.le_refl _ | exact Nat.le_add_right _ _) (by first | exact Nat.le_refl _ | exact Nat.le_add_right _ _) ?_
          exact kk σ_331 H locs ⟨_, _, _, _, _, _, _, _, _, _, _, _, _, _, _, _, hR3, hM3, hRL, ho3⟩ hG hS ls (lv_sub hl [2, 3, 4, 5, 6] rfl)
        · exact absurd (cmp_0.mpr (show vp_updL f 0 (if r9 = 0 then 0 else 1) 0 = _ from by unfold vp_updL; rw [if_pos rfl, hans9]; first | rfl | decide | (rw [if_pos (by decide)]) | (rw [if_neg (by decide)]))) c_366
      · exact absurd c_357 (by decide)
  · exact absurd c_342 (by decide)
set_option maxHeartbeats 4000000 in
set_option maxRecDepth 100000 in
theorem lb_drop_ok {RL : RLT} (h0 : pe0 RL) (h_pe_in : pe_in RL) (h_pe_drop : pe_drop RL) {p : Program} {e : Env} {s : State} {m : MethodId} {below : List Frame} {meth : Method} {c : Code} (l : Launch) {sb L : Nat} {xs : Nat → Int32} {X : gs_X} (htr : l.stackTraces = false) (C0 : lw_At p s m meth c sb L xs) (hL : L ≤ 3072) (hXX : X.2.1 3 ≠ X.2.1 2) (hK : gs_T X s) (hE : gs_E X s) (hz : X.2.2 ≤ s.heap.size) (hbA : ¬ gs_A X sb) {rr mo out : Nat} {A : Nat → Nat} {σ : gs_St} {nr : Nat} {cw : Nat → Nat} {Q : List Rl} {E : List En} {Lt : List Nat} {sa : Nat} {nw : Bool} {rc fc : Nat} {dr : Option Dr} {F : List (Nat × Nat)} {T : List MT} {QM : List MR} {drM : Option MR} {cd : Nat} {f : Nat → Int64} (hR : rrA X σ (out :: aM mo A) rr nr cw Q E Lt sa nw rc fc dr) (hM : moA X σ mo A cd nr cw F T sa rc QM drM) (hRL : RL nr cw Q E Lt sa nw rc fc dr F T QM drM) (ho : σ out = some (gs_la X 1 f)) {i cells slots : Nat} (hi : i + 6 ≤ L) (hce : cells + 6 ≤ 601024) (hsl : slots + 64 ≤ 7293034) {rl a b cz : Nat} (e1 : xs (i + 1) = nI rl) (e2 : xs (i + 2) = nI a) (e3 : xs (i + 3) = nI b) (e4 : xs (i + 4) = nI cz) (hrl : rl < nr) (ha : a < 64) (hb9 : b < 64) (hc9 : cz < 64) (hok : wi3 64 (cw rl) (nI a) (nI b) (nI cz) = true) (hin : fIx F (rl, a * 4096 + b * 64 + cz) < F.length) (kk : ∀ (σ' : gs_St) (H : Heap) (locs : List Loc), LI RL X σ' rr mo out A → gs_H X σ' H → va_S (gs_A X) s.heap H locs → ∀ ls, lv_has ls 7 [(4, .int (nI i)), (3, .ref out), (2, .ref mo), (1, .ref rr), (0, .ref sb)] → W p l e room_1 s m #[Value.ref sb] below meth c H locs (cells + 6) (slots + 64) (lw_Z below #[Value.ref sb] s) (F0 m 1085 ls [])) {H : Heap} {locs : List Loc} (hG : gs_H X σ H) (hS : va_S (gs_A X) s.heap H locs) {ls : Array Slot} (hl : lv_has ls 7 [(4, .int (nI i)), (3, .ref out), (2, .ref mo), (1, .ref rr), (0, .ref sb)]) : W p l e room_1 s m #[Value.ref sb] below meth c H locs cells slots (lw_Z below #[Value.ref sb] s) (F0 m 275 ls []) := by
  obtain ⟨hx, hb, hr, hml, hown, hts0, hX, hbl, hlocks, hgv⟩ := id C0
  have ht : ∀ w ∈ gs_w, w.before #[Value.ref sb] s = true := fun w h => hts0 w (List.mem_filter.mp h).1
  have hts : ∀ w ∈ (Cond.initialized "RuleRoundsLaw") :: gs_w, w.before #[Value.ref sb] s = true := fun w h => by
    rcases List.mem_cons.mp h with z | z
    · rw [z]; exact ht _ w_0
    · exact ht w z
  obtain ⟨gs, x0⟩ := hR.cell
  obtain ⟨Z, m0, z0⟩ := hM.cell
  have q0 := h0 _ _ _ _ _ _ _ _ _ _ _ _ _ _ hRL
  have hFl := hM.2.2.1.1
  refine lv_aload_n hx hb d_LA_law_275 rfl (lv_at hl 3 rfl) ?_
  refine lv_aload_n hx hb d_LA_law_276 rfl (lv_at hl 4 rfl) ?_
  refine lv_iload hx hb d_LA_law_277 (lv_at hl 0 rfl) ?_
  refine lv_iconst (v := nI 1) hx hb d_LA_law_279 (by decide) ?_
  refine lv_iadd hx hb d_LA_law_280 ?_
  refine gs_top (nI_add i 1) ?_
  refine gs_sld hx hb hX hbl hbA hS (j := i + 1) (by omega) (by omega) d_LA_law_281 ?_
  refine gs_top (show xs (i + 1) = (nI rl) from e1) ?_
  refine lv_aload_n hx hb d_LA_law_282 rfl (lv_at hl 4 rfl) ?_
  refine lv_iload hx hb d_LA_law_283 (lv_at hl 0 rfl) ?_
  refine lv_iconst (v := nI 2) hx hb d_LA_law_285 (by decide) ?_
  refine lv_iadd hx hb d_LA_law_286 ?_
  refine gs_top (nI_add i 2) ?_
  refine gs_sld hx hb hX hbl hbA hS (j := i + 2) (by omega) (by omega) d_LA_law_287 ?_
  refine gs_top (show xs (i + 2) = (nI a) from e2) ?_
  refine lv_aload_n hx hb d_LA_law_288 rfl (lv_at hl 4 rfl) ?_
  refine lv_iload hx hb d_LA_law_289 (lv_at hl 0 rfl) ?_
  refine lv_iconst (v := nI 3) hx hb d_LA_law_291 (by decide) ?_
  refine lv_iadd hx hb d_LA_law_292 ?_
  refine gs_top (nI_add i 3) ?_
  refine gs_sld hx hb hX hbl hbA hS (j := i + 3) (by omega) (by omega) d_LA_law_293 ?_
  refine gs_top (show xs (i + 3) = (nI b) from e3) ?_
  refine lv_aload_n hx hb d_LA_law_294 rfl (lv_at hl 4 rfl) ?_
  refine lv_iload hx hb d_LA_law_295 (lv_at hl 0 rfl) ?_
  refine lv_iconst (v := nI 4) hx hb d_LA_law_297 (by decide) ?_
  refine lv_iadd hx hb d_LA_law_298 ?_
  refine gs_top (nI_add i 4) ?_
  refine gs_sld hx hb hX hbl hbA hS (j := i + 4) (by omega) (by omega) d_LA_law_299 ?_
  refine gs_top (show xs (i + 4) = (nI cz) from e4) ?_
  refine lv_aload_n hx hb d_LA_law_300 rfl (lv_at hl 1 rfl) ?_
  refine gs_callSiH (As := [.ref rr, .int (nI rl), .int (nI a), .int (nI b), .int (nI cz), .ref out]) (rest := []) ⟨hx, hb, hml, hown, hts⟩ hK hE hz hG hS (c_LA_drop l X σ rr out gs _ f (nI rl) (nI a) (nI b) (nI cz) _ x0 ⟨by decide, by decide, by decide, by decide⟩ (c_rr_drop l hR hXX hrl ha hb9 hc9 hok q0.1 ((h_pe_in _ _ _ _ _ _ _ _ _ _ _ _ _ _ hRL rl a b cz hrl ha hb9 hc9 hok).mpr hin) (by rw [q0.2.2.1]; omega) (by rw [q0.2.2.1]; omega)) (fun r9 σ9 z => z.2.1 out List.mem_cons_self _ ho)) mSH_LA_drop w_412 rfl hl.1 rfl (Nat.le_of_ble_eq_true rfl) ⟨by decide, by decide⟩ ⟨(by first | (show cells + 6 ≤ 601024; omega) | (show cells ≤ 601024; omega)), (by first | (show slots + 64 ≤ 7293034; omega) | (show slots ≤ 7293034; omega))⟩ d_LA_law_301 (fun r_301 σ_301 H locs hp_301 hG hS => ?_)
  obtain ⟨ek, r9, σ9, ⟨hR9, hk9, hans9⟩, ev⟩ := hp_301
  refine gs_top ek ?_
  rw [ev] at hG
  obtain ⟨hR2, hM2⟩ := ans_put (f' := vp_updL f 0 (if r9 = 0 then 0 else 1)) hR9 hk9 hM ho
  obtain ⟨σ1, eσ1⟩ : ∃ z, z = gs_up σ9 out (gs_la X 1 (vp_updL f 0 (if r9 = 0 then 0 else 1))) := ⟨_, rfl⟩
  rw [← eσ1] at hG hR2 hM2
  have ho2 : σ1 out = some (gs_la X 1 (vp_updL f 0 (if r9 = 0 then 0 else 1))) := by rw [eσ1]; exact gs_us
  obtain ⟨Z2, m02, z02⟩ := hM2.cell
  refine lv_istore (lv' := [(5, .int (nI 0)), (4, .int (nI i)), (3, .ref out), (2, .ref mo), (1, .ref rr), (0, .ref sb)]) hx hb d_LA_law_304 hl (by decide) rfl (fun ls hl => ?_)
  refine lv_aload_n hx hb d_LA_law_306 rfl (lv_at hl 3 rfl) ?_
  refine lv_aload_n hx hb d_LA_law_307 rfl (lv_at hl 5 rfl) ?_
  refine lv_iload hx hb d_LA_law_308 (lv_at hl 1 rfl) ?_
  refine lv_iconst (v := nI 1) hx hb d_LA_law_310 (by decide) ?_
  refine lv_iadd hx hb d_LA_law_311 ?_
  refine gs_top (nI_add i 1) ?_
  refine gs_sld hx hb hX hbl hbA hS (j := i + 1) (by omega) (by omega) d_LA_law_312 ?_
  refine gs_top (show xs (i + 1) = (nI rl) from e1) ?_
  refine lv_aload_n hx hb d_LA_law_313 rfl (lv_at hl 5 rfl) ?_
  refine lv_iload hx hb d_LA_law_314 (lv_at hl 1 rfl) ?_
  refine lv_iconst (v := nI 2) hx hb d_LA_law_316 (by decide) ?_
  refine lv_iadd hx hb d_LA_law_317 ?_
  refine gs_top (nI_add i 2) ?_
  refine gs_sld hx hb hX hbl hbA hS (j := i + 2) (by omega) (by omega) d_LA_law_318 ?_
  refine gs_top (show xs (i + 2) = (nI a) from e2) ?_
  refine lv_aload_n hx hb d_LA_law_319 rfl (lv_at hl 5 rfl) ?_
  refine lv_iload hx hb d_LA_law_320 (lv_at hl 1 rfl) ?_
  refine lv_iconst (v := nI 3) hx hb d_LA_law_322 (by decide) ?_
  refine lv_iadd hx hb d_LA_law_323 ?_
  refine gs_top (nI_add i 3) ?_
  refine gs_sld hx hb hX hbl hbA hS (j := i + 3) (by omega) (by omega) d_LA_law_324 ?_
  refine gs_top (show xs (i + 3) = (nI b) from e3) ?_
  refine lv_aload_n hx hb d_LA_law_325 rfl (lv_at hl 5 rfl) ?_
  refine lv_iload hx hb d_LA_law_326 (lv_at hl 1 rfl) ?_
  refine lv_iconst (v := nI 4) hx hb d_LA_law_328 (by decide) ?_
  refine lv_iadd hx hb d_LA_law_329 ?_
  refine gs_top (nI_add i 4) ?_
  refine gs_sld hx hb hX hbl hbA hS (j := i + 4) (by omega) (by omega) d_LA_law_330 ?_
  refine gs_top (show xs (i + 4) = (nI cz) from e4) ?_
  refine gs_callVi (As := [.int (nI rl), .int (nI a), .int (nI b), .int (nI cz)]) (rest := []) ⟨hx, hb, hml, hown, hts⟩ hK hE hz hG hS (c_MO_drop l X σ1 mo A cd nr cw F T sa rc QM drM rl a b cz hM2 hrl ha hb9 hc9 hok hin) mV_MO_drop w_788 m02 rfl rfl hl.1 rfl (Nat.le_of_ble_eq_true rfl) ⟨by decide, by decide⟩ ⟨(by first | (show cells + 6 ≤ 601024; omega) | (show cells ≤ 601024; omega)), (by first | (show slots + 64 ≤ 7293034; omega) | (show slots ≤ 7293034; omega))⟩ d_LA_law_331 (fun r_331 σ_331 H locs hp_331 hG hS => ?_)
  obtain ⟨hM3, hf3, er3⟩ := hp_331
  have hR3 := hR2.mdl (hM2.gG ho2) hf3
  have ho3 := hf3 _ _ (out_nin hM2 ho2) ho2
  obtain ⟨Z3, m03, z03⟩ := hM3.cell
  refine gs_top er3 ?_
  refine lv_istore (lv' := [(6, .int (nI 1)), (5, .int (nI 0)), (4, .int (nI i)), (3, .ref out), (2, .ref mo), (1, .ref rr), (0, .ref sb)]) hx hb d_LA_law_334 hl (by decide) rfl (fun ls hl => ?_)
  refine lv_aload_n hx hb d_LA_law_336 rfl (lv_at hl 4 rfl) ?_
  refine gs_callVp (As := []) (rest := []) ⟨hx, hb, hml, hown, hts⟩ hK hE hz hG hS (c_MO_thrown l X σ_331 mo A Z3 m03) ⟨rfl, rfl⟩ mV_MO_thrown w_757 m03 rfl rfl hl.1 rfl (Nat.le_of_ble_eq_true rfl) ⟨by decide, by decide⟩ ⟨(by first | (show cells + 6 ≤ 601024; omega) | (show cells ≤ 601024; omega)), (by first | (show slots + 64 ≤ 7293034; omega) | (show slots ≤ 7293034; omega))⟩ d_LA_law_337 (fun r_337 hp_337 => ?_)
  refine gs_top (show r_337 = nI 0 from by rw [hp_337, z03]) ?_
  refine lv_iload hx hb d_LA_law_340 (lv_at hl 1 rfl) ?_
  refine lv_icmp_eq (tgt := 347) hx hb d_LA_law_342 (by decide) (fun c_342 => ?_) (fun c_342 => ?_)
  · have c_342 : 0 = 0 :=  (nI_eq (by omega) (by omega)).mp c_342
    refine lv_iload hx hb d_LA_law_347 (lv_at hl 1 rfl) ?_
    refine lv_if_ne (tgt := 371) hx hb d_LA_law_349 (by decide) (fun c_349 => ?_) (fun c_349 => ?_)
    · exact absurd c_349 (by decide)
    · have c_349 : 0 = 0 := gs_z (by omega) c_349
      refine lv_aload_n hx hb d_LA_law_352 rfl (lv_at hl 3 rfl) ?_
      refine lv_iconst (v := nI 0) hx hb d_LA_law_353 (by decide) ?_
      refine gs_lald hx hb hK hG ho3 (j := 0) (by omega) (by omega) d_LA_law_354 ?_
      refine lv_iload hx hb d_LA_law_355 (lv_at hl 0 rfl) ?_
      refine lv_if_eq (tgt := 364) hx hb d_LA_law_357 (by decide) (fun c_357 => ?_) (fun c_357 => ?_)
      · exact absurd c_357 (by decide)
      · have c_357 : ¬ 1 = 0 := gs_zn (by omega) c_357
        refine lv_lconst (v := 1) hx hb d_LA_law_360 rfl ?_
        refine lv_goto (tgt := 365) hx hb d_LA_law_361 (by decide) ?_
        refine W.lcmp hx hb d_LA_law_365 ?_
        refine lv_if_eq (tgt := 371) hx hb d_LA_law_366 (by decide) (fun c_366 => ?_) (fun c_366 => ?_)
        · refine lv_goto (tgt := 1085) hx hb d_LA_law_371 (by decide) ?_
          refine W.widen (k := cells + 6) (n := slots + 64) (by first | exact Nat.le_refl _ | exact Nat.le_add_right _ _) (by first | exact Nat.le_refl _ | exact Nat.le_add_right _ _) ?_
          exact kk σ_331 H locs ⟨_, _, _, _, _, _, _, _, _, _, _, _, _, _, _, _, hR3, hM3, (h_pe_drop _ _ _ _ _ _ _ _ _ _ _ _ _ _ hRL rl a b cz hrl ha hb9 hc9 hok hin), ho3⟩ hG hS ls (lv_sub hl [2, 3, 4, 5, 6] rfl)
        · exact absurd (cmp_0.mpr (show vp_updL f 0 (if r9 = 0 then 0 else 1) 0 = _ from by unfold vp_updL; rw [if_pos rfl, hans9]; first | rfl | decide | (rw [if_pos (by decide)]) | (rw [if_neg (by decide)]))) c_366
  · exact absurd c_342 (by decide)
set_option maxHeartbeats 4000000 in
set_option maxRecDepth 100000 in
theorem lb_has_ok {RL : RLT} (h0 : pe0 RL) (h_pe_has : pe_has RL) {p : Program} {e : Env} {s : State} {m : MethodId} {below : List Frame} {meth : Method} {c : Code} (l : Launch) {sb L : Nat} {xs : Nat → Int32} {X : gs_X} (htr : l.stackTraces = false) (C0 : lw_At p s m meth c sb L xs) (hL : L ≤ 3072) (hXX : X.2.1 3 ≠ X.2.1 2) (hK : gs_T X s) (hE : gs_E X s) (hz : X.2.2 ≤ s.heap.size) (hbA : ¬ gs_A X sb) {rr mo out : Nat} {A : Nat → Nat} {σ : gs_St} {nr : Nat} {cw : Nat → Nat} {Q : List Rl} {E : List En} {Lt : List Nat} {sa : Nat} {nw : Bool} {rc fc : Nat} {dr : Option Dr} {F : List (Nat × Nat)} {T : List MT} {QM : List MR} {drM : Option MR} {cd : Nat} {f : Nat → Int64} (hR : rrA X σ (out :: aM mo A) rr nr cw Q E Lt sa nw rc fc dr) (hM : moA X σ mo A cd nr cw F T sa rc QM drM) (hRL : RL nr cw Q E Lt sa nw rc fc dr F T QM drM) (ho : σ out = some (gs_la X 1 f)) {i cells slots : Nat} (hi : i + 6 ≤ L) (hce : cells + 6 ≤ 601024) (hsl : slots + 64 ≤ 7293034) {rl a b cz : Nat} (e1 : xs (i + 1) = nI rl) (e2 : xs (i + 2) = nI a) (e3 : xs (i + 3) = nI b) (e4 : xs (i + 4) = nI cz) (hrl : rl < nr) (ha : a < 64) (hb9 : b < 64) (hc9 : cz < 64) (hok : wi3 64 (cw rl) (nI a) (nI b) (nI cz) = true) (kk : ∀ (σ' : gs_St) (H : Heap) (locs : List Loc), LI RL X σ' rr mo out A → gs_H X σ' H → va_S (gs_A X) s.heap H locs → ∀ ls, lv_has ls 7 [(4, .int (nI i)), (3, .ref out), (2, .ref mo), (1, .ref rr), (0, .ref sb)] → W p l e room_1 s m #[Value.ref sb] below meth c H locs (cells + 6) (slots + 64) (lw_Z below #[Value.ref sb] s) (F0 m 1085 ls [])) {H : Heap} {locs : List Loc} (hG : gs_H X σ H) (hS : va_S (gs_A X) s.heap H locs) {ls : Array Slot} (hl : lv_has ls 7 [(4, .int (nI i)), (3, .ref out), (2, .ref mo), (1, .ref rr), (0, .ref sb)]) : W p l e room_1 s m #[Value.ref sb] below meth c H locs cells slots (lw_Z below #[Value.ref sb] s) (F0 m 758 ls []) := by
  obtain ⟨hx, hb, hr, hml, hown, hts0, hX, hbl, hlocks, hgv⟩ := id C0
  have ht : ∀ w ∈ gs_w, w.before #[Value.ref sb] s = true := fun w h => hts0 w (List.mem_filter.mp h).1
  have hts : ∀ w ∈ (Cond.initialized "RuleRoundsLaw") :: gs_w, w.before #[Value.ref sb] s = true := fun w h => by
    rcases List.mem_cons.mp h with z | z
    · rw [z]; exact ht _ w_0
    · exact ht w z
  obtain ⟨gs, x0⟩ := hR.cell
  obtain ⟨Z, m0, z0⟩ := hM.cell
  have q0 := h0 _ _ _ _ _ _ _ _ _ _ _ _ _ _ hRL
  refine lv_aload_n hx hb d_LA_law_758 rfl (lv_at hl 3 rfl) ?_
  refine lv_aload_n hx hb d_LA_law_759 rfl (lv_at hl 4 rfl) ?_
  refine lv_iload hx hb d_LA_law_760 (lv_at hl 0 rfl) ?_
  refine lv_iconst (v := nI 1) hx hb d_LA_law_762 (by decide) ?_
  refine lv_iadd hx hb d_LA_law_763 ?_
  refine gs_top (nI_add i 1) ?_
  refine gs_sld hx hb hX hbl hbA hS (j := i + 1) (by omega) (by omega) d_LA_law_764 ?_
  refine gs_top (show xs (i + 1) = (nI rl) from e1) ?_
  refine lv_aload_n hx hb d_LA_law_765 rfl (lv_at hl 4 rfl) ?_
  refine lv_iload hx hb d_LA_law_766 (lv_at hl 0 rfl) ?_
  refine lv_iconst (v := nI 2) hx hb d_LA_law_768 (by decide) ?_
  refine lv_iadd hx hb d_LA_law_769 ?_
  refine gs_top (nI_add i 2) ?_
  refine gs_sld hx hb hX hbl hbA hS (j := i + 2) (by omega) (by omega) d_LA_law_770 ?_
  refine gs_top (show xs (i + 2) = (nI a) from e2) ?_
  refine lv_aload_n hx hb d_LA_law_771 rfl (lv_at hl 4 rfl) ?_
  refine lv_iload hx hb d_LA_law_772 (lv_at hl 0 rfl) ?_
  refine lv_iconst (v := nI 3) hx hb d_LA_law_774 (by decide) ?_
  refine lv_iadd hx hb d_LA_law_775 ?_
  refine gs_top (nI_add i 3) ?_
  refine gs_sld hx hb hX hbl hbA hS (j := i + 3) (by omega) (by omega) d_LA_law_776 ?_
  refine gs_top (show xs (i + 3) = (nI b) from e3) ?_
  refine lv_aload_n hx hb d_LA_law_777 rfl (lv_at hl 4 rfl) ?_
  refine lv_iload hx hb d_LA_law_778 (lv_at hl 0 rfl) ?_
  refine lv_iconst (v := nI 4) hx hb d_LA_law_780 (by decide) ?_
  refine lv_iadd hx hb d_LA_law_781 ?_
  refine gs_top (nI_add i 4) ?_
  refine gs_sld hx hb hX hbl hbA hS (j := i + 4) (by omega) (by omega) d_LA_law_782 ?_
  refine gs_top (show xs (i + 4) = (nI cz) from e4) ?_
  refine lv_aload_n hx hb d_LA_law_783 rfl (lv_at hl 1 rfl) ?_
  refine gs_callSiH (As := [.ref rr, .int (nI rl), .int (nI a), .int (nI b), .int (nI cz), .ref out]) (rest := []) ⟨hx, hb, hml, hown, hts⟩ hK hE hz hG hS (c_LA_has l X σ rr out gs _ f (nI rl) (nI a) (nI b) (nI cz) _ x0 ⟨by decide, by decide, by decide, by decide⟩ (c_rr_has l hR hrl ha hb9 hc9 hok) (fun r9 σ9 z => by rw [z.2]; exact ho)) mSH_LA_has w_602 rfl hl.1 rfl (Nat.le_of_ble_eq_true rfl) ⟨by decide, by decide⟩ ⟨(by first | (show cells + 6 ≤ 601024; omega) | (show cells ≤ 601024; omega)), (by first | (show slots + 64 ≤ 7293034; omega) | (show slots ≤ 7293034; omega))⟩ d_LA_law_784 (fun r_784 σ_784 H locs hp_784 hG hS => ?_)
  obtain ⟨ek, r9, σ9, ⟨hans9, hu9⟩, ev⟩ := hp_784
  have hR9 : rrA X σ9 (out :: aM mo A) rr nr cw Q E Lt sa nw rc fc dr := by rw [hu9]; exact hR
  have hk9 : kG σ σ9 (out :: aM mo A) := fun q _ e he => by rw [hu9]; exact he
  refine gs_top ek ?_
  rw [ev] at hG
  obtain ⟨hR2, hM2⟩ := ans_put (f' := vp_updL f 0 (if r9 = 0 then 0 else 1)) hR9 hk9 hM ho
  obtain ⟨σ1, eσ1⟩ : ∃ z, z = gs_up σ9 out (gs_la X 1 (vp_updL f 0 (if r9 = 0 then 0 else 1))) := ⟨_, rfl⟩
  rw [← eσ1] at hG hR2 hM2
  have ho2 : σ1 out = some (gs_la X 1 (vp_updL f 0 (if r9 = 0 then 0 else 1))) := by rw [eσ1]; exact gs_us
  obtain ⟨Z2, m02, z02⟩ := hM2.cell
  refine lv_istore (lv' := [(5, .int (nI 0)), (4, .int (nI i)), (3, .ref out), (2, .ref mo), (1, .ref rr), (0, .ref sb)]) hx hb d_LA_law_787 hl (by decide) rfl (fun ls hl => ?_)
  refine lv_aload_n hx hb d_LA_law_789 rfl (lv_at hl 3 rfl) ?_
  refine lv_aload_n hx hb d_LA_law_790 rfl (lv_at hl 5 rfl) ?_
  refine lv_iload hx hb d_LA_law_791 (lv_at hl 1 rfl) ?_
  refine lv_iconst (v := nI 1) hx hb d_LA_law_793 (by decide) ?_
  refine lv_iadd hx hb d_LA_law_794 ?_
  refine gs_top (nI_add i 1) ?_
  refine gs_sld hx hb hX hbl hbA hS (j := i + 1) (by omega) (by omega) d_LA_law_795 ?_
  refine gs_top (show xs (i + 1) = (nI rl) from e1) ?_
  refine lv_aload_n hx hb d_LA_law_796 rfl (lv_at hl 5 rfl) ?_
  refine lv_iload hx hb d_LA_law_797 (lv_at hl 1 rfl) ?_
  refine lv_iconst (v := nI 2) hx hb d_LA_law_799 (by decide) ?_
  refine lv_iadd hx hb d_LA_law_800 ?_
  refine gs_top (nI_add i 2) ?_
  refine gs_sld hx hb hX hbl hbA hS (j := i + 2) (by omega) (by omega) d_LA_law_801 ?_
  refine gs_top (show xs (i + 2) = (nI a) from e2) ?_
  refine lv_aload_n hx hb d_LA_law_802 rfl (lv_at hl 5 rfl) ?_
  refine lv_iload hx hb d_LA_law_803 (lv_at hl 1 rfl) ?_
  refine lv_iconst (v := nI 3) hx hb d_LA_law_805 (by decide) ?_
  refine lv_iadd hx hb d_LA_law_806 ?_
  refine gs_top (nI_add i 3) ?_
  refine gs_sld hx hb hX hbl hbA hS (j := i + 3) (by omega) (by omega) d_LA_law_807 ?_
  refine gs_top (show xs (i + 3) = (nI b) from e3) ?_
  refine lv_aload_n hx hb d_LA_law_808 rfl (lv_at hl 5 rfl) ?_
  refine lv_iload hx hb d_LA_law_809 (lv_at hl 1 rfl) ?_
  refine lv_iconst (v := nI 4) hx hb d_LA_law_811 (by decide) ?_
  refine lv_iadd hx hb d_LA_law_812 ?_
  refine gs_top (nI_add i 4) ?_
  refine gs_sld hx hb hX hbl hbA hS (j := i + 4) (by omega) (by omega) d_LA_law_813 ?_
  refine gs_top (show xs (i + 4) = (nI cz) from e4) ?_
  refine gs_callVi (As := [.int (nI rl), .int (nI a), .int (nI b), .int (nI cz)]) (rest := []) ⟨hx, hb, hml, hown, hts⟩ hK hE hz hG hS (c_MO_has l X σ1 mo A cd nr cw F T sa rc QM drM rl a b cz hM2 hrl ha hb9 hc9 hok) mV_MO_has w_884 m02 rfl rfl hl.1 rfl (Nat.le_of_ble_eq_true rfl) ⟨by decide, by decide⟩ ⟨(by first | (show cells + 6 ≤ 601024; omega) | (show cells ≤ 601024; omega)), (by first | (show slots + 64 ≤ 7293034; omega) | (show slots ≤ 7293034; omega))⟩ d_LA_law_814 (fun r_814 σ_814 H locs hp_814 hG hS => ?_)
  obtain ⟨hM3, hf3, er3⟩ := hp_814
  have hR3 := hR2.mdl (hM2.gG ho2) hf3
  have ho3 := hf3 _ _ (out_nin hM2 ho2) ho2
  obtain ⟨Z3, m03, z03⟩ := hM3.cell
  refine gs_top er3 ?_
  refine lv_istore (lv' := [(6, .int (bI (decide (262144 * rl + (a * 4096 + b * 64 + cz) ∈ tcs T)))), (5, .int (nI 0)), (4, .int (nI i)), (3, .ref out), (2, .ref mo), (1, .ref rr), (0, .ref sb)]) hx hb d_LA_law_817 hl (by decide) rfl (fun ls hl => ?_)
  refine lv_aload_n hx hb d_LA_law_819 rfl (lv_at hl 4 rfl) ?_
  refine gs_callVp (As := []) (rest := []) ⟨hx, hb, hml, hown, hts⟩ hK hE hz hG hS (c_MO_thrown l X σ_814 mo A Z3 m03) ⟨rfl, rfl⟩ mV_MO_thrown w_757 m03 rfl rfl hl.1 rfl (Nat.le_of_ble_eq_true rfl) ⟨by decide, by decide⟩ ⟨(by first | (show cells + 6 ≤ 601024; omega) | (show cells ≤ 601024; omega)), (by first | (show slots + 64 ≤ 7293034; omega) | (show slots ≤ 7293034; omega))⟩ d_LA_law_820 (fun r_820 hp_820 => ?_)
  refine gs_top (show r_820 = nI 0 from by rw [hp_820, z03]) ?_
  refine lv_iload hx hb d_LA_law_823 (lv_at hl 1 rfl) ?_
  refine lv_icmp_eq (tgt := 830) hx hb d_LA_law_825 (by decide) (fun c_825 => ?_) (fun c_825 => ?_)
  · have c_825 : 0 = 0 :=  (nI_eq (by omega) (by omega)).mp c_825
    refine lv_iload hx hb d_LA_law_830 (lv_at hl 1 rfl) ?_
    refine lv_if_ne (tgt := 854) hx hb d_LA_law_832 (by decide) (fun c_832 => ?_) (fun c_832 => ?_)
    · exact absurd c_832 (by decide)
    · have c_832 : 0 = 0 := gs_z (by omega) c_832
      refine lv_aload_n hx hb d_LA_law_835 rfl (lv_at hl 3 rfl) ?_
      refine lv_iconst (v := nI 0) hx hb d_LA_law_836 (by decide) ?_
      refine gs_lald hx hb hK hG ho3 (j := 0) (by omega) (by omega) d_LA_law_837 ?_
      refine lv_iload hx hb d_LA_law_838 (lv_at hl 0 rfl) ?_
      refine lv_if_eq (tgt := 847) hx hb d_LA_law_840 (by decide) (fun c_840 => ?_) (fun c_840 => ?_)
      · refine lv_lconst (v := 0) hx hb d_LA_law_847 rfl ?_
        refine W.lcmp hx hb d_LA_law_848 ?_
        refine lv_if_eq (tgt := 854) hx hb d_LA_law_849 (by decide) (fun c_849 => ?_) (fun c_849 => ?_)
        · refine lv_goto (tgt := 1085) hx hb d_LA_law_854 (by decide) ?_
          refine W.widen (k := cells + 6) (n := slots + 64) (by first | exact Nat.le_refl _ | exact Nat.le_add_right _ _) (by first | exact Nat.le_refl _ | exact Nat.le_add_right _ _) ?_
          exact kk σ_814 H locs ⟨_, _, _, _, _, _, _, _, _, _, _, _, _, _, _, _, hR3, hM3, hRL, ho3⟩ hG hS ls (lv_sub hl [2, 3, 4, 5, 6] rfl)
        · exact absurd (cmp_0.mpr (show vp_updL f 0 (if r9 = 0 then 0 else 1) 0 = _ from by unfold vp_updL; rw [if_pos rfl, hans9.trans (congrArg bI (decide_eq_decide.mpr (h_pe_has _ _ _ _ _ _ _ _ _ _ _ _ _ _ hRL rl a b cz hrl ha hb9 hc9 hok)))]; first | rw [if_pos c_840] | rw [if_neg c_840])) c_849
      · refine lv_lconst (v := 1) hx hb d_LA_law_843 rfl ?_
        refine lv_goto (tgt := 848) hx hb d_LA_law_844 (by decide) ?_
        refine W.lcmp hx hb d_LA_law_848 ?_
        refine lv_if_eq (tgt := 854) hx hb d_LA_law_849 (by decide) (fun c_849 => ?_) (fun c_849 => ?_)
        · refine lv_goto (tgt := 1085) hx hb d_LA_law_854 (by decide) ?_
          refine W.widen (k := cells + 6) (n := slots + 64) (by first | exact Nat.le_refl _ | exact Nat.le_add_right _ _) (by first | exact Nat.le_refl _ | exact Nat.le_add_right _ _) ?_
          exact kk σ_814 H locs ⟨_, _, _, _, _, _, _, _, _, _, _, _, _, _, _, _, hR3, hM3, hRL, ho3⟩ hG hS ls (lv_sub hl [2, 3, 4, 5, 6] rfl)
        · exact absurd (cmp_0.mpr (show vp_updL f 0 (if r9 = 0 then 0 else 1) 0 = _ from by unfold vp_updL; rw [if_pos rfl, hans9.trans (congrArg bI (decide_eq_decide.mpr (h_pe_has _ _ _ _ _ _ _ _ _ _ _ _ _ _ hRL rl a b cz hrl ha hb9 hc9 hok)))]; first | rw [if_pos c_840] | rw [if_neg c_840])) c_849
  · exact absurd c_825 (by decide)
set_option maxHeartbeats 4000000 in
set_option maxRecDepth 100000 in
theorem lb_head_r {RL : RLT} (h0 : pe0 RL) {p : Program} {e : Env} {s : State} {m : MethodId} {below : List Frame} {meth : Method} {c : Code} (l : Launch) {sb L : Nat} {xs : Nat → Int32} {X : gs_X} (htr : l.stackTraces = false) (C0 : lw_At p s m meth c sb L xs) (hL : L ≤ 3072) (hXX : X.2.1 3 ≠ X.2.1 2) (hK : gs_T X s) (hE : gs_E X s) (hz : X.2.2 ≤ s.heap.size) (hbA : ¬ gs_A X sb) {rr mo out : Nat} {A : Nat → Nat} {σ : gs_St} {nr : Nat} {cw : Nat → Nat} {Q : List Rl} {E : List En} {Lt : List Nat} {sa : Nat} {nw : Bool} {rc fc : Nat} {dr : Option Dr} {F : List (Nat × Nat)} {T : List MT} {QM : List MR} {drM : Option MR} {cd : Nat} {f : Nat → Int64} (hR : rrA X σ (out :: aM mo A) rr nr cw Q E Lt sa nw rc fc dr) (hM : moA X σ mo A cd nr cw F T sa rc QM drM) (hRL : RL nr cw Q E Lt sa nw rc fc dr F T QM drM) (ho : σ out = some (gs_la X 1 f)) {i cells slots : Nat} (hi : i + 6 ≤ L) (hce : cells + 6 ≤ 601024) (hsl : slots + 64 ≤ 7293034)  (hok : wi nr (xs (i + 1)) = false) (kk : ∀ (σ' : gs_St) (H : Heap) (locs : List Loc), LI RL X σ' rr mo out A → gs_H X σ' H → va_S (gs_A X) s.heap H locs → ∀ ls, lv_has ls 7 [(4, .int (nI i)), (3, .ref out), (2, .ref mo), (1, .ref rr), (0, .ref sb)] → W p l e room_1 s m #[Value.ref sb] below meth c H locs (cells + 6) (slots + 64) (lw_Z below #[Value.ref sb] s) (F0 m 1085 ls [])) {H : Heap} {locs : List Loc} (hG : gs_H X σ H) (hS : va_S (gs_A X) s.heap H locs) {ls : Array Slot} (hl : lv_has ls 7 [(4, .int (nI i)), (3, .ref out), (2, .ref mo), (1, .ref rr), (0, .ref sb)]) : W p l e room_1 s m #[Value.ref sb] below meth c H locs cells slots (lw_Z below #[Value.ref sb] s) (F0 m 374 ls []) := by
  obtain ⟨hx, hb, hr, hml, hown, hts0, hX, hbl, hlocks, hgv⟩ := id C0
  have ht : ∀ w ∈ gs_w, w.before #[Value.ref sb] s = true := fun w h => hts0 w (List.mem_filter.mp h).1
  have hts : ∀ w ∈ (Cond.initialized "RuleRoundsLaw") :: gs_w, w.before #[Value.ref sb] s = true := fun w h => by
    rcases List.mem_cons.mp h with z | z
    · rw [z]; exact ht _ w_0
    · exact ht w z
  obtain ⟨gs, x0⟩ := hR.cell
  obtain ⟨Z, m0, z0⟩ := hM.cell
  have q0 := h0 _ _ _ _ _ _ _ _ _ _ _ _ _ _ hRL
  refine lv_aload_n hx hb d_LA_law_374 rfl (lv_at hl 3 rfl) ?_
  refine lv_aload_n hx hb d_LA_law_375 rfl (lv_at hl 4 rfl) ?_
  refine lv_iload hx hb d_LA_law_376 (lv_at hl 0 rfl) ?_
  refine lv_iconst (v := nI 1) hx hb d_LA_law_378 (by decide) ?_
  refine lv_iadd hx hb d_LA_law_379 ?_
  refine gs_top (nI_add i 1) ?_
  refine gs_sld hx hb hX hbl hbA hS (j := i + 1) (by omega) (by omega) d_LA_law_380 ?_
  refine lv_aload_n hx hb d_LA_law_381 rfl (lv_at hl 4 rfl) ?_
  refine lv_iload hx hb d_LA_law_382 (lv_at hl 0 rfl) ?_
  refine lv_iconst (v := nI 2) hx hb d_LA_law_384 (by decide) ?_
  refine lv_iadd hx hb d_LA_law_385 ?_
  refine gs_top (nI_add i 2) ?_
  refine gs_sld hx hb hX hbl hbA hS (j := i + 2) (by omega) (by omega) d_LA_law_386 ?_
  refine lv_aload_n hx hb d_LA_law_387 rfl (lv_at hl 4 rfl) ?_
  refine lv_iload hx hb d_LA_law_388 (lv_at hl 0 rfl) ?_
  refine lv_iconst (v := nI 3) hx hb d_LA_law_390 (by decide) ?_
  refine lv_iadd hx hb d_LA_law_391 ?_
  refine gs_top (nI_add i 3) ?_
  refine gs_sld hx hb hX hbl hbA hS (j := i + 3) (by omega) (by omega) d_LA_law_392 ?_
  refine lv_aload_n hx hb d_LA_law_393 rfl (lv_at hl 4 rfl) ?_
  refine lv_iload hx hb d_LA_law_394 (lv_at hl 0 rfl) ?_
  refine lv_iconst (v := nI 4) hx hb d_LA_law_396 (by decide) ?_
  refine lv_iadd hx hb d_LA_law_397 ?_
  refine gs_top (nI_add i 4) ?_
  refine gs_sld hx hb hX hbl hbA hS (j := i + 4) (by omega) (by omega) d_LA_law_398 ?_
  refine gs_callSiH (As := [.ref rr, .int (xs (i + 1)), .int (xs (i + 2)), .int (xs (i + 3)), .int (xs (i + 4))]) (rest := []) ⟨hx, hb, hml, hown, hts⟩ hK hE hz hG hS (c_LA_head_xI l X σ rr gs _ (xs (i + 1)) (xs (i + 2)) (xs (i + 3)) (xs (i + 4)) x0 ⟨by decide, by decide, by decide, by decide⟩ (c_rr_head_r l hR htr hok)) mSH_LA_head w_423 rfl hl.1 rfl (Nat.le_of_ble_eq_true rfl) ⟨by decide, by decide⟩ ⟨(by first | (show cells + 6 ≤ 601024; omega) | (show cells ≤ 601024; omega)), (by first | (show slots + 64 ≤ 7293034; omega) | (show slots ≤ 7293034; omega))⟩ d_LA_law_399 (fun r_399 σ_399 H locs hp_399 hG hS => ?_)
  refine gs_top hp_399.1 ?_
  rw [hp_399.2] at hG
  refine lv_istore (lv' := [(5, .int (nI 1)), (4, .int (nI i)), (3, .ref out), (2, .ref mo), (1, .ref rr), (0, .ref sb)]) hx hb d_LA_law_402 hl (by decide) rfl (fun ls hl => ?_)
  refine lv_aload_n hx hb d_LA_law_404 rfl (lv_at hl 3 rfl) ?_
  refine lv_aload_n hx hb d_LA_law_405 rfl (lv_at hl 5 rfl) ?_
  refine lv_iload hx hb d_LA_law_406 (lv_at hl 1 rfl) ?_
  refine lv_iconst (v := nI 1) hx hb d_LA_law_408 (by decide) ?_
  refine lv_iadd hx hb d_LA_law_409 ?_
  refine gs_top (nI_add i 1) ?_
  refine gs_sld hx hb hX hbl hbA hS (j := i + 1) (by omega) (by omega) d_LA_law_410 ?_
  refine lv_aload_n hx hb d_LA_law_411 rfl (lv_at hl 5 rfl) ?_
  refine lv_iload hx hb d_LA_law_412 (lv_at hl 1 rfl) ?_
  refine lv_iconst (v := nI 2) hx hb d_LA_law_414 (by decide) ?_
  refine lv_iadd hx hb d_LA_law_415 ?_
  refine gs_top (nI_add i 2) ?_
  refine gs_sld hx hb hX hbl hbA hS (j := i + 2) (by omega) (by omega) d_LA_law_416 ?_
  refine lv_aload_n hx hb d_LA_law_417 rfl (lv_at hl 5 rfl) ?_
  refine lv_iload hx hb d_LA_law_418 (lv_at hl 1 rfl) ?_
  refine lv_iconst (v := nI 3) hx hb d_LA_law_420 (by decide) ?_
  refine lv_iadd hx hb d_LA_law_421 ?_
  refine gs_top (nI_add i 3) ?_
  refine gs_sld hx hb hX hbl hbA hS (j := i + 3) (by omega) (by omega) d_LA_law_422 ?_
  refine lv_aload_n hx hb d_LA_law_423 rfl (lv_at hl 5 rfl) ?_
  refine lv_iload hx hb d_LA_law_424 (lv_at hl 1 rfl) ?_
  refine lv_iconst (v := nI 4) hx hb d_LA_law_426 (by decide) ?_
  refine lv_iadd hx hb d_LA_law_427 ?_
  refine gs_top (nI_add i 4) ?_
  refine gs_sld hx hb hX hbl hbA hS (j := i + 4) (by omega) (by omega) d_LA_law_428 ?_
  refine gs_callVv (As := [.int (xs (i + 1)), .int (xs (i + 2)), .int (xs (i + 3)), .int (xs (i + 4))]) (rest := []) ⟨hx, hb, hml, hown, hts⟩ hK hE hz hG hS (c_MO_head_t l X σ mo A cd nr cw F T sa rc QM drM (xs (i + 1)) (xs (i + 2)) (xs (i + 3)) (xs (i + 4)) hM (fitR_r hok)) mV_MO_head w_792 m0 rfl rfl hl.1 rfl (Nat.le_of_ble_eq_true rfl) ⟨by decide, by decide⟩ ⟨(by first | (show cells + 6 ≤ 601024; omega) | (show cells ≤ 601024; omega)), (by first | (show slots + 64 ≤ 7293034; omega) | (show slots ≤ 7293034; omega))⟩ d_LA_law_429 (fun σ_429 H locs hp_429 hG hS => ?_)
  obtain ⟨hM3, hf3⟩ := hp_429
  have hR3 := hR.mdl (hM.gG ho) hf3
  have ho3 := hf3 _ _ (out_nin hM ho) ho
  obtain ⟨Z3, m03, z03⟩ := hM3.cell
  refine lv_aload_n hx hb d_LA_law_432 rfl (lv_at hl 3 rfl) ?_
  refine gs_callVp (As := []) (rest := []) ⟨hx, hb, hml, hown, hts⟩ hK hE hz hG hS (c_MO_thrown l X σ_429 mo A Z3 m03) ⟨rfl, rfl⟩ mV_MO_thrown w_757 m03 rfl rfl hl.1 rfl (Nat.le_of_ble_eq_true rfl) ⟨by decide, by decide⟩ ⟨(by first | (show cells + 6 ≤ 601024; omega) | (show cells ≤ 601024; omega)), (by first | (show slots + 64 ≤ 7293034; omega) | (show slots ≤ 7293034; omega))⟩ d_LA_law_433 (fun r_433 hp_433 => ?_)
  refine gs_top (show r_433 = nI 1 from by rw [hp_433, z03]) ?_
  refine lv_iload hx hb d_LA_law_436 (lv_at hl 0 rfl) ?_
  refine lv_icmp_eq (tgt := 443) hx hb d_LA_law_438 (by decide) (fun c_438 => ?_) (fun c_438 => ?_)
  · have c_438 : 1 = 1 :=  (nI_eq (by omega) (by omega)).mp c_438
    refine lv_goto (tgt := 1085) hx hb d_LA_law_443 (by decide) ?_
    refine W.widen (k := cells + 6) (n := slots + 64) (by first | exact Nat.le_refl _ | exact Nat.le_add_right _ _) (by first | exact Nat.le_refl _ | exact Nat.le_add_right _ _) ?_
    exact kk σ_429 H locs ⟨_, _, _, _, _, _, _, _, _, _, _, _, _, _, _, _, hR3, hM3, hRL, ho3⟩ hG hS ls (lv_sub hl [1, 2, 3, 4, 5] rfl)
  · exact absurd c_438 (by decide)
set_option maxHeartbeats 4000000 in
set_option maxRecDepth 100000 in
theorem lb_head_t {RL : RLT} (h0 : pe0 RL) {p : Program} {e : Env} {s : State} {m : MethodId} {below : List Frame} {meth : Method} {c : Code} (l : Launch) {sb L : Nat} {xs : Nat → Int32} {X : gs_X} (htr : l.stackTraces = false) (C0 : lw_At p s m meth c sb L xs) (hL : L ≤ 3072) (hXX : X.2.1 3 ≠ X.2.1 2) (hK : gs_T X s) (hE : gs_E X s) (hz : X.2.2 ≤ s.heap.size) (hbA : ¬ gs_A X sb) {rr mo out : Nat} {A : Nat → Nat} {σ : gs_St} {nr : Nat} {cw : Nat → Nat} {Q : List Rl} {E : List En} {Lt : List Nat} {sa : Nat} {nw : Bool} {rc fc : Nat} {dr : Option Dr} {F : List (Nat × Nat)} {T : List MT} {QM : List MR} {drM : Option MR} {cd : Nat} {f : Nat → Int64} (hR : rrA X σ (out :: aM mo A) rr nr cw Q E Lt sa nw rc fc dr) (hM : moA X σ mo A cd nr cw F T sa rc QM drM) (hRL : RL nr cw Q E Lt sa nw rc fc dr F T QM drM) (ho : σ out = some (gs_la X 1 f)) {i cells slots : Nat} (hi : i + 6 ≤ L) (hce : cells + 6 ≤ 601024) (hsl : slots + 64 ≤ 7293034) {rl : Nat} (e1 : xs (i + 1) = nI rl) (hrl : rl < nr) (hok : wi3 72 (cw rl) (xs (i + 2)) (xs (i + 3)) (xs (i + 4)) = false) (kk : ∀ (σ' : gs_St) (H : Heap) (locs : List Loc), LI RL X σ' rr mo out A → gs_H X σ' H → va_S (gs_A X) s.heap H locs → ∀ ls, lv_has ls 7 [(4, .int (nI i)), (3, .ref out), (2, .ref mo), (1, .ref rr), (0, .ref sb)] → W p l e room_1 s m #[Value.ref sb] below meth c H locs (cells + 6) (slots + 64) (lw_Z below #[Value.ref sb] s) (F0 m 1085 ls [])) {H : Heap} {locs : List Loc} (hG : gs_H X σ H) (hS : va_S (gs_A X) s.heap H locs) {ls : Array Slot} (hl : lv_has ls 7 [(4, .int (nI i)), (3, .ref out), (2, .ref mo), (1, .ref rr), (0, .ref sb)]) : W p l e room_1 s m #[Value.ref sb] below meth c H locs cells slots (lw_Z below #[Value.ref sb] s) (F0 m 374 ls []) := by
  obtain ⟨hx, hb, hr, hml, hown, hts0, hX, hbl, hlocks, hgv⟩ := id C0
  have ht : ∀ w ∈ gs_w, w.before #[Value.ref sb] s = true := fun w h => hts0 w (List.mem_filter.mp h).1
  have hts : ∀ w ∈ (Cond.initialized "RuleRoundsLaw") :: gs_w, w.before #[Value.ref sb] s = true := fun w h => by
    rcases List.mem_cons.mp h with z | z
    · rw [z]; exact ht _ w_0
    · exact ht w z
  obtain ⟨gs, x0⟩ := hR.cell
  obtain ⟨Z, m0, z0⟩ := hM.cell
  have q0 := h0 _ _ _ _ _ _ _ _ _ _ _ _ _ _ hRL
  refine lv_aload_n hx hb d_LA_law_374 rfl (lv_at hl 3 rfl) ?_
  refine lv_aload_n hx hb d_LA_law_375 rfl (lv_at hl 4 rfl) ?_
  refine lv_iload hx hb d_LA_law_376 (lv_at hl 0 rfl) ?_
  refine lv_iconst (v := nI 1) hx hb d_LA_law_378 (by decide) ?_
  refine lv_iadd hx hb d_LA_law_379 ?_
  refine gs_top (nI_add i 1) ?_
  refine gs_sld hx hb hX hbl hbA hS (j := i + 1) (by omega) (by omega) d_LA_law_380 ?_
  refine gs_top (show xs (i + 1) = (nI rl) from e1) ?_
  refine lv_aload_n hx hb d_LA_law_381 rfl (lv_at hl 4 rfl) ?_
  refine lv_iload hx hb d_LA_law_382 (lv_at hl 0 rfl) ?_
  refine lv_iconst (v := nI 2) hx hb d_LA_law_384 (by decide) ?_
  refine lv_iadd hx hb d_LA_law_385 ?_
  refine gs_top (nI_add i 2) ?_
  refine gs_sld hx hb hX hbl hbA hS (j := i + 2) (by omega) (by omega) d_LA_law_386 ?_
  refine lv_aload_n hx hb d_LA_law_387 rfl (lv_at hl 4 rfl) ?_
  refine lv_iload hx hb d_LA_law_388 (lv_at hl 0 rfl) ?_
  refine lv_iconst (v := nI 3) hx hb d_LA_law_390 (by decide) ?_
  refine lv_iadd hx hb d_LA_law_391 ?_
  refine gs_top (nI_add i 3) ?_
  refine gs_sld hx hb hX hbl hbA hS (j := i + 3) (by omega) (by omega) d_LA_law_392 ?_
  refine lv_aload_n hx hb d_LA_law_393 rfl (lv_at hl 4 rfl) ?_
  refine lv_iload hx hb d_LA_law_394 (lv_at hl 0 rfl) ?_
  refine lv_iconst (v := nI 4) hx hb d_LA_law_396 (by decide) ?_
  refine lv_iadd hx hb d_LA_law_397 ?_
  refine gs_top (nI_add i 4) ?_
  refine gs_sld hx hb hX hbl hbA hS (j := i + 4) (by omega) (by omega) d_LA_law_398 ?_
  refine gs_callSiH (As := [.ref rr, .int (nI rl), .int (xs (i + 2)), .int (xs (i + 3)), .int (xs (i + 4))]) (rest := []) ⟨hx, hb, hml, hown, hts⟩ hK hE hz hG hS (c_LA_head_xI l X σ rr gs _ (nI rl) (xs (i + 2)) (xs (i + 3)) (xs (i + 4)) x0 ⟨by decide, by decide, by decide, by decide⟩ (c_rr_head_t l hR htr hrl hok)) mSH_LA_head w_423 rfl hl.1 rfl (Nat.le_of_ble_eq_true rfl) ⟨by decide, by decide⟩ ⟨(by first | (show cells + 6 ≤ 601024; omega) | (show cells ≤ 601024; omega)), (by first | (show slots + 64 ≤ 7293034; omega) | (show slots ≤ 7293034; omega))⟩ d_LA_law_399 (fun r_399 σ_399 H locs hp_399 hG hS => ?_)
  refine gs_top hp_399.1 ?_
  rw [hp_399.2] at hG
  refine lv_istore (lv' := [(5, .int (nI 1)), (4, .int (nI i)), (3, .ref out), (2, .ref mo), (1, .ref rr), (0, .ref sb)]) hx hb d_LA_law_402 hl (by decide) rfl (fun ls hl => ?_)
  refine lv_aload_n hx hb d_LA_law_404 rfl (lv_at hl 3 rfl) ?_
  refine lv_aload_n hx hb d_LA_law_405 rfl (lv_at hl 5 rfl) ?_
  refine lv_iload hx hb d_LA_law_406 (lv_at hl 1 rfl) ?_
  refine lv_iconst (v := nI 1) hx hb d_LA_law_408 (by decide) ?_
  refine lv_iadd hx hb d_LA_law_409 ?_
  refine gs_top (nI_add i 1) ?_
  refine gs_sld hx hb hX hbl hbA hS (j := i + 1) (by omega) (by omega) d_LA_law_410 ?_
  refine gs_top (show xs (i + 1) = (nI rl) from e1) ?_
  refine lv_aload_n hx hb d_LA_law_411 rfl (lv_at hl 5 rfl) ?_
  refine lv_iload hx hb d_LA_law_412 (lv_at hl 1 rfl) ?_
  refine lv_iconst (v := nI 2) hx hb d_LA_law_414 (by decide) ?_
  refine lv_iadd hx hb d_LA_law_415 ?_
  refine gs_top (nI_add i 2) ?_
  refine gs_sld hx hb hX hbl hbA hS (j := i + 2) (by omega) (by omega) d_LA_law_416 ?_
  refine lv_aload_n hx hb d_LA_law_417 rfl (lv_at hl 5 rfl) ?_
  refine lv_iload hx hb d_LA_law_418 (lv_at hl 1 rfl) ?_
  refine lv_iconst (v := nI 3) hx hb d_LA_law_420 (by decide) ?_
  refine lv_iadd hx hb d_LA_law_421 ?_
  refine gs_top (nI_add i 3) ?_
  refine gs_sld hx hb hX hbl hbA hS (j := i + 3) (by omega) (by omega) d_LA_law_422 ?_
  refine lv_aload_n hx hb d_LA_law_423 rfl (lv_at hl 5 rfl) ?_
  refine lv_iload hx hb d_LA_law_424 (lv_at hl 1 rfl) ?_
  refine lv_iconst (v := nI 4) hx hb d_LA_law_426 (by decide) ?_
  refine lv_iadd hx hb d_LA_law_427 ?_
  refine gs_top (nI_add i 4) ?_
  refine gs_sld hx hb hX hbl hbA hS (j := i + 4) (by omega) (by omega) d_LA_law_428 ?_
  refine gs_callVv (As := [.int (nI rl), .int (xs (i + 2)), .int (xs (i + 3)), .int (xs (i + 4))]) (rest := []) ⟨hx, hb, hml, hown, hts⟩ hK hE hz hG hS (c_MO_head_t l X σ mo A cd nr cw F T sa rc QM drM (nI rl) (xs (i + 2)) (xs (i + 3)) (xs (i + 4)) hM (by rw [fitR_n hrl hM.2.1]; exact hok)) mV_MO_head w_792 m0 rfl rfl hl.1 rfl (Nat.le_of_ble_eq_true rfl) ⟨by decide, by decide⟩ ⟨(by first | (show cells + 6 ≤ 601024; omega) | (show cells ≤ 601024; omega)), (by first | (show slots + 64 ≤ 7293034; omega) | (show slots ≤ 7293034; omega))⟩ d_LA_law_429 (fun σ_429 H locs hp_429 hG hS => ?_)
  obtain ⟨hM3, hf3⟩ := hp_429
  have hR3 := hR.mdl (hM.gG ho) hf3
  have ho3 := hf3 _ _ (out_nin hM ho) ho
  obtain ⟨Z3, m03, z03⟩ := hM3.cell
  refine lv_aload_n hx hb d_LA_law_432 rfl (lv_at hl 3 rfl) ?_
  refine gs_callVp (As := []) (rest := []) ⟨hx, hb, hml, hown, hts⟩ hK hE hz hG hS (c_MO_thrown l X σ_429 mo A Z3 m03) ⟨rfl, rfl⟩ mV_MO_thrown w_757 m03 rfl rfl hl.1 rfl (Nat.le_of_ble_eq_true rfl) ⟨by decide, by decide⟩ ⟨(by first | (show cells + 6 ≤ 601024; omega) | (show cells ≤ 601024; omega)), (by first | (show slots + 64 ≤ 7293034; omega) | (show slots ≤ 7293034; omega))⟩ d_LA_law_433 (fun r_433 hp_433 => ?_)
  refine gs_top (show r_433 = nI 1 from by rw [hp_433, z03]) ?_
  refine lv_iload hx hb d_LA_law_436 (lv_at hl 0 rfl) ?_
  refine lv_icmp_eq (tgt := 443) hx hb d_LA_law_438 (by decide) (fun c_438 => ?_) (fun c_438 => ?_)
  · have c_438 : 1 = 1 :=  (nI_eq (by omega) (by omega)).mp c_438
    refine lv_goto (tgt := 1085) hx hb d_LA_law_443 (by decide) ?_
    refine W.widen (k := cells + 6) (n := slots + 64) (by first | exact Nat.le_refl _ | exact Nat.le_add_right _ _) (by first | exact Nat.le_refl _ | exact Nat.le_add_right _ _) ?_
    exact kk σ_429 H locs ⟨_, _, _, _, _, _, _, _, _, _, _, _, _, _, _, _, hR3, hM3, hRL, ho3⟩ hG hS ls (lv_sub hl [1, 2, 3, 4, 5] rfl)
  · exact absurd c_438 (by decide)
set_option maxHeartbeats 4000000 in
set_option maxRecDepth 100000 in
theorem lb_head_ok {RL : RLT} (h0 : pe0 RL) (h_pe_head : pe_head RL) {p : Program} {e : Env} {s : State} {m : MethodId} {below : List Frame} {meth : Method} {c : Code} (l : Launch) {sb L : Nat} {xs : Nat → Int32} {X : gs_X} (htr : l.stackTraces = false) (C0 : lw_At p s m meth c sb L xs) (hL : L ≤ 3072) (hXX : X.2.1 3 ≠ X.2.1 2) (hK : gs_T X s) (hE : gs_E X s) (hz : X.2.2 ≤ s.heap.size) (hbA : ¬ gs_A X sb) {rr mo out : Nat} {A : Nat → Nat} {σ : gs_St} {nr : Nat} {cw : Nat → Nat} {Q : List Rl} {E : List En} {Lt : List Nat} {sa : Nat} {nw : Bool} {rc fc : Nat} {dr : Option Dr} {F : List (Nat × Nat)} {T : List MT} {QM : List MR} {drM : Option MR} {cd : Nat} {f : Nat → Int64} (hR : rrA X σ (out :: aM mo A) rr nr cw Q E Lt sa nw rc fc dr) (hM : moA X σ mo A cd nr cw F T sa rc QM drM) (hRL : RL nr cw Q E Lt sa nw rc fc dr F T QM drM) (ho : σ out = some (gs_la X 1 f)) {i cells slots : Nat} (hi : i + 6 ≤ L) (hce : cells + 6 ≤ 601024) (hsl : slots + 64 ≤ 7293034) {rl a b cz : Nat} (e1 : xs (i + 1) = nI rl) (e2 : xs (i + 2) = nI a) (e3 : xs (i + 3) = nI b) (e4 : xs (i + 4) = nI cz) (hrl : rl < nr) (ha : a < 72) (hb9 : b < 72) (hc9 : cz < 72) (hok : wi3 72 (cw rl) (nI a) (nI b) (nI cz) = true) (kk : ∀ (σ' : gs_St) (H : Heap) (locs : List Loc), LI RL X σ' rr mo out A → gs_H X σ' H → va_S (gs_A X) s.heap H locs → ∀ ls, lv_has ls 7 [(4, .int (nI i)), (3, .ref out), (2, .ref mo), (1, .ref rr), (0, .ref sb)] → W p l e room_1 s m #[Value.ref sb] below meth c H locs (cells + 6) (slots + 64) (lw_Z below #[Value.ref sb] s) (F0 m 1085 ls [])) {H : Heap} {locs : List Loc} (hG : gs_H X σ H) (hS : va_S (gs_A X) s.heap H locs) {ls : Array Slot} (hl : lv_has ls 7 [(4, .int (nI i)), (3, .ref out), (2, .ref mo), (1, .ref rr), (0, .ref sb)]) : W p l e room_1 s m #[Value.ref sb] below meth c H locs cells slots (lw_Z below #[Value.ref sb] s) (F0 m 374 ls []) := by
  obtain ⟨hx, hb, hr, hml, hown, hts0, hX, hbl, hlocks, hgv⟩ := id C0
  have ht : ∀ w ∈ gs_w, w.before #[Value.ref sb] s = true := fun w h => hts0 w (List.mem_filter.mp h).1
  have hts : ∀ w ∈ (Cond.initialized "RuleRoundsLaw") :: gs_w, w.before #[Value.ref sb] s = true := fun w h => by
    rcases List.mem_cons.mp h with z | z
    · rw [z]; exact ht _ w_0
    · exact ht w z
  obtain ⟨gs, x0⟩ := hR.cell
  obtain ⟨Z, m0, z0⟩ := hM.cell
  have q0 := h0 _ _ _ _ _ _ _ _ _ _ _ _ _ _ hRL
  refine lv_aload_n hx hb d_LA_law_374 rfl (lv_at hl 3 rfl) ?_
  refine lv_aload_n hx hb d_LA_law_375 rfl (lv_at hl 4 rfl) ?_
  refine lv_iload hx hb d_LA_law_376 (lv_at hl 0 rfl) ?_
  refine lv_iconst (v := nI 1) hx hb d_LA_law_378 (by decide) ?_
  refine lv_iadd hx hb d_LA_law_379 ?_
  refine gs_top (nI_add i 1) ?_
  refine gs_sld hx hb hX hbl hbA hS (j := i + 1) (by omega) (by omega) d_LA_law_380 ?_
  refine gs_top (show xs (i + 1) = (nI rl) from e1) ?_
  refine lv_aload_n hx hb d_LA_law_381 rfl (lv_at hl 4 rfl) ?_
  refine lv_iload hx hb d_LA_law_382 (lv_at hl 0 rfl) ?_
  refine lv_iconst (v := nI 2) hx hb d_LA_law_384 (by decide) ?_
  refine lv_iadd hx hb d_LA_law_385 ?_
  refine gs_top (nI_add i 2) ?_
  refine gs_sld hx hb hX hbl hbA hS (j := i + 2) (by omega) (by omega) d_LA_law_386 ?_
  refine gs_top (show xs (i + 2) = (nI a) from e2) ?_
  refine lv_aload_n hx hb d_LA_law_387 rfl (lv_at hl 4 rfl) ?_
  refine lv_iload hx hb d_LA_law_388 (lv_at hl 0 rfl) ?_
  refine lv_iconst (v := nI 3) hx hb d_LA_law_390 (by decide) ?_
  refine lv_iadd hx hb d_LA_law_391 ?_
  refine gs_top (nI_add i 3) ?_
  refine gs_sld hx hb hX hbl hbA hS (j := i + 3) (by omega) (by omega) d_LA_law_392 ?_
  refine gs_top (show xs (i + 3) = (nI b) from e3) ?_
  refine lv_aload_n hx hb d_LA_law_393 rfl (lv_at hl 4 rfl) ?_
  refine lv_iload hx hb d_LA_law_394 (lv_at hl 0 rfl) ?_
  refine lv_iconst (v := nI 4) hx hb d_LA_law_396 (by decide) ?_
  refine lv_iadd hx hb d_LA_law_397 ?_
  refine gs_top (nI_add i 4) ?_
  refine gs_sld hx hb hX hbl hbA hS (j := i + 4) (by omega) (by omega) d_LA_law_398 ?_
  refine gs_top (show xs (i + 4) = (nI cz) from e4) ?_
  refine gs_callSiH (As := [.ref rr, .int (nI rl), .int (nI a), .int (nI b), .int (nI cz)]) (rest := []) ⟨hx, hb, hml, hown, hts⟩ hK hE hz hG hS (c_LA_head l X σ rr gs _ (nI rl) (nI a) (nI b) (nI cz) _ x0 ⟨by decide, by decide, by decide, by decide⟩ (c_rr_head l hR hXX (hM.gG ho) hrl ha hb9 hc9 hok)) mSH_LA_head w_423 rfl hl.1 rfl (Nat.le_of_ble_eq_true rfl) ⟨by decide, by decide⟩ ⟨(by first | (show cells + 6 ≤ 601024; omega) | (show cells ≤ 601024; omega)), (by first | (show slots + 64 ≤ 7293034; omega) | (show slots ≤ 7293034; omega))⟩ d_LA_law_399 (fun r_399 σ_399 H locs hp_399 hG hS => ?_)
  obtain ⟨ek, hR9, hk9⟩ := hp_399
  refine gs_top ek ?_
  have hM2 := hM.kept (fun q hq e he => hk9 q (List.mem_cons_of_mem _ hq) e he)
  have ho2 := hk9 out List.mem_cons_self _ ho
  obtain ⟨Z2, m02, z02⟩ := hM2.cell
  refine lv_istore (lv' := [(5, .int (nI 0)), (4, .int (nI i)), (3, .ref out), (2, .ref mo), (1, .ref rr), (0, .ref sb)]) hx hb d_LA_law_402 hl (by decide) rfl (fun ls hl => ?_)
  refine lv_aload_n hx hb d_LA_law_404 rfl (lv_at hl 3 rfl) ?_
  refine lv_aload_n hx hb d_LA_law_405 rfl (lv_at hl 5 rfl) ?_
  refine lv_iload hx hb d_LA_law_406 (lv_at hl 1 rfl) ?_
  refine lv_iconst (v := nI 1) hx hb d_LA_law_408 (by decide) ?_
  refine lv_iadd hx hb d_LA_law_409 ?_
  refine gs_top (nI_add i 1) ?_
  refine gs_sld hx hb hX hbl hbA hS (j := i + 1) (by omega) (by omega) d_LA_law_410 ?_
  refine gs_top (show xs (i + 1) = (nI rl) from e1) ?_
  refine lv_aload_n hx hb d_LA_law_411 rfl (lv_at hl 5 rfl) ?_
  refine lv_iload hx hb d_LA_law_412 (lv_at hl 1 rfl) ?_
  refine lv_iconst (v := nI 2) hx hb d_LA_law_414 (by decide) ?_
  refine lv_iadd hx hb d_LA_law_415 ?_
  refine gs_top (nI_add i 2) ?_
  refine gs_sld hx hb hX hbl hbA hS (j := i + 2) (by omega) (by omega) d_LA_law_416 ?_
  refine gs_top (show xs (i + 2) = (nI a) from e2) ?_
  refine lv_aload_n hx hb d_LA_law_417 rfl (lv_at hl 5 rfl) ?_
  refine lv_iload hx hb d_LA_law_418 (lv_at hl 1 rfl) ?_
  refine lv_iconst (v := nI 3) hx hb d_LA_law_420 (by decide) ?_
  refine lv_iadd hx hb d_LA_law_421 ?_
  refine gs_top (nI_add i 3) ?_
  refine gs_sld hx hb hX hbl hbA hS (j := i + 3) (by omega) (by omega) d_LA_law_422 ?_
  refine gs_top (show xs (i + 3) = (nI b) from e3) ?_
  refine lv_aload_n hx hb d_LA_law_423 rfl (lv_at hl 5 rfl) ?_
  refine lv_iload hx hb d_LA_law_424 (lv_at hl 1 rfl) ?_
  refine lv_iconst (v := nI 4) hx hb d_LA_law_426 (by decide) ?_
  refine lv_iadd hx hb d_LA_law_427 ?_
  refine gs_top (nI_add i 4) ?_
  refine gs_sld hx hb hX hbl hbA hS (j := i + 4) (by omega) (by omega) d_LA_law_428 ?_
  refine gs_top (show xs (i + 4) = (nI cz) from e4) ?_
  refine gs_callVv (As := [.int (nI rl), .int (nI a), .int (nI b), .int (nI cz)]) (rest := []) ⟨hx, hb, hml, hown, hts⟩ hK hE hz hG hS (c_MO_head l X σ_399 mo A cd nr cw F T sa rc QM drM rl a b cz hM2 hrl ha hb9 hc9 hok) mV_MO_head w_792 m02 rfl rfl hl.1 rfl (Nat.le_of_ble_eq_true rfl) ⟨by decide, by decide⟩ ⟨(by first | (show cells + 6 ≤ 601024; omega) | (show cells ≤ 601024; omega)), (by first | (show slots + 64 ≤ 7293034; omega) | (show slots ≤ 7293034; omega))⟩ d_LA_law_429 (fun σ_429 H locs hp_429 hG hS => ?_)
  obtain ⟨hM3, hf3⟩ := hp_429
  have hR3 := hR9.mdl (hM2.gG ho2) hf3
  have ho3 := hf3 _ _ (out_nin hM2 ho2) ho2
  obtain ⟨Z3, m03, z03⟩ := hM3.cell
  refine lv_aload_n hx hb d_LA_law_432 rfl (lv_at hl 3 rfl) ?_
  refine gs_callVp (As := []) (rest := []) ⟨hx, hb, hml, hown, hts⟩ hK hE hz hG hS (c_MO_thrown l X σ_429 mo A Z3 m03) ⟨rfl, rfl⟩ mV_MO_thrown w_757 m03 rfl rfl hl.1 rfl (Nat.le_of_ble_eq_true rfl) ⟨by decide, by decide⟩ ⟨(by first | (show cells + 6 ≤ 601024; omega) | (show cells ≤ 601024; omega)), (by first | (show slots + 64 ≤ 7293034; omega) | (show slots ≤ 7293034; omega))⟩ d_LA_law_433 (fun r_433 hp_433 => ?_)
  refine gs_top (show r_433 = nI 0 from by rw [hp_433, z03]) ?_
  refine lv_iload hx hb d_LA_law_436 (lv_at hl 0 rfl) ?_
  refine lv_icmp_eq (tgt := 443) hx hb d_LA_law_438 (by decide) (fun c_438 => ?_) (fun c_438 => ?_)
  · have c_438 : 0 = 0 :=  (nI_eq (by omega) (by omega)).mp c_438
    refine lv_goto (tgt := 1085) hx hb d_LA_law_443 (by decide) ?_
    refine W.widen (k := cells + 6) (n := slots + 64) (by first | exact Nat.le_refl _ | exact Nat.le_add_right _ _) (by first | exact Nat.le_refl _ | exact Nat.le_add_right _ _) ?_
    exact kk σ_429 H locs ⟨_, _, _, _, _, _, _, _, _, _, _, _, _, _, _, _, hR3, hM3, (h_pe_head _ _ _ _ _ _ _ _ _ _ _ _ _ _ hRL rl a b cz hrl ha hb9 hc9 hok), ho3⟩ hG hS ls (lv_sub hl [1, 2, 3, 4, 5] rfl)
  · exact absurd c_438 (by decide)
