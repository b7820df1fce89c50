theorem ld_relation {RL : RLT} (pe : PE RL) {p : Program} {e : Env} {s : State} {m : MethodId} {below : List Frame} {meth : Method} {c : Code} (l : Launch) {sb L : Nat} {xs : Nat → Int32} {X : gs_X} (htr : l.stackTraces = false) (C0 : lw_At p s m meth c sb L xs) (hL : L ≤ 3072) (hXX : X.2.1 3 ≠ X.2.1 2) (hK : gs_T X s) (hE : gs_E X s) (hz : X.2.2 ≤ s.heap.size) (hbA : ¬ gs_A X sb) {rr mo out : Nat} {A : Nat → Nat} {σ : gs_St} (hLI : LI RL X σ rr mo out A) {i cells slots : Nat} (hi : i + 6 ≤ L) (hce : cells + 6 ≤ 601024) (hsl : slots + 64 ≤ 7293034) (kk : ∀ (σ' : gs_St) (H : Heap) (locs : List Loc), LI RL X σ' rr mo out A → gs_H X σ' H → va_S (gs_A X) s.heap H locs → ∀ ls, lv_has ls 7 [(4, .int (nI i)), (3, .ref out), (2, .ref mo), (1, .ref rr), (0, .ref sb)] → W p l e room_1 s m #[Value.ref sb] below meth c H locs (cells + 6) (slots + 64) (lw_Z below #[Value.ref sb] s) (F0 m 1085 ls [])) {H : Heap} {locs : List Loc} (hG : gs_H X σ H) (hS : va_S (gs_A X) s.heap H locs) {ls : Array Slot} (hl : lv_has ls 7 [(4, .int (nI i)), (3, .ref out), (2, .ref mo), (1, .ref rr), (0, .ref sb)]) : W p l e room_1 s m #[Value.ref sb] below meth c H locs cells slots (lw_Z below #[Value.ref sb] s) (F0 m 120 ls []) := by
  obtain ⟨nr, cw, Q, E, Lt, sa, nw, rc, fc, dr, F, T, QM, drM, cd, f, hR, hM, hRL, ho⟩ := hLI
  have hnr := hM.2.1
  have hFl := hM.2.2.1.1
  have q0 := pe.1 _ _ _ _ _ _ _ _ _ _ _ _ _ _ hRL
  by_cases h : ¬ xs (i + 1) < nI 1 ∧ xs (i + 1) ≤ nI 3
  · obtain ⟨wd, e1, hw1, hw3⟩ := wd_ex h
    by_cases h2 : nr < 12
    · exact lb_relation_ok pe.1 pe.2.1 l htr C0 hL hXX hK hE hz hbA hR hM hRL ho hi hce hsl e1 hw1 hw3 h2 kk hG hS hl
    · exact lb_relation_s pe.1  l htr C0 hL hXX hK hE hz hbA hR hM hRL ho hi hce hsl e1 hw1 hw3 (by omega) kk hG hS hl
  · exact lb_relation_t pe.1  l htr C0 hL hXX hK hE hz hbA hR hM hRL ho hi hce hsl h kk hG hS hl
theorem ld_fact {RL : RLT} (pe : PE RL) {p : Program} {e : Env} {s : State} {m : MethodId} {below : List Frame} {meth : Method} {c : Code} (l : Launch) {sb L : Nat} {xs : Nat → Int32} {X : gs_X} (htr : l.stackTraces = false) (C0 : lw_At p s m meth c sb L xs) (hL : L ≤ 3072) (hXX : X.2.1 3 ≠ X.2.1 2) (hK : gs_T X s) (hE : gs_E X s) (hz : X.2.2 ≤ s.heap.size) (hbA : ¬ gs_A X sb) {rr mo out : Nat} {A : Nat → Nat} {σ : gs_St} (hLI : LI RL X σ rr mo out A) {i cells slots : Nat} (hi : i + 6 ≤ L) (hce : cells + 6 ≤ 601024) (hsl : slots + 64 ≤ 7293034) (kk : ∀ (σ' : gs_St) (H : Heap) (locs : List Loc), LI RL X σ' rr mo out A → gs_H X σ' H → va_S (gs_A X) s.heap H locs → ∀ ls, lv_has ls 7 [(4, .int (nI i)), (3, .ref out), (2, .ref mo), (1, .ref rr), (0, .ref sb)] → W p l e room_1 s m #[Value.ref sb] below meth c H locs (cells + 6) (slots + 64) (lw_Z below #[Value.ref sb] s) (F0 m 1085 ls [])) {H : Heap} {locs : List Loc} (hG : gs_H X σ H) (hS : va_S (gs_A X) s.heap H locs) {ls : Array Slot} (hl : lv_has ls 7 [(4, .int (nI i)), (3, .ref out), (2, .ref mo), (1, .ref rr), (0, .ref sb)]) : W p l e room_1 s m #[Value.ref sb] below meth c H locs cells slots (lw_Z below #[Value.ref sb] s) (F0 m 176 ls []) := by
  obtain ⟨nr, cw, Q, E, Lt, sa, nw, rc, fc, dr, F, T, QM, drM, cd, f, hR, hM, hRL, ho⟩ := hLI
  have hnr := hM.2.1
  have hFl := hM.2.2.1.1
  have q0 := pe.1 _ _ _ _ _ _ _ _ _ _ _ _ _ _ hRL
  rcases wi_cases nr (xs (i + 1)) (by omega) with hr | ⟨rl, e1, hrl⟩
  · exact lb_fact_r pe.1  l htr C0 hL hXX hK hE hz hbA hR hM hRL ho hi hce hsl hr kk hG hS hl
  · cases ht : wi3 64 (cw rl) (xs (i + 2)) (xs (i + 3)) (xs (i + 4)) with
    | false => exact lb_fact_t pe.1  l htr C0 hL hXX hK hE hz hbA hR hM hRL ho hi hce hsl e1 hrl ht kk hG hS hl
    | true =>
      obtain ⟨a, b, cz, e2, ha, e3, hb9, e4, hc9⟩ := tup_ex (by decide) (by decide) ht
      have hok : wi3 64 (cw rl) (nI a) (nI b) (nI cz) = true := by rw [← e2, ← e3, ← e4]; exact ht
      by_cases hin : fIx F (rl, a * 4096 + b * 64 + cz) < F.length
      · exact lb_fact_o pe.1 pe.2.2.1 l htr C0 hL hXX hK hE hz hbA hR hM hRL ho hi hce hsl e1 e2 e3 e4 hrl ha hb9 hc9 hok hin kk hG hS hl
      · by_cases hfu : F.length < 200
        · exact lb_fact_ok pe.1 pe.2.2.1 pe.2.2.2.1 l htr C0 hL hXX hK hE hz hbA hR hM hRL ho hi hce hsl e1 e2 e3 e4 hrl ha hb9 hc9 hok hin hfu kk hG hS hl
        · exact lb_fact_s pe.1 pe.2.2.1 l htr C0 hL hXX hK hE hz hbA hR hM hRL ho hi hce hsl e1 e2 e3 e4 hrl ha hb9 hc9 hok hin (by omega) kk hG hS hl
theorem ld_drop {RL : RLT} (pe : PE RL) {p : Program} {e : Env} {s : State} {m : MethodId} {below : List Frame} {meth : Method} {c : Code} (l : Launch) {sb L : Nat} {xs : Nat → Int32} {X : gs_X} (htr : l.stackTraces = false) (C0 : lw_At p s m meth c sb L xs) (hL : L ≤ 3072) (hXX : X.2.1 3 ≠ X.2.1 2) (hK : gs_T X s) (hE : gs_E X s) (hz : X.2.2 ≤ s.heap.size) (hbA : ¬ gs_A X sb) {rr mo out : Nat} {A : Nat → Nat} {σ : gs_St} (hLI : LI RL X σ rr mo out A) {i cells slots : Nat} (hi : i + 6 ≤ L) (hce : cells + 6 ≤ 601024) (hsl : slots + 64 ≤ 7293034) (kk : ∀ (σ' : gs_St) (H : Heap) (locs : List Loc), LI RL X σ' rr mo out A → gs_H X σ' H → va_S (gs_A X) s.heap H locs → ∀ ls, lv_has ls 7 [(4, .int (nI i)), (3, .ref out), (2, .ref mo), (1, .ref rr), (0, .ref sb)] → W p l e room_1 s m #[Value.ref sb] below meth c H locs (cells + 6) (slots + 64) (lw_Z below #[Value.ref sb] s) (F0 m 1085 ls [])) {H : Heap} {locs : List Loc} (hG : gs_H X σ H) (hS : va_S (gs_A X) s.heap H locs) {ls : Array Slot} (hl : lv_has ls 7 [(4, .int (nI i)), (3, .ref out), (2, .ref mo), (1, .ref rr), (0, .ref sb)]) : W p l e room_1 s m #[Value.ref sb] below meth c H locs cells slots (lw_Z below #[Value.ref sb] s) (F0 m 275 ls []) := by
  obtain ⟨nr, cw, Q, E, Lt, sa, nw, rc, fc, dr, F, T, QM, drM, cd, f, hR, hM, hRL, ho⟩ := hLI
  have hnr := hM.2.1
  have hFl := hM.2.2.1.1
  have q0 := pe.1 _ _ _ _ _ _ _ _ _ _ _ _ _ _ hRL
  rcases wi_cases nr (xs (i + 1)) (by omega) with hr | ⟨rl, e1, hrl⟩
  · exact lb_drop_r pe.1  l htr C0 hL hXX hK hE hz hbA hR hM hRL ho hi hce hsl hr kk hG hS hl
  · cases ht : wi3 64 (cw rl) (xs (i + 2)) (xs (i + 3)) (xs (i + 4)) with
    | false => exact lb_drop_t pe.1  l htr C0 hL hXX hK hE hz hbA hR hM hRL ho hi hce hsl e1 hrl ht kk hG hS hl
    | true =>
      obtain ⟨a, b, cz, e2, ha, e3, hb9, e4, hc9⟩ := tup_ex (by decide) (by decide) ht
      have hok : wi3 64 (cw rl) (nI a) (nI b) (nI cz) = true := by rw [← e2, ← e3, ← e4]; exact ht
      by_cases hin : fIx F (rl, a * 4096 + b * 64 + cz) < F.length
      · exact lb_drop_ok pe.1 pe.2.2.1 pe.2.2.2.2.1 l htr C0 hL hXX hK hE hz hbA hR hM hRL ho hi hce hsl e1 e2 e3 e4 hrl ha hb9 hc9 hok hin kk hG hS hl
      · exact lb_drop_o pe.1 pe.2.2.1 l htr C0 hL hXX hK hE hz hbA hR hM hRL ho hi hce hsl e1 e2 e3 e4 hrl ha hb9 hc9 hok hin kk hG hS hl
theorem ld_has {RL : RLT} (pe : PE RL) {p : Program} {e : Env} {s : State} {m : MethodId} {below : List Frame} {meth : Method} {c : Code} (l : Launch) {sb L : Nat} {xs : Nat → Int32} {X : gs_X} (htr : l.stackTraces = false) (C0 : lw_At p s m meth c sb L xs) (hL : L ≤ 3072) (hXX : X.2.1 3 ≠ X.2.1 2) (hK : gs_T X s) (hE : gs_E X s) (hz : X.2.2 ≤ s.heap.size) (hbA : ¬ gs_A X sb) {rr mo out : Nat} {A : Nat → Nat} {σ : gs_St} (hLI : LI RL X σ rr mo out A) {i cells slots : Nat} (hi : i + 6 ≤ L) (hce : cells + 6 ≤ 601024) (hsl : slots + 64 ≤ 7293034) (kk : ∀ (σ' : gs_St) (H : Heap) (locs : List Loc), LI RL X σ' rr mo out A → gs_H X σ' H → va_S (gs_A X) s.heap H locs → ∀ ls, lv_has ls 7 [(4, .int (nI i)), (3, .ref out), (2, .ref mo), (1, .ref rr), (0, .ref sb)] → W p l e room_1 s m #[Value.ref sb] below meth c H locs (cells + 6) (slots + 64) (lw_Z below #[Value.ref sb] s) (F0 m 1085 ls [])) {H : Heap} {locs : List Loc} (hG : gs_H X σ H) (hS : va_S (gs_A X) s.heap H locs) {ls : Array Slot} (hl : lv_has ls 7 [(4, .int (nI i)), (3, .ref out), (2, .ref mo), (1, .ref rr), (0, .ref sb)]) : W p l e room_1 s m #[Value.ref sb] below meth c H locs cells slots (lw_Z below #[Value.ref sb] s) (F0 m 758 ls []) := by
  obtain ⟨nr, cw, Q, E, Lt, sa, nw, rc, fc, dr, F, T, QM, drM, cd, f, hR, hM, hRL, ho⟩ := hLI
  have hnr := hM.2.1
  have hFl := hM.2.2.1.1
  have q0 := pe.1 _ _ _ _ _ _ _ _ _ _ _ _ _ _ hRL
  rcases wi_cases nr (xs (i + 1)) (by omega) with hr | ⟨rl, e1, hrl⟩
  · exact lb_has_r pe.1  l htr C0 hL hXX hK hE hz hbA hR hM hRL ho hi hce hsl hr kk hG hS hl
  · cases ht : wi3 64 (cw rl) (xs (i + 2)) (xs (i + 3)) (xs (i + 4)) with
    | false => exact lb_has_t pe.1  l htr C0 hL hXX hK hE hz hbA hR hM hRL ho hi hce hsl e1 hrl ht kk hG hS hl
    | true =>
      obtain ⟨a, b, cz, e2, ha, e3, hb9, e4, hc9⟩ := tup_ex (by decide) (by decide) ht
      have hok : wi3 64 (cw rl) (nI a) (nI b) (nI cz) = true := by rw [← e2, ← e3, ← e4]; exact ht
      exact lb_has_ok pe.1 pe.2.2.2.2.2.2.2.2.2.2.2.2.2.2.2.2.2.2.1 l htr C0 hL hXX hK hE hz hbA hR hM hRL ho hi hce hsl e1 e2 e3 e4 hrl ha hb9 hc9 hok kk hG hS hl
theorem ld_head {RL : RLT} (pe : PE RL) {p : Program} {e : Env} {s : State} {m : MethodId} {below : List Frame} {meth : Method} {c : Code} (l : Launch) {sb L : Nat} {xs : Nat → Int32} {X : gs_X} (htr : l.stackTraces = false) (C0 : lw_At p s m meth c sb L xs) (hL : L ≤ 3072) (hXX : X.2.1 3 ≠ X.2.1 2) (hK : gs_T X s) (hE : gs_E X s) (hz : X.2.2 ≤ s.heap.size) (hbA : ¬ gs_A X sb) {rr mo out : Nat} {A : Nat → Nat} {σ : gs_St} (hLI : LI RL X σ rr mo out A) {i cells slots : Nat} (hi : i + 6 ≤ L) (hce : cells + 6 ≤ 601024) (hsl : slots + 64 ≤ 7293034) (kk : ∀ (σ' : gs_St) (H : Heap) (locs : List Loc), LI RL X σ' rr mo out A → gs_H X σ' H → va_S (gs_A X) s.heap H locs → ∀ ls, lv_has ls 7 [(4, .int (nI i)), (3, .ref out), (2, .ref mo), (1, .ref rr), (0, .ref sb)] → W p l e room_1 s m #[Value.ref sb] below meth c H locs (cells + 6) (slots + 64) (lw_Z below #[Value.ref sb] s) (F0 m 1085 ls [])) {H : Heap} {locs : List Loc} (hG : gs_H X σ H) (hS : va_S (gs_A X) s.heap H locs) {ls : Array Slot} (hl : lv_has ls 7 [(4, .int (nI i)), (3, .ref out), (2, .ref mo), (1, .ref rr), (0, .ref sb)]) : W p l e room_1 s m #[Value.ref sb] below meth c H locs cells slots (lw_Z below #[Value.ref sb] s) (F0 m 374 ls []) := by
  obtain ⟨nr, cw, Q, E, Lt, sa, nw, rc, fc, dr, F, T, QM, drM, cd, f, hR, hM, hRL, ho⟩ := hLI
  have hnr := hM.2.1
  have hFl := hM.2.2.1.1
  have q0 := pe.1 _ _ _ _ _ _ _ _ _ _ _ _ _ _ hRL
  rcases wi_cases nr (xs (i + 1)) (by omega) with hr | ⟨rl, e1, hrl⟩
  · exact lb_head_r pe.1  l htr C0 hL hXX hK hE hz hbA hR hM hRL ho hi hce hsl hr kk hG hS hl
  · cases ht : wi3 72 (cw rl) (xs (i + 2)) (xs (i + 3)) (xs (i + 4)) with
    | false => exact lb_head_t pe.1  l htr C0 hL hXX hK hE hz hbA hR hM hRL ho hi hce hsl e1 hrl ht kk hG hS hl
    | true =>
      obtain ⟨a, b, cz, e2, ha, e3, hb9, e4, hc9⟩ := tup_ex (by decide) (by decide) ht
      have hok : wi3 72 (cw rl) (nI a) (nI b) (nI cz) = true := by rw [← e2, ← e3, ← e4]; exact ht
      exact lb_head_ok pe.1 pe.2.2.2.2.2.1 l htr C0 hL hXX hK hE hz hbA hR hM hRL ho hi hce hsl e1 e2 e3 e4 hrl ha hb9 hc9 hok kk hG hS hl
theorem ld_like {RL : RLT} (pe : PE RL) {p : Program} {e : Env} {s : State} {m : MethodId} {below : List Frame} {meth : Method} {c : Code} (l : Launch) {sb L : Nat} {xs : Nat → Int32} {X : gs_X} (htr : l.stackTraces = false) (C0 : lw_At p s m meth c sb L xs) (hL : L ≤ 3072) (hXX : X.2.1 3 ≠ X.2.1 2) (hK : gs_T X s) (hE : gs_E X s) (hz : X.2.2 ≤ s.heap.size) (hbA : ¬ gs_A X sb) {rr mo out : Nat} {A : Nat → Nat} {σ : gs_St} (hLI : LI RL X σ rr mo out A) {i cells slots : Nat} (hi : i + 6 ≤ L) (hce : cells + 6 ≤ 601024) (hsl : slots + 64 ≤ 7293034) (kk : ∀ (σ' : gs_St) (H : Heap) (locs : List Loc), LI RL X σ' rr mo out A → gs_H X σ' H → va_S (gs_A X) s.heap H locs → ∀ ls, lv_has ls 7 [(4, .int (nI i)), (3, .ref out), (2, .ref mo), (1, .ref rr), (0, .ref sb)] → W p l e room_1 s m #[Value.ref sb] below meth c H locs (cells + 6) (slots + 64) (lw_Z below #[Value.ref sb] s) (F0 m 1085 ls [])) {H : Heap} {locs : List Loc} (hG : gs_H X σ H) (hS : va_S (gs_A X) s.heap H locs) {ls : Array Slot} (hl : lv_has ls 7 [(4, .int (nI i)), (3, .ref out), (2, .ref mo), (1, .ref rr), (0, .ref sb)]) : W p l e room_1 s m #[Value.ref sb] below meth c H locs cells slots (lw_Z below #[Value.ref sb] s) (F0 m 937 ls []) := by
  obtain ⟨nr, cw, Q, E, Lt, sa, nw, rc, fc, dr, F, T, QM, drM, cd, f, hR, hM, hRL, ho⟩ := hLI
  have hnr := hM.2.1
  have hFl := hM.2.2.1.1
  have q0 := pe.1 _ _ _ _ _ _ _ _ _ _ _ _ _ _ hRL
  rcases wi_cases nr (xs (i + 1)) (by omega) with hr | ⟨rl, e1, hrl⟩
  · exact lb_like_r pe.1  l htr C0 hL hXX hK hE hz hbA hR hM hRL ho hi hce hsl hr kk hG hS hl
  · cases ht : wi3 72 (cw rl) (xs (i + 2)) (xs (i + 3)) (xs (i + 4)) with
    | false => exact lb_like_t pe.1  l htr C0 hL hXX hK hE hz hbA hR hM hRL ho hi hce hsl e1 hrl ht kk hG hS hl
    | true =>
      obtain ⟨a, b, cz, e2, ha, e3, hb9, e4, hc9⟩ := tup_ex (by decide) (by decide) ht
      have hok : wi3 72 (cw rl) (nI a) (nI b) (nI cz) = true := by rw [← e2, ← e3, ← e4]; exact ht
      exact lb_like_ok pe.1 pe.2.2.2.2.2.2.2.2.2.2.2.2.2.2.2.2.2.2.2.2.1 l htr C0 hL hXX hK hE hz hbA hR hM hRL ho hi hce hsl e1 e2 e3 e4 hrl ha hb9 hc9 hok kk hG hS hl
theorem ld_item {RL : RLT} (pe : PE RL) {p : Program} {e : Env} {s : State} {m : MethodId} {below : List Frame} {meth : Method} {c : Code} (l : Launch) {sb L : Nat} {xs : Nat → Int32} {X : gs_X} (htr : l.stackTraces = false) (C0 : lw_At p s m meth c sb L xs) (hL : L ≤ 3072) (hXX : X.2.1 3 ≠ X.2.1 2) (hK : gs_T X s) (hE : gs_E X s) (hz : X.2.2 ≤ s.heap.size) (hbA : ¬ gs_A X sb) {rr mo out : Nat} {A : Nat → Nat} {σ : gs_St} (hLI : LI RL X σ rr mo out A) {i cells slots : Nat} (hi : i + 6 ≤ L) (hce : cells + 6 ≤ 601024) (hsl : slots + 64 ≤ 7293034) (kk : ∀ (σ' : gs_St) (H : Heap) (locs : List Loc), LI RL X σ' rr mo out A → gs_H X σ' H → va_S (gs_A X) s.heap H locs → ∀ ls, lv_has ls 7 [(4, .int (nI i)), (3, .ref out), (2, .ref mo), (1, .ref rr), (0, .ref sb)] → W p l e room_1 s m #[Value.ref sb] below meth c H locs (cells + 6) (slots + 64) (lw_Z below #[Value.ref sb] s) (F0 m 1085 ls [])) {H : Heap} {locs : List Loc} (hG : gs_H X σ H) (hS : va_S (gs_A X) s.heap H locs) {ls : Array Slot} (hl : lv_has ls 7 [(4, .int (nI i)), (3, .ref out), (2, .ref mo), (1, .ref rr), (0, .ref sb)]) : W p l e room_1 s m #[Value.ref sb] below meth c H locs cells slots (lw_Z below #[Value.ref sb] s) (F0 m 446 ls []) := by
  obtain ⟨nr, cw, Q, E, Lt, sa, nw, rc, fc, dr, F, T, QM, drM, cd, f, hR, hM, hRL, ho⟩ := hLI
  have hnr := hM.2.1
  have hFl := hM.2.2.1.1
  have q0 := pe.1 _ _ _ _ _ _ _ _ _ _ _ _ _ _ hRL
  by_cases hk : ¬ xs (i + 1) < 0 ∧ xs (i + 1) ≤ nI 3
  · obtain ⟨kd, e1, hk3⟩ := kd_ex hk
    by_cases h2 : kd ≤ 1
    · rcases wi_cases nr (xs (i + 2)) (by omega) with hr | ⟨rl, e2, hrl⟩
      · exact lb_item_r pe.1  l htr C0 hL hXX hK hE hz hbA hR hM hRL ho hi hce hsl e1 h2 hr kk hG hS hl
      · cases ht : wi3 72 (cw rl) (xs (i + 3)) (xs (i + 4)) (xs (i + 5)) with
        | false => exact lb_item_t pe.1  l htr C0 hL hXX hK hE hz hbA hR hM hRL ho hi hce hsl e1 e2 h2 hrl ht kk hG hS hl
        | true =>
          cases hdm : drM with
          | none =>
            have hdn : dr = none := q0.2.2.2.2.2.2.2.2.2.mpr hdm
            subst hdm
            subst hdn
            exact lb_item_tn pe.1  l htr C0 hL hXX hK hE hz hbA hR hM hRL ho hi hce hsl e1 e2 h2 hrl ht kk hG hS hl
          | some R =>
            subst hdm
            obtain ⟨⟨th, hs, ks, kn⟩, hds⟩ : ∃ D, dr = some D := Option.ne_none_iff_exists'.mp (fun z => by have := q0.2.2.2.2.2.2.2.2.2.mp z; cases this)
            subst hds
            obtain ⟨_, _, _, _, _, _, _, _, _, _, _, hru, _⟩ := id hM
            obtain ⟨f18, f19, f20, f21, f22, f23, m18, m19, m20, m21, m22, m23, hQl, hQ, hdr⟩ := hru
            have hRB := (hdr R rfl).2
            have hRl : R.2.length ≤ 6 := hRB.2.2.1
            have hRh : hl0 R ≤ 3 := hRB.2.2.2.1
            by_cases hfu : R.2.length = 6 ∨ (kd = 0 ∧ hl0 R = 3)
            · exact lb_item_tf pe.1 pe.2.2.2.2.2.2.1 l htr C0 hL hXX hK hE hz hbA hR hM hRL ho hi hce hsl e1 e2 h2 hrl ht hfu kk hG hS hl
            · obtain ⟨a, b, cz, e3, ha, e4, hb9, e5, hc9⟩ := tup_ex (by decide) (by decide) ht
              have hok : wi3 72 (cw rl) (nI a) (nI b) (nI cz) = true := by rw [← e3, ← e4, ← e5]; exact ht
              rcases (show kd = 0 ∨ kd = 1 by omega) with rfl | rfl
              · exact lb_item_h pe.1 pe.2.2.2.2.2.2.1 pe.2.2.2.2.2.2.2.1 l htr C0 hL hXX hK hE hz hbA hR hM hRL ho hi hce hsl e1 e2 e3 e4 e5 hrl ha hb9 hc9 hok (by omega) (by omega) kk hG hS hl
              · exact lb_item_n pe.1 pe.2.2.2.2.2.2.1 pe.2.2.2.2.2.2.2.2.1 l htr C0 hL hXX hK hE hz hbA hR hM hRL ho hi hce hsl e1 e2 e3 e4 e5 hrl ha hb9 hc9 hok (by omega) kk hG hS hl
    · have hkd : kd = 2 ∨ kd = 3 := by omega
      by_cases hc : xs (i + 2) = 0 ∧ wi3 72 2 (xs (i + 3)) (xs (i + 4)) (xs (i + 5)) = true
      · have e2 : xs (i + 2) = nI 0 := hc.1
        cases hdm : drM with
        | none =>
          have hdn : dr = none := q0.2.2.2.2.2.2.2.2.2.mpr hdm
          subst hdm
          subst hdn
          exact lb_item_cn pe.1  l htr C0 hL hXX hK hE hz hbA hR hM hRL ho hi hce hsl e1 e2 hkd hc.2 kk hG hS hl
        | some R =>
          subst hdm
          obtain ⟨⟨th, hs, ks, kn⟩, hds⟩ : ∃ D, dr = some D := Option.ne_none_iff_exists'.mp (fun z => by have := q0.2.2.2.2.2.2.2.2.2.mp z; cases this)
          subst hds
          obtain ⟨_, _, _, _, _, _, _, _, _, _, _, hru, _⟩ := id hM
          obtain ⟨f18, f19, f20, f21, f22, f23, m18, m19, m20, m21, m22, m23, hQl, hQ, hdr⟩ := hru
          have hRB := (hdr R rfl).2
          have hRl : R.2.length ≤ 6 := hRB.2.2.1
          have hRh : hl0 R ≤ 3 := hRB.2.2.2.1
          by_cases hfu : R.2.length = 6 ∨ (kd = 0 ∧ hl0 R = 3)
          · exact lb_item_cf pe.1 pe.2.2.2.2.2.2.1 l htr C0 hL hXX hK hE hz hbA hR hM hRL ho hi hce hsl e1 e2 hkd hc.2 hfu kk hG hS hl
          · obtain ⟨a, b, cz, e3, ha, e4, hb9, e5, hc9⟩ := tup_ex (by decide) (by decide) hc.2
            have hok : wi3 72 2 (nI a) (nI b) (nI cz) = true := by rw [← e3, ← e4, ← e5]; exact hc.2
            exact lb_item_cok pe.1 pe.2.2.2.2.2.2.1 pe.2.2.2.2.2.2.2.2.2.1 l htr C0 hL hXX hK hE hz hbA hR hM hRL ho hi hce hsl e1 e2 e3 e4 e5 hkd ha hb9 hc9 hok (by omega) kk hG hS hl
      · exact lb_item_c pe.1  l htr C0 hL hXX hK hE hz hbA hR hM hRL ho hi hce hsl e1 hkd hc kk hG hS hl
  · exact lb_item_k pe.1  l htr C0 hL hXX hK hE hz hbA hR hM hRL ho hi hce hsl hk kk hG hS hl
theorem ld_rule {RL : RLT} (pe : PE RL) {p : Program} {e : Env} {s : State} {m : MethodId} {below : List Frame} {meth : Method} {c : Code} (l : Launch) {sb L : Nat} {xs : Nat → Int32} {X : gs_X} (htr : l.stackTraces = false) (C0 : lw_At p s m meth c sb L xs) (hL : L ≤ 3072) (hXX : X.2.1 3 ≠ X.2.1 2) (hK : gs_T X s) (hE : gs_E X s) (hz : X.2.2 ≤ s.heap.size) (hbA : ¬ gs_A X sb) {rr mo out : Nat} {A : Nat → Nat} {σ : gs_St} (hLI : LI RL X σ rr mo out A) {i cells slots : Nat} (hi : i + 6 ≤ L) (hce : cells + 6 ≤ 601024) (hsl : slots + 64 ≤ 7293034) (kk : ∀ (σ' : gs_St) (H : Heap) (locs : List Loc), LI RL X σ' rr mo out A → gs_H X σ' H → va_S (gs_A X) s.heap H locs → ∀ ls, lv_has ls 7 [(4, .int (nI i)), (3, .ref out), (2, .ref mo), (1, .ref rr), (0, .ref sb)] → W p l e room_1 s m #[Value.ref sb] below meth c H locs (cells + 6) (slots + 64) (lw_Z below #[Value.ref sb] s) (F0 m 1085 ls [])) {H : Heap} {locs : List Loc} (hG : gs_H X σ H) (hS : va_S (gs_A X) s.heap H locs) {ls : Array Slot} (hl : lv_has ls 7 [(4, .int (nI i)), (3, .ref out), (2, .ref mo), (1, .ref rr), (0, .ref sb)]) : W p l e room_1 s m #[Value.ref sb] below meth c H locs cells slots (lw_Z below #[Value.ref sb] s) (F0 m 550 ls []) := by
  obtain ⟨nr, cw, Q, E, Lt, sa, nw, rc, fc, dr, F, T, QM, drM, cd, f, hR, hM, hRL, ho⟩ := hLI
  have hnr := hM.2.1
  have hFl := hM.2.2.1.1
  have q0 := pe.1 _ _ _ _ _ _ _ _ _ _ _ _ _ _ hRL
  cases hdm : drM with
  | none =>
    have hdn : dr = none := q0.2.2.2.2.2.2.2.2.2.mpr hdm
    subst hdm
    subst hdn
    exact lb_rule_n pe.1  l htr C0 hL hXX hK hE hz hbA hR hM hRL ho hi hce hsl  kk hG hS hl
  | some R =>
    subst hdm
    obtain ⟨⟨th, hs, ks, kn⟩, hds⟩ : ∃ D, dr = some D := Option.ne_none_iff_exists'.mp (fun z => by have := q0.2.2.2.2.2.2.2.2.2.mp z; cases this)
    subst hds
    obtain ⟨_, _, _, _, _, _, _, _, _, _, _, hru, _⟩ := id hM
    obtain ⟨f18, f19, f20, f21, f22, f23, m18, m19, m20, m21, m22, m23, hQl, hQ, hdr⟩ := hru
    have hRB := (hdr R rfl).2
    have hRl : R.2.length ≤ 6 := hRB.2.2.1
    have hRh : hl0 R ≤ 3 := hRB.2.2.2.1
    by_cases hq : QM.length < 24
    · cases hsf : sfJ R 3 with
      | false => exact lb_rule_u pe.1 pe.2.2.2.2.2.2.2.2.2.2.1 pe.2.2.2.2.2.2.2.2.2.2.2.2.1 l htr C0 hL hXX hK hE hz hbA hR hM hRL ho hi hce hsl hq hsf kk hG hS hl
      | true => exact lb_rule_ok pe.1 pe.2.2.2.2.2.2.2.2.2.2.1 pe.2.2.2.2.2.2.2.2.2.2.2.1 l htr C0 hL hXX hK hE hz hbA hR hM hRL ho hi hce hsl hq hsf kk hG hS hl
    · exact lb_rule_f pe.1  l htr C0 hL hXX hK hE hz hbA hR hM hRL ho hi hce hsl (by omega) kk hG hS hl
theorem ld_stratum {RL : RLT} (pe : PE RL) {p : Program} {e : Env} {s : State} {m : MethodId} {below : List Frame} {meth : Method} {c : Code} (l : Launch) {sb L : Nat} {xs : Nat → Int32} {X : gs_X} (htr : l.stackTraces = false) (C0 : lw_At p s m meth c sb L xs) (hL : L ≤ 3072) (hXX : X.2.1 3 ≠ X.2.1 2) (hK : gs_T X s) (hE : gs_E X s) (hz : X.2.2 ≤ s.heap.size) (hbA : ¬ gs_A X sb) {rr mo out : Nat} {A : Nat → Nat} {σ : gs_St} (hLI : LI RL X σ rr mo out A) {i cells slots : Nat} (hi : i + 6 ≤ L) (hce : cells + 6 ≤ 601024) (hsl : slots + 64 ≤ 7293034) (kk : ∀ (σ' : gs_St) (H : Heap) (locs : List Loc), LI RL X σ' rr mo out A → gs_H X σ' H → va_S (gs_A X) s.heap H locs → ∀ ls, lv_has ls 7 [(4, .int (nI i)), (3, .ref out), (2, .ref mo), (1, .ref rr), (0, .ref sb)] → W p l e room_1 s m #[Value.ref sb] below meth c H locs (cells + 6) (slots + 64) (lw_Z below #[Value.ref sb] s) (F0 m 1085 ls [])) {H : Heap} {locs : List Loc} (hG : gs_H X σ H) (hS : va_S (gs_A X) s.heap H locs) {ls : Array Slot} (hl : lv_has ls 7 [(4, .int (nI i)), (3, .ref out), (2, .ref mo), (1, .ref rr), (0, .ref sb)]) : W p l e room_1 s m #[Value.ref sb] below meth c H locs cells slots (lw_Z below #[Value.ref sb] s) (F0 m 607 ls []) := by
  obtain ⟨nr, cw, Q, E, Lt, sa, nw, rc, fc, dr, F, T, QM, drM, cd, f, hR, hM, hRL, ho⟩ := hLI
  have hnr := hM.2.1
  have hFl := hM.2.2.1.1
  have q0 := pe.1 _ _ _ _ _ _ _ _ _ _ _ _ _ _ hRL
  rcases wi_cases nr (xs (i + 1)) (by omega) with hr | ⟨rl, e1, hrl⟩
  · exact lb_stratum_r pe.1  l htr C0 hL hXX hK hE hz hbA hR hM hRL ho hi hce hsl hr kk hG hS hl
  · cases hmk : mok QM nr with
    | false => exact lb_stratum_s pe.1 pe.2.2.2.2.2.2.2.2.2.2.2.2.2.1 l htr C0 hL hXX hK hE hz hbA hR hM hRL ho hi hce hsl e1 hrl hmk kk hG hS hl
    | true => exact lb_stratum_ok pe.1 pe.2.2.2.2.2.2.2.2.2.2.2.2.2.1 pe.2.2.2.2.2.2.2.2.2.2.2.2.2.2.1 l htr C0 hL hXX hK hE hz hbA hR hM hRL ho hi hce hsl e1 hrl hmk kk hG hS hl
theorem ld_count {RL : RLT} (pe : PE RL) {p : Program} {e : Env} {s : State} {m : MethodId} {below : List Frame} {meth : Method} {c : Code} (l : Launch) {sb L : Nat} {xs : Nat → Int32} {X : gs_X} (htr : l.stackTraces = false) (C0 : lw_At p s m meth c sb L xs) (hL : L ≤ 3072) (hXX : X.2.1 3 ≠ X.2.1 2) (hK : gs_T X s) (hE : gs_E X s) (hz : X.2.2 ≤ s.heap.size) (hbA : ¬ gs_A X sb) {rr mo out : Nat} {A : Nat → Nat} {σ : gs_St} (hLI : LI RL X σ rr mo out A) {i cells slots : Nat} (hi : i + 6 ≤ L) (hce : cells + 6 ≤ 601024) (hsl : slots + 64 ≤ 7293034) (kk : ∀ (σ' : gs_St) (H : Heap) (locs : List Loc), LI RL X σ' rr mo out A → gs_H X σ' H → va_S (gs_A X) s.heap H locs → ∀ ls, lv_has ls 7 [(4, .int (nI i)), (3, .ref out), (2, .ref mo), (1, .ref rr), (0, .ref sb)] → W p l e room_1 s m #[Value.ref sb] below meth c H locs (cells + 6) (slots + 64) (lw_Z below #[Value.ref sb] s) (F0 m 1085 ls [])) {H : Heap} {locs : List Loc} (hG : gs_H X σ H) (hS : va_S (gs_A X) s.heap H locs) {ls : Array Slot} (hl : lv_has ls 7 [(4, .int (nI i)), (3, .ref out), (2, .ref mo), (1, .ref rr), (0, .ref sb)]) : W p l e room_1 s m #[Value.ref sb] below meth c H locs cells slots (lw_Z below #[Value.ref sb] s) (F0 m 702 ls []) := by
  obtain ⟨nr, cw, Q, E, Lt, sa, nw, rc, fc, dr, F, T, QM, drM, cd, f, hR, hM, hRL, ho⟩ := hLI
  have hnr := hM.2.1
  have hFl := hM.2.2.1.1
  have q0 := pe.1 _ _ _ _ _ _ _ _ _ _ _ _ _ _ hRL
  rcases wi_cases nr (xs (i + 1)) (by omega) with hr | ⟨rl, e1, hrl⟩
  · exact lb_count_r pe.1  l htr C0 hL hXX hK hE hz hbA hR hM hRL ho hi hce hsl hr kk hG hS hl
  · exact lb_count_ok pe.1 pe.2.2.2.2.2.2.2.2.2.2.2.2.2.2.2.2.2.1 l htr C0 hL hXX hK hE hz hbA hR hM hRL ho hi hce hsl e1 hrl kk hG hS hl
theorem ld_tuple {RL : RLT} (pe : PE RL) {p : Program} {e : Env} {s : State} {m : MethodId} {below : List Frame} {meth : Method} {c : Code} (l : Launch) {sb L : Nat} {xs : Nat → Int32} {X : gs_X} (htr : l.stackTraces = false) (C0 : lw_At p s m meth c sb L xs) (hL : L ≤ 3072) (hXX : X.2.1 3 ≠ X.2.1 2) (hK : gs_T X s) (hE : gs_E X s) (hz : X.2.2 ≤ s.heap.size) (hbA : ¬ gs_A X sb) {rr mo out : Nat} {A : Nat → Nat} {σ : gs_St} (hLI : LI RL X σ rr mo out A) {i cells slots : Nat} (hi : i + 6 ≤ L) (hce : cells + 6 ≤ 601024) (hsl : slots + 64 ≤ 7293034) (kk : ∀ (σ' : gs_St) (H : Heap) (locs : List Loc), LI RL X σ' rr mo out A → gs_H X σ' H → va_S (gs_A X) s.heap H locs → ∀ ls, lv_has ls 7 [(4, .int (nI i)), (3, .ref out), (2, .ref mo), (1, .ref rr), (0, .ref sb)] → W p l e room_1 s m #[Value.ref sb] below meth c H locs (cells + 6) (slots + 64) (lw_Z below #[Value.ref sb] s) (F0 m 1085 ls [])) {H : Heap} {locs : List Loc} (hG : gs_H X σ H) (hS : va_S (gs_A X) s.heap H locs) {ls : Array Slot} (hl : lv_has ls 7 [(4, .int (nI i)), (3, .ref out), (2, .ref mo), (1, .ref rr), (0, .ref sb)]) : W p l e room_1 s m #[Value.ref sb] below meth c H locs cells slots (lw_Z below #[Value.ref sb] s) (F0 m 857 ls []) := by
  obtain ⟨nr, cw, Q, E, Lt, sa, nw, rc, fc, dr, F, T, QM, drM, cd, f, hR, hM, hRL, ho⟩ := hLI
  have hnr := hM.2.1
  have hFl := hM.2.2.1.1
  have q0 := pe.1 _ _ _ _ _ _ _ _ _ _ _ _ _ _ hRL
  rcases wi_cases nr (xs (i + 1)) (by omega) with hr | ⟨rl, e1, hrl⟩
  · exact lb_tuple_r pe.1  l htr C0 hL hXX hK hE hz hbA hR hM hRL ho hi hce hsl hr kk hG hS hl
  · obtain ⟨pt1, pt2⟩ := pe.2.2.2.2.2.2.2.2.2.2.2.2.2.2.2.2.2.2.2.1 _ _ _ _ _ _ _ _ _ _ _ _ _ _ hRL rl hrl
    by_cases hat : (atT T (nI rl) (xs (i + 2)) T.length).isSome = true
    · obtain ⟨z1, z2⟩ := (pt1 _).mpr hat
      obtain ⟨pl, e2, hpl⟩ : ∃ pl, xs (i + 2) = nI pl ∧ pl < cb (cds E) ((rl + 1) * 262144) - cb (cds E) (rl * 262144) := by
        have hlen : cb (cds E) ((rl + 1) * 262144) - cb (cds E) (rl * 262144) ≤ 2 ^ 20 := by
          have h1 := cb_le (cds E) ((rl + 1) * 262144)
          have h2 : E.length ≤ 301 := by
            obtain ⟨ρ, dv, bk, tu, ma, la, cm, ac, ai, ab, lc, li, lb, mc, mi, mb, va, co, ru, sr, v, sf, cf, fR, dw, hI, hD⟩ := hR
            obtain ⟨r1, r2, r3, x0, hdv, _⟩ := hI
            obtain ⟨cs, ci, cr, ds, vs, a9, b9, c9, z9, d0, t0, t1, t2, t3, l0, l1, m0, m1, m2, m3, q0, q1, hB, _⟩ := hdv
            exact hB.2.1
          rw [cds_len] at h1
          omega
        exact wi_ex (b := cb (cds E) ((rl + 1) * 262144) - cb (cds E) (rl * 262144)) (by omega) (by unfold wi; rw [decide_eq_false z1, decide_eq_true z2]; rfl)
      by_cases hw : ¬ xs (i + 3) < 0 ∧ xs (i + 3) ≤ nI 4
      · obtain ⟨wh, e3, hwh⟩ := wh_ex hw
        obtain ⟨k9, hk9⟩ := Option.isSome_iff_exists.mp hat
        rw [e2] at hk9
        obtain ⟨x9, hx9⟩ := get_ex (L := T) (j := k9) (atT_lt _ _ hk9)
        exact lb_tuple_ok pe.1 pe.2.2.2.2.2.2.2.2.2.2.2.2.2.2.2.2.2.2.2.1 l htr C0 hL hXX hK hE hz hbA hR hM hRL ho hi hce hsl e1 hrl e2 e3 hpl hwh hk9 hx9 kk hG hS hl
      · exact lb_tuple_w pe.1  l htr C0 hL hXX hK hE hz hbA hR hM hRL ho hi hce hsl e1 hrl e2 hpl (wh_no hw) hw kk hG hS hl
    · exact lb_tuple_t pe.1 pe.2.2.2.2.2.2.2.2.2.2.2.2.2.2.2.2.2.2.2.1 l htr C0 hL hXX hK hE hz hbA hR hM hRL ho hi hce hsl e1 hrl hat kk hG hS hl
theorem ld_matches {RL : RLT} (pe : PE RL) {p : Program} {e : Env} {s : State} {m : MethodId} {below : List Frame} {meth : Method} {c : Code} (l : Launch) {sb L : Nat} {xs : Nat → Int32} {X : gs_X} (htr : l.stackTraces = false) (C0 : lw_At p s m meth c sb L xs) (hL : L ≤ 3072) (hXX : X.2.1 3 ≠ X.2.1 2) (hK : gs_T X s) (hE : gs_E X s) (hz : X.2.2 ≤ s.heap.size) (hbA : ¬ gs_A X sb) {rr mo out : Nat} {A : Nat → Nat} {σ : gs_St} (hLI : LI RL X σ rr mo out A) {i cells slots : Nat} (hi : i + 6 ≤ L) (hce : cells + 6 ≤ 601024) (hsl : slots + 64 ≤ 7293034) (kk : ∀ (σ' : gs_St) (H : Heap) (locs : List Loc), LI RL X σ' rr mo out A → gs_H X σ' H → va_S (gs_A X) s.heap H locs → ∀ ls, lv_has ls 7 [(4, .int (nI i)), (3, .ref out), (2, .ref mo), (1, .ref rr), (0, .ref sb)] → W p l e room_1 s m #[Value.ref sb] below meth c H locs (cells + 6) (slots + 64) (lw_Z below #[Value.ref sb] s) (F0 m 1085 ls [])) {H : Heap} {locs : List Loc} (hG : gs_H X σ H) (hS : va_S (gs_A X) s.heap H locs) {ls : Array Slot} (hl : lv_has ls 7 [(4, .int (nI i)), (3, .ref out), (2, .ref mo), (1, .ref rr), (0, .ref sb)]) : W p l e room_1 s m #[Value.ref sb] below meth c H locs cells slots (lw_Z below #[Value.ref sb] s) (F0 m 1029 ls []) := by
  obtain ⟨nr, cw, Q, E, Lt, sa, nw, rc, fc, dr, F, T, QM, drM, cd, f, hR, hM, hRL, ho⟩ := hLI
  have hnr := hM.2.1
  have hFl := hM.2.2.1.1
  have q0 := pe.1 _ _ _ _ _ _ _ _ _ _ _ _ _ _ hRL
  have hql := q0.2.2.2.2.2.2.1
  have hQ24 : QM.length ≤ 24 := by
    obtain ⟨_, _, _, _, _, _, _, _, _, _, _, ⟨f18, f19, f20, f21, f22, f23, m18, m19, m20, m21, m22, m23, hQl, _⟩, _⟩ := id hM
    exact hQl
  rcases wi_cases QM.length (xs (i + 1)) (by omega) with hr | ⟨qn, e1, hqn⟩
  · exact lb_matches_t pe.1  l htr C0 hL hXX hK hE hz hbA hR hM hRL ho hi hce hsl hr kk hG hS hl
  · obtain ⟨RM, hq2⟩ := get_ex (L := QM) (j := qn) hqn
    obtain ⟨RC, hq1⟩ := get_ex (L := Q) (j := qn) (by omega)
    exact lb_matches_ok pe.1 pe.2.2.2.2.2.2.2.2.2.2.2.2.2.2.2.2.2.2.2.2.2 l htr C0 hL hXX hK hE hz hbA hR hM hRL ho hi hce hsl e1 hq1 hq2 kk hG hS hl
theorem ld_strata {RL : RLT} (pe : PE RL) {p : Program} {e : Env} {s : State} {m : MethodId} {below : List Frame} {meth : Method} {c : Code} (l : Launch) {sb L : Nat} {xs : Nat → Int32} {X : gs_X} (htr : l.stackTraces = false) (C0 : lw_At p s m meth c sb L xs) (hL : L ≤ 3072) (hXX : X.2.1 3 ≠ X.2.1 2) (hK : gs_T X s) (hE : gs_E X s) (hz : X.2.2 ≤ s.heap.size) (hbA : ¬ gs_A X sb) {rr mo out : Nat} {A : Nat → Nat} {σ : gs_St} (hLI : LI RL X σ rr mo out A) {i cells slots : Nat} (hi : i + 6 ≤ L) (hce : cells + 6 ≤ 601024) (hsl : slots + 64 ≤ 7293034) (kk : ∀ (σ' : gs_St) (H : Heap) (locs : List Loc), LI RL X σ' rr mo out A → gs_H X σ' H → va_S (gs_A X) s.heap H locs → ∀ ls, lv_has ls 7 [(4, .int (nI i)), (3, .ref out), (2, .ref mo), (1, .ref rr), (0, .ref sb)] → W p l e room_1 s m #[Value.ref sb] below meth c H locs (cells + 6) (slots + 64) (lw_Z below #[Value.ref sb] s) (F0 m 1085 ls [])) {H : Heap} {locs : List Loc} (hG : gs_H X σ H) (hS : va_S (gs_A X) s.heap H locs) {ls : Array Slot} (hl : lv_has ls 7 [(4, .int (nI i)), (3, .ref out), (2, .ref mo), (1, .ref rr), (0, .ref sb)]) : W p l e room_1 s m #[Value.ref sb] below meth c H locs cells slots (lw_Z below #[Value.ref sb] s) (F0 m 594 ls []) := by
  obtain ⟨nr, cw, Q, E, Lt, sa, nw, rc, fc, dr, F, T, QM, drM, cd, f, hR, hM, hRL, ho⟩ := hLI
  have hnr := hM.2.1
  have hFl := hM.2.2.1.1
  have q0 := pe.1 _ _ _ _ _ _ _ _ _ _ _ _ _ _ hRL
  exact lb_strata pe.1 pe.2.2.2.2.2.2.2.2.2.2.2.2.2.1 l htr C0 hL hXX hK hE hz hbA hR hM hRL ho hi hce hsl  kk hG hS hl
theorem ld_step {RL : RLT} (pe : PE RL) {p : Program} {e : Env} {s : State} {m : MethodId} {below : List Frame} {meth : Method} {c : Code} (l : Launch) {sb L : Nat} {xs : Nat → Int32} {X : gs_X} (htr : l.stackTraces = false) (C0 : lw_At p s m meth c sb L xs) (hL : L ≤ 3072) (hXX : X.2.1 3 ≠ X.2.1 2) (hK : gs_T X s) (hE : gs_E X s) (hz : X.2.2 ≤ s.heap.size) (hbA : ¬ gs_A X sb) {rr mo out : Nat} {A : Nat → Nat} {σ : gs_St} (hLI : LI RL X σ rr mo out A) {i cells slots : Nat} (hi : i + 6 ≤ L) (hce : cells + 6 ≤ 601024) (hsl : slots + 64 ≤ 7293034) (kk : ∀ (σ' : gs_St) (H : Heap) (locs : List Loc), LI RL X σ' rr mo out A → gs_H X σ' H → va_S (gs_A X) s.heap H locs → ∀ ls, lv_has ls 7 [(4, .int (nI i)), (3, .ref out), (2, .ref mo), (1, .ref rr), (0, .ref sb)] → W p l e room_1 s m #[Value.ref sb] below meth c H locs (cells + 6) (slots + 64) (lw_Z below #[Value.ref sb] s) (F0 m 1085 ls [])) {H : Heap} {locs : List Loc} (hG : gs_H X σ H) (hS : va_S (gs_A X) s.heap H locs) {ls : Array Slot} (hl : lv_has ls 7 [(4, .int (nI i)), (3, .ref out), (2, .ref mo), (1, .ref rr), (0, .ref sb)]) : W p l e room_1 s m #[Value.ref sb] below meth c H locs cells slots (lw_Z below #[Value.ref sb] s) (F0 m 663 ls []) := by
  obtain ⟨nr, cw, Q, E, Lt, sa, nw, rc, fc, dr, F, T, QM, drM, cd, f, hR, hM, hRL, ho⟩ := hLI
  have hnr := hM.2.1
  have hFl := hM.2.2.1.1
  have q0 := pe.1 _ _ _ _ _ _ _ _ _ _ _ _ _ _ hRL
  exact lb_step pe.1 pe.2.2.2.2.2.2.2.2.2.2.2.2.2.2.2.1 l htr C0 hL hXX hK hE hz hbA hR hM hRL ho hi hce hsl  kk hG hS hl
theorem ld_run {RL : RLT} (pe : PE RL) {p : Program} {e : Env} {s : State} {m : MethodId} {below : List Frame} {meth : Method} {c : Code} (l : Launch) {sb L : Nat} {xs : Nat → Int32} {X : gs_X} (htr : l.stackTraces = false) (C0 : lw_At p s m meth c sb L xs) (hL : L ≤ 3072) (hXX : X.2.1 3 ≠ X.2.1 2) (hK : gs_T X s) (hE : gs_E X s) (hz : X.2.2 ≤ s.heap.size) (hbA : ¬ gs_A X sb) {rr mo out : Nat} {A : Nat → Nat} {σ : gs_St} (hLI : LI RL X σ rr mo out A) {i cells slots : Nat} (hi : i + 6 ≤ L) (hce : cells + 6 ≤ 601024) (hsl : slots + 64 ≤ 7293034) (kk : ∀ (σ' : gs_St) (H : Heap) (locs : List Loc), LI RL X σ' rr mo out A → gs_H X σ' H → va_S (gs_A X) s.heap H locs → ∀ ls, lv_has ls 7 [(4, .int (nI i)), (3, .ref out), (2, .ref mo), (1, .ref rr), (0, .ref sb)] → W p l e room_1 s m #[Value.ref sb] below meth c H locs (cells + 6) (slots + 64) (lw_Z below #[Value.ref sb] s) (F0 m 1085 ls [])) {H : Heap} {locs : List Loc} (hG : gs_H X σ H) (hS : va_S (gs_A X) s.heap H locs) {ls : Array Slot} (hl : lv_has ls 7 [(4, .int (nI i)), (3, .ref out), (2, .ref mo), (1, .ref rr), (0, .ref sb)]) : W p l e room_1 s m #[Value.ref sb] below meth c H locs cells slots (lw_Z below #[Value.ref sb] s) (F0 m 676 ls []) := by
  obtain ⟨nr, cw, Q, E, Lt, sa, nw, rc, fc, dr, F, T, QM, drM, cd, f, hR, hM, hRL, ho⟩ := hLI
  have hnr := hM.2.1
  have hFl := hM.2.2.1.1
  have q0 := pe.1 _ _ _ _ _ _ _ _ _ _ _ _ _ _ hRL
  exact lb_run pe.1 pe.2.2.2.2.2.2.2.2.2.2.2.2.2.2.2.2.1 l htr C0 hL hXX hK hE hz hbA hR hM hRL ho hi hce hsl  kk hG hS hl
theorem ld_rounds {RL : RLT} (pe : PE RL) {p : Program} {e : Env} {s : State} {m : MethodId} {below : List Frame} {meth : Method} {c : Code} (l : Launch) {sb L : Nat} {xs : Nat → Int32} {X : gs_X} (htr : l.stackTraces = false) (C0 : lw_At p s m meth c sb L xs) (hL : L ≤ 3072) (hXX : X.2.1 3 ≠ X.2.1 2) (hK : gs_T X s) (hE : gs_E X s) (hz : X.2.2 ≤ s.heap.size) (hbA : ¬ gs_A X sb) {rr mo out : Nat} {A : Nat → Nat} {σ : gs_St} (hLI : LI RL X σ rr mo out A) {i cells slots : Nat} (hi : i + 6 ≤ L) (hce : cells + 6 ≤ 601024) (hsl : slots + 64 ≤ 7293034) (kk : ∀ (σ' : gs_St) (H : Heap) (locs : List Loc), LI RL X σ' rr mo out A → gs_H X σ' H → va_S (gs_A X) s.heap H locs → ∀ ls, lv_has ls 7 [(4, .int (nI i)), (3, .ref out), (2, .ref mo), (1, .ref rr), (0, .ref sb)] → W p l e room_1 s m #[Value.ref sb] below meth c H locs (cells + 6) (slots + 64) (lw_Z below #[Value.ref sb] s) (F0 m 1085 ls [])) {H : Heap} {locs : List Loc} (hG : gs_H X σ H) (hS : va_S (gs_A X) s.heap H locs) {ls : Array Slot} (hl : lv_has ls 7 [(4, .int (nI i)), (3, .ref out), (2, .ref mo), (1, .ref rr), (0, .ref sb)]) : W p l e room_1 s m #[Value.ref sb] below meth c H locs cells slots (lw_Z below #[Value.ref sb] s) (F0 m 689 ls []) := by
  obtain ⟨nr, cw, Q, E, Lt, sa, nw, rc, fc, dr, F, T, QM, drM, cd, f, hR, hM, hRL, ho⟩ := hLI
  have hnr := hM.2.1
  have hFl := hM.2.2.1.1
  have q0 := pe.1 _ _ _ _ _ _ _ _ _ _ _ _ _ _ hRL
  exact lb_rounds pe.1  l htr C0 hL hXX hK hE hz hbA hR hM hRL ho hi hce hsl  kk hG hS hl
