theorem mSH_LA_relation : gs_mSH y_LA_relation b_LA_relation 4 (some .int) [((0 : Nat), (9 : Nat), (12 : Nat), (13 : Nat)), ((0 : Nat), (9 : Nat), (15 : Nat), (15 : Nat))] 3 := ⟨w_258, w_0, w_259, ⟨by decide, by decide⟩, by decide +kernel⟩
theorem mSH_LA_fact : gs_mSH y_LA_fact b_LA_fact 7 (some .int) [((0 : Nat), (21 : Nat), (24 : Nat), (13 : Nat)), ((0 : Nat), (21 : Nat), (28 : Nat), (15 : Nat))] 6 := ⟨w_381, w_0, w_382, ⟨by decide, by decide⟩, by decide +kernel⟩
theorem mSH_LA_drop : gs_mSH y_LA_drop b_LA_drop 7 (some .int) [((0 : Nat), (21 : Nat), (24 : Nat), (13 : Nat))] 6 := ⟨w_413, w_0, w_414, ⟨by decide, by decide⟩, by decide +kernel⟩
theorem mSH_LA_head : gs_mSH y_LA_head b_LA_head 6 (some .int) [((0 : Nat), (9 : Nat), (12 : Nat), (13 : Nat))] 5 := ⟨w_424, w_0, w_425, ⟨by decide, by decide⟩, by decide +kernel⟩
theorem mSH_LA_item : gs_mSH y_LA_item b_LA_item 8 (some .int) [((0 : Nat), (16 : Nat), (19 : Nat), (13 : Nat)), ((0 : Nat), (16 : Nat), (23 : Nat), (15 : Nat))] 7 := ⟨w_525, w_0, w_526, ⟨by decide, by decide⟩, by decide +kernel⟩
theorem mSH_LA_rule : gs_mSH y_LA_rule b_LA_rule 3 (some .int) [((0 : Nat), (8 : Nat), (11 : Nat), (15 : Nat))] 2 := ⟨w_562, w_0, w_563, ⟨by decide, by decide⟩, by decide +kernel⟩
theorem mSH_LA_stratum : gs_mSH y_LA_stratum b_LA_stratum 4 (some .int) [((0 : Nat), (9 : Nat), (12 : Nat), (13 : Nat)), ((0 : Nat), (9 : Nat), (15 : Nat), (15 : Nat))] 3 := ⟨w_583, w_0, w_584, ⟨by decide, by decide⟩, by decide +kernel⟩
theorem mSH_LA_count : gs_mSH y_LA_count b_LA_count 4 (some .int) [((0 : Nat), (9 : Nat), (12 : Nat), (13 : Nat))] 3 := ⟨w_591, w_0, w_592, ⟨by decide, by decide⟩, by decide +kernel⟩
theorem mSH_LA_has : gs_mSH y_LA_has b_LA_has 7 (some .int) [((0 : Nat), (21 : Nat), (24 : Nat), (13 : Nat))] 6 := ⟨w_603, w_0, w_604, ⟨by decide, by decide⟩, by decide +kernel⟩
theorem mSH_LA_tuple : gs_mSH y_LA_tuple b_LA_tuple 6 (some .int) [((0 : Nat), (12 : Nat), (15 : Nat), (13 : Nat))] 5 := ⟨w_611, w_0, w_612, ⟨by decide, by decide⟩, by decide +kernel⟩
theorem mSH_LA_like : gs_mSH y_LA_like b_LA_like 7 (some .int) [((0 : Nat), (14 : Nat), (17 : Nat), (13 : Nat))] 6 := ⟨w_621, w_0, w_622, ⟨by decide, by decide⟩, by decide +kernel⟩
theorem mSH_LA_matches : gs_mSH y_LA_matches b_LA_matches 4 (some .int) [((0 : Nat), (9 : Nat), (12 : Nat), (13 : Nat))] 3 := ⟨w_648, w_0, w_649, ⟨by decide, by decide⟩, by decide +kernel⟩
set_option maxHeartbeats 4000000 in
set_option maxRecDepth 100000 in
/-- the law: relation, answered -/
theorem c_LA_relation (l : Launch) (X : gs_X) (σ : gs_St) (rr out : Nat) (gs : List Value) (rm : Room) (f : Nat → Int64) (x : Int32) (post : Int32 → gs_St → Prop)
    (x0 : σ rr = some (gs_ob 0 gs)) (hrm : rmC rm) (hM : gs_Mi l X y_RR_relation b_RR_relation 2 (some .int) rm σ [.ref rr, .int x] post) (ho : ∀ r9 σ9, post r9 σ9 → σ9 out = some (gs_la X 1 f)) : gs_MiH l X y_LA_relation b_LA_relation 4 (some .int) [((0 : Nat), (9 : Nat), (12 : Nat), (13 : Nat)), ((0 : Nat), (9 : Nat), (15 : Nat), (15 : Nat))] ({ frames := 13, cells := 6, slots := 64, locals := 700 }) σ [.ref rr, .int x, .ref out] (fun k9 σ' => k9 = nI 0 ∧ ∃ r9 σ9, post r9 σ9 ∧ σ' = gs_up σ9 out (gs_la X 1 (vp_updL f 0 r9.toInt64))) := by
  refine gs_MetH_ofW (cc := b_LA_relation) (maxL := 4) (ret := (some .int)) (hs := [((0 : Nat), (9 : Nat), (12 : Nat), (13 : Nat)), ((0 : Nat), (9 : Nat), (15 : Nat), (15 : Nat))]) (by decide) rfl ?_
  intro p e s m args below meth c s₁ B₀ hml htab hv
  obtain ⟨rfl, hK, hG, hz, hE⟩ := hv
  have hx := B₀.exec
  have hb := B₀.bytes
  have hr := B₀.returns
  have hts := atoms_spec (ws := gs_wh y_LA_relation b_LA_relation 4 (some .int) [((0 : Nat), (9 : Nat), (12 : Nat), (13 : Nat)), ((0 : Nat), (9 : Nat), (15 : Nat), (15 : Nat))]) B₀.pre
  have ht : ∀ w ∈ gs_w, w.before _ s = true := fun w h => hts w (List.mem_cons_of_mem _ h)
  have hown : s.vm.findClass R_LA = some m.cls := findClass_of_methodNamed B₀.named
  have hlocks := B₀.notSynchronized
  have hA : ∀ q : Nat, s.heap.size ≤ q → gs_A X q := fun q h => Nat.le_trans hz h
  have hS : va_S (gs_A X) s.heap s.heap [] := va_S.rf
  have hl := lv_entry ([.ref rr, .int x, .ref out]) (n := 4) (Nat.le_of_ble_eq_true rfl)
  rw [lg_entry_eq]
  generalize (lg_sl ([.ref rr, .int x, .ref out]) ++ List.replicate (4 - (lg_sl ([.ref rr, .int x, .ref out])).length) Slot.unset).toArray = ls at hl ⊢
  have hl : lv_has ls 4 [(0, .ref rr), (1, .int x), (2, .ref out)] := hl
  obtain ⟨hr1, hr2, hr3, hr4⟩ := hrm
  refine lv_aload_n hx hb d_LA_relation_0 rfl (lv_at hl 2 rfl) ?_
  refine lv_iconst (v := nI 0) hx hb d_LA_relation_1 (by decide) ?_
  refine lv_aload_n hx hb d_LA_relation_2 rfl (lv_at hl 0 rfl) ?_
  refine lv_iload_n hx hb d_LA_relation_3 rfl (lv_at hl 1 rfl) ?_
  refine gs_callVi (As := [.int x]) (rest := [.int (nI 0), .ref out]) ⟨hx, hb, hml, hown, hts⟩ hK hE hz hG hS hM mV_RR_relation w_262 x0 rfl rfl hl.1 rfl (Nat.le_of_ble_eq_true rfl) ⟨by show rm.frames + 1 ≤ 13; omega, by show 8 + (2 + 11) + rm.locals ≤ 700; omega⟩ ⟨by show 0 + rm.cells ≤ 6; omega, by show 0 + rm.slots ≤ 64; omega⟩ d_LA_relation_4 (fun r_4 σ_4 H locs hp_4 hG hS => ?_)
  have hc9 := ho r_4 σ_4 hp_4
  refine lv_i2l hx hb d_LA_relation_7 rfl ?_
  refine gs_last hx hb hK hG hS hc9 (j := 0) (by omega) (by omega) d_LA_relation_8 (fun H locs hG hS => ?_)
  have hG : gs_H X (gs_up σ_4 out (gs_la X 1 (vp_updL f 0 ((r_4).toInt64)))) H := hG
  obtain ⟨σ_1, eσ_1⟩ : ∃ zq, zq = gs_up σ_4 out (gs_la X 1 (vp_updL f 0 ((r_4).toInt64))) := ⟨_, rfl⟩
  rw [← eσ_1] at hG
  have hc_2 : σ_1 out = some (gs_la X 1 (vp_updL f 0 ((r_4).toInt64))) := by rw [eσ_1]; exact gs_us
  refine lv_goto (tgt := 18) hx hb d_LA_relation_9 (by decide) ?_
  refine lv_iconst (v := nI 0) hx hb d_LA_relation_18 (by decide) ?_
  exact gs_iret (v := (nI 0)) hx hb hr rfl hK hE hz hG hS hlocks (by show 0 + rm.cells ≤ 6; omega) (by show 0 + rm.slots ≤ 64; omega) (⟨rfl, r_4, σ_4, hp_4, eσ_1⟩) d_LA_relation_19
set_option maxHeartbeats 4000000 in
set_option maxRecDepth 100000 in
/-- the law: relation, xI -/
theorem c_LA_relation_xI (l : Launch) (X : gs_X) (σ : gs_St) (rr out : Nat) (gs : List Value) (rm : Room) (x : Int32)
    (x0 : σ rr = some (gs_ob 0 gs)) (hrm : rmC rm) (hM : gs_Mt l X y_RR_relation b_RR_relation 2 (some .int) rm σ [.ref rr, .int x] xI) : gs_MiH l X y_LA_relation b_LA_relation 4 (some .int) [((0 : Nat), (9 : Nat), (12 : Nat), (13 : Nat)), ((0 : Nat), (9 : Nat), (15 : Nat), (15 : Nat))] ({ frames := 13, cells := 6, slots := 64, locals := 700 }) σ [.ref rr, .int x, .ref out] (fun k9 σ' => k9 = nI 1 ∧ σ' = σ) := by
  refine gs_MetH_ofW (cc := b_LA_relation) (maxL := 4) (ret := (some .int)) (hs := [((0 : Nat), (9 : Nat), (12 : Nat), (13 : Nat)), ((0 : Nat), (9 : Nat), (15 : Nat), (15 : Nat))]) (by decide) rfl ?_
  intro p e s m args below meth c s₁ B₀ hml htab hv
  obtain ⟨rfl, hK, hG, hz, hE⟩ := hv
  have hx := B₀.exec
  have hb := B₀.bytes
  have hr := B₀.returns
  have hts := atoms_spec (ws := gs_wh y_LA_relation b_LA_relation 4 (some .int) [((0 : Nat), (9 : Nat), (12 : Nat), (13 : Nat)), ((0 : Nat), (9 : Nat), (15 : Nat), (15 : Nat))]) B₀.pre
  have ht : ∀ w ∈ gs_w, w.before _ s = true := fun w h => hts w (List.mem_cons_of_mem _ h)
  have hown : s.vm.findClass R_LA = some m.cls := findClass_of_methodNamed B₀.named
  have hlocks := B₀.notSynchronized
  have hA : ∀ q : Nat, s.heap.size ≤ q → gs_A X q := fun q h => Nat.le_trans hz h
  have hS : va_S (gs_A X) s.heap s.heap [] := va_S.rf
  have hl := lv_entry ([.ref rr, .int x, .ref out]) (n := 4) (Nat.le_of_ble_eq_true rfl)
  rw [lg_entry_eq]
  generalize (lg_sl ([.ref rr, .int x, .ref out]) ++ List.replicate (4 - (lg_sl ([.ref rr, .int x, .ref out])).length) Slot.unset).toArray = ls at hl ⊢
  have hl : lv_has ls 4 [(0, .ref rr), (1, .int x), (2, .ref out)] := hl
  obtain ⟨hr1, hr2, hr3, hr4⟩ := hrm
  obtain ⟨e0, e1, htab, he0, he1⟩ := tab2 htab
  have hp0 := hpc he0
  have hp1 := hpc he1
  refine lv_aload_n hx hb d_LA_relation_0 rfl (lv_at hl 2 rfl) ?_
  refine lv_iconst (v := nI 0) hx hb d_LA_relation_1 (by decide) ?_
  refine lv_aload_n hx hb d_LA_relation_2 rfl (lv_at hl 0 rfl) ?_
  refine lv_iload_n hx hb d_LA_relation_3 rfl (lv_at hl 1 rfl) ?_
  refine gs_callVc (As := [.int x]) (rest := [.int (nI 0), .ref out]) ⟨hx, hb, hml, hown, hts⟩ hK hE hz hG hM mV_RR_relation w_262 x0 rfl rfl hl.1 rfl (Nat.le_of_ble_eq_true rfl) ⟨by show rm.frames + 1 ≤ 13; omega, by show 8 + (2 + 11) + rm.locals ≤ 700; omega⟩ ⟨by show 0 + rm.cells ≤ 6; omega, by show 0 + rm.slots ≤ 64; omega⟩ d_LA_relation_4 [] e0 [e1] htab hE.1 (by rw [hp0.2]; decide) (by rw [hp0.2]; exact w_260) (cov he0 (by decide) (by decide)) (fun z hz => by cases hz) (fun q9 H locs hG hS => ?_)
  rw [hp0.1]
  refine lv_astore_n (lv' := [(3, .ref q9), (0, .ref rr), (1, .int x), (2, .ref out)]) hx hb d_LA_relation_12 rfl hl (by decide) rfl (fun ls hl => ?_)
  refine lv_iconst (v := nI 1) hx hb d_LA_relation_13 (by decide) ?_
  exact gs_iret (v := (nI 1)) hx hb hr rfl hK hE hz hG hS hlocks (by show 0 + rm.cells ≤ 6; omega) (by show 0 + rm.slots ≤ 64; omega) (⟨rfl, rfl⟩) d_LA_relation_14
set_option maxHeartbeats 4000000 in
set_option maxRecDepth 100000 in
/-- the law: relation, xS -/
theorem c_LA_relation_xS (l : Launch) (X : gs_X) (σ : gs_St) (rr out : Nat) (gs : List Value) (rm : Room) (x : Int32)
    (x0 : σ rr = some (gs_ob 0 gs)) (hrm : rmC rm) (hM : gs_Mt l X y_RR_relation b_RR_relation 2 (some .int) rm σ [.ref rr, .int x] xS) : gs_MiH l X y_LA_relation b_LA_relation 4 (some .int) [((0 : Nat), (9 : Nat), (12 : Nat), (13 : Nat)), ((0 : Nat), (9 : Nat), (15 : Nat), (15 : Nat))] ({ frames := 13, cells := 6, slots := 64, locals := 700 }) σ [.ref rr, .int x, .ref out] (fun k9 σ' => k9 = nI 2 ∧ σ' = σ) := by
  refine gs_MetH_ofW (cc := b_LA_relation) (maxL := 4) (ret := (some .int)) (hs := [((0 : Nat), (9 : Nat), (12 : Nat), (13 : Nat)), ((0 : Nat), (9 : Nat), (15 : Nat), (15 : Nat))]) (by decide) rfl ?_
  intro p e s m args below meth c s₁ B₀ hml htab hv
  obtain ⟨rfl, hK, hG, hz, hE⟩ := hv
  have hx := B₀.exec
  have hb := B₀.bytes
  have hr := B₀.returns
  have hts := atoms_spec (ws := gs_wh y_LA_relation b_LA_relation 4 (some .int) [((0 : Nat), (9 : Nat), (12 : Nat), (13 : Nat)), ((0 : Nat), (9 : Nat), (15 : Nat), (15 : Nat))]) B₀.pre
  have ht : ∀ w ∈ gs_w, w.before _ s = true := fun w h => hts w (List.mem_cons_of_mem _ h)
  have hown : s.vm.findClass R_LA = some m.cls := findClass_of_methodNamed B₀.named
  have hlocks := B₀.notSynchronized
  have hA : ∀ q : Nat, s.heap.size ≤ q → gs_A X q := fun q h => Nat.le_trans hz h
  have hS : va_S (gs_A X) s.heap s.heap [] := va_S.rf
  have hl := lv_entry ([.ref rr, .int x, .ref out]) (n := 4) (Nat.le_of_ble_eq_true rfl)
  rw [lg_entry_eq]
  generalize (lg_sl ([.ref rr, .int x, .ref out]) ++ List.replicate (4 - (lg_sl ([.ref rr, .int x, .ref out])).length) Slot.unset).toArray = ls at hl ⊢
  have hl : lv_has ls 4 [(0, .ref rr), (1, .int x), (2, .ref out)] := hl
  obtain ⟨hr1, hr2, hr3, hr4⟩ := hrm
  obtain ⟨e0, e1, htab, he0, he1⟩ := tab2 htab
  have hp0 := hpc he0
  have hp1 := hpc he1
  refine lv_aload_n hx hb d_LA_relation_0 rfl (lv_at hl 2 rfl) ?_
  refine lv_iconst (v := nI 0) hx hb d_LA_relation_1 (by decide) ?_
  refine lv_aload_n hx hb d_LA_relation_2 rfl (lv_at hl 0 rfl) ?_
  refine lv_iload_n hx hb d_LA_relation_3 rfl (lv_at hl 1 rfl) ?_
  refine gs_callVc (As := [.int x]) (rest := [.int (nI 0), .ref out]) ⟨hx, hb, hml, hown, hts⟩ hK hE hz hG hM mV_RR_relation w_262 x0 rfl rfl hl.1 rfl (Nat.le_of_ble_eq_true rfl) ⟨by show rm.frames + 1 ≤ 13; omega, by show 8 + (2 + 11) + rm.locals ≤ 700; omega⟩ ⟨by show 0 + rm.cells ≤ 6; omega, by show 0 + rm.slots ≤ 64; omega⟩ d_LA_relation_4 [e0] e1 [] htab hE.2.1 (by rw [hp1.2]; decide) (by rw [hp1.2]; exact w_261) (cov he1 (by decide) (by decide)) (fun z hz => by rw [List.mem_singleton.mp hz]; exact ⟨by rw [hp0.2]; decide, _, (by rw [hp0.2]; exact w_260), hE.2.2.2.1⟩) (fun q9 H locs hG hS => ?_)
  rw [hp1.1]
  refine lv_astore_n (lv' := [(3, .ref q9), (0, .ref rr), (1, .int x), (2, .ref out)]) hx hb d_LA_relation_15 rfl hl (by decide) rfl (fun ls hl => ?_)
  refine lv_iconst (v := nI 2) hx hb d_LA_relation_16 (by decide) ?_
  exact gs_iret (v := (nI 2)) hx hb hr rfl hK hE hz hG hS hlocks (by show 0 + rm.cells ≤ 6; omega) (by show 0 + rm.slots ≤ 64; omega) (⟨rfl, rfl⟩) d_LA_relation_17
set_option maxHeartbeats 4000000 in
set_option maxRecDepth 100000 in
/-- the law: fact, answered -/
theorem c_LA_fact (l : Launch) (X : gs_X) (σ : gs_St) (rr out : Nat) (gs : List Value) (rm : Room) (f : Nat → Int64) (x y z u : Int32) (post : Int32 → gs_St → Prop)
    (x0 : σ rr = some (gs_ob 0 gs)) (hrm : rmC rm) (hM : gs_Mi l X y_RR_fact b_RR_fact 6 (some .boolean) rm σ [.ref rr, .int x, .int y, .int z, .int u] post) (ho : ∀ r9 σ9, post r9 σ9 → σ9 out = some (gs_la X 1 f)) : gs_MiH l X y_LA_fact b_LA_fact 7 (some .int) [((0 : Nat), (21 : Nat), (24 : Nat), (13 : Nat)), ((0 : Nat), (21 : Nat), (28 : Nat), (15 : Nat))] ({ frames := 13, cells := 6, slots := 64, locals := 700 }) σ [.ref rr, .int x, .int y, .int z, .int u, .ref out] (fun k9 σ' => k9 = nI 0 ∧ ∃ r9 σ9, post r9 σ9 ∧ σ' = gs_up σ9 out (gs_la X 1 (vp_updL f 0 (if r9 = 0 then 0 else 1)))) := by
  refine gs_MetH_ofW (cc := b_LA_fact) (maxL := 7) (ret := (some .int)) (hs := [((0 : Nat), (21 : Nat), (24 : Nat), (13 : Nat)), ((0 : Nat), (21 : Nat), (28 : Nat), (15 : Nat))]) (by decide) rfl ?_
  intro p e s m args below meth c s₁ B₀ hml htab hv
  obtain ⟨rfl, hK, hG, hz, hE⟩ := hv
  have hx := B₀.exec
  have hb := B₀.bytes
  have hr := B₀.returns
  have hts := atoms_spec (ws := gs_wh y_LA_fact b_LA_fact 7 (some .int) [((0 : Nat), (21 : Nat), (24 : Nat), (13 : Nat)), ((0 : Nat), (21 : Nat), (28 : Nat), (15 : Nat))]) B₀.pre
  have ht : ∀ w ∈ gs_w, w.before _ s = true := fun w h => hts w (List.mem_cons_of_mem _ h)
  have hown : s.vm.findClass R_LA = some m.cls := findClass_of_methodNamed B₀.named
  have hlocks := B₀.notSynchronized
  have hA : ∀ q : Nat, s.heap.size ≤ q → gs_A X q := fun q h => Nat.le_trans hz h
  have hS : va_S (gs_A X) s.heap s.heap [] := va_S.rf
  have hl := lv_entry ([.ref rr, .int x, .int y, .int z, .int u, .ref out]) (n := 7) (Nat.le_of_ble_eq_true rfl)
  rw [lg_entry_eq]
  generalize (lg_sl ([.ref rr, .int x, .int y, .int z, .int u, .ref out]) ++ List.replicate (7 - (lg_sl ([.ref rr, .int x, .int y, .int z, .int u, .ref out])).length) Slot.unset).toArray = ls at hl ⊢
  have hl : lv_has ls 7 [(0, .ref rr), (1, .int x), (2, .int y), (3, .int z), (4, .int u), (5, .ref out)] := hl
  obtain ⟨hr1, hr2, hr3, hr4⟩ := hrm
  refine lv_aload hx hb d_LA_fact_0 (lv_at hl 5 rfl) ?_
  refine lv_iconst (v := nI 0) hx hb d_LA_fact_2 (by decide) ?_
  refine lv_aload_n hx hb d_LA_fact_3 rfl (lv_at hl 0 rfl) ?_
  refine lv_iload_n hx hb d_LA_fact_4 rfl (lv_at hl 1 rfl) ?_
  refine lv_iload_n hx hb d_LA_fact_5 rfl (lv_at hl 2 rfl) ?_
  refine lv_iload_n hx hb d_LA_fact_6 rfl (lv_at hl 3 rfl) ?_
  refine lv_iload hx hb d_LA_fact_7 (lv_at hl 4 rfl) ?_
  refine gs_callVi (As := [.int x, .int y, .int z, .int u]) (rest := [.int (nI 0), .ref out]) ⟨hx, hb, hml, hown, hts⟩ hK hE hz hG hS hM mV_RR_fact w_383 x0 rfl rfl hl.1 rfl (Nat.le_of_ble_eq_true rfl) ⟨by show rm.frames + 1 ≤ 13; omega, by show 8 + (6 + 11) + rm.locals ≤ 700; omega⟩ ⟨by show 0 + rm.cells ≤ 6; omega, by show 0 + rm.slots ≤ 64; omega⟩ d_LA_fact_9 (fun r_9 σ_9 H locs hp_9 hG hS => ?_)
  have hc9 := ho r_9 σ_9 hp_9
  refine lv_if_eq (tgt := 19) hx hb d_LA_fact_12 (by decide) (fun c_12 => ?_) (fun c_12 => ?_)
  · refine lv_lconst (v := 0) hx hb d_LA_fact_19 rfl ?_
    refine gs_last hx hb hK hG hS hc9 (j := 0) (by omega) (by omega) d_LA_fact_20 (fun H locs hG hS => ?_)
    have hG : gs_H X (gs_up σ_9 out (gs_la X 1 (vp_updL f 0 0))) H := hG
    obtain ⟨σ_1, eσ_1⟩ : ∃ zq, zq = gs_up σ_9 out (gs_la X 1 (vp_updL f 0 0)) := ⟨_, rfl⟩
    rw [← eσ_1] at hG
    have hc_2 : σ_1 out = some (gs_la X 1 (vp_updL f 0 0)) := by rw [eσ_1]; exact gs_us
    refine lv_goto (tgt := 32) hx hb d_LA_fact_21 (by decide) ?_
    refine lv_iconst (v := nI 0) hx hb d_LA_fact_32 (by decide) ?_
    exact gs_iret (v := (nI 0)) hx hb hr rfl hK hE hz hG hS hlocks (by show 0 + rm.cells ≤ 6; omega) (by show 0 + rm.slots ≤ 64; omega) (⟨rfl, r_9, σ_9, hp_9, by rw [eσ_1]; first | rw [if_pos c_12] | rw [if_neg c_12]⟩) d_LA_fact_33
  · refine lv_lconst (v := 1) hx hb d_LA_fact_15 rfl ?_
    refine lv_goto (tgt := 20) hx hb d_LA_fact_16 (by decide) ?_
    refine gs_last hx hb hK hG hS hc9 (j := 0) (by omega) (by omega) d_LA_fact_20 (fun H locs hG hS => ?_)
    have hG : gs_H X (gs_up σ_9 out (gs_la X 1 (vp_updL f 0 1))) H := hG
    obtain ⟨σ_3, eσ_3⟩ : ∃ zq, zq = gs_up σ_9 out (gs_la X 1 (vp_updL f 0 1)) := ⟨_, rfl⟩
    rw [← eσ_3] at hG
    have hc_4 : σ_3 out = some (gs_la X 1 (vp_updL f 0 1)) := by rw [eσ_3]; exact gs_us
    refine lv_goto (tgt := 32) hx hb d_LA_fact_21 (by decide) ?_
    refine lv_iconst (v := nI 0) hx hb d_LA_fact_32 (by decide) ?_
    exact gs_iret (v := (nI 0)) hx hb hr rfl hK hE hz hG hS hlocks (by show 0 + rm.cells ≤ 6; omega) (by show 0 + rm.slots ≤ 64; omega) (⟨rfl, r_9, σ_9, hp_9, by rw [eσ_3]; first | rw [if_pos c_12] | rw [if_neg c_12]⟩) d_LA_fact_33
set_option maxHeartbeats 4000000 in
set_option maxRecDepth 100000 in
/-- the law: fact, xI -/
theorem c_LA_fact_xI (l : Launch) (X : gs_X) (σ : gs_St) (rr out : Nat) (gs : List Value) (rm : Room) (x y z u : Int32)
    (x0 : σ rr = some (gs_ob 0 gs)) (hrm : rmC rm) (hM : gs_Mt l X y_RR_fact b_RR_fact 6 (some .boolean) rm σ [.ref rr, .int x, .int y, .int z, .int u] xI) : gs_MiH l X y_LA_fact b_LA_fact 7 (some .int) [((0 : Nat), (21 : Nat), (24 : Nat), (13 : Nat)), ((0 : Nat), (21 : Nat), (28 : Nat), (15 : Nat))] ({ frames := 13, cells := 6, slots := 64, locals := 700 }) σ [.ref rr, .int x, .int y, .int z, .int u, .ref out] (fun k9 σ' => k9 = nI 1 ∧ σ' = σ) := by
  refine gs_MetH_ofW (cc := b_LA_fact) (maxL := 7) (ret := (some .int)) (hs := [((0 : Nat), (21 : Nat), (24 : Nat), (13 : Nat)), ((0 : Nat), (21 : Nat), (28 : Nat), (15 : Nat))]) (by decide) rfl ?_
  intro p e s m args below meth c s₁ B₀ hml htab hv
  obtain ⟨rfl, hK, hG, hz, hE⟩ := hv
  have hx := B₀.exec
  have hb := B₀.bytes
  have hr := B₀.returns
  have hts := atoms_spec (ws := gs_wh y_LA_fact b_LA_fact 7 (some .int) [((0 : Nat), (21 : Nat), (24 : Nat), (13 : Nat)), ((0 : Nat), (21 : Nat), (28 : Nat), (15 : Nat))]) B₀.pre
  have ht : ∀ w ∈ gs_w, w.before _ s = true := fun w h => hts w (List.mem_cons_of_mem _ h)
  have hown : s.vm.findClass R_LA = some m.cls := findClass_of_methodNamed B₀.named
  have hlocks := B₀.notSynchronized
  have hA : ∀ q : Nat, s.heap.size ≤ q → gs_A X q := fun q h => Nat.le_trans hz h
  have hS : va_S (gs_A X) s.heap s.heap [] := va_S.rf
  have hl := lv_entry ([.ref rr, .int x, .int y, .int z, .int u, .ref out]) (n := 7) (Nat.le_of_ble_eq_true rfl)
  rw [lg_entry_eq]
  generalize (lg_sl ([.ref rr, .int x, .int y, .int z, .int u, .ref out]) ++ List.replicate (7 - (lg_sl ([.ref rr, .int x, .int y, .int z, .int u, .ref out])).length) Slot.unset).toArray = ls at hl ⊢
  have hl : lv_has ls 7 [(0, .ref rr), (1, .int x), (2, .int y), (3, .int z), (4, .int u), (5, .ref out)] := hl
  obtain ⟨hr1, hr2, hr3, hr4⟩ := hrm
  obtain ⟨e0, e1, htab, he0, he1⟩ := tab2 htab
  have hp0 := hpc he0
  have hp1 := hpc he1
  refine lv_aload hx hb d_LA_fact_0 (lv_at hl 5 rfl) ?_
  refine lv_iconst (v := nI 0) hx hb d_LA_fact_2 (by decide) ?_
  refine lv_aload_n hx hb d_LA_fact_3 rfl (lv_at hl 0 rfl) ?_
  refine lv_iload_n hx hb d_LA_fact_4 rfl (lv_at hl 1 rfl) ?_
  refine lv_iload_n hx hb d_LA_fact_5 rfl (lv_at hl 2 rfl) ?_
  refine lv_iload_n hx hb d_LA_fact_6 rfl (lv_at hl 3 rfl) ?_
  refine lv_iload hx hb d_LA_fact_7 (lv_at hl 4 rfl) ?_
  refine gs_callVc (As := [.int x, .int y, .int z, .int u]) (rest := [.int (nI 0), .ref out]) ⟨hx, hb, hml, hown, hts⟩ hK hE hz hG hM mV_RR_fact w_383 x0 rfl rfl hl.1 rfl (Nat.le_of_ble_eq_true rfl) ⟨by show rm.frames + 1 ≤ 13; omega, by show 8 + (6 + 11) + rm.locals ≤ 700; omega⟩ ⟨by show 0 + rm.cells ≤ 6; omega, by show 0 + rm.slots ≤ 64; omega⟩ d_LA_fact_9 [] e0 [e1] htab hE.1 (by rw [hp0.2]; decide) (by rw [hp0.2]; exact w_260) (cov he0 (by decide) (by decide)) (fun z hz => by cases hz) (fun q9 H locs hG hS => ?_)
  rw [hp0.1]
  refine lv_astore (lv' := [(6, .ref q9), (0, .ref rr), (1, .int x), (2, .int y), (3, .int z), (4, .int u), (5, .ref out)]) hx hb d_LA_fact_24 hl (by decide) rfl (fun ls hl => ?_)
  refine lv_iconst (v := nI 1) hx hb d_LA_fact_26 (by decide) ?_
  exact gs_iret (v := (nI 1)) hx hb hr rfl hK hE hz hG hS hlocks (by show 0 + rm.cells ≤ 6; omega) (by show 0 + rm.slots ≤ 64; omega) (⟨rfl, rfl⟩) d_LA_fact_27
set_option maxHeartbeats 4000000 in
set_option maxRecDepth 100000 in
/-- the law: fact, xS -/
theorem c_LA_fact_xS (l : Launch) (X : gs_X) (σ : gs_St) (rr out : Nat) (gs : List Value) (rm : Room) (x y z u : Int32)
    (x0 : σ rr = some (gs_ob 0 gs)) (hrm : rmC rm) (hM : gs_Mt l X y_RR_fact b_RR_fact 6 (some .boolean) rm σ [.ref rr, .int x, .int y, .int z, .int u] xS) : gs_MiH l X y_LA_fact b_LA_fact 7 (some .int) [((0 : Nat), (21 : Nat), (24 : Nat), (13 : Nat)), ((0 : Nat), (21 : Nat), (28 : Nat), (15 : Nat))] ({ frames := 13, cells := 6, slots := 64, locals := 700 }) σ [.ref rr, .int x, .int y, .int z, .int u, .ref out] (fun k9 σ' => k9 = nI 2 ∧ σ' = σ) := by
  refine gs_MetH_ofW (cc := b_LA_fact) (maxL := 7) (ret := (some .int)) (hs := [((0 : Nat), (21 : Nat), (24 : Nat), (13 : Nat)), ((0 : Nat), (21 : Nat), (28 : Nat), (15 : Nat))]) (by decide) rfl ?_
  intro p e s m args below meth c s₁ B₀ hml htab hv
  obtain ⟨rfl, hK, hG, hz, hE⟩ := hv
  have hx := B₀.exec
  have hb := B₀.bytes
  have hr := B₀.returns
  have hts := atoms_spec (ws := gs_wh y_LA_fact b_LA_fact 7 (some .int) [((0 : Nat), (21 : Nat), (24 : Nat), (13 : Nat)), ((0 : Nat), (21 : Nat), (28 : Nat), (15 : Nat))]) B₀.pre
  have ht : ∀ w ∈ gs_w, w.before _ s = true := fun w h => hts w (List.mem_cons_of_mem _ h)
  have hown : s.vm.findClass R_LA = some m.cls := findClass_of_methodNamed B₀.named
  have hlocks := B₀.notSynchronized
  have hA : ∀ q : Nat, s.heap.size ≤ q → gs_A X q := fun q h => Nat.le_trans hz h
  have hS : va_S (gs_A X) s.heap s.heap [] := va_S.rf
  have hl := lv_entry ([.ref rr, .int x, .int y, .int z, .int u, .ref out]) (n := 7) (Nat.le_of_ble_eq_true rfl)
  rw [lg_entry_eq]
  generalize (lg_sl ([.ref rr, .int x, .int y, .int z, .int u, .ref out]) ++ List.replicate (7 - (lg_sl ([.ref rr, .int x, .int y, .int z, .int u, .ref out])).length) Slot.unset).toArray = ls at hl ⊢
  have hl : lv_has ls 7 [(0, .ref rr), (1, .int x), (2, .int y), (3, .int z), (4, .int u), (5, .ref out)] := hl
  obtain ⟨hr1, hr2, hr3, hr4⟩ := hrm
  obtain ⟨e0, e1, htab, he0, he1⟩ := tab2 htab
  have hp0 := hpc he0
  have hp1 := hpc he1
  refine lv_aload hx hb d_LA_fact_0 (lv_at hl 5 rfl) ?_
  refine lv_iconst (v := nI 0) hx hb d_LA_fact_2 (by decide) ?_
  refine lv_aload_n hx hb d_LA_fact_3 rfl (lv_at hl 0 rfl) ?_
  refine lv_iload_n hx hb d_LA_fact_4 rfl (lv_at hl 1 rfl) ?_
  refine lv_iload_n hx hb d_LA_fact_5 rfl (lv_at hl 2 rfl) ?_
  refine lv_iload_n hx hb d_LA_fact_6 rfl (lv_at hl 3 rfl) ?_
  refine lv_iload hx hb d_LA_fact_7 (lv_at hl 4 rfl) ?_
  refine gs_callVc (As := [.int x, .int y, .int z, .int u]) (rest := [.int (nI 0), .ref out]) ⟨hx, hb, hml, hown, hts⟩ hK hE hz hG hM mV_RR_fact w_383 x0 rfl rfl hl.1 rfl (Nat.le_of_ble_eq_true rfl) ⟨by show rm.frames + 1 ≤ 13; omega, by show 8 + (6 + 11) + rm.locals ≤ 700; omega⟩ ⟨by show 0 + rm.cells ≤ 6; omega, by show 0 + rm.slots ≤ 64; omega⟩ d_LA_fact_9 [e0] e1 [] htab hE.2.1 (by rw [hp1.2]; decide) (by rw [hp1.2]; exact w_261) (cov he1 (by decide) (by decide)) (fun z hz => by rw [List.mem_singleton.mp hz]; exact ⟨by rw [hp0.2]; decide, _, (by rw [hp0.2]; exact w_260), hE.2.2.2.1⟩) (fun q9 H locs hG hS => ?_)
  rw [hp1.1]
  refine lv_astore (lv' := [(6, .ref q9), (0, .ref rr), (1, .int x), (2, .int y), (3, .int z), (4, .int u), (5, .ref out)]) hx hb d_LA_fact_28 hl (by decide) rfl (fun ls hl => ?_)
  refine lv_iconst (v := nI 2) hx hb d_LA_fact_30 (by decide) ?_
  exact gs_iret (v := (nI 2)) hx hb hr rfl hK hE hz hG hS hlocks (by show 0 + rm.cells ≤ 6; omega) (by show 0 + rm.slots ≤ 64; omega) (⟨rfl, rfl⟩) d_LA_fact_31
set_option maxHeartbeats 4000000 in
set_option maxRecDepth 100000 in
/-- the law: drop, answered -/
theorem c_LA_drop (l : Launch) (X : gs_X) (σ : gs_St) (rr out : Nat) (gs : List Value) (rm : Room) (f : Nat → Int64) (x y z u : Int32) (post : Int32 → gs_St → Prop)
    (x0 : σ rr = some (gs_ob 0 gs)) (hrm : rmC rm) (hM : gs_Mi l X y_RR_drop b_RR_drop 6 (some .boolean) rm σ [.ref rr, .int x, .int y, .int z, .int u] post) (ho : ∀ r9 σ9, post r9 σ9 → σ9 out = some (gs_la X 1 f)) : gs_MiH l X y_LA_drop b_LA_drop 7 (some .int) [((0 : Nat), (21 : Nat), (24 : Nat), (13 : Nat))] ({ frames := 13, cells := 6, slots := 64, locals := 700 }) σ [.ref rr, .int x, .int y, .int z, .int u, .ref out] (fun k9 σ' => k9 = nI 0 ∧ ∃ r9 σ9, post r9 σ9 ∧ σ' = gs_up σ9 out (gs_la X 1 (vp_updL f 0 (if r9 = 0 then 0 else 1)))) := by
  refine gs_MetH_ofW (cc := b_LA_drop) (maxL := 7) (ret := (some .int)) (hs := [((0 : Nat), (21 : Nat), (24 : Nat), (13 : Nat))]) (by decide) rfl ?_
  intro p e s m args below meth c s₁ B₀ hml htab hv
  obtain ⟨rfl, hK, hG, hz, hE⟩ := hv
  have hx := B₀.exec
  have hb := B₀.bytes
  have hr := B₀.returns
  have hts := atoms_spec (ws := gs_wh y_LA_drop b_LA_drop 7 (some .int) [((0 : Nat), (21 : Nat), (24 : Nat), (13 : Nat))]) B₀.pre
  have ht : ∀ w ∈ gs_w, w.before _ s = true := fun w h => hts w (List.mem_cons_of_mem _ h)
  have hown : s.vm.findClass R_LA = some m.cls := findClass_of_methodNamed B₀.named
  have hlocks := B₀.notSynchronized
  have hA : ∀ q : Nat, s.heap.size ≤ q → gs_A X q := fun q h => Nat.le_trans hz h
  have hS : va_S (gs_A X) s.heap s.heap [] := va_S.rf
  have hl := lv_entry ([.ref rr, .int x, .int y, .int z, .int u, .ref out]) (n := 7) (Nat.le_of_ble_eq_true rfl)
  rw [lg_entry_eq]
  generalize (lg_sl ([.ref rr, .int x, .int y, .int z, .int u, .ref out]) ++ List.replicate (7 - (lg_sl ([.ref rr, .int x, .int y, .int z, .int u, .ref out])).length) Slot.unset).toArray = ls at hl ⊢
  have hl : lv_has ls 7 [(0, .ref rr), (1, .int x), (2, .int y), (3, .int z), (4, .int u), (5, .ref out)] := hl
  obtain ⟨hr1, hr2, hr3, hr4⟩ := hrm
  refine lv_aload hx hb d_LA_drop_0 (lv_at hl 5 rfl) ?_
  refine lv_iconst (v := nI 0) hx hb d_LA_drop_2 (by decide) ?_
  refine lv_aload_n hx hb d_LA_drop_3 rfl (lv_at hl 0 rfl) ?_
  refine lv_iload_n hx hb d_LA_drop_4 rfl (lv_at hl 1 rfl) ?_
  refine lv_iload_n hx hb d_LA_drop_5 rfl (lv_at hl 2 rfl) ?_
  refine lv_iload_n hx hb d_LA_drop_6 rfl (lv_at hl 3 rfl) ?_
  refine lv_iload hx hb d_LA_drop_7 (lv_at hl 4 rfl) ?_
  refine gs_callVi (As := [.int x, .int y, .int z, .int u]) (rest := [.int (nI 0), .ref out]) ⟨hx, hb, hml, hown, hts⟩ hK hE hz hG hS hM mV_RR_drop w_415 x0 rfl rfl hl.1 rfl (Nat.le_of_ble_eq_true rfl) ⟨by show rm.frames + 1 ≤ 13; omega, by show 8 + (6 + 11) + rm.locals ≤ 700; omega⟩ ⟨by show 0 + rm.cells ≤ 6; omega, by show 0 + rm.slots ≤ 64; omega⟩ d_LA_drop_9 (fun r_9 σ_9 H locs hp_9 hG hS => ?_)
  have hc9 := ho r_9 σ_9 hp_9
  refine lv_if_eq (tgt := 19) hx hb d_LA_drop_12 (by decide) (fun c_12 => ?_) (fun c_12 => ?_)
  · refine lv_lconst (v := 0) hx hb d_LA_drop_19 rfl ?_
    refine gs_last hx hb hK hG hS hc9 (j := 0) (by omega) (by omega) d_LA_drop_20 (fun H locs hG hS => ?_)
    have hG : gs_H X (gs_up σ_9 out (gs_la X 1 (vp_updL f 0 0))) H := hG
    obtain ⟨σ_1, eσ_1⟩ : ∃ zq, zq = gs_up σ_9 out (gs_la X 1 (vp_updL f 0 0)) := ⟨_, rfl⟩
    rw [← eσ_1] at hG
    have hc_2 : σ_1 out = some (gs_la X 1 (vp_updL f 0 0)) := by rw [eσ_1]; exact gs_us
    refine lv_goto (tgt := 28) hx hb d_LA_drop_21 (by decide) ?_
    refine lv_iconst (v := nI 0) hx hb d_LA_drop_28 (by decide) ?_
    exact gs_iret (v := (nI 0)) hx hb hr rfl hK hE hz hG hS hlocks (by show 0 + rm.cells ≤ 6; omega) (by show 0 + rm.slots ≤ 64; omega) (⟨rfl, r_9, σ_9, hp_9, by rw [eσ_1]; first | rw [if_pos c_12] | rw [if_neg c_12]⟩) d_LA_drop_29
  · refine lv_lconst (v := 1) hx hb d_LA_drop_15 rfl ?_
    refine lv_goto (tgt := 20) hx hb d_LA_drop_16 (by decide) ?_
    refine gs_last hx hb hK hG hS hc9 (j := 0) (by omega) (by omega) d_LA_drop_20 (fun H locs hG hS => ?_)
    have hG : gs_H X (gs_up σ_9 out (gs_la X 1 (vp_updL f 0 1))) H := hG
    obtain ⟨σ_3, eσ_3⟩ : ∃ zq, zq = gs_up σ_9 out (gs_la X 1 (vp_updL f 0 1)) := ⟨_, rfl⟩
    rw [← eσ_3] at hG
    have hc_4 : σ_3 out = some (gs_la X 1 (vp_updL f 0 1)) := by rw [eσ_3]; exact gs_us
    refine lv_goto (tgt := 28) hx hb d_LA_drop_21 (by decide) ?_
    refine lv_iconst (v := nI 0) hx hb d_LA_drop_28 (by decide) ?_
    exact gs_iret (v := (nI 0)) hx hb hr rfl hK hE hz hG hS hlocks (by show 0 + rm.cells ≤ 6; omega) (by show 0 + rm.slots ≤ 64; omega) (⟨rfl, r_9, σ_9, hp_9, by rw [eσ_3]; first | rw [if_pos c_12] | rw [if_neg c_12]⟩) d_LA_drop_29
set_option maxHeartbeats 4000000 in
set_option maxRecDepth 100000 in
/-- the law: drop, xI -/
theorem c_LA_drop_xI (l : Launch) (X : gs_X) (σ : gs_St) (rr out : Nat) (gs : List Value) (rm : Room) (x y z u : Int32)
    (x0 : σ rr = some (gs_ob 0 gs)) (hrm : rmC rm) (hM : gs_Mt l X y_RR_drop b_RR_drop 6 (some .boolean) rm σ [.ref rr, .int x, .int y, .int z, .int u] xI) : gs_MiH l X y_LA_drop b_LA_drop 7 (some .int) [((0 : Nat), (21 : Nat), (24 : Nat), (13 : Nat))] ({ frames := 13, cells := 6, slots := 64, locals := 700 }) σ [.ref rr, .int x, .int y, .int z, .int u, .ref out] (fun k9 σ' => k9 = nI 1 ∧ σ' = σ) := by
  refine gs_MetH_ofW (cc := b_LA_drop) (maxL := 7) (ret := (some .int)) (hs := [((0 : Nat), (21 : Nat), (24 : Nat), (13 : Nat))]) (by decide) rfl ?_
  intro p e s m args below meth c s₁ B₀ hml htab hv
  obtain ⟨rfl, hK, hG, hz, hE⟩ := hv
  have hx := B₀.exec
  have hb := B₀.bytes
  have hr := B₀.returns
  have hts := atoms_spec (ws := gs_wh y_LA_drop b_LA_drop 7 (some .int) [((0 : Nat), (21 : Nat), (24 : Nat), (13 : Nat))]) B₀.pre
  have ht : ∀ w ∈ gs_w, w.before _ s = true := fun w h => hts w (List.mem_cons_of_mem _ h)
  have hown : s.vm.findClass R_LA = some m.cls := findClass_of_methodNamed B₀.named
  have hlocks := B₀.notSynchronized
  have hA : ∀ q : Nat, s.heap.size ≤ q → gs_A X q := fun q h => Nat.le_trans hz h
  have hS : va_S (gs_A X) s.heap s.heap [] := va_S.rf
  have hl := lv_entry ([.ref rr, .int x, .int y, .int z, .int u, .ref out]) (n := 7) (Nat.le_of_ble_eq_true rfl)
  rw [lg_entry_eq]
  generalize (lg_sl ([.ref rr, .int x, .int y, .int z, .int u, .ref out]) ++ List.replicate (7 - (lg_sl ([.ref rr, .int x, .int y, .int z, .int u, .ref out])).length) Slot.unset).toArray = ls at hl ⊢
  have hl : lv_has ls 7 [(0, .ref rr), (1, .int x), (2, .int y), (3, .int z), (4, .int u), (5, .ref out)] := hl
  obtain ⟨hr1, hr2, hr3, hr4⟩ := hrm
  obtain ⟨e0, htab, he0⟩ := tab1 htab
  have hp0 := hpc he0
  refine lv_aload hx hb d_LA_drop_0 (lv_at hl 5 rfl) ?_
  refine lv_iconst (v := nI 0) hx hb d_LA_drop_2 (by decide) ?_
  refine lv_aload_n hx hb d_LA_drop_3 rfl (lv_at hl 0 rfl) ?_
  refine lv_iload_n hx hb d_LA_drop_4 rfl (lv_at hl 1 rfl) ?_
  refine lv_iload_n hx hb d_LA_drop_5 rfl (lv_at hl 2 rfl) ?_
  refine lv_iload_n hx hb d_LA_drop_6 rfl (lv_at hl 3 rfl) ?_
  refine lv_iload hx hb d_LA_drop_7 (lv_at hl 4 rfl) ?_
  refine gs_callVc (As := [.int x, .int y, .int z, .int u]) (rest := [.int (nI 0), .ref out]) ⟨hx, hb, hml, hown, hts⟩ hK hE hz hG hM mV_RR_drop w_415 x0 rfl rfl hl.1 rfl (Nat.le_of_ble_eq_true rfl) ⟨by show rm.frames + 1 ≤ 13; omega, by show 8 + (6 + 11) + rm.locals ≤ 700; omega⟩ ⟨by show 0 + rm.cells ≤ 6; omega, by show 0 + rm.slots ≤ 64; omega⟩ d_LA_drop_9 [] e0 [] htab hE.1 (by rw [hp0.2]; decide) (by rw [hp0.2]; exact w_260) (cov he0 (by decide) (by decide)) (fun z hz => by cases hz) (fun q9 H locs hG hS => ?_)
  rw [hp0.1]
  refine lv_astore (lv' := [(6, .ref q9), (0, .ref rr), (1, .int x), (2, .int y), (3, .int z), (4, .int u), (5, .ref out)]) hx hb d_LA_drop_24 hl (by decide) rfl (fun ls hl => ?_)
  refine lv_iconst (v := nI 1) hx hb d_LA_drop_26 (by decide) ?_
  exact gs_iret (v := (nI 1)) hx hb hr rfl hK hE hz hG hS hlocks (by show 0 + rm.cells ≤ 6; omega) (by show 0 + rm.slots ≤ 64; omega) (⟨rfl, rfl⟩) d_LA_drop_27
set_option maxHeartbeats 4000000 in
set_option maxRecDepth 100000 in
/-- the law: head, answered -/
theorem c_LA_head (l : Launch) (X : gs_X) (σ : gs_St) (rr : Nat) (gs : List Value) (rm : Room) (x y z u : Int32) (post : gs_St → Prop)
    (x0 : σ rr = some (gs_ob 0 gs)) (hrm : rmC rm) (hM : gs_Mv l X y_RR_head b_RR_head 5 rm σ [.ref rr, .int x, .int y, .int z, .int u] post) : gs_MiH l X y_LA_head b_LA_head 6 (some .int) [((0 : Nat), (9 : Nat), (12 : Nat), (13 : Nat))] ({ frames := 13, cells := 6, slots := 64, locals := 700 }) σ [.ref rr, .int x, .int y, .int z, .int u] (fun k9 σ' => k9 = nI 0 ∧ post σ') := by
  refine gs_MetH_ofW (cc := b_LA_head) (maxL := 6) (ret := (some .int)) (hs := [((0 : Nat), (9 : Nat), (12 : Nat), (13 : Nat))]) (by decide) rfl ?_
  intro p e s m args below meth c s₁ B₀ hml htab hv
  obtain ⟨rfl, hK, hG, hz, hE⟩ := hv
  have hx := B₀.exec
  have hb := B₀.bytes
  have hr := B₀.returns
  have hts := atoms_spec (ws := gs_wh y_LA_head b_LA_head 6 (some .int) [((0 : Nat), (9 : Nat), (12 : Nat), (13 : Nat))]) B₀.pre
  have ht : ∀ w ∈ gs_w, w.before _ s = true := fun w h => hts w (List.mem_cons_of_mem _ h)
  have hown : s.vm.findClass R_LA = some m.cls := findClass_of_methodNamed B₀.named
  have hlocks := B₀.notSynchronized
  have hA : ∀ q : Nat, s.heap.size ≤ q → gs_A X q := fun q h => Nat.le_trans hz h
  have hS : va_S (gs_A X) s.heap s.heap [] := va_S.rf
  have hl := lv_entry ([.ref rr, .int x, .int y, .int z, .int u]) (n := 6) (Nat.le_of_ble_eq_true rfl)
  rw [lg_entry_eq]
  generalize (lg_sl ([.ref rr, .int x, .int y, .int z, .int u]) ++ List.replicate (6 - (lg_sl ([.ref rr, .int x, .int y, .int z, .int u])).length) Slot.unset).toArray = ls at hl ⊢
  have hl : lv_has ls 6 [(0, .ref rr), (1, .int x), (2, .int y), (3, .int z), (4, .int u)] := hl
  obtain ⟨hr1, hr2, hr3, hr4⟩ := hrm
  refine lv_aload_n hx hb d_LA_head_0 rfl (lv_at hl 0 rfl) ?_
  refine lv_iload_n hx hb d_LA_head_1 rfl (lv_at hl 1 rfl) ?_
  refine lv_iload_n hx hb d_LA_head_2 rfl (lv_at hl 2 rfl) ?_
  refine lv_iload_n hx hb d_LA_head_3 rfl (lv_at hl 3 rfl) ?_
  refine lv_iload hx hb d_LA_head_4 (lv_at hl 4 rfl) ?_
  refine gs_callVv (As := [.int x, .int y, .int z, .int u]) (rest := []) ⟨hx, hb, hml, hown, hts⟩ hK hE hz hG hS hM mV_RR_head w_426 x0 rfl rfl hl.1 rfl (Nat.le_of_ble_eq_true rfl) ⟨by show rm.frames + 1 ≤ 13; omega, by show 8 + (5 + 11) + rm.locals ≤ 700; omega⟩ ⟨by show 0 + rm.cells ≤ 6; omega, by show 0 + rm.slots ≤ 64; omega⟩ d_LA_head_6 (fun σ_6 H locs hp_6 hG hS => ?_)
  refine lv_goto (tgt := 16) hx hb d_LA_head_9 (by decide) ?_
  refine lv_iconst (v := nI 0) hx hb d_LA_head_16 (by decide) ?_
  exact gs_iret (v := (nI 0)) hx hb hr rfl hK hE hz hG hS hlocks (by show 0 + rm.cells ≤ 6; omega) (by show 0 + rm.slots ≤ 64; omega) (⟨rfl, hp_6⟩) d_LA_head_17
set_option maxHeartbeats 4000000 in
set_option maxRecDepth 100000 in
/-- the law: head, xI -/
theorem c_LA_head_xI (l : Launch) (X : gs_X) (σ : gs_St) (rr : Nat) (gs : List Value) (rm : Room) (x y z u : Int32)
    (x0 : σ rr = some (gs_ob 0 gs)) (hrm : rmC rm) (hM : gs_Mt l X y_RR_head b_RR_head 5 none rm σ [.ref rr, .int x, .int y, .int z, .int u] xI) : gs_MiH l X y_LA_head b_LA_head 6 (some .int) [((0 : Nat), (9 : Nat), (12 : Nat), (13 : Nat))] ({ frames := 13, cells := 6, slots := 64, locals := 700 }) σ [.ref rr, .int x, .int y, .int z, .int u] (fun k9 σ' => k9 = nI 1 ∧ σ' = σ) := by
  refine gs_MetH_ofW (cc := b_LA_head) (maxL := 6) (ret := (some .int)) (hs := [((0 : Nat), (9 : Nat), (12 : Nat), (13 : Nat))]) (by decide) rfl ?_
  intro p e s m args below meth c s₁ B₀ hml htab hv
  obtain ⟨rfl, hK, hG, hz, hE⟩ := hv
  have hx := B₀.exec
  have hb := B₀.bytes
  have hr := B₀.returns
  have hts := atoms_spec (ws := gs_wh y_LA_head b_LA_head 6 (some .int) [((0 : Nat), (9 : Nat), (12 : Nat), (13 : Nat))]) B₀.pre
  have ht : ∀ w ∈ gs_w, w.before _ s = true := fun w h => hts w (List.mem_cons_of_mem _ h)
  have hown : s.vm.findClass R_LA = some m.cls := findClass_of_methodNamed B₀.named
  have hlocks := B₀.notSynchronized
  have hA : ∀ q : Nat, s.heap.size ≤ q → gs_A X q := fun q h => Nat.le_trans hz h
  have hS : va_S (gs_A X) s.heap s.heap [] := va_S.rf
  have hl := lv_entry ([.ref rr, .int x, .int y, .int z, .int u]) (n := 6) (Nat.le_of_ble_eq_true rfl)
  rw [lg_entry_eq]
  generalize (lg_sl ([.ref rr, .int x, .int y, .int z, .int u]) ++ List.replicate (6 - (lg_sl ([.ref rr, .int x, .int y, .int z, .int u])).length) Slot.unset).toArray = ls at hl ⊢
  have hl : lv_has ls 6 [(0, .ref rr), (1, .int x), (2, .int y), (3, .int z), (4, .int u)] := hl
  obtain ⟨hr1, hr2, hr3, hr4⟩ := hrm
  obtain ⟨e0, htab, he0⟩ := tab1 htab
  have hp0 := hpc he0
  refine lv_aload_n hx hb d_LA_head_0 rfl (lv_at hl 0 rfl) ?_
  refine lv_iload_n hx hb d_LA_head_1 rfl (lv_at hl 1 rfl) ?_
  refine lv_iload_n hx hb d_LA_head_2 rfl (lv_at hl 2 rfl) ?_
  refine lv_iload_n hx hb d_LA_head_3 rfl (lv_at hl 3 rfl) ?_
  refine lv_iload hx hb d_LA_head_4 (lv_at hl 4 rfl) ?_
  refine gs_callVc (As := [.int x, .int y, .int z, .int u]) (rest := []) ⟨hx, hb, hml, hown, hts⟩ hK hE hz hG hM mV_RR_head w_426 x0 rfl rfl hl.1 rfl (Nat.le_of_ble_eq_true rfl) ⟨by show rm.frames + 1 ≤ 13; omega, by show 8 + (5 + 11) + rm.locals ≤ 700; omega⟩ ⟨by show 0 + rm.cells ≤ 6; omega, by show 0 + rm.slots ≤ 64; omega⟩ d_LA_head_6 [] e0 [] htab hE.1 (by rw [hp0.2]; decide) (by rw [hp0.2]; exact w_260) (cov he0 (by decide) (by decide)) (fun z hz => by cases hz) (fun q9 H locs hG hS => ?_)
  rw [hp0.1]
  refine lv_astore (lv' := [(5, .ref q9), (0, .ref rr), (1, .int x), (2, .int y), (3, .int z), (4, .int u)]) hx hb d_LA_head_12 hl (by decide) rfl (fun ls hl => ?_)
  refine lv_iconst (v := nI 1) hx hb d_LA_head_14 (by decide) ?_
  exact gs_iret (v := (nI 1)) hx hb hr rfl hK hE hz hG hS hlocks (by show 0 + rm.cells ≤ 6; omega) (by show 0 + rm.slots ≤ 64; omega) (⟨rfl, rfl⟩) d_LA_head_15
set_option maxHeartbeats 4000000 in
set_option maxRecDepth 100000 in
/-- the law: item, answered -/
theorem c_LA_item (l : Launch) (X : gs_X) (σ : gs_St) (rr out : Nat) (gs : List Value) (rm : Room) (f : Nat → Int64) (x y z u t9 : Int32) (post : Int32 → gs_St → Prop)
    (x0 : σ rr = some (gs_ob 0 gs)) (hrm : rmC rm) (hM : gs_Mi l X y_RR_item b_RR_item 7 (some .int) rm σ [.ref rr, .int x, .int y, .int z, .int u, .int t9] post) (ho : ∀ r9 σ9, post r9 σ9 → σ9 out = some (gs_la X 1 f)) : gs_MiH l X y_LA_item b_LA_item 8 (some .int) [((0 : Nat), (16 : Nat), (19 : Nat), (13 : Nat)), ((0 : Nat), (16 : Nat), (23 : Nat), (15 : Nat))] ({ frames := 13, cells := 6, slots := 64, locals := 700 }) σ [.ref rr, .int x, .int y, .int z, .int u, .int t9, .ref out] (fun k9 σ' => k9 = nI 0 ∧ ∃ r9 σ9, post r9 σ9 ∧ σ' = gs_up σ9 out (gs_la X 1 (vp_updL f 0 r9.toInt64))) := by
  refine gs_MetH_ofW (cc := b_LA_item) (maxL := 8) (ret := (some .int)) (hs := [((0 : Nat), (16 : Nat), (19 : Nat), (13 : Nat)), ((0 : Nat), (16 : Nat), (23 : Nat), (15 : Nat))]) (by decide) rfl ?_
  intro p e s m args below meth c s₁ B₀ hml htab hv
  obtain ⟨rfl, hK, hG, hz, hE⟩ := hv
  have hx := B₀.exec
  have hb := B₀.bytes
  have hr := B₀.returns
  have hts := atoms_spec (ws := gs_wh y_LA_item b_LA_item 8 (some .int) [((0 : Nat), (16 : Nat), (19 : Nat), (13 : Nat)), ((0 : Nat), (16 : Nat), (23 : Nat), (15 : Nat))]) B₀.pre
  have ht : ∀ w ∈ gs_w, w.before _ s = true := fun w h => hts w (List.mem_cons_of_mem _ h)
  have hown : s.vm.findClass R_LA = some m.cls := findClass_of_methodNamed B₀.named
  have hlocks := B₀.notSynchronized
  have hA : ∀ q : Nat, s.heap.size ≤ q → gs_A X q := fun q h => Nat.le_trans hz h
  have hS : va_S (gs_A X) s.heap s.heap [] := va_S.rf
  have hl := lv_entry ([.ref rr, .int x, .int y, .int z, .int u, .int t9, .ref out]) (n := 8) (Nat.le_of_ble_eq_true rfl)
  rw [lg_entry_eq]
  generalize (lg_sl ([.ref rr, .int x, .int y, .int z, .int u, .int t9, .ref out]) ++ List.replicate (8 - (lg_sl ([.ref rr, .int x, .int y, .int z, .int u, .int t9, .ref out])).length) Slot.unset).toArray = ls at hl ⊢
  have hl : lv_has ls 8 [(0, .ref rr), (1, .int x), (2, .int y), (3, .int z), (4, .int u), (5, .int t9), (6, .ref out)] := hl
  obtain ⟨hr1, hr2, hr3, hr4⟩ := hrm
  refine lv_aload hx hb d_LA_item_0 (lv_at hl 6 rfl) ?_
  refine lv_iconst (v := nI 0) hx hb d_LA_item_2 (by decide) ?_
  refine lv_aload_n hx hb d_LA_item_3 rfl (lv_at hl 0 rfl) ?_
  refine lv_iload_n hx hb d_LA_item_4 rfl (lv_at hl 1 rfl) ?_
  refine lv_iload_n hx hb d_LA_item_5 rfl (lv_at hl 2 rfl) ?_
  refine lv_iload_n hx hb d_LA_item_6 rfl (lv_at hl 3 rfl) ?_
  refine lv_iload hx hb d_LA_item_7 (lv_at hl 4 rfl) ?_
  refine lv_iload hx hb d_LA_item_9 (lv_at hl 5 rfl) ?_
  refine gs_callVi (As := [.int x, .int y, .int z, .int u, .int t9]) (rest := [.int (nI 0), .ref out]) ⟨hx, hb, hml, hown, hts⟩ hK hE hz hG hS hM mV_RR_item w_527 x0 rfl rfl hl.1 rfl (Nat.le_of_ble_eq_true rfl) ⟨by show rm.frames + 1 ≤ 13; omega, by show 8 + (7 + 11) + rm.locals ≤ 700; omega⟩ ⟨by show 0 + rm.cells ≤ 6; omega, by show 0 + rm.slots ≤ 64; omega⟩ d_LA_item_11 (fun r_11 σ_11 H locs hp_11 hG hS => ?_)
  have hc9 := ho r_11 σ_11 hp_11
  refine lv_i2l hx hb d_LA_item_14 rfl ?_
  refine gs_last hx hb hK hG hS hc9 (j := 0) (by omega) (by omega) d_LA_item_15 (fun H locs hG hS => ?_)
  have hG : gs_H X (gs_up σ_11 out (gs_la X 1 (vp_updL f 0 ((r_11).toInt64)))) H := hG
  obtain ⟨σ_1, eσ_1⟩ : ∃ zq, zq = gs_up σ_11 out (gs_la X 1 (vp_updL f 0 ((r_11).toInt64))) := ⟨_, rfl⟩
  rw [← eσ_1] at hG
  have hc_2 : σ_1 out = some (gs_la X 1 (vp_updL f 0 ((r_11).toInt64))) := by rw [eσ_1]; exact gs_us
  refine lv_goto (tgt := 27) hx hb d_LA_item_16 (by decide) ?_
  refine lv_iconst (v := nI 0) hx hb d_LA_item_27 (by decide) ?_
  exact gs_iret (v := (nI 0)) hx hb hr rfl hK hE hz hG hS hlocks (by show 0 + rm.cells ≤ 6; omega) (by show 0 + rm.slots ≤ 64; omega) (⟨rfl, r_11, σ_11, hp_11, eσ_1⟩) d_LA_item_28
set_option maxHeartbeats 4000000 in
set_option maxRecDepth 100000 in
/-- the law: item, xI -/
theorem c_LA_item_xI (l : Launch) (X : gs_X) (σ : gs_St) (rr out : Nat) (gs : List Value) (rm : Room) (x y z u t9 : Int32)
    (x0 : σ rr = some (gs_ob 0 gs)) (hrm : rmC rm) (hM : gs_Mt l X y_RR_item b_RR_item 7 (some .int) rm σ [.ref rr, .int x, .int y, .int z, .int u, .int t9] xI) : gs_MiH l X y_LA_item b_LA_item 8 (some .int) [((0 : Nat), (16 : Nat), (19 : Nat), (13 : Nat)), ((0 : Nat), (16 : Nat), (23 : Nat), (15 : Nat))] ({ frames := 13, cells := 6, slots := 64, locals := 700 }) σ [.ref rr, .int x, .int y, .int z, .int u, .int t9, .ref out] (fun k9 σ' => k9 = nI 1 ∧ σ' = σ) := by
  refine gs_MetH_ofW (cc := b_LA_item) (maxL := 8) (ret := (some .int)) (hs := [((0 : Nat), (16 : Nat), (19 : Nat), (13 : Nat)), ((0 : Nat), (16 : Nat), (23 : Nat), (15 : Nat))]) (by decide) rfl ?_
  intro p e s m args below meth c s₁ B₀ hml htab hv
  obtain ⟨rfl, hK, hG, hz, hE⟩ := hv
  have hx := B₀.exec
  have hb := B₀.bytes
  have hr := B₀.returns
  have hts := atoms_spec (ws := gs_wh y_LA_item b_LA_item 8 (some .int) [((0 : Nat), (16 : Nat), (19 : Nat), (13 : Nat)), ((0 : Nat), (16 : Nat), (23 : Nat), (15 : Nat))]) B₀.pre
  have ht : ∀ w ∈ gs_w, w.before _ s = true := fun w h => hts w (List.mem_cons_of_mem _ h)
  have hown : s.vm.findClass R_LA = some m.cls := findClass_of_methodNamed B₀.named
  have hlocks := B₀.notSynchronized
  have hA : ∀ q : Nat, s.heap.size ≤ q → gs_A X q := fun q h => Nat.le_trans hz h
  have hS : va_S (gs_A X) s.heap s.heap [] := va_S.rf
  have hl := lv_entry ([.ref rr, .int x, .int y, .int z, .int u, .int t9, .ref out]) (n := 8) (Nat.le_of_ble_eq_true rfl)
  rw [lg_entry_eq]
  generalize (lg_sl ([.ref rr, .int x, .int y, .int z, .int u, .int t9, .ref out]) ++ List.replicate (8 - (lg_sl ([.ref rr, .int x, .int y, .int z, .int u, .int t9, .ref out])).length) Slot.unset).toArray = ls at hl ⊢
  have hl : lv_has ls 8 [(0, .ref rr), (1, .int x), (2, .int y), (3, .int z), (4, .int u), (5, .int t9), (6, .ref out)] := hl
  obtain ⟨hr1, hr2, hr3, hr4⟩ := hrm
  obtain ⟨e0, e1, htab, he0, he1⟩ := tab2 htab
  have hp0 := hpc he0
  have hp1 := hpc he1
  refine lv_aload hx hb d_LA_item_0 (lv_at hl 6 rfl) ?_
  refine lv_iconst (v := nI 0) hx hb d_LA_item_2 (by decide) ?_
  refine lv_aload_n hx hb d_LA_item_3 rfl (lv_at hl 0 rfl) ?_
  refine lv_iload_n hx hb d_LA_item_4 rfl (lv_at hl 1 rfl) ?_
  refine lv_iload_n hx hb d_LA_item_5 rfl (lv_at hl 2 rfl) ?_
  refine lv_iload_n hx hb d_LA_item_6 rfl (lv_at hl 3 rfl) ?_
  refine lv_iload hx hb d_LA_item_7 (lv_at hl 4 rfl) ?_
  refine lv_iload hx hb d_LA_item_9 (lv_at hl 5 rfl) ?_
  refine gs_callVc (As := [.int x, .int y, .int z, .int u, .int t9]) (rest := [.int (nI 0), .ref out]) ⟨hx, hb, hml, hown, hts⟩ hK hE hz hG hM mV_RR_item w_527 x0 rfl rfl hl.1 rfl (Nat.le_of_ble_eq_true rfl) ⟨by show rm.frames + 1 ≤ 13; omega, by show 8 + (7 + 11) + rm.locals ≤ 700; omega⟩ ⟨by show 0 + rm.cells ≤ 6; omega, by show 0 + rm.slots ≤ 64; omega⟩ d_LA_item_11 [] e0 [e1] htab hE.1 (by rw [hp0.2]; decide) (by rw [hp0.2]; exact w_260) (cov he0 (by decide) (by decide)) (fun z hz => by cases hz) (fun q9 H locs hG hS => ?_)
  rw [hp0.1]
  refine lv_astore (lv' := [(7, .ref q9), (0, .ref rr), (1, .int x), (2, .int y), (3, .int z), (4, .int u), (5, .int t9), (6, .ref out)]) hx hb d_LA_item_19 hl (by decide) rfl (fun ls hl => ?_)
  refine lv_iconst (v := nI 1) hx hb d_LA_item_21 (by decide) ?_
  exact gs_iret (v := (nI 1)) hx hb hr rfl hK hE hz hG hS hlocks (by show 0 + rm.cells ≤ 6; omega) (by show 0 + rm.slots ≤ 64; omega) (⟨rfl, rfl⟩) d_LA_item_22
set_option maxHeartbeats 4000000 in
set_option maxRecDepth 100000 in
/-- the law: item, xS -/
theorem c_LA_item_xS (l : Launch) (X : gs_X) (σ : gs_St) (rr out : Nat) (gs : List Value) (rm : Room) (x y z u t9 : Int32)
    (x0 : σ rr = some (gs_ob 0 gs)) (hrm : rmC rm) (hM : gs_Mt l X y_RR_item b_RR_item 7 (some .int) rm σ [.ref rr, .int x, .int y, .int z, .int u, .int t9] xS) : gs_MiH l X y_LA_item b_LA_item 8 (some .int) [((0 : Nat), (16 : Nat), (19 : Nat), (13 : Nat)), ((0 : Nat), (16 : Nat), (23 : Nat), (15 : Nat))] ({ frames := 13, cells := 6, slots := 64, locals := 700 }) σ [.ref rr, .int x, .int y, .int z, .int u, .int t9, .ref out] (fun k9 σ' => k9 = nI 2 ∧ σ' = σ) := by
  refine gs_MetH_ofW (cc := b_LA_item) (maxL := 8) (ret := (some .int)) (hs := [((0 : Nat), (16 : Nat), (19 : Nat), (13 : Nat)), ((0 : Nat), (16 : Nat), (23 : Nat), (15 : Nat))]) (by decide) rfl ?_
  intro p e s m args below meth c s₁ B₀ hml htab hv
  obtain ⟨rfl, hK, hG, hz, hE⟩ := hv
  have hx := B₀.exec
  have hb := B₀.bytes
  have hr := B₀.returns
  have hts := atoms_spec (ws := gs_wh y_LA_item b_LA_item 8 (some .int) [((0 : Nat), (16 : Nat), (19 : Nat), (13 : Nat)), ((0 : Nat), (16 : Nat), (23 : Nat), (15 : Nat))]) B₀.pre
  have ht : ∀ w ∈ gs_w, w.before _ s = true := fun w h => hts w (List.mem_cons_of_mem _ h)
  have hown : s.vm.findClass R_LA = some m.cls := findClass_of_methodNamed B₀.named
  have hlocks := B₀.notSynchronized
  have hA : ∀ q : Nat, s.heap.size ≤ q → gs_A X q := fun q h => Nat.le_trans hz h
  have hS : va_S (gs_A X) s.heap s.heap [] := va_S.rf
  have hl := lv_entry ([.ref rr, .int x, .int y, .int z, .int u, .int t9, .ref out]) (n := 8) (Nat.le_of_ble_eq_true rfl)
  rw [lg_entry_eq]
  generalize (lg_sl ([.ref rr, .int x, .int y, .int z, .int u, .int t9, .ref out]) ++ List.replicate (8 - (lg_sl ([.ref rr, .int x, .int y, .int z, .int u, .int t9, .ref out])).length) Slot.unset).toArray = ls at hl ⊢
  have hl : lv_has ls 8 [(0, .ref rr), (1, .int x), (2, .int y), (3, .int z), (4, .int u), (5, .int t9), (6, .ref out)] := hl
  obtain ⟨hr1, hr2, hr3, hr4⟩ := hrm
  obtain ⟨e0, e1, htab, he0, he1⟩ := tab2 htab
  have hp0 := hpc he0
  have hp1 := hpc he1
  refine lv_aload hx hb d_LA_item_0 (lv_at hl 6 rfl) ?_
  refine lv_iconst (v := nI 0) hx hb d_LA_item_2 (by decide) ?_
  refine lv_aload_n hx hb d_LA_item_3 rfl (lv_at hl 0 rfl) ?_
  refine lv_iload_n hx hb d_LA_item_4 rfl (lv_at hl 1 rfl) ?_
  refine lv_iload_n hx hb d_LA_item_5 rfl (lv_at hl 2 rfl) ?_
  refine lv_iload_n hx hb d_LA_item_6 rfl (lv_at hl 3 rfl) ?_
  refine lv_iload hx hb d_LA_item_7 (lv_at hl 4 rfl) ?_
  refine lv_iload hx hb d_LA_item_9 (lv_at hl 5 rfl) ?_
  refine gs_callVc (As := [.int x, .int y, .int z, .int u, .int t9]) (rest := [.int (nI 0), .ref out]) ⟨hx, hb, hml, hown, hts⟩ hK hE hz hG hM mV_RR_item w_527 x0 rfl rfl hl.1 rfl (Nat.le_of_ble_eq_true rfl) ⟨by show rm.frames + 1 ≤ 13; omega, by show 8 + (7 + 11) + rm.locals ≤ 700; omega⟩ ⟨by show 0 + rm.cells ≤ 6; omega, by show 0 + rm.slots ≤ 64; omega⟩ d_LA_item_11 [e0] e1 [] htab hE.2.1 (by rw [hp1.2]; decide) (by rw [hp1.2]; exact w_261) (cov he1 (by decide) (by decide)) (fun z hz => by rw [List.mem_singleton.mp hz]; exact ⟨by rw [hp0.2]; decide, _, (by rw [hp0.2]; exact w_260), hE.2.2.2.1⟩) (fun q9 H locs hG hS => ?_)
  rw [hp1.1]
  refine lv_astore (lv' := [(7, .ref q9), (0, .ref rr), (1, .int x), (2, .int y), (3, .int z), (4, .int u), (5, .int t9), (6, .ref out)]) hx hb d_LA_item_23 hl (by decide) rfl (fun ls hl => ?_)
  refine lv_iconst (v := nI 2) hx hb d_LA_item_25 (by decide) ?_
  exact gs_iret (v := (nI 2)) hx hb hr rfl hK hE hz hG hS hlocks (by show 0 + rm.cells ≤ 6; omega) (by show 0 + rm.slots ≤ 64; omega) (⟨rfl, rfl⟩) d_LA_item_26
set_option maxHeartbeats 4000000 in
set_option maxRecDepth 100000 in
/-- the law: rule, answered -/
theorem c_LA_rule (l : Launch) (X : gs_X) (σ : gs_St) (rr out : Nat) (gs : List Value) (rm : Room) (f : Nat → Int64) (post : Int32 → gs_St → Prop)
    (x0 : σ rr = some (gs_ob 0 gs)) (hrm : rmC rm) (hM : gs_Mi l X y_RR_rule b_RR_rule 1 (some .int) rm σ [.ref rr] post) (ho : ∀ r9 σ9, post r9 σ9 → σ9 out = some (gs_la X 1 f)) : gs_MiH l X y_LA_rule b_LA_rule 3 (some .int) [((0 : Nat), (8 : Nat), (11 : Nat), (15 : Nat))] ({ frames := 13, cells := 6, slots := 64, locals := 700 }) σ [.ref rr, .ref out] (fun k9 σ' => k9 = nI 0 ∧ ∃ r9 σ9, post r9 σ9 ∧ σ' = gs_up σ9 out (gs_la X 1 (vp_updL f 0 r9.toInt64))) := by
  refine gs_MetH_ofW (cc := b_LA_rule) (maxL := 3) (ret := (some .int)) (hs := [((0 : Nat), (8 : Nat), (11 : Nat), (15 : Nat))]) (by decide) rfl ?_
  intro p e s m args below meth c s₁ B₀ hml htab hv
  obtain ⟨rfl, hK, hG, hz, hE⟩ := hv
  have hx := B₀.exec
  have hb := B₀.bytes
  have hr := B₀.returns
  have hts := atoms_spec (ws := gs_wh y_LA_rule b_LA_rule 3 (some .int) [((0 : Nat), (8 : Nat), (11 : Nat), (15 : Nat))]) B₀.pre
  have ht : ∀ w ∈ gs_w, w.before _ s = true := fun w h => hts w (List.mem_cons_of_mem _ h)
  have hown : s.vm.findClass R_LA = some m.cls := findClass_of_methodNamed B₀.named
  have hlocks := B₀.notSynchronized
  have hA : ∀ q : Nat, s.heap.size ≤ q → gs_A X q := fun q h => Nat.le_trans hz h
  have hS : va_S (gs_A X) s.heap s.heap [] := va_S.rf
  have hl := lv_entry ([.ref rr, .ref out]) (n := 3) (Nat.le_of_ble_eq_true rfl)
  rw [lg_entry_eq]
  generalize (lg_sl ([.ref rr, .ref out]) ++ List.replicate (3 - (lg_sl ([.ref rr, .ref out])).length) Slot.unset).toArray = ls at hl ⊢
  have hl : lv_has ls 3 [(0, .ref rr), (1, .ref out)] := hl
  obtain ⟨hr1, hr2, hr3, hr4⟩ := hrm
  refine lv_aload_n hx hb d_LA_rule_0 rfl (lv_at hl 1 rfl) ?_
  refine lv_iconst (v := nI 0) hx hb d_LA_rule_1 (by decide) ?_
  refine lv_aload_n hx hb d_LA_rule_2 rfl (lv_at hl 0 rfl) ?_
  refine gs_callVi (As := []) (rest := [.int (nI 0), .ref out]) ⟨hx, hb, hml, hown, hts⟩ hK hE hz hG hS hM mV_RR_rule w_564 x0 rfl rfl hl.1 rfl (Nat.le_of_ble_eq_true rfl) ⟨by show rm.frames + 1 ≤ 13; omega, by show 8 + (1 + 11) + rm.locals ≤ 700; omega⟩ ⟨by show 0 + rm.cells ≤ 6; omega, by show 0 + rm.slots ≤ 64; omega⟩ d_LA_rule_3 (fun r_3 σ_3 H locs hp_3 hG hS => ?_)
  have hc9 := ho r_3 σ_3 hp_3
  refine lv_i2l hx hb d_LA_rule_6 rfl ?_
  refine gs_last hx hb hK hG hS hc9 (j := 0) (by omega) (by omega) d_LA_rule_7 (fun H locs hG hS => ?_)
  have hG : gs_H X (gs_up σ_3 out (gs_la X 1 (vp_updL f 0 ((r_3).toInt64)))) H := hG
  obtain ⟨σ_1, eσ_1⟩ : ∃ zq, zq = gs_up σ_3 out (gs_la X 1 (vp_updL f 0 ((r_3).toInt64))) := ⟨_, rfl⟩
  rw [← eσ_1] at hG
  have hc_2 : σ_1 out = some (gs_la X 1 (vp_updL f 0 ((r_3).toInt64))) := by rw [eσ_1]; exact gs_us
  refine lv_goto (tgt := 14) hx hb d_LA_rule_8 (by decide) ?_
  refine lv_iconst (v := nI 0) hx hb d_LA_rule_14 (by decide) ?_
  exact gs_iret (v := (nI 0)) hx hb hr rfl hK hE hz hG hS hlocks (by show 0 + rm.cells ≤ 6; omega) (by show 0 + rm.slots ≤ 64; omega) (⟨rfl, r_3, σ_3, hp_3, eσ_1⟩) d_LA_rule_15
set_option maxHeartbeats 4000000 in
set_option maxRecDepth 100000 in
/-- the law: rule, xS -/
theorem c_LA_rule_xS (l : Launch) (X : gs_X) (σ : gs_St) (rr out : Nat) (gs : List Value) (rm : Room)
    (x0 : σ rr = some (gs_ob 0 gs)) (hrm : rmC rm) (hM : gs_Mt l X y_RR_rule b_RR_rule 1 (some .int) rm σ [.ref rr] xS) : gs_MiH l X y_LA_rule b_LA_rule 3 (some .int) [((0 : Nat), (8 : Nat), (11 : Nat), (15 : Nat))] ({ frames := 13, cells := 6, slots := 64, locals := 700 }) σ [.ref rr, .ref out] (fun k9 σ' => k9 = nI 1 ∧ σ' = σ) := by
  refine gs_MetH_ofW (cc := b_LA_rule) (maxL := 3) (ret := (some .int)) (hs := [((0 : Nat), (8 : Nat), (11 : Nat), (15 : Nat))]) (by decide) rfl ?_
  intro p e s m args below meth c s₁ B₀ hml htab hv
  obtain ⟨rfl, hK, hG, hz, hE⟩ := hv
  have hx := B₀.exec
  have hb := B₀.bytes
  have hr := B₀.returns
  have hts := atoms_spec (ws := gs_wh y_LA_rule b_LA_rule 3 (some .int) [((0 : Nat), (8 : Nat), (11 : Nat), (15 : Nat))]) B₀.pre
  have ht : ∀ w ∈ gs_w, w.before _ s = true := fun w h => hts w (List.mem_cons_of_mem _ h)
  have hown : s.vm.findClass R_LA = some m.cls := findClass_of_methodNamed B₀.named
  have hlocks := B₀.notSynchronized
  have hA : ∀ q : Nat, s.heap.size ≤ q → gs_A X q := fun q h => Nat.le_trans hz h
  have hS : va_S (gs_A X) s.heap s.heap [] := va_S.rf
  have hl := lv_entry ([.ref rr, .ref out]) (n := 3) (Nat.le_of_ble_eq_true rfl)
  rw [lg_entry_eq]
  generalize (lg_sl ([.ref rr, .ref out]) ++ List.replicate (3 - (lg_sl ([.ref rr, .ref out])).length) Slot.unset).toArray = ls at hl ⊢
  have hl : lv_has ls 3 [(0, .ref rr), (1, .ref out)] := hl
  obtain ⟨hr1, hr2, hr3, hr4⟩ := hrm
  obtain ⟨e0, htab, he0⟩ := tab1 htab
  have hp0 := hpc he0
  refine lv_aload_n hx hb d_LA_rule_0 rfl (lv_at hl 1 rfl) ?_
  refine lv_iconst (v := nI 0) hx hb d_LA_rule_1 (by decide) ?_
  refine lv_aload_n hx hb d_LA_rule_2 rfl (lv_at hl 0 rfl) ?_
  refine gs_callVc (As := []) (rest := [.int (nI 0), .ref out]) ⟨hx, hb, hml, hown, hts⟩ hK hE hz hG hM mV_RR_rule w_564 x0 rfl rfl hl.1 rfl (Nat.le_of_ble_eq_true rfl) ⟨by show rm.frames + 1 ≤ 13; omega, by show 8 + (1 + 11) + rm.locals ≤ 700; omega⟩ ⟨by show 0 + rm.cells ≤ 6; omega, by show 0 + rm.slots ≤ 64; omega⟩ d_LA_rule_3 [] e0 [] htab hE.2.1 (by rw [hp0.2]; decide) (by rw [hp0.2]; exact w_261) (cov he0 (by decide) (by decide)) (fun z hz => by cases hz) (fun q9 H locs hG hS => ?_)
  rw [hp0.1]
  refine lv_astore_n (lv' := [(2, .ref q9), (0, .ref rr), (1, .ref out)]) hx hb d_LA_rule_11 rfl hl (by decide) rfl (fun ls hl => ?_)
  refine lv_iconst (v := nI 1) hx hb d_LA_rule_12 (by decide) ?_
  exact gs_iret (v := (nI 1)) hx hb hr rfl hK hE hz hG hS hlocks (by show 0 + rm.cells ≤ 6; omega) (by show 0 + rm.slots ≤ 64; omega) (⟨rfl, rfl⟩) d_LA_rule_13
set_option maxHeartbeats 4000000 in
set_option maxRecDepth 100000 in
/-- the law: stratum, answered -/
theorem c_LA_stratum (l : Launch) (X : gs_X) (σ : gs_St) (rr out : Nat) (gs : List Value) (rm : Room) (f : Nat → Int64) (x : Int32) (post : Int32 → gs_St → Prop)
    (x0 : σ rr = some (gs_ob 0 gs)) (hrm : rmC rm) (hM : gs_Mi l X y_RR_stratum b_RR_stratum 2 (some .int) rm σ [.ref rr, .int x] post) (ho : ∀ r9 σ9, post r9 σ9 → σ9 out = some (gs_la X 1 f)) : gs_MiH l X y_LA_stratum b_LA_stratum 4 (some .int) [((0 : Nat), (9 : Nat), (12 : Nat), (13 : Nat)), ((0 : Nat), (9 : Nat), (15 : Nat), (15 : Nat))] ({ frames := 13, cells := 6, slots := 64, locals := 700 }) σ [.ref rr, .int x, .ref out] (fun k9 σ' => k9 = nI 0 ∧ ∃ r9 σ9, post r9 σ9 ∧ σ' = gs_up σ9 out (gs_la X 1 (vp_updL f 0 r9.toInt64))) := by
  refine gs_MetH_ofW (cc := b_LA_stratum) (maxL := 4) (ret := (some .int)) (hs := [((0 : Nat), (9 : Nat), (12 : Nat), (13 : Nat)), ((0 : Nat), (9 : Nat), (15 : Nat), (15 : Nat))]) (by decide) rfl ?_
  intro p e s m args below meth c s₁ B₀ hml htab hv
  obtain ⟨rfl, hK, hG, hz, hE⟩ := hv
  have hx := B₀.exec
  have hb := B₀.bytes
  have hr := B₀.returns
  have hts := atoms_spec (ws := gs_wh y_LA_stratum b_LA_stratum 4 (some .int) [((0 : Nat), (9 : Nat), (12 : Nat), (13 : Nat)), ((0 : Nat), (9 : Nat), (15 : Nat), (15 : Nat))]) B₀.pre
  have ht : ∀ w ∈ gs_w, w.before _ s = true := fun w h => hts w (List.mem_cons_of_mem _ h)
  have hown : s.vm.findClass R_LA = some m.cls := findClass_of_methodNamed B₀.named
  have hlocks := B₀.notSynchronized
  have hA : ∀ q : Nat, s.heap.size ≤ q → gs_A X q := fun q h => Nat.le_trans hz h
  have hS : va_S (gs_A X) s.heap s.heap [] := va_S.rf
  have hl := lv_entry ([.ref rr, .int x, .ref out]) (n := 4) (Nat.le_of_ble_eq_true rfl)
  rw [lg_entry_eq]
  generalize (lg_sl ([.ref rr, .int x, .ref out]) ++ List.replicate (4 - (lg_sl ([.ref rr, .int x, .ref out])).length) Slot.unset).toArray = ls at hl ⊢
  have hl : lv_has ls 4 [(0, .ref rr), (1, .int x), (2, .ref out)] := hl
  obtain ⟨hr1, hr2, hr3, hr4⟩ := hrm
  refine lv_aload_n hx hb d_LA_stratum_0 rfl (lv_at hl 2 rfl) ?_
  refine lv_iconst (v := nI 0) hx hb d_LA_stratum_1 (by decide) ?_
  refine lv_aload_n hx hb d_LA_stratum_2 rfl (lv_at hl 0 rfl) ?_
  refine lv_iload_n hx hb d_LA_stratum_3 rfl (lv_at hl 1 rfl) ?_
  refine gs_callVi (As := [.int x]) (rest := [.int (nI 0), .ref out]) ⟨hx, hb, hml, hown, hts⟩ hK hE hz hG hS hM mV_RR_stratum w_585 x0 rfl rfl hl.1 rfl (Nat.le_of_ble_eq_true rfl) ⟨by show rm.frames + 1 ≤ 13; omega, by show 8 + (2 + 11) + rm.locals ≤ 700; omega⟩ ⟨by show 0 + rm.cells ≤ 6; omega, by show 0 + rm.slots ≤ 64; omega⟩ d_LA_stratum_4 (fun r_4 σ_4 H locs hp_4 hG hS => ?_)
  have hc9 := ho r_4 σ_4 hp_4
  refine lv_i2l hx hb d_LA_stratum_7 rfl ?_
  refine gs_last hx hb hK hG hS hc9 (j := 0) (by omega) (by omega) d_LA_stratum_8 (fun H locs hG hS => ?_)
  have hG : gs_H X (gs_up σ_4 out (gs_la X 1 (vp_updL f 0 ((r_4).toInt64)))) H := hG
  obtain ⟨σ_1, eσ_1⟩ : ∃ zq, zq = gs_up σ_4 out (gs_la X 1 (vp_updL f 0 ((r_4).toInt64))) := ⟨_, rfl⟩
  rw [← eσ_1] at hG
  have hc_2 : σ_1 out = some (gs_la X 1 (vp_updL f 0 ((r_4).toInt64))) := by rw [eσ_1]; exact gs_us
  refine lv_goto (tgt := 18) hx hb d_LA_stratum_9 (by decide) ?_
  refine lv_iconst (v := nI 0) hx hb d_LA_stratum_18 (by decide) ?_
  exact gs_iret (v := (nI 0)) hx hb hr rfl hK hE hz hG hS hlocks (by show 0 + rm.cells ≤ 6; omega) (by show 0 + rm.slots ≤ 64; omega) (⟨rfl, r_4, σ_4, hp_4, eσ_1⟩) d_LA_stratum_19
set_option maxHeartbeats 4000000 in
set_option maxRecDepth 100000 in
/-- the law: stratum, xI -/
theorem c_LA_stratum_xI (l : Launch) (X : gs_X) (σ : gs_St) (rr out : Nat) (gs : List Value) (rm : Room) (x : Int32)
    (x0 : σ rr = some (gs_ob 0 gs)) (hrm : rmC rm) (hM : gs_Mt l X y_RR_stratum b_RR_stratum 2 (some .int) rm σ [.ref rr, .int x] xI) : gs_MiH l X y_LA_stratum b_LA_stratum 4 (some .int) [((0 : Nat), (9 : Nat), (12 : Nat), (13 : Nat)), ((0 : Nat), (9 : Nat), (15 : Nat), (15 : Nat))] ({ frames := 13, cells := 6, slots := 64, locals := 700 }) σ [.ref rr, .int x, .ref out] (fun k9 σ' => k9 = nI 1 ∧ σ' = σ) := by
  refine gs_MetH_ofW (cc := b_LA_stratum) (maxL := 4) (ret := (some .int)) (hs := [((0 : Nat), (9 : Nat), (12 : Nat), (13 : Nat)), ((0 : Nat), (9 : Nat), (15 : Nat), (15 : Nat))]) (by decide) rfl ?_
  intro p e s m args below meth c s₁ B₀ hml htab hv
  obtain ⟨rfl, hK, hG, hz, hE⟩ := hv
  have hx := B₀.exec
  have hb := B₀.bytes
  have hr := B₀.returns
  have hts := atoms_spec (ws := gs_wh y_LA_stratum b_LA_stratum 4 (some .int) [((0 : Nat), (9 : Nat), (12 : Nat), (13 : Nat)), ((0 : Nat), (9 : Nat), (15 : Nat), (15 : Nat))]) B₀.pre
  have ht : ∀ w ∈ gs_w, w.before _ s = true := fun w h => hts w (List.mem_cons_of_mem _ h)
  have hown : s.vm.findClass R_LA = some m.cls := findClass_of_methodNamed B₀.named
  have hlocks := B₀.notSynchronized
  have hA : ∀ q : Nat, s.heap.size ≤ q → gs_A X q := fun q h => Nat.le_trans hz h
  have hS : va_S (gs_A X) s.heap s.heap [] := va_S.rf
  have hl := lv_entry ([.ref rr, .int x, .ref out]) (n := 4) (Nat.le_of_ble_eq_true rfl)
  rw [lg_entry_eq]
  generalize (lg_sl ([.ref rr, .int x, .ref out]) ++ List.replicate (4 - (lg_sl ([.ref rr, .int x, .ref out])).length) Slot.unset).toArray = ls at hl ⊢
  have hl : lv_has ls 4 [(0, .ref rr), (1, .int x), (2, .ref out)] := hl
  obtain ⟨hr1, hr2, hr3, hr4⟩ := hrm
  obtain ⟨e0, e1, htab, he0, he1⟩ := tab2 htab
  have hp0 := hpc he0
  have hp1 := hpc he1
  refine lv_aload_n hx hb d_LA_stratum_0 rfl (lv_at hl 2 rfl) ?_
  refine lv_iconst (v := nI 0) hx hb d_LA_stratum_1 (by decide) ?_
  refine lv_aload_n hx hb d_LA_stratum_2 rfl (lv_at hl 0 rfl) ?_
  refine lv_iload_n hx hb d_LA_stratum_3 rfl (lv_at hl 1 rfl) ?_
  refine gs_callVc (As := [.int x]) (rest := [.int (nI 0), .ref out]) ⟨hx, hb, hml, hown, hts⟩ hK hE hz hG hM mV_RR_stratum w_585 x0 rfl rfl hl.1 rfl (Nat.le_of_ble_eq_true rfl) ⟨by show rm.frames + 1 ≤ 13; omega, by show 8 + (2 + 11) + rm.locals ≤ 700; omega⟩ ⟨by show 0 + rm.cells ≤ 6; omega, by show 0 + rm.slots ≤ 64; omega⟩ d_LA_stratum_4 [] e0 [e1] htab hE.1 (by rw [hp0.2]; decide) (by rw [hp0.2]; exact w_260) (cov he0 (by decide) (by decide)) (fun z hz => by cases hz) (fun q9 H locs hG hS => ?_)
  rw [hp0.1]
  refine lv_astore_n (lv' := [(3, .ref q9), (0, .ref rr), (1, .int x), (2, .ref out)]) hx hb d_LA_stratum_12 rfl hl (by decide) rfl (fun ls hl => ?_)
  refine lv_iconst (v := nI 1) hx hb d_LA_stratum_13 (by decide) ?_
  exact gs_iret (v := (nI 1)) hx hb hr rfl hK hE hz hG hS hlocks (by show 0 + rm.cells ≤ 6; omega) (by show 0 + rm.slots ≤ 64; omega) (⟨rfl, rfl⟩) d_LA_stratum_14
set_option maxHeartbeats 4000000 in
set_option maxRecDepth 100000 in
/-- the law: stratum, xS -/
theorem c_LA_stratum_xS (l : Launch) (X : gs_X) (σ : gs_St) (rr out : Nat) (gs : List Value) (rm : Room) (x : Int32)
    (x0 : σ rr = some (gs_ob 0 gs)) (hrm : rmC rm) (hM : gs_Mt l X y_RR_stratum b_RR_stratum 2 (some .int) rm σ [.ref rr, .int x] xS) : gs_MiH l X y_LA_stratum b_LA_stratum 4 (some .int) [((0 : Nat), (9 : Nat), (12 : Nat), (13 : Nat)), ((0 : Nat), (9 : Nat), (15 : Nat), (15 : Nat))] ({ frames := 13, cells := 6, slots := 64, locals := 700 }) σ [.ref rr, .int x, .ref out] (fun k9 σ' => k9 = nI 2 ∧ σ' = σ) := by
  refine gs_MetH_ofW (cc := b_LA_stratum) (maxL := 4) (ret := (some .int)) (hs := [((0 : Nat), (9 : Nat), (12 : Nat), (13 : Nat)), ((0 : Nat), (9 : Nat), (15 : Nat), (15 : Nat))]) (by decide) rfl ?_
  intro p e s m args below meth c s₁ B₀ hml htab hv
  obtain ⟨rfl, hK, hG, hz, hE⟩ := hv
  have hx := B₀.exec
  have hb := B₀.bytes
  have hr := B₀.returns
  have hts := atoms_spec (ws := gs_wh y_LA_stratum b_LA_stratum 4 (some .int) [((0 : Nat), (9 : Nat), (12 : Nat), (13 : Nat)), ((0 : Nat), (9 : Nat), (15 : Nat), (15 : Nat))]) B₀.pre
  have ht : ∀ w ∈ gs_w, w.before _ s = true := fun w h => hts w (List.mem_cons_of_mem _ h)
  have hown : s.vm.findClass R_LA = some m.cls := findClass_of_methodNamed B₀.named
  have hlocks := B₀.notSynchronized
  have hA : ∀ q : Nat, s.heap.size ≤ q → gs_A X q := fun q h => Nat.le_trans hz h
  have hS : va_S (gs_A X) s.heap s.heap [] := va_S.rf
  have hl := lv_entry ([.ref rr, .int x, .ref out]) (n := 4) (Nat.le_of_ble_eq_true rfl)
  rw [lg_entry_eq]
  generalize (lg_sl ([.ref rr, .int x, .ref out]) ++ List.replicate (4 - (lg_sl ([.ref rr, .int x, .ref out])).length) Slot.unset).toArray = ls at hl ⊢
  have hl : lv_has ls 4 [(0, .ref rr), (1, .int x), (2, .ref out)] := hl
  obtain ⟨hr1, hr2, hr3, hr4⟩ := hrm
  obtain ⟨e0, e1, htab, he0, he1⟩ := tab2 htab
  have hp0 := hpc he0
  have hp1 := hpc he1
  refine lv_aload_n hx hb d_LA_stratum_0 rfl (lv_at hl 2 rfl) ?_
  refine lv_iconst (v := nI 0) hx hb d_LA_stratum_1 (by decide) ?_
  refine lv_aload_n hx hb d_LA_stratum_2 rfl (lv_at hl 0 rfl) ?_
  refine lv_iload_n hx hb d_LA_stratum_3 rfl (lv_at hl 1 rfl) ?_
  refine gs_callVc (As := [.int x]) (rest := [.int (nI 0), .ref out]) ⟨hx, hb, hml, hown, hts⟩ hK hE hz hG hM mV_RR_stratum w_585 x0 rfl rfl hl.1 rfl (Nat.le_of_ble_eq_true rfl) ⟨by show rm.frames + 1 ≤ 13; omega, by show 8 + (2 + 11) + rm.locals ≤ 700; omega⟩ ⟨by show 0 + rm.cells ≤ 6; omega, by show 0 + rm.slots ≤ 64; omega⟩ d_LA_stratum_4 [e0] e1 [] htab hE.2.1 (by rw [hp1.2]; decide) (by rw [hp1.2]; exact w_261) (cov he1 (by decide) (by decide)) (fun z hz => by rw [List.mem_singleton.mp hz]; exact ⟨by rw [hp0.2]; decide, _, (by rw [hp0.2]; exact w_260), hE.2.2.2.1⟩) (fun q9 H locs hG hS => ?_)
  rw [hp1.1]
  refine lv_astore_n (lv' := [(3, .ref q9), (0, .ref rr), (1, .int x), (2, .ref out)]) hx hb d_LA_stratum_15 rfl hl (by decide) rfl (fun ls hl => ?_)
  refine lv_iconst (v := nI 2) hx hb d_LA_stratum_16 (by decide) ?_
  exact gs_iret (v := (nI 2)) hx hb hr rfl hK hE hz hG hS hlocks (by show 0 + rm.cells ≤ 6; omega) (by show 0 + rm.slots ≤ 64; omega) (⟨rfl, rfl⟩) d_LA_stratum_17
set_option maxHeartbeats 4000000 in
set_option maxRecDepth 100000 in
/-- the law: count, answered -/
theorem c_LA_count (l : Launch) (X : gs_X) (σ : gs_St) (rr out : Nat) (gs : List Value) (rm : Room) (f : Nat → Int64) (x : Int32) (post : Int32 → gs_St → Prop)
    (x0 : σ rr = some (gs_ob 0 gs)) (hrm : rmC rm) (hM : gs_Mi l X y_RR_count b_RR_count 2 (some .int) rm σ [.ref rr, .int x] post) (ho : ∀ r9 σ9, post r9 σ9 → σ9 out = some (gs_la X 1 f)) : gs_MiH l X y_LA_count b_LA_count 4 (some .int) [((0 : Nat), (9 : Nat), (12 : Nat), (13 : Nat))] ({ frames := 13, cells := 6, slots := 64, locals := 700 }) σ [.ref rr, .int x, .ref out] (fun k9 σ' => k9 = nI 0 ∧ ∃ r9 σ9, post r9 σ9 ∧ σ' = gs_up σ9 out (gs_la X 1 (vp_updL f 0 r9.toInt64))) := by
  refine gs_MetH_ofW (cc := b_LA_count) (maxL := 4) (ret := (some .int)) (hs := [((0 : Nat), (9 : Nat), (12 : Nat), (13 : Nat))]) (by decide) rfl ?_
  intro p e s m args below meth c s₁ B₀ hml htab hv
  obtain ⟨rfl, hK, hG, hz, hE⟩ := hv
  have hx := B₀.exec
  have hb := B₀.bytes
  have hr := B₀.returns
  have hts := atoms_spec (ws := gs_wh y_LA_count b_LA_count 4 (some .int) [((0 : Nat), (9 : Nat), (12 : Nat), (13 : Nat))]) B₀.pre
  have ht : ∀ w ∈ gs_w, w.before _ s = true := fun w h => hts w (List.mem_cons_of_mem _ h)
  have hown : s.vm.findClass R_LA = some m.cls := findClass_of_methodNamed B₀.named
  have hlocks := B₀.notSynchronized
  have hA : ∀ q : Nat, s.heap.size ≤ q → gs_A X q := fun q h => Nat.le_trans hz h
  have hS : va_S (gs_A X) s.heap s.heap [] := va_S.rf
  have hl := lv_entry ([.ref rr, .int x, .ref out]) (n := 4) (Nat.le_of_ble_eq_true rfl)
  rw [lg_entry_eq]
  generalize (lg_sl ([.ref rr, .int x, .ref out]) ++ List.replicate (4 - (lg_sl ([.ref rr, .int x, .ref out])).length) Slot.unset).toArray = ls at hl ⊢
  have hl : lv_has ls 4 [(0, .ref rr), (1, .int x), (2, .ref out)] := hl
  obtain ⟨hr1, hr2, hr3, hr4⟩ := hrm
  refine lv_aload_n hx hb d_LA_count_0 rfl (lv_at hl 2 rfl) ?_
  refine lv_iconst (v := nI 0) hx hb d_LA_count_1 (by decide) ?_
  refine lv_aload_n hx hb d_LA_count_2 rfl (lv_at hl 0 rfl) ?_
  refine lv_iload_n hx hb d_LA_count_3 rfl (lv_at hl 1 rfl) ?_
  refine gs_callVi (As := [.int x]) (rest := [.int (nI 0), .ref out]) ⟨hx, hb, hml, hown, hts⟩ hK hE hz hG hS hM mV_RR_count w_593 x0 rfl rfl hl.1 rfl (Nat.le_of_ble_eq_true rfl) ⟨by show rm.frames + 1 ≤ 13; omega, by show 8 + (2 + 11) + rm.locals ≤ 700; omega⟩ ⟨by show 0 + rm.cells ≤ 6; omega, by show 0 + rm.slots ≤ 64; omega⟩ d_LA_count_4 (fun r_4 σ_4 H locs hp_4 hG hS => ?_)
  have hc9 := ho r_4 σ_4 hp_4
  refine lv_i2l hx hb d_LA_count_7 rfl ?_
  refine gs_last hx hb hK hG hS hc9 (j := 0) (by omega) (by omega) d_LA_count_8 (fun H locs hG hS => ?_)
  have hG : gs_H X (gs_up σ_4 out (gs_la X 1 (vp_updL f 0 ((r_4).toInt64)))) H := hG
  obtain ⟨σ_1, eσ_1⟩ : ∃ zq, zq = gs_up σ_4 out (gs_la X 1 (vp_updL f 0 ((r_4).toInt64))) := ⟨_, rfl⟩
  rw [← eσ_1] at hG
  have hc_2 : σ_1 out = some (gs_la X 1 (vp_updL f 0 ((r_4).toInt64))) := by rw [eσ_1]; exact gs_us
  refine lv_goto (tgt := 15) hx hb d_LA_count_9 (by decide) ?_
  refine lv_iconst (v := nI 0) hx hb d_LA_count_15 (by decide) ?_
  exact gs_iret (v := (nI 0)) hx hb hr rfl hK hE hz hG hS hlocks (by show 0 + rm.cells ≤ 6; omega) (by show 0 + rm.slots ≤ 64; omega) (⟨rfl, r_4, σ_4, hp_4, eσ_1⟩) d_LA_count_16
set_option maxHeartbeats 4000000 in
set_option maxRecDepth 100000 in
/-- the law: count, xI -/
theorem c_LA_count_xI (l : Launch) (X : gs_X) (σ : gs_St) (rr out : Nat) (gs : List Value) (rm : Room) (x : Int32)
    (x0 : σ rr = some (gs_ob 0 gs)) (hrm : rmC rm) (hM : gs_Mt l X y_RR_count b_RR_count 2 (some .int) rm σ [.ref rr, .int x] xI) : gs_MiH l X y_LA_count b_LA_count 4 (some .int) [((0 : Nat), (9 : Nat), (12 : Nat), (13 : Nat))] ({ frames := 13, cells := 6, slots := 64, locals := 700 }) σ [.ref rr, .int x, .ref out] (fun k9 σ' => k9 = nI 1 ∧ σ' = σ) := by
  refine gs_MetH_ofW (cc := b_LA_count) (maxL := 4) (ret := (some .int)) (hs := [((0 : Nat), (9 : Nat), (12 : Nat), (13 : Nat))]) (by decide) rfl ?_
  intro p e s m args below meth c s₁ B₀ hml htab hv
  obtain ⟨rfl, hK, hG, hz, hE⟩ := hv
  have hx := B₀.exec
  have hb := B₀.bytes
  have hr := B₀.returns
  have hts := atoms_spec (ws := gs_wh y_LA_count b_LA_count 4 (some .int) [((0 : Nat), (9 : Nat), (12 : Nat), (13 : Nat))]) B₀.pre
  have ht : ∀ w ∈ gs_w, w.before _ s = true := fun w h => hts w (List.mem_cons_of_mem _ h)
  have hown : s.vm.findClass R_LA = some m.cls := findClass_of_methodNamed B₀.named
  have hlocks := B₀.notSynchronized
  have hA : ∀ q : Nat, s.heap.size ≤ q → gs_A X q := fun q h => Nat.le_trans hz h
  have hS : va_S (gs_A X) s.heap s.heap [] := va_S.rf
  have hl := lv_entry ([.ref rr, .int x, .ref out]) (n := 4) (Nat.le_of_ble_eq_true rfl)
  rw [lg_entry_eq]
  generalize (lg_sl ([.ref rr, .int x, .ref out]) ++ List.replicate (4 - (lg_sl ([.ref rr, .int x, .ref out])).length) Slot.unset).toArray = ls at hl ⊢
  have hl : lv_has ls 4 [(0, .ref rr), (1, .int x), (2, .ref out)] := hl
  obtain ⟨hr1, hr2, hr3, hr4⟩ := hrm
  obtain ⟨e0, htab, he0⟩ := tab1 htab
  have hp0 := hpc he0
  refine lv_aload_n hx hb d_LA_count_0 rfl (lv_at hl 2 rfl) ?_
  refine lv_iconst (v := nI 0) hx hb d_LA_count_1 (by decide) ?_
  refine lv_aload_n hx hb d_LA_count_2 rfl (lv_at hl 0 rfl) ?_
  refine lv_iload_n hx hb d_LA_count_3 rfl (lv_at hl 1 rfl) ?_
  refine gs_callVc (As := [.int x]) (rest := [.int (nI 0), .ref out]) ⟨hx, hb, hml, hown, hts⟩ hK hE hz hG hM mV_RR_count w_593 x0 rfl rfl hl.1 rfl (Nat.le_of_ble_eq_true rfl) ⟨by show rm.frames + 1 ≤ 13; omega, by show 8 + (2 + 11) + rm.locals ≤ 700; omega⟩ ⟨by show 0 + rm.cells ≤ 6; omega, by show 0 + rm.slots ≤ 64; omega⟩ d_LA_count_4 [] e0 [] htab hE.1 (by rw [hp0.2]; decide) (by rw [hp0.2]; exact w_260) (cov he0 (by decide) (by decide)) (fun z hz => by cases hz) (fun q9 H locs hG hS => ?_)
  rw [hp0.1]
  refine lv_astore_n (lv' := [(3, .ref q9), (0, .ref rr), (1, .int x), (2, .ref out)]) hx hb d_LA_count_12 rfl hl (by decide) rfl (fun ls hl => ?_)
  refine lv_iconst (v := nI 1) hx hb d_LA_count_13 (by decide) ?_
  exact gs_iret (v := (nI 1)) hx hb hr rfl hK hE hz hG hS hlocks (by show 0 + rm.cells ≤ 6; omega) (by show 0 + rm.slots ≤ 64; omega) (⟨rfl, rfl⟩) d_LA_count_14
set_option maxHeartbeats 4000000 in
set_option maxRecDepth 100000 in
/-- the law: has, answered -/
theorem c_LA_has (l : Launch) (X : gs_X) (σ : gs_St) (rr out : Nat) (gs : List Value) (rm : Room) (f : Nat → Int64) (x y z u : Int32) (post : Int32 → gs_St → Prop)
    (x0 : σ rr = some (gs_ob 0 gs)) (hrm : rmC rm) (hM : gs_Mi l X y_RR_has b_RR_has 5 (some .boolean) rm σ [.ref rr, .int x, .int y, .int z, .int u] post) (ho : ∀ r9 σ9, post r9 σ9 → σ9 out = some (gs_la X 1 f)) : gs_MiH l X y_LA_has b_LA_has 7 (some .int) [((0 : Nat), (21 : Nat), (24 : Nat), (13 : Nat))] ({ frames := 13, cells := 6, slots := 64, locals := 700 }) σ [.ref rr, .int x, .int y, .int z, .int u, .ref out] (fun k9 σ' => k9 = nI 0 ∧ ∃ r9 σ9, post r9 σ9 ∧ σ' = gs_up σ9 out (gs_la X 1 (vp_updL f 0 (if r9 = 0 then 0 else 1)))) := by
  refine gs_MetH_ofW (cc := b_LA_has) (maxL := 7) (ret := (some .int)) (hs := [((0 : Nat), (21 : Nat), (24 : Nat), (13 : Nat))]) (by decide) rfl ?_
  intro p e s m args below meth c s₁ B₀ hml htab hv
  obtain ⟨rfl, hK, hG, hz, hE⟩ := hv
  have hx := B₀.exec
  have hb := B₀.bytes
  have hr := B₀.returns
  have hts := atoms_spec (ws := gs_wh y_LA_has b_LA_has 7 (some .int) [((0 : Nat), (21 : Nat), (24 : Nat), (13 : Nat))]) B₀.pre
  have ht : ∀ w ∈ gs_w, w.before _ s = true := fun w h => hts w (List.mem_cons_of_mem _ h)
  have hown : s.vm.findClass R_LA = some m.cls := findClass_of_methodNamed B₀.named
  have hlocks := B₀.notSynchronized
  have hA : ∀ q : Nat, s.heap.size ≤ q → gs_A X q := fun q h => Nat.le_trans hz h
  have hS : va_S (gs_A X) s.heap s.heap [] := va_S.rf
  have hl := lv_entry ([.ref rr, .int x, .int y, .int z, .int u, .ref out]) (n := 7) (Nat.le_of_ble_eq_true rfl)
  rw [lg_entry_eq]
  generalize (lg_sl ([.ref rr, .int x, .int y, .int z, .int u, .ref out]) ++ List.replicate (7 - (lg_sl ([.ref rr, .int x, .int y, .int z, .int u, .ref out])).length) Slot.unset).toArray = ls at hl ⊢
  have hl : lv_has ls 7 [(0, .ref rr), (1, .int x), (2, .int y), (3, .int z), (4, .int u), (5, .ref out)] := hl
  obtain ⟨hr1, hr2, hr3, hr4⟩ := hrm
  refine lv_aload hx hb d_LA_has_0 (lv_at hl 5 rfl) ?_
  refine lv_iconst (v := nI 0) hx hb d_LA_has_2 (by decide) ?_
  refine lv_aload_n hx hb d_LA_has_3 rfl (lv_at hl 0 rfl) ?_
  refine lv_iload_n hx hb d_LA_has_4 rfl (lv_at hl 1 rfl) ?_
  refine lv_iload_n hx hb d_LA_has_5 rfl (lv_at hl 2 rfl) ?_
  refine lv_iload_n hx hb d_LA_has_6 rfl (lv_at hl 3 rfl) ?_
  refine lv_iload hx hb d_LA_has_7 (lv_at hl 4 rfl) ?_
  refine gs_callVi (As := [.int x, .int y, .int z, .int u]) (rest := [.int (nI 0), .ref out]) ⟨hx, hb, hml, hown, hts⟩ hK hE hz hG hS hM mV_RR_has w_605 x0 rfl rfl hl.1 rfl (Nat.le_of_ble_eq_true rfl) ⟨by show rm.frames + 1 ≤ 13; omega, by show 8 + (5 + 11) + rm.locals ≤ 700; omega⟩ ⟨by show 0 + rm.cells ≤ 6; omega, by show 0 + rm.slots ≤ 64; omega⟩ d_LA_has_9 (fun r_9 σ_9 H locs hp_9 hG hS => ?_)
  have hc9 := ho r_9 σ_9 hp_9
  refine lv_if_eq (tgt := 19) hx hb d_LA_has_12 (by decide) (fun c_12 => ?_) (fun c_12 => ?_)
  · refine lv_lconst (v := 0) hx hb d_LA_has_19 rfl ?_
    refine gs_last hx hb hK hG hS hc9 (j := 0) (by omega) (by omega) d_LA_has_20 (fun H locs hG hS => ?_)
    have hG : gs_H X (gs_up σ_9 out (gs_la X 1 (vp_updL f 0 0))) H := hG
    obtain ⟨σ_1, eσ_1⟩ : ∃ zq, zq = gs_up σ_9 out (gs_la X 1 (vp_updL f 0 0)) := ⟨_, rfl⟩
    rw [← eσ_1] at hG
    have hc_2 : σ_1 out = some (gs_la X 1 (vp_updL f 0 0)) := by rw [eσ_1]; exact gs_us
    refine lv_goto (tgt := 28) hx hb d_LA_has_21 (by decide) ?_
    refine lv_iconst (v := nI 0) hx hb d_LA_has_28 (by decide) ?_
    exact gs_iret (v := (nI 0)) hx hb hr rfl hK hE hz hG hS hlocks (by show 0 + rm.cells ≤ 6; omega) (by show 0 + rm.slots ≤ 64; omega) (⟨rfl, r_9, σ_9, hp_9, by rw [eσ_1]; first | rw [if_pos c_12] | rw [if_neg c_12]⟩) d_LA_has_29
  · refine lv_lconst (v := 1) hx hb d_LA_has_15 rfl ?_
    refine lv_goto (tgt := 20) hx hb d_LA_has_16 (by decide) ?_
    refine gs_last hx hb hK hG hS hc9 (j := 0) (by omega) (by omega) d_LA_has_20 (fun H locs hG hS => ?_)
    have hG : gs_H X (gs_up σ_9 out (gs_la X 1 (vp_updL f 0 1))) H := hG
    obtain ⟨σ_3, eσ_3⟩ : ∃ zq, zq = gs_up σ_9 out (gs_la X 1 (vp_updL f 0 1)) := ⟨_, rfl⟩
    rw [← eσ_3] at hG
    have hc_4 : σ_3 out = some (gs_la X 1 (vp_updL f 0 1)) := by rw [eσ_3]; exact gs_us
    refine lv_goto (tgt := 28) hx hb d_LA_has_21 (by decide) ?_
    refine lv_iconst (v := nI 0) hx hb d_LA_has_28 (by decide) ?_
    exact gs_iret (v := (nI 0)) hx hb hr rfl hK hE hz hG hS hlocks (by show 0 + rm.cells ≤ 6; omega) (by show 0 + rm.slots ≤ 64; omega) (⟨rfl, r_9, σ_9, hp_9, by rw [eσ_3]; first | rw [if_pos c_12] | rw [if_neg c_12]⟩) d_LA_has_29
set_option maxHeartbeats 4000000 in
set_option maxRecDepth 100000 in
/-- the law: has, xI -/
theorem c_LA_has_xI (l : Launch) (X : gs_X) (σ : gs_St) (rr out : Nat) (gs : List Value) (rm : Room) (x y z u : Int32)
    (x0 : σ rr = some (gs_ob 0 gs)) (hrm : rmC rm) (hM : gs_Mt l X y_RR_has b_RR_has 5 (some .boolean) rm σ [.ref rr, .int x, .int y, .int z, .int u] xI) : gs_MiH l X y_LA_has b_LA_has 7 (some .int) [((0 : Nat), (21 : Nat), (24 : Nat), (13 : Nat))] ({ frames := 13, cells := 6, slots := 64, locals := 700 }) σ [.ref rr, .int x, .int y, .int z, .int u, .ref out] (fun k9 σ' => k9 = nI 1 ∧ σ' = σ) := by
  refine gs_MetH_ofW (cc := b_LA_has) (maxL := 7) (ret := (some .int)) (hs := [((0 : Nat), (21 : Nat), (24 : Nat), (13 : Nat))]) (by decide) rfl ?_
  intro p e s m args below meth c s₁ B₀ hml htab hv
  obtain ⟨rfl, hK, hG, hz, hE⟩ := hv
  have hx := B₀.exec
  have hb := B₀.bytes
  have hr := B₀.returns
  have hts := atoms_spec (ws := gs_wh y_LA_has b_LA_has 7 (some .int) [((0 : Nat), (21 : Nat), (24 : Nat), (13 : Nat))]) B₀.pre
  have ht : ∀ w ∈ gs_w, w.before _ s = true := fun w h => hts w (List.mem_cons_of_mem _ h)
  have hown : s.vm.findClass R_LA = some m.cls := findClass_of_methodNamed B₀.named
  have hlocks := B₀.notSynchronized
  have hA : ∀ q : Nat, s.heap.size ≤ q → gs_A X q := fun q h => Nat.le_trans hz h
  have hS : va_S (gs_A X) s.heap s.heap [] := va_S.rf
  have hl := lv_entry ([.ref rr, .int x, .int y, .int z, .int u, .ref out]) (n := 7) (Nat.le_of_ble_eq_true rfl)
  rw [lg_entry_eq]
  generalize (lg_sl ([.ref rr, .int x, .int y, .int z, .int u, .ref out]) ++ List.replicate (7 - (lg_sl ([.ref rr, .int x, .int y, .int z, .int u, .ref out])).length) Slot.unset).toArray = ls at hl ⊢
  have hl : lv_has ls 7 [(0, .ref rr), (1, .int x), (2, .int y), (3, .int z), (4, .int u), (5, .ref out)] := hl
  obtain ⟨hr1, hr2, hr3, hr4⟩ := hrm
  obtain ⟨e0, htab, he0⟩ := tab1 htab
  have hp0 := hpc he0
  refine lv_aload hx hb d_LA_has_0 (lv_at hl 5 rfl) ?_
  refine lv_iconst (v := nI 0) hx hb d_LA_has_2 (by decide) ?_
  refine lv_aload_n hx hb d_LA_has_3 rfl (lv_at hl 0 rfl) ?_
  refine lv_iload_n hx hb d_LA_has_4 rfl (lv_at hl 1 rfl) ?_
  refine lv_iload_n hx hb d_LA_has_5 rfl (lv_at hl 2 rfl) ?_
  refine lv_iload_n hx hb d_LA_has_6 rfl (lv_at hl 3 rfl) ?_
  refine lv_iload hx hb d_LA_has_7 (lv_at hl 4 rfl) ?_
  refine gs_callVc (As := [.int x, .int y, .int z, .int u]) (rest := [.int (nI 0), .ref out]) ⟨hx, hb, hml, hown, hts⟩ hK hE hz hG hM mV_RR_has w_605 x0 rfl rfl hl.1 rfl (Nat.le_of_ble_eq_true rfl) ⟨by show rm.frames + 1 ≤ 13; omega, by show 8 + (5 + 11) + rm.locals ≤ 700; omega⟩ ⟨by show 0 + rm.cells ≤ 6; omega, by show 0 + rm.slots ≤ 64; omega⟩ d_LA_has_9 [] e0 [] htab hE.1 (by rw [hp0.2]; decide) (by rw [hp0.2]; exact w_260) (cov he0 (by decide) (by decide)) (fun z hz => by cases hz) (fun q9 H locs hG hS => ?_)
  rw [hp0.1]
  refine lv_astore (lv' := [(6, .ref q9), (0, .ref rr), (1, .int x), (2, .int y), (3, .int z), (4, .int u), (5, .ref out)]) hx hb d_LA_has_24 hl (by decide) rfl (fun ls hl => ?_)
  refine lv_iconst (v := nI 1) hx hb d_LA_has_26 (by decide) ?_
  exact gs_iret (v := (nI 1)) hx hb hr rfl hK hE hz hG hS hlocks (by show 0 + rm.cells ≤ 6; omega) (by show 0 + rm.slots ≤ 64; omega) (⟨rfl, rfl⟩) d_LA_has_27
set_option maxHeartbeats 4000000 in
set_option maxRecDepth 100000 in
/-- the law: tuple, answered -/
theorem c_LA_tuple (l : Launch) (X : gs_X) (σ : gs_St) (rr out : Nat) (gs : List Value) (rm : Room) (f : Nat → Int64) (x y z : Int32) (post : Int32 → gs_St → Prop)
    (x0 : σ rr = some (gs_ob 0 gs)) (hrm : rmC rm) (hM : gs_Mi l X y_RR_tuple b_RR_tuple 5 (some .int) rm σ [.ref rr, .int x, .int y, .int z] post) (ho : ∀ r9 σ9, post r9 σ9 → σ9 out = some (gs_la X 1 f)) : gs_MiH l X y_LA_tuple b_LA_tuple 6 (some .int) [((0 : Nat), (12 : Nat), (15 : Nat), (13 : Nat))] ({ frames := 13, cells := 6, slots := 64, locals := 700 }) σ [.ref rr, .int x, .int y, .int z, .ref out] (fun k9 σ' => k9 = nI 0 ∧ ∃ r9 σ9, post r9 σ9 ∧ σ' = gs_up σ9 out (gs_la X 1 (vp_updL f 0 r9.toInt64))) := by
  refine gs_MetH_ofW (cc := b_LA_tuple) (maxL := 6) (ret := (some .int)) (hs := [((0 : Nat), (12 : Nat), (15 : Nat), (13 : Nat))]) (by decide) rfl ?_
  intro p e s m args below meth c s₁ B₀ hml htab hv
  obtain ⟨rfl, hK, hG, hz, hE⟩ := hv
  have hx := B₀.exec
  have hb := B₀.bytes
  have hr := B₀.returns
  have hts := atoms_spec (ws := gs_wh y_LA_tuple b_LA_tuple 6 (some .int) [((0 : Nat), (12 : Nat), (15 : Nat), (13 : Nat))]) B₀.pre
  have ht : ∀ w ∈ gs_w, w.before _ s = true := fun w h => hts w (List.mem_cons_of_mem _ h)
  have hown : s.vm.findClass R_LA = some m.cls := findClass_of_methodNamed B₀.named
  have hlocks := B₀.notSynchronized
  have hA : ∀ q : Nat, s.heap.size ≤ q → gs_A X q := fun q h => Nat.le_trans hz h
  have hS : va_S (gs_A X) s.heap s.heap [] := va_S.rf
  have hl := lv_entry ([.ref rr, .int x, .int y, .int z, .ref out]) (n := 6) (Nat.le_of_ble_eq_true rfl)
  rw [lg_entry_eq]
  generalize (lg_sl ([.ref rr, .int x, .int y, .int z, .ref out]) ++ List.replicate (6 - (lg_sl ([.ref rr, .int x, .int y, .int z, .ref out])).length) Slot.unset).toArray = ls at hl ⊢
  have hl : lv_has ls 6 [(0, .ref rr), (1, .int x), (2, .int y), (3, .int z), (4, .ref out)] := hl
  obtain ⟨hr1, hr2, hr3, hr4⟩ := hrm
  refine lv_aload hx hb d_LA_tuple_0 (lv_at hl 4 rfl) ?_
  refine lv_iconst (v := nI 0) hx hb d_LA_tuple_2 (by decide) ?_
  refine lv_aload_n hx hb d_LA_tuple_3 rfl (lv_at hl 0 rfl) ?_
  refine lv_iload_n hx hb d_LA_tuple_4 rfl (lv_at hl 1 rfl) ?_
  refine lv_iload_n hx hb d_LA_tuple_5 rfl (lv_at hl 2 rfl) ?_
  refine lv_iload_n hx hb d_LA_tuple_6 rfl (lv_at hl 3 rfl) ?_
  refine gs_callVi (As := [.int x, .int y, .int z]) (rest := [.int (nI 0), .ref out]) ⟨hx, hb, hml, hown, hts⟩ hK hE hz hG hS hM mV_RR_tuple w_613 x0 rfl rfl hl.1 rfl (Nat.le_of_ble_eq_true rfl) ⟨by show rm.frames + 1 ≤ 13; omega, by show 8 + (5 + 11) + rm.locals ≤ 700; omega⟩ ⟨by show 0 + rm.cells ≤ 6; omega, by show 0 + rm.slots ≤ 64; omega⟩ d_LA_tuple_7 (fun r_7 σ_7 H locs hp_7 hG hS => ?_)
  have hc9 := ho r_7 σ_7 hp_7
  refine lv_i2l hx hb d_LA_tuple_10 rfl ?_
  refine gs_last hx hb hK hG hS hc9 (j := 0) (by omega) (by omega) d_LA_tuple_11 (fun H locs hG hS => ?_)
  have hG : gs_H X (gs_up σ_7 out (gs_la X 1 (vp_updL f 0 ((r_7).toInt64)))) H := hG
  obtain ⟨σ_1, eσ_1⟩ : ∃ zq, zq = gs_up σ_7 out (gs_la X 1 (vp_updL f 0 ((r_7).toInt64))) := ⟨_, rfl⟩
  rw [← eσ_1] at hG
  have hc_2 : σ_1 out = some (gs_la X 1 (vp_updL f 0 ((r_7).toInt64))) := by rw [eσ_1]; exact gs_us
  refine lv_goto (tgt := 19) hx hb d_LA_tuple_12 (by decide) ?_
  refine lv_iconst (v := nI 0) hx hb d_LA_tuple_19 (by decide) ?_
  exact gs_iret (v := (nI 0)) hx hb hr rfl hK hE hz hG hS hlocks (by show 0 + rm.cells ≤ 6; omega) (by show 0 + rm.slots ≤ 64; omega) (⟨rfl, r_7, σ_7, hp_7, eσ_1⟩) d_LA_tuple_20
set_option maxHeartbeats 4000000 in
set_option maxRecDepth 100000 in
/-- the law: tuple, xI -/
theorem c_LA_tuple_xI (l : Launch) (X : gs_X) (σ : gs_St) (rr out : Nat) (gs : List Value) (rm : Room) (x y z : Int32)
    (x0 : σ rr = some (gs_ob 0 gs)) (hrm : rmC rm) (hM : gs_Mt l X y_RR_tuple b_RR_tuple 5 (some .int) rm σ [.ref rr, .int x, .int y, .int z] xI) : gs_MiH l X y_LA_tuple b_LA_tuple 6 (some .int) [((0 : Nat), (12 : Nat), (15 : Nat), (13 : Nat))] ({ frames := 13, cells := 6, slots := 64, locals := 700 }) σ [.ref rr, .int x, .int y, .int z, .ref out] (fun k9 σ' => k9 = nI 1 ∧ σ' = σ) := by
  refine gs_MetH_ofW (cc := b_LA_tuple) (maxL := 6) (ret := (some .int)) (hs := [((0 : Nat), (12 : Nat), (15 : Nat), (13 : Nat))]) (by decide) rfl ?_
  intro p e s m args below meth c s₁ B₀ hml htab hv
  obtain ⟨rfl, hK, hG, hz, hE⟩ := hv
  have hx := B₀.exec
  have hb := B₀.bytes
  have hr := B₀.returns
  have hts := atoms_spec (ws := gs_wh y_LA_tuple b_LA_tuple 6 (some .int) [((0 : Nat), (12 : Nat), (15 : Nat), (13 : Nat))]) B₀.pre
  have ht : ∀ w ∈ gs_w, w.before _ s = true := fun w h => hts w (List.mem_cons_of_mem _ h)
  have hown : s.vm.findClass R_LA = some m.cls := findClass_of_methodNamed B₀.named
  have hlocks := B₀.notSynchronized
  have hA : ∀ q : Nat, s.heap.size ≤ q → gs_A X q := fun q h => Nat.le_trans hz h
  have hS : va_S (gs_A X) s.heap s.heap [] := va_S.rf
  have hl := lv_entry ([.ref rr, .int x, .int y, .int z, .ref out]) (n := 6) (Nat.le_of_ble_eq_true rfl)
  rw [lg_entry_eq]
  generalize (lg_sl ([.ref rr, .int x, .int y, .int z, .ref out]) ++ List.replicate (6 - (lg_sl ([.ref rr, .int x, .int y, .int z, .ref out])).length) Slot.unset).toArray = ls at hl ⊢
  have hl : lv_has ls 6 [(0, .ref rr), (1, .int x), (2, .int y), (3, .int z), (4, .ref out)] := hl
  obtain ⟨hr1, hr2, hr3, hr4⟩ := hrm
  obtain ⟨e0, htab, he0⟩ := tab1 htab
  have hp0 := hpc he0
  refine lv_aload hx hb d_LA_tuple_0 (lv_at hl 4 rfl) ?_
  refine lv_iconst (v := nI 0) hx hb d_LA_tuple_2 (by decide) ?_
  refine lv_aload_n hx hb d_LA_tuple_3 rfl (lv_at hl 0 rfl) ?_
  refine lv_iload_n hx hb d_LA_tuple_4 rfl (lv_at hl 1 rfl) ?_
  refine lv_iload_n hx hb d_LA_tuple_5 rfl (lv_at hl 2 rfl) ?_
  refine lv_iload_n hx hb d_LA_tuple_6 rfl (lv_at hl 3 rfl) ?_
  refine gs_callVc (As := [.int x, .int y, .int z]) (rest := [.int (nI 0), .ref out]) ⟨hx, hb, hml, hown, hts⟩ hK hE hz hG hM mV_RR_tuple w_613 x0 rfl rfl hl.1 rfl (Nat.le_of_ble_eq_true rfl) ⟨by show rm.frames + 1 ≤ 13; omega, by show 8 + (5 + 11) + rm.locals ≤ 700; omega⟩ ⟨by show 0 + rm.cells ≤ 6; omega, by show 0 + rm.slots ≤ 64; omega⟩ d_LA_tuple_7 [] e0 [] htab hE.1 (by rw [hp0.2]; decide) (by rw [hp0.2]; exact w_260) (cov he0 (by decide) (by decide)) (fun z hz => by cases hz) (fun q9 H locs hG hS => ?_)
  rw [hp0.1]
  refine lv_astore (lv' := [(5, .ref q9), (0, .ref rr), (1, .int x), (2, .int y), (3, .int z), (4, .ref out)]) hx hb d_LA_tuple_15 hl (by decide) rfl (fun ls hl => ?_)
  refine lv_iconst (v := nI 1) hx hb d_LA_tuple_17 (by decide) ?_
  exact gs_iret (v := (nI 1)) hx hb hr rfl hK hE hz hG hS hlocks (by show 0 + rm.cells ≤ 6; omega) (by show 0 + rm.slots ≤ 64; omega) (⟨rfl, rfl⟩) d_LA_tuple_18
set_option maxHeartbeats 4000000 in
set_option maxRecDepth 100000 in
/-- the law: like, answered -/
theorem c_LA_like (l : Launch) (X : gs_X) (σ : gs_St) (rr out : Nat) (gs : List Value) (rm : Room) (f : Nat → Int64) (x y z u : Int32) (post : Int32 → gs_St → Prop)
    (x0 : σ rr = some (gs_ob 0 gs)) (hrm : rmC rm) (hM : gs_Mi l X y_RR_like b_RR_like 7 (some .int) rm σ [.ref rr, .int x, .int y, .int z, .int u] post) (ho : ∀ r9 σ9, post r9 σ9 → σ9 out = some (gs_la X 1 f)) : gs_MiH l X y_LA_like b_LA_like 7 (some .int) [((0 : Nat), (14 : Nat), (17 : Nat), (13 : Nat))] ({ frames := 13, cells := 6, slots := 64, locals := 700 }) σ [.ref rr, .int x, .int y, .int z, .int u, .ref out] (fun k9 σ' => k9 = nI 0 ∧ ∃ r9 σ9, post r9 σ9 ∧ σ' = gs_up σ9 out (gs_la X 1 (vp_updL f 0 r9.toInt64))) := by
  refine gs_MetH_ofW (cc := b_LA_like) (maxL := 7) (ret := (some .int)) (hs := [((0 : Nat), (14 : Nat), (17 : Nat), (13 : Nat))]) (by decide) rfl ?_
  intro p e s m args below meth c s₁ B₀ hml htab hv
  obtain ⟨rfl, hK, hG, hz, hE⟩ := hv
  have hx := B₀.exec
  have hb := B₀.bytes
  have hr := B₀.returns
  have hts := atoms_spec (ws := gs_wh y_LA_like b_LA_like 7 (some .int) [((0 : Nat), (14 : Nat), (17 : Nat), (13 : Nat))]) B₀.pre
  have ht : ∀ w ∈ gs_w, w.before _ s = true := fun w h => hts w (List.mem_cons_of_mem _ h)
  have hown : s.vm.findClass R_LA = some m.cls := findClass_of_methodNamed B₀.named
  have hlocks := B₀.notSynchronized
  have hA : ∀ q : Nat, s.heap.size ≤ q → gs_A X q := fun q h => Nat.le_trans hz h
  have hS : va_S (gs_A X) s.heap s.heap [] := va_S.rf
  have hl := lv_entry ([.ref rr, .int x, .int y, .int z, .int u, .ref out]) (n := 7) (Nat.le_of_ble_eq_true rfl)
  rw [lg_entry_eq]
  generalize (lg_sl ([.ref rr, .int x, .int y, .int z, .int u, .ref out]) ++ List.replicate (7 - (lg_sl ([.ref rr, .int x, .int y, .int z, .int u, .ref out])).length) Slot.unset).toArray = ls at hl ⊢
  have hl : lv_has ls 7 [(0, .ref rr), (1, .int x), (2, .int y), (3, .int z), (4, .int u), (5, .ref out)] := hl
  obtain ⟨hr1, hr2, hr3, hr4⟩ := hrm
  refine lv_aload hx hb d_LA_like_0 (lv_at hl 5 rfl) ?_
  refine lv_iconst (v := nI 0) hx hb d_LA_like_2 (by decide) ?_
  refine lv_aload_n hx hb d_LA_like_3 rfl (lv_at hl 0 rfl) ?_
  refine lv_iload_n hx hb d_LA_like_4 rfl (lv_at hl 1 rfl) ?_
  refine lv_iload_n hx hb d_LA_like_5 rfl (lv_at hl 2 rfl) ?_
  refine lv_iload_n hx hb d_LA_like_6 rfl (lv_at hl 3 rfl) ?_
  refine lv_iload hx hb d_LA_like_7 (lv_at hl 4 rfl) ?_
  refine gs_callVi (As := [.int x, .int y, .int z, .int u]) (rest := [.int (nI 0), .ref out]) ⟨hx, hb, hml, hown, hts⟩ hK hE hz hG hS hM mV_RR_like w_623 x0 rfl rfl hl.1 rfl (Nat.le_of_ble_eq_true rfl) ⟨by show rm.frames + 1 ≤ 13; omega, by show 8 + (7 + 11) + rm.locals ≤ 700; omega⟩ ⟨by show 0 + rm.cells ≤ 6; omega, by show 0 + rm.slots ≤ 64; omega⟩ d_LA_like_9 (fun r_9 σ_9 H locs hp_9 hG hS => ?_)
  have hc9 := ho r_9 σ_9 hp_9
  refine lv_i2l hx hb d_LA_like_12 rfl ?_
  refine gs_last hx hb hK hG hS hc9 (j := 0) (by omega) (by omega) d_LA_like_13 (fun H locs hG hS => ?_)
  have hG : gs_H X (gs_up σ_9 out (gs_la X 1 (vp_updL f 0 ((r_9).toInt64)))) H := hG
  obtain ⟨σ_1, eσ_1⟩ : ∃ zq, zq = gs_up σ_9 out (gs_la X 1 (vp_updL f 0 ((r_9).toInt64))) := ⟨_, rfl⟩
  rw [← eσ_1] at hG
  have hc_2 : σ_1 out = some (gs_la X 1 (vp_updL f 0 ((r_9).toInt64))) := by rw [eσ_1]; exact gs_us
  refine lv_goto (tgt := 21) hx hb d_LA_like_14 (by decide) ?_
  refine lv_iconst (v := nI 0) hx hb d_LA_like_21 (by decide) ?_
  exact gs_iret (v := (nI 0)) hx hb hr rfl hK hE hz hG hS hlocks (by show 0 + rm.cells ≤ 6; omega) (by show 0 + rm.slots ≤ 64; omega) (⟨rfl, r_9, σ_9, hp_9, eσ_1⟩) d_LA_like_22
set_option maxHeartbeats 4000000 in
set_option maxRecDepth 100000 in
/-- the law: like, xI -/
theorem c_LA_like_xI (l : Launch) (X : gs_X) (σ : gs_St) (rr out : Nat) (gs : List Value) (rm : Room) (x y z u : Int32)
    (x0 : σ rr = some (gs_ob 0 gs)) (hrm : rmC rm) (hM : gs_Mt l X y_RR_like b_RR_like 7 (some .int) rm σ [.ref rr, .int x, .int y, .int z, .int u] xI) : gs_MiH l X y_LA_like b_LA_like 7 (some .int) [((0 : Nat), (14 : Nat), (17 : Nat), (13 : Nat))] ({ frames := 13, cells := 6, slots := 64, locals := 700 }) σ [.ref rr, .int x, .int y, .int z, .int u, .ref out] (fun k9 σ' => k9 = nI 1 ∧ σ' = σ) := by
  refine gs_MetH_ofW (cc := b_LA_like) (maxL := 7) (ret := (some .int)) (hs := [((0 : Nat), (14 : Nat), (17 : Nat), (13 : Nat))]) (by decide) rfl ?_
  intro p e s m args below meth c s₁ B₀ hml htab hv
  obtain ⟨rfl, hK, hG, hz, hE⟩ := hv
  have hx := B₀.exec
  have hb := B₀.bytes
  have hr := B₀.returns
  have hts := atoms_spec (ws := gs_wh y_LA_like b_LA_like 7 (some .int) [((0 : Nat), (14 : Nat), (17 : Nat), (13 : Nat))]) B₀.pre
  have ht : ∀ w ∈ gs_w, w.before _ s = true := fun w h => hts w (List.mem_cons_of_mem _ h)
  have hown : s.vm.findClass R_LA = some m.cls := findClass_of_methodNamed B₀.named
  have hlocks := B₀.notSynchronized
  have hA : ∀ q : Nat, s.heap.size ≤ q → gs_A X q := fun q h => Nat.le_trans hz h
  have hS : va_S (gs_A X) s.heap s.heap [] := va_S.rf
  have hl := lv_entry ([.ref rr, .int x, .int y, .int z, .int u, .ref out]) (n := 7) (Nat.le_of_ble_eq_true rfl)
  rw [lg_entry_eq]
  generalize (lg_sl ([.ref rr, .int x, .int y, .int z, .int u, .ref out]) ++ List.replicate (7 - (lg_sl ([.ref rr, .int x, .int y, .int z, .int u, .ref out])).length) Slot.unset).toArray = ls at hl ⊢
  have hl : lv_has ls 7 [(0, .ref rr), (1, .int x), (2, .int y), (3, .int z), (4, .int u), (5, .ref out)] := hl
  obtain ⟨hr1, hr2, hr3, hr4⟩ := hrm
  obtain ⟨e0, htab, he0⟩ := tab1 htab
  have hp0 := hpc he0
  refine lv_aload hx hb d_LA_like_0 (lv_at hl 5 rfl) ?_
  refine lv_iconst (v := nI 0) hx hb d_LA_like_2 (by decide) ?_
  refine lv_aload_n hx hb d_LA_like_3 rfl (lv_at hl 0 rfl) ?_
  refine lv_iload_n hx hb d_LA_like_4 rfl (lv_at hl 1 rfl) ?_
  refine lv_iload_n hx hb d_LA_like_5 rfl (lv_at hl 2 rfl) ?_
  refine lv_iload_n hx hb d_LA_like_6 rfl (lv_at hl 3 rfl) ?_
  refine lv_iload hx hb d_LA_like_7 (lv_at hl 4 rfl) ?_
  refine gs_callVc (As := [.int x, .int y, .int z, .int u]) (rest := [.int (nI 0), .ref out]) ⟨hx, hb, hml, hown, hts⟩ hK hE hz hG hM mV_RR_like w_623 x0 rfl rfl hl.1 rfl (Nat.le_of_ble_eq_true rfl) ⟨by show rm.frames + 1 ≤ 13; omega, by show 8 + (7 + 11) + rm.locals ≤ 700; omega⟩ ⟨by show 0 + rm.cells ≤ 6; omega, by show 0 + rm.slots ≤ 64; omega⟩ d_LA_like_9 [] e0 [] htab hE.1 (by rw [hp0.2]; decide) (by rw [hp0.2]; exact w_260) (cov he0 (by decide) (by decide)) (fun z hz => by cases hz) (fun q9 H locs hG hS => ?_)
  rw [hp0.1]
  refine lv_astore (lv' := [(6, .ref q9), (0, .ref rr), (1, .int x), (2, .int y), (3, .int z), (4, .int u), (5, .ref out)]) hx hb d_LA_like_17 hl (by decide) rfl (fun ls hl => ?_)
  refine lv_iconst (v := nI 1) hx hb d_LA_like_19 (by decide) ?_
  exact gs_iret (v := (nI 1)) hx hb hr rfl hK hE hz hG hS hlocks (by show 0 + rm.cells ≤ 6; omega) (by show 0 + rm.slots ≤ 64; omega) (⟨rfl, rfl⟩) d_LA_like_20
set_option maxHeartbeats 4000000 in
set_option maxRecDepth 100000 in
/-- the law: matches, answered -/
theorem c_LA_matches (l : Launch) (X : gs_X) (σ : gs_St) (rr out : Nat) (gs : List Value) (rm : Room) (f : Nat → Int64) (x : Int32) (post : Int32 → gs_St → Prop)
    (x0 : σ rr = some (gs_ob 0 gs)) (hrm : rmC rm) (hM : gs_Mi l X y_RR_matches b_RR_matches 2 (some .int) rm σ [.ref rr, .int x] post) (ho : ∀ r9 σ9, post r9 σ9 → σ9 out = some (gs_la X 1 f)) : gs_MiH l X y_LA_matches b_LA_matches 4 (some .int) [((0 : Nat), (9 : Nat), (12 : Nat), (13 : Nat))] ({ frames := 13, cells := 6, slots := 64, locals := 700 }) σ [.ref rr, .int x, .ref out] (fun k9 σ' => k9 = nI 0 ∧ ∃ r9 σ9, post r9 σ9 ∧ σ' = gs_up σ9 out (gs_la X 1 (vp_updL f 0 r9.toInt64))) := by
  refine gs_MetH_ofW (cc := b_LA_matches) (maxL := 4) (ret := (some .int)) (hs := [((0 : Nat), (9 : Nat), (12 : Nat), (13 : Nat))]) (by decide) rfl ?_
  intro p e s m args below meth c s₁ B₀ hml htab hv
  obtain ⟨rfl, hK, hG, hz, hE⟩ := hv
  have hx := B₀.exec
  have hb := B₀.bytes
  have hr := B₀.returns
  have hts := atoms_spec (ws := gs_wh y_LA_matches b_LA_matches 4 (some .int) [((0 : Nat), (9 : Nat), (12 : Nat), (13 : Nat))]) B₀.pre
  have ht : ∀ w ∈ gs_w, w.before _ s = true := fun w h => hts w (List.mem_cons_of_mem _ h)
  have hown : s.vm.findClass R_LA = some m.cls := findClass_of_methodNamed B₀.named
  have hlocks := B₀.notSynchronized
  have hA : ∀ q : Nat, s.heap.size ≤ q → gs_A X q := fun q h => Nat.le_trans hz h
  have hS : va_S (gs_A X) s.heap s.heap [] := va_S.rf
  have hl := lv_entry ([.ref rr, .int x, .ref out]) (n := 4) (Nat.le_of_ble_eq_true rfl)
  rw [lg_entry_eq]
  generalize (lg_sl ([.ref rr, .int x, .ref out]) ++ List.replicate (4 - (lg_sl ([.ref rr, .int x, .ref out])).length) Slot.unset).toArray = ls at hl ⊢
  have hl : lv_has ls 4 [(0, .ref rr), (1, .int x), (2, .ref out)] := hl
  obtain ⟨hr1, hr2, hr3, hr4⟩ := hrm
  refine lv_aload_n hx hb d_LA_matches_0 rfl (lv_at hl 2 rfl) ?_
  refine lv_iconst (v := nI 0) hx hb d_LA_matches_1 (by decide) ?_
  refine lv_aload_n hx hb d_LA_matches_2 rfl (lv_at hl 0 rfl) ?_
  refine lv_iload_n hx hb d_LA_matches_3 rfl (lv_at hl 1 rfl) ?_
  refine gs_callVi (As := [.int x]) (rest := [.int (nI 0), .ref out]) ⟨hx, hb, hml, hown, hts⟩ hK hE hz hG hS hM mV_RR_matches w_650 x0 rfl rfl hl.1 rfl (Nat.le_of_ble_eq_true rfl) ⟨by show rm.frames + 1 ≤ 13; omega, by show 8 + (2 + 11) + rm.locals ≤ 700; omega⟩ ⟨by show 0 + rm.cells ≤ 6; omega, by show 0 + rm.slots ≤ 64; omega⟩ d_LA_matches_4 (fun r_4 σ_4 H locs hp_4 hG hS => ?_)
  have hc9 := ho r_4 σ_4 hp_4
  refine lv_i2l hx hb d_LA_matches_7 rfl ?_
  refine gs_last hx hb hK hG hS hc9 (j := 0) (by omega) (by omega) d_LA_matches_8 (fun H locs hG hS => ?_)
  have hG : gs_H X (gs_up σ_4 out (gs_la X 1 (vp_updL f 0 ((r_4).toInt64)))) H := hG
  obtain ⟨σ_1, eσ_1⟩ : ∃ zq, zq = gs_up σ_4 out (gs_la X 1 (vp_updL f 0 ((r_4).toInt64))) := ⟨_, rfl⟩
  rw [← eσ_1] at hG
  have hc_2 : σ_1 out = some (gs_la X 1 (vp_updL f 0 ((r_4).toInt64))) := by rw [eσ_1]; exact gs_us
  refine lv_goto (tgt := 15) hx hb d_LA_matches_9 (by decide) ?_
  refine lv_iconst (v := nI 0) hx hb d_LA_matches_15 (by decide) ?_
  exact gs_iret (v := (nI 0)) hx hb hr rfl hK hE hz hG hS hlocks (by show 0 + rm.cells ≤ 6; omega) (by show 0 + rm.slots ≤ 64; omega) (⟨rfl, r_4, σ_4, hp_4, eσ_1⟩) d_LA_matches_16
set_option maxHeartbeats 4000000 in
set_option maxRecDepth 100000 in
/-- the law: matches, xI -/
theorem c_LA_matches_xI (l : Launch) (X : gs_X) (σ : gs_St) (rr out : Nat) (gs : List Value) (rm : Room) (x : Int32)
    (x0 : σ rr = some (gs_ob 0 gs)) (hrm : rmC rm) (hM : gs_Mt l X y_RR_matches b_RR_matches 2 (some .int) rm σ [.ref rr, .int x] xI) : gs_MiH l X y_LA_matches b_LA_matches 4 (some .int) [((0 : Nat), (9 : Nat), (12 : Nat), (13 : Nat))] ({ frames := 13, cells := 6, slots := 64, locals := 700 }) σ [.ref rr, .int x, .ref out] (fun k9 σ' => k9 = nI 1 ∧ σ' = σ) := by
  refine gs_MetH_ofW (cc := b_LA_matches) (maxL := 4) (ret := (some .int)) (hs := [((0 : Nat), (9 : Nat), (12 : Nat), (13 : Nat))]) (by decide) rfl ?_
  intro p e s m args below meth c s₁ B₀ hml htab hv
  obtain ⟨rfl, hK, hG, hz, hE⟩ := hv
  have hx := B₀.exec
  have hb := B₀.bytes
  have hr := B₀.returns
  have hts := atoms_spec (ws := gs_wh y_LA_matches b_LA_matches 4 (some .int) [((0 : Nat), (9 : Nat), (12 : Nat), (13 : Nat))]) B₀.pre
  have ht : ∀ w ∈ gs_w, w.before _ s = true := fun w h => hts w (List.mem_cons_of_mem _ h)
  have hown : s.vm.findClass R_LA = some m.cls := findClass_of_methodNamed B₀.named
  have hlocks := B₀.notSynchronized
  have hA : ∀ q : Nat, s.heap.size ≤ q → gs_A X q := fun q h => Nat.le_trans hz h
  have hS : va_S (gs_A X) s.heap s.heap [] := va_S.rf
  have hl := lv_entry ([.ref rr, .int x, .ref out]) (n := 4) (Nat.le_of_ble_eq_true rfl)
  rw [lg_entry_eq]
  generalize (lg_sl ([.ref rr, .int x, .ref out]) ++ List.replicate (4 - (lg_sl ([.ref rr, .int x, .ref out])).length) Slot.unset).toArray = ls at hl ⊢
  have hl : lv_has ls 4 [(0, .ref rr), (1, .int x), (2, .ref out)] := hl
  obtain ⟨hr1, hr2, hr3, hr4⟩ := hrm
  obtain ⟨e0, htab, he0⟩ := tab1 htab
  have hp0 := hpc he0
  refine lv_aload_n hx hb d_LA_matches_0 rfl (lv_at hl 2 rfl) ?_
  refine lv_iconst (v := nI 0) hx hb d_LA_matches_1 (by decide) ?_
  refine lv_aload_n hx hb d_LA_matches_2 rfl (lv_at hl 0 rfl) ?_
  refine lv_iload_n hx hb d_LA_matches_3 rfl (lv_at hl 1 rfl) ?_
  refine gs_callVc (As := [.int x]) (rest := [.int (nI 0), .ref out]) ⟨hx, hb, hml, hown, hts⟩ hK hE hz hG hM mV_RR_matches w_650 x0 rfl rfl hl.1 rfl (Nat.le_of_ble_eq_true rfl) ⟨by show rm.frames + 1 ≤ 13; omega, by show 8 + (2 + 11) + rm.locals ≤ 700; omega⟩ ⟨by show 0 + rm.cells ≤ 6; omega, by show 0 + rm.slots ≤ 64; omega⟩ d_LA_matches_4 [] e0 [] htab hE.1 (by rw [hp0.2]; decide) (by rw [hp0.2]; exact w_260) (cov he0 (by decide) (by decide)) (fun z hz => by cases hz) (fun q9 H locs hG hS => ?_)
  rw [hp0.1]
  refine lv_astore_n (lv' := [(3, .ref q9), (0, .ref rr), (1, .int x), (2, .ref out)]) hx hb d_LA_matches_12 rfl hl (by decide) rfl (fun ls hl => ?_)
  refine lv_iconst (v := nI 1) hx hb d_LA_matches_13 (by decide) ?_
  exact gs_iret (v := (nI 1)) hx hb hr rfl hK hE hz hG hS hlocks (by show 0 + rm.cells ≤ 6; omega) (by show 0 + rm.slots ≤ 64; omega) (⟨rfl, rfl⟩) d_LA_matches_14
