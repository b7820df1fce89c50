theorem nocast {C T : String} {s : State} {A : Array Value} (h : (Cond.not (.castable C T)).before A s = true) : (Cond.castable C T).before #[] s = false := by
  have hv := Cond.holds_not_iff.mp h
  have e : (Cond.castable C T).value #[] s none s [] = (Cond.castable C T).value A s none s [] := rfl
  simp only [Cond.before, Cond.holds]
  first
  | (rw [e, hv]; rfl)
  | (simp only [Cond.value] at hv ⊢; rw [hv]; rfl)
set_option maxHeartbeats 4000000 in
set_option maxRecDepth 100000 in
/-- classes, array classes, the base: what the contracts want of the machine holds at the entry -/
theorem gs_start {p : Program} {s : State} {m : MethodId} {meth : Method} {c : Code} {sb L : Nat} {xs : Nat → Int32} (C0 : lw_At p s m meth c sb L xs) : ∃ X : gs_X, X.2.1 3 ≠ X.2.1 2 ∧ gs_T X s ∧ gs_E X s ∧ X.2.2 = s.heap.size := by
  obtain ⟨hx, hb, hr, hml, hown, hts0, hX, hbl, hlocks, hgv⟩ := id C0
  have ht : ∀ w ∈ gs_w, w.before #[Value.ref sb] s = true := fun w h => hts0 w (List.mem_filter.mp h).1
  have htt : ∀ w ∈ tables_1, w.before #[Value.ref sb] s = true := fun w h => hts0 w (List.mem_append_right _ h)
  have hfl := flat_of_before _ hgv
  obtain ⟨c0, iS0, hKn0⟩ := u_known (C := R_RR) (T := F_RR) (N := 6) (n := 6) ht k_RR.1 (ht (.instantiable R_RR 6) w_17)
  obtain ⟨c1, iS1, hKn1⟩ := u_known (C := R_DE) (T := F_DE) (N := 8) (n := 8) ht k_DE.1 (ht (.instantiable R_DE 8) w_104)
  obtain ⟨c2, iS2, hKn2⟩ := u_known (C := R_IT) (T := F_IT) (N := 9) (n := 9) ht k_IT.1 (ht (.instantiable R_IT 9) w_438)
  obtain ⟨c3, iS3, hKn3⟩ := u_known (C := R_MA) (T := F_MA) (N := 2) (n := 2) ht k_MA.1 (ht (.instantiable R_MA 2) w_91)
  obtain ⟨c4, iS4, hKn4⟩ := u_known (C := R_RU) (T := F_RU) (N := 6) (n := 6) ht k_RU.1 (ht (.instantiable R_RU 6) w_436)
  obtain ⟨c5, iS5, hKn5⟩ := u_known (C := R_RB) (T := F_RB) (N := 6) (n := 6) ht k_RB.1 (ht (.instantiable R_RB 6) w_25)
  obtain ⟨c6, iS6, hKn6⟩ := u_known (C := R_TU) (T := F_TU) (N := 4) (n := 4) ht k_TU.1 (ht (.instantiable R_TU 4) w_63)
  obtain ⟨c7, iS7, hKn7⟩ := u_known (C := R_MO) (T := F_MO) (N := 31) (n := 31) ht k_MO.1 (ht (.instantiable R_MO 31) w_656)
  obtain ⟨aI, kI, pI, fI1, fI2, fI3⟩ := Cond.arrayClass_spec (ht _ w_61)
  obtain ⟨aL, kL, pL, fL1, fL2, fL3⟩ := Cond.arrayClass_spec (ht _ w_756)
  have oR : (Cond.arrayOver (.object R_RU)).before #[Value.ref sb] s = true := (htt _ (List.mem_of_getElem? (i := 31) (by decide +kernel)))
  have oI : (Cond.arrayOver (.object R_IT)).before #[Value.ref sb] s = true := (htt _ (List.mem_of_getElem? (i := 492) (by decide +kernel)))
  obtain ⟨pR, aR, kR, gR1, gR2, gR3, gR4, gR5⟩ := Cond.arrayOver_spec oR
  obtain ⟨pT, aT, kT, gT1, gT2, gT3, gT4, gT5⟩ := Cond.arrayOver_spec oI
  refine ⟨((fun k => if k = 0 then c0 else if k = 1 then c1 else if k = 2 then c2 else if k = 3 then c3 else if k = 4 then c4 else if k = 5 then c5 else if k = 6 then c6 else c7, fun k => if k = 0 then iS0 else if k = 1 then iS1 else if k = 2 then iS2 else if k = 3 then iS3 else if k = 4 then iS4 else if k = 5 then iS5 else if k = 6 then iS6 else iS7), (fun k => if k = 0 then aI else if k = 1 then aL else if k = 2 then aR else aT), s.heap.size), ?_, ⟨⟨?_, ?_⟩, ?_, oR, oI⟩, ?_, rfl⟩
  · show aT ≠ aR
    intro z
    rw [z] at gT3
    cases gR3.symm.trans gT3
    rw [gR4] at gT4
    injection gT4 with h1 h2
    injection h2 with h3
    exact absurd h3 (by decide)
  · intro k q hq
    match k, hq with
    | 0, hq => cases hq; exact hKn0
    | 1, hq => cases hq; exact hKn1
    | 2, hq => cases hq; exact hKn2
    | 3, hq => cases hq; exact hKn3
    | 4, hq => cases hq; exact hKn4
    | 5, hq => cases hq; exact hKn5
    | 6, hq => cases hq; exact hKn6
    | 7, hq => cases hq; exact hKn7
    | k + 8, hq => simp [gs_cl] at hq
  · intro k q hq
    match k, hq with
    | 0, hq => cases hq; exact ⟨fun n z => ⟨(fun k h => by cases h), kI, fI2, pI, fI3⟩, fI1⟩
    | 1, hq => cases hq; exact ⟨fun n z => ⟨(fun k h => by cases h), kL, fL2, pL, fL3⟩, fL1⟩
    | 2, hq => cases hq; exact ⟨fun n z => ⟨(fun k h => by cases h), kR, gR3, pR, gR4⟩, kR, pR, gR3, gR4, gR1, gR5⟩
    | 3, hq => cases hq; exact ⟨fun n z => ⟨(fun k h => by cases h), kT, gT3, pT, gT4⟩, kT, pT, gT3, gT4, gT1, gT5⟩
    | k + 4, hq => simp [gs_ty] at hq
  · exact va_tabs rfl rfl (htt _ (List.mem_of_getElem? (i := 234) (by decide +kernel)))
  · refine ⟨va_tabs rfl rfl (htt _ (List.mem_of_getElem? (i := 268) (by decide +kernel))), va_tabs rfl rfl (htt _ (List.mem_of_getElem? (i := 335) (by decide +kernel))), nocast (hfl (.not (.castable xI xS)) (by decide +kernel)), nocast (hfl (.not (.castable xS xI)) (by decide +kernel)), ?_, ?_, ?_⟩
    · intro x hx
      simp only [gx_dec, List.mem_cons, List.not_mem_nil, or_false] at hx
      rcases hx with rfl | rfl | rfl
      · exact va_tabs rfl rfl (htt _ (List.mem_of_getElem? (i := 270) (by decide +kernel)))
      · exact va_tabs rfl rfl (htt _ (List.mem_of_getElem? (i := 272) (by decide +kernel)))
      · exact va_tabs rfl rfl (htt _ (List.mem_of_getElem? (i := 274) (by decide +kernel)))
    · intro w hw
      simp only [gx_sw, List.mem_cons, List.not_mem_nil, or_false] at hw
      rcases hw with rfl | rfl | rfl | rfl
      · exact gx_lays (htt _ (List.mem_of_getElem? (i := 293) (by decide +kernel)))
      · exact gx_lays (htt _ (List.mem_of_getElem? (i := 295) (by decide +kernel)))
      · exact gx_ref (hfl (.isRef (.static "java/lang/Throwable" "UNASSIGNED_STACK" "[Ljava/lang/StackTraceElement;")) (by decide +kernel))
      · exact gx_ref (hfl (.isRef (.static "java/lang/Throwable" "SUPPRESSED_SENTINEL" "Ljava/util/List;")) (by decide +kernel))
    · intro q hq
      simp only [gx_str, List.mem_cons, List.not_mem_nil, or_false] at hq
      rcases hq with rfl | rfl | rfl | rfl | rfl | rfl | rfl | rfl | rfl | rfl | rfl | rfl | rfl | rfl | rfl
      · exact vk_ex (htt _ (List.mem_of_getElem? (i := 306) (by decide +kernel))) (hfl (.exactly (.string "RuleRounds" 51) "java/lang/String") (by decide +kernel))
      · exact vk_ex (htt _ (List.mem_of_getElem? (i := 342) (by decide +kernel))) (hfl (.exactly (.string "RuleRounds" 61) "java/lang/String") (by decide +kernel))
      · exact vk_ex (htt _ (List.mem_of_getElem? (i := 395) (by decide +kernel))) (hfl (.exactly (.string "RuleRounds" 198) "java/lang/String") (by decide +kernel))
      · exact vk_ex (htt _ (List.mem_of_getElem? (i := 402) (by decide +kernel))) (hfl (.exactly (.string "RuleRounds" 204) "java/lang/String") (by decide +kernel))
      · exact vk_ex (htt _ (List.mem_of_getElem? (i := 410) (by decide +kernel))) (hfl (.exactly (.string "RuleRounds" 83) "java/lang/String") (by decide +kernel))
      · exact vk_ex (htt _ (List.mem_of_getElem? (i := 434) (by decide +kernel))) (hfl (.exactly (.string "RuleRounds" 206) "java/lang/String") (by decide +kernel))
      · exact vk_ex (htt _ (List.mem_of_getElem? (i := 531) (by decide +kernel))) (hfl (.exactly (.string "RuleRounds" 109) "java/lang/String") (by decide +kernel))
      · exact vk_ex (htt _ (List.mem_of_getElem? (i := 535) (by decide +kernel))) (hfl (.exactly (.string "RuleRounds" 208) "java/lang/String") (by decide +kernel))
      · exact vk_ex (htt _ (List.mem_of_getElem? (i := 536) (by decide +kernel))) (hfl (.exactly (.string "RuleRounds" 114) "java/lang/String") (by decide +kernel))
      · exact vk_ex (htt _ (List.mem_of_getElem? (i := 545) (by decide +kernel))) (hfl (.exactly (.string "RuleRounds" 119) "java/lang/String") (by decide +kernel))
      · exact vk_ex (htt _ (List.mem_of_getElem? (i := 568) (by decide +kernel))) (hfl (.exactly (.string "RuleRounds" 131) "java/lang/String") (by decide +kernel))
      · exact vk_ex (htt _ (List.mem_of_getElem? (i := 589) (by decide +kernel))) (hfl (.exactly (.string "RuleRounds" 147) "java/lang/String") (by decide +kernel))
      · exact vk_ex (htt _ (List.mem_of_getElem? (i := 617) (by decide +kernel))) (hfl (.exactly (.string "RuleRounds" 168) "java/lang/String") (by decide +kernel))
      · exact vk_ex (htt _ (List.mem_of_getElem? (i := 619) (by decide +kernel))) (hfl (.exactly (.string "RuleRounds" 186) "java/lang/String") (by decide +kernel))
      · exact vk_ex (htt _ (List.mem_of_getElem? (i := 654) (by decide +kernel))) (hfl (.exactly (.string "RuleRounds" 192) "java/lang/String") (by decide +kernel))
