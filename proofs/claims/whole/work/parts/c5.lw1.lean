theorem itR_k {nr : Nat} {cw : Nat → Nat} {x r y z u : Int32} (h : ¬ (¬ x < 0 ∧ x ≤ nI 3)) : itR nr cw x r y z u = false := by
  unfold itR
  by_cases h1 : x < 0
  · rw [decide_eq_true h1]; rfl
  · rw [decide_eq_false (fun h2 => h ⟨h1, h2⟩), Bool.and_false]; rfl
theorem kd_in {kd : Nat} (h : kd ≤ 3) : (!decide (nI kd < 0) && decide (nI kd ≤ nI 3)) = true := by
  rw [decide_eq_false (nI_pos (by omega)), decide_eq_true ((nI_leI (by omega) (by decide)).mpr h)]; rfl
theorem itR_c {nr : Nat} {cw : Nat → Nat} {kd : Nat} {r y z u : Int32} (hk : kd = 2 ∨ kd = 3) : itR nr cw (nI kd) r y z u = (decide (r = 0) && wi3 72 2 y z u) := by
  unfold itR
  rw [kd_in (by omega), if_neg (mt (nI_ltI (by omega) (by decide)).mp (by omega)), Bool.true_and]
theorem itR_f {nr : Nat} {cw : Nat → Nat} {kd : Nat} {r y z u : Int32} (hk : kd ≤ 1) : itR nr cw (nI kd) r y z u = fitR nr cw 72 r y z u := by
  unfold itR
  rw [kd_in (by omega), if_pos ((nI_ltI (by omega) (by decide)).mpr (by omega)), Bool.true_and]
theorem w72 {rl a b cz : Nat} {cw : Nat → Nat} {n : Nat} (h : wi3 n (cw rl) (nI a) (nI b) (nI cz) = true) : True := trivial
theorem wi_lt {b n : Nat} (h : wi b (nI n) = true) (hb : b < 2 ^ 30) (hn : n < 2 ^ 31) : n < b := by
  obtain ⟨k, h1, h2⟩ := wi_ex hb h
  rw [(nI_eq hn (by omega)).mp h1]; exact h2
theorem cmpF {r y z u : Int32} (h : ¬ (r = 0 ∧ wi3 72 2 y z u = true)) : (decide (r = 0) && wi3 72 2 y z u) = false := by
  by_cases h1 : r = 0
  · rw [decide_eq_true h1, Bool.true_and]
    cases h2 : wi3 72 2 y z u with
    | false => rfl
    | true => exact absurd ⟨h1, h2⟩ h
  · rw [decide_eq_false h1]; rfl
