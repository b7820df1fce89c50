theorem bit_iff (n j : Nat) : n / 2 ^ j % 2 = 1 ↔ n.testBit j = true := by
  rw [Nat.testBit_eq_decide_div_mod_eq]; simp
/-- only columns whose variable has no value yet are bound -/
theorem bl_bd {kn : Nat → Nat} {t : It} (h0 : t.2.2.1 = 0) : ∀ k j, (bl kn t k).1.testBit j = true → bnd kn t j = true
  | 0, j, h => by
    simp only [bl, h0, Nat.zero_testBit] at h; cases h
  | k + 1, j, h => by
    unfold bl at h
    by_cases hb : bnd kn t (t.1.2.2 - (k + 1)) = true
    · rw [if_pos hb] at h
      simp only [Nat.testBit_or, Bool.or_eq_true] at h
      rcases h with h | h
      · exact bl_bd h0 k j h
      · rw [Nat.testBit_two_pow] at h
        have e := of_decide_eq_true h
        rw [← e]; exact hb
    · rw [if_neg hb] at h
      exact bl_bd h0 k j h
theorem bindI_64 {kn : Nat → Nat} {t : It} (h0 : t.2.2.1 = 0) : ∀ j, j < t.1.2.2 → bd (bindI kn t) j = true → 64 ≤ tm t j := by
  intro j _ h
  have h1 := of_decide_eq_true h
  have h2 := bl_bd h0 _ j ((bit_iff _ j).mp h1)
  unfold bnd at h2
  simp only [Bool.and_eq_true, decide_eq_true_eq] at h2
  exact h2.1.1
