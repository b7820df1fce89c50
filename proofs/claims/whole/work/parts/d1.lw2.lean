theorem wi_cases (b : Nat) (x : Int32) (hb : b < 2 ^ 30) : wi b x = false ∨ ∃ n, x = nI n ∧ n < b := by
  cases h : wi b x with
  | false => exact Or.inl rfl
  | true => exact Or.inr (wi_ex hb h)
theorem tup_ex {n w : Nat} {x y z : Int32} (hn : 1 ≤ n) (hn2 : n < 2 ^ 20) (h : wi3 n w x y z = true) : ∃ a b c, x = nI a ∧ a < n ∧ y = nI b ∧ b < n ∧ z = nI c ∧ c < n := by
  unfold wi3 at h
  simp only [Bool.and_eq_true] at h
  obtain ⟨⟨h1, h2⟩, h3⟩ := h
  obtain ⟨a, e1, l1⟩ := wi_ex (by omega) h1
  obtain ⟨b, e2, l2⟩ := wi_ex (by split <;> omega) h2
  obtain ⟨c, e3, l3⟩ := wi_ex (by split <;> omega) h3
  exact ⟨a, b, c, e1, l1, e2, by split at l2 <;> omega, e3, by split at l3 <;> omega⟩
theorem wd_ex {x : Int32} (h : ¬ x < nI 1 ∧ x ≤ nI 3) : ∃ wd, x = nI wd ∧ 1 ≤ wd ∧ wd ≤ 3 := by
  have h1 := Int32.not_lt.mp h.1
  rw [Int32.le_iff_toInt_le] at h1
  have h2 := h.2
  rw [Int32.le_iff_toInt_le] at h2
  have e1 : (nI 1).toInt = 1 := by decide
  have e3 : (nI 3).toInt = 3 := by decide
  rw [e1] at h1
  rw [e3] at h2
  refine ⟨x.toInt.toNat, ?_, by omega, by omega⟩
  apply Int32.toInt_inj.mp
  rw [nI_toInt (by omega)]
  omega
theorem kd_ex {x : Int32} (h : ¬ x < 0 ∧ x ≤ nI 3) : ∃ kd, x = nI kd ∧ kd ≤ 3 := by
  have h1 := Int32.not_lt.mp h.1
  rw [Int32.le_iff_toInt_le] at h1
  have h2 := h.2
  rw [Int32.le_iff_toInt_le] at h2
  have e0 : (0 : Int32).toInt = 0 := by decide
  have e3 : (nI 3).toInt = 3 := by decide
  rw [e0] at h1
  rw [e3] at h2
  refine ⟨x.toInt.toNat, ?_, by omega⟩
  apply Int32.toInt_inj.mp
  rw [nI_toInt (by omega)]
  omega
theorem wh_ex {x : Int32} (h : ¬ x < 0 ∧ x ≤ nI 4) : ∃ wh, x = nI wh ∧ wh < 5 := by
  have h1 := Int32.not_lt.mp h.1
  rw [Int32.le_iff_toInt_le] at h1
  have h2 := h.2
  rw [Int32.le_iff_toInt_le] at h2
  have e0 : (0 : Int32).toInt = 0 := by decide
  have e3 : (nI 4).toInt = 4 := by decide
  rw [e0] at h1
  rw [e3] at h2
  refine ⟨x.toInt.toNat, ?_, by omega⟩
  apply Int32.toInt_inj.mp
  rw [nI_toInt (by omega)]
  omega
theorem wh_no {x : Int32} (h : ¬ (¬ x < 0 ∧ x ≤ nI 4)) : x.toInt < 0 ∨ 4 < x.toInt := by
  have e0 : (0 : Int32).toInt = 0 := by decide
  have e3 : (nI 4).toInt = 4 := by decide
  rw [Int32.lt_iff_toInt_lt, Int32.le_iff_toInt_le, e0, e3] at h
  omega
theorem and15 (x : Int32) : ∃ k, k < 16 ∧ x &&& nI 15 = nI k := by
  have h : (x &&& 15).toInt = x.toInt % 2 ^ 4 := Jvm.Kit.i32_mask x 15 (by decide) (by decide)
  have e : x &&& nI 15 = x &&& 15 := rfl
  refine ⟨(x.toInt % 16).toNat, by omega, ?_⟩
  apply Int32.toInt_inj.mp
  rw [e, nI_toInt (by omega)]
  rw [h]
  omega
theorem len6 {L i : Nat} (hL : L ≤ 3072) (hi : i ≤ 4000) : nI L - nI 6 < nI i ↔ L < i + 6 := by
  rcases Nat.lt_or_ge L 6 with h | h
  · have hn : nI L - nI 6 < 0 := by rcases (show L = 0 ∨ L = 1 ∨ L = 2 ∨ L = 3 ∨ L = 4 ∨ L = 5 by omega) with rfl | rfl | rfl | rfl | rfl | rfl <;> decide
    exact ⟨fun _ => by omega, fun _ => Int32.lt_of_lt_of_le hn (nI_pos' (by omega))⟩
  · rw [pk_sub h, nI_ltI (by omega) (by omega)]
    omega
