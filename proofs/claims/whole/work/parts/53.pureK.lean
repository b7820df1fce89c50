/-! what a call of RuleRounds asks of its numbers -/
def wi (b : Nat) (x : Int32) : Bool := !decide (x < 0) && decide (x < nI b)
def wi3 (b w : Nat) (x y z : Int32) : Bool := wi b x && wi (if 1 < w then b else 1) y && wi (if 2 < w then b else 1) z
theorem wi_ex {b : Nat} {x : Int32} (hb : b < 2 ^ 30) (h : wi b x = true) : ∃ n, x = nI n ∧ n < b := by
  unfold wi at h
  simp only [Bool.and_eq_true, Bool.not_eq_true', decide_eq_false_iff_not, decide_eq_true_eq] at h
  have h0 : 0 ≤ x.toInt := by
    have := h.1
    rw [Int32.lt_iff_toInt_lt] at this
    simpa using this
  refine ⟨x.toInt.toNat, ?_, ?_⟩
  · apply Int32.toInt_inj.mp
    rw [nI_toInt (by have := x.toInt_lt; omega)]
    omega
  · have h2 := h.2
    rw [Int32.lt_iff_toInt_lt, nI_toInt (by omega)] at h2
    omega
theorem wi_nI {b n : Nat} (h : n < b) (hb : b < 2 ^ 30) : wi b (nI n) = true := by
  unfold wi
  rw [decide_eq_false (nI_pos (by omega)), decide_eq_true ((nI_ltI (by omega) (by omega)).mpr h)]; rfl
