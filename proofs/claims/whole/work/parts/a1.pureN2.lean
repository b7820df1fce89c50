theorem tpOK_l {T N : List MT} {fo fi fr fu : Nat → Int32} (h : tpOK (T ++ N) fo fi fr fu) : tpOK T fo fi fr fu := fun j x hx => h j x (by rw [List.getElem?_append_left (List.getElem?_eq_some_iff.mp hx).1]; exact hx)
theorem tcs_snoc (N : List MT) (x : MT) : tcs (N ++ [x]) = tcs N ++ [262144 * x.1 + x.2.1] := by unfold tcs; rw [List.map_append]; rfl
theorem bO_snoc {g : Nat → Int64} {P : List Nat} {k : Nat} (h : bO g P) : bO (stB g k true) (P ++ [k]) := by
  intro q
  rw [gB_st, h q]
  by_cases e : q = k
  · rw [if_pos e]; simp [e]
  · rw [if_neg e]; simp [e]
theorem bit_cmp {g : Nat → Int64} {P : List Nat} (h : bO g P) {r t : Nat} (ht : t < 262144) : lg_cmp ((g (4096 * r + t / 64) >>> ((nI (t % 64)).toInt64 &&& 63)) &&& 1) 1 = 0 ↔ 262144 * r + t ∈ P := by
  rw [cmp_0, bit_at (by omega)]
  have := h (262144 * r + t)
  unfold gB at this
  rw [← (cd_div (r := r) ht).1, ← (cd_div (r := r) ht).2] at this
  rw [this]
  simp
theorem mtc_lt {cw : Nat → Nat} {x : MI} {t : MT} {ov : OV} {p : OV × Nat} (h : mtc cw x t ov = some p) (hx : ∀ j, t3 x.2.2 j < 72) : p.2 < 256 ∧ frO p.2 p.1 = ov := by
  unfold mtc at h
  split at h
  · split at h
    · cases h
      exact ⟨(bdF_inv hx _).1, fr_bdF hx _⟩
    · cases h
  · cases h
theorem toN1 (b : Bool) : b.toNat ≤ 1 := by cases b <;> decide
theorem toN0 {b : Bool} (h : b.toNat = 0) : b = false := by cases b; rfl; cases h
theorem toN0' {b : Bool} (h : ¬ b.toNat = 0) : b = true := by cases b; exact absurd rfl h; rfl
