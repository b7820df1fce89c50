/-! sorted lists of codes -/
/-- how many of L lie below c -/
abbrev cb (L : List Nat) (c : Nat) : Nat := L.countP (fun y => decide (y < c))
theorem cb_le (L : List Nat) (c : Nat) : cb L c ≤ L.length := List.countP_le_length
theorem cb_iff : ∀ (L : List Nat), L.Pairwise (· < ·) → ∀ (c j x : Nat), L[j]? = some x → (x < c ↔ j < cb L c)
  | [], _, c, j, x, h => by simp at h
  | a :: L, hs, c, j, x, h => by
    obtain ⟨h1, h2⟩ := List.pairwise_cons.mp hs
    by_cases ha : a < c
    · have e : cb (a :: L) c = cb L c + 1 := by simp [cb, List.countP_cons, ha]
      rw [e]
      cases j with
      | zero => simp at h; subst h; exact ⟨fun _ => Nat.succ_pos _, fun _ => ha⟩
      | succ j =>
        have := cb_iff L h2 c j x (by simpa using h)
        omega
    · have e : cb (a :: L) c = 0 := by
        simp only [cb, List.countP_eq_zero, decide_eq_true_eq]
        intro y hy
        rcases List.mem_cons.mp hy with rfl | hy
        · exact ha
        · have := h1 y hy; omega
      rw [e]
      refine ⟨fun hx => ?_, fun hx => absurd hx (Nat.not_lt_zero _)⟩
      have : a ≤ x := by
        cases j with
        | zero => simp at h; omega
        | succ j => have := h1 x (List.mem_of_getElem? (by simpa using h)); omega
      omega
theorem get_ex {α : Type} {L : List α} {j : Nat} (h : j < L.length) : ∃ x, L[j]? = some x := ⟨L[j], List.getElem?_eq_getElem h⟩
