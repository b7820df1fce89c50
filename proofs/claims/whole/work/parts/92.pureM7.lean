theorem c_MO_fitsU (l : Launch) (X : gs_X) (σ : gs_St) (mo : Nat) (A Z : Nat → Nat) (f2 : Nat → Int32) (nr : Nat) (cw : Nat → Nat) (b : Nat) (r x y z : Int32) (m0 : σ mo = some (moE A Z)) (m2 : σ (A 2) = some (gs_ia X 12 f2)) (z1 : Z 1 = nr) (hnr : nr ≤ 12) (hcw : ∀ r, r < nr → f2 r = nI (cw r) ∧ 1 ≤ cw r ∧ cw r ≤ 3) : gs_Mp l X y_MO_fits b_MO_fits 8 (some .boolean) ({ frames := 0, cells := 0, slots := 0, locals := 0 }) σ [.ref mo, .int r, .int x, .int y, .int z, .int (nI b)] (fun q => q = bI (fitR nr cw b r x y z)) := by
  cases h : wi nr r with
  | false =>
    have := c_MO_fits_r l X σ mo A Z b r x y z m0 (by rw [z1]; exact h)
    rw [fitR_r h]
    exact this
  | true =>
    obtain ⟨rl, e1, e2⟩ := wi_ex (by omega) h
    subst e1
    rw [fitR_n e2 hnr]
    exact c_MO_fits l X σ mo A Z f2 rl (cw rl) b x y z m0 m2 (by omega) (by omega) (hcw rl e2).1 (hcw rl e2).2.2
theorem two_eq {r y z u : Int32} {b : Bool} (h : b = (decide (r = 0) && (wi 72 y && wi 72 z && wi 1 u))) : b = (decide (r = 0) && wi3 72 2 y z u) := h
