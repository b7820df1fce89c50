def wfM (cw : Nat → Nat) (R : MR) : Prop := sfJ R 3 = true ∧ ∀ y ∈ R.2, y.1 = 0 → ∀ j, cw y.2.1 ≤ j → j < 3 → t3 y.2.2 j < 64
def msM (nr : Nat) (Q : List MR) (st : RS) : Nat := (300 - st.1.length) + (if mok Q nr = true then mxS (mfs Q nr).1 nr - st.2.1 else 0)
theorem oneM_ms {cw : Nat → Nat} {nr : Nat} {Q : List MR} {st : RS} (h : ¬ (oneM cw nr Q st).1 < 0) (hs : mok Q nr = true → st.2.1 ≤ mxS (mfs Q nr).1 nr) (hl : (oneM cw nr Q st).2.1.length ≤ 300) : msM nr Q (oneM cw nr Q st).2 < msM nr Q st ∧ (mok Q nr = true → (oneM cw nr Q st).2.2.1 ≤ mxS (mfs Q nr).1 nr) := by
  cases hmk : mok Q nr with
  | false => rw [oneM_c hmk] at h; exact absurd (show (-3 : Int32) < 0 by decide) h
  | true =>
    by_cases h2 : st.2.1 = mxS (mfs Q nr).1 nr
    · rw [oneM_d hmk h2] at h; exact absurd (show (-4 : Int32) < 0 by decide) h
    · have hle := hs hmk
      cases h3 : (rdF cw st.1 st.2.2 st.2.1 (mfs Q nr).1 Q 0 ([], false, 0)).2.1 with
      | true => rw [oneM_f hmk h2 ⟨rfl, rfl⟩ h3] at h; exact absurd (show (-5 : Int32) < 0 by decide) h
      | false =>
        rw [oneM_r hmk h2 ⟨rfl, rfl⟩ h3] at hl ⊢
        unfold msM
        rw [if_pos hmk, if_pos hmk]
        dsimp only at hl ⊢
        rw [List.length_append] at hl ⊢
        by_cases e : (rdF cw st.1 st.2.2 st.2.1 (mfs Q nr).1 Q 0 ([], false, 0)).1 = []
        · rw [if_pos e, e]
          simp only [List.length_nil]
          exact ⟨by omega, fun _ => by omega⟩
        · rw [if_neg e]
          have := List.length_pos_iff.mpr e
          exact ⟨by omega, fun _ => by omega⟩
theorem oneM_rc {cw : Nat → Nat} {nr : Nat} {Q : List MR} {st : RS} : (oneM cw nr Q st).2.2.2 ≤ st.2.2 + 1 := by
  unfold oneM
  split
  · split
    · exact Nat.le_succ _
    · dsimp only
      split
      · exact Nat.le_succ _
      · exact Nat.le_refl _
  · exact Nat.le_succ _
/-- the search at hand, whatever the values -/
def trW (X : gs_X) (σ σ1 : gs_St) (mo : Nat) (A Z : Nat → Nat) (T : List MT) (fd : Bool) (s : FS) (f28 f29 f30 : Nat → Int32) : Prop :=
  ∃ (Z1 : Nat → Nat) (a8 a9 a10 a11 a24 : Nat → Int32) (g3 : Nat → Int64), σ1 mo = some (moE A Z1) ∧ (fd = true → Z1 14 = s.1.length) ∧ (fd = true → Z1 15 = s.2.1.toNat) ∧ Z1 27 = s.2.2 ∧ zfr [14, 15, 27] Z Z1 ∧ σ1 (A 8) = some (gs_ia X 320 a8) ∧ σ1 (A 9) = some (gs_ia X 320 a9) ∧ σ1 (A 10) = some (gs_ia X 320 a10) ∧ σ1 (A 11) = some (gs_ia X 320 a11) ∧ σ1 (A 13) = some (gs_la X 49152 g3) ∧ σ1 (A 24) = some (gs_ia X 8 a24) ∧ σ1 (A 28) = some (gs_ia X 3 f28) ∧ σ1 (A 29) = some (gs_ia X 3 f29) ∧ σ1 (A 30) = some (gs_ia X 3 f30) ∧ tpOK (T ++ s.1) a8 a9 a10 a11 ∧ bO g3 (tcs s.1) ∧ T.length + s.1.length ≤ 300 ∧ frm [mo, A 8, A 9, A 10, A 11, A 13, A 24, A 28, A 29, A 30] σ σ1
theorem trS.toW {X : gs_X} {σ σ1 : gs_St} {mo : Nat} {A Z : Nat → Nat} {T : List MT} {fd : Bool} {ov : OV} {s : FS} {f28 f29 f30 : Nat → Int32} (h : trS X σ σ1 mo A Z T fd ov s f28 f29 f30) : trW X σ σ1 mo A Z T fd s f28 f29 f30 := by
  obtain ⟨Z2, a8, a9, a10, a11, a24, g3, h1, h2, h3, h4, h5, h6, h7, h8, h9, h10, h11, h12, h13, h14, h15, h16, h17, h18, h19⟩ := h
  exact ⟨Z2, a8, a9, a10, a11, a24, g3, h1, h2, h3, h4, h5, h6, h7, h8, h9, h10, h11, h12, h13, h14, h15, h16, h17, h19⟩
