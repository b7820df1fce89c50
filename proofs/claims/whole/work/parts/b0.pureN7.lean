theorem oneM_sa {cw : Nat → Nat} {nr : Nat} {Q : List MR} {st : RS} : (oneM cw nr Q st).2.2.1 ≤ st.2.1 + 1 := by
  unfold oneM
  split
  · split
    · exact Nat.le_succ _
    · dsimp only
      split
      · exact Nat.le_succ _
      · dsimp only
        split <;> omega
  · exact Nat.le_succ _
theorem oneM_sm {cw : Nat → Nat} {nr : Nat} {Q : List MR} {st : RS} (h : (oneM cw nr Q st).1 < 0) (hk : mok Q nr = true) (hs : st.2.1 ≤ mxS (mfs Q nr).1 nr) : (oneM cw nr Q st).2.2.1 ≤ mxS (mfs Q nr).1 nr := by
  by_cases h2 : st.2.1 = mxS (mfs Q nr).1 nr
  · rw [oneM_d hk h2]; exact hs
  · cases h3 : (rdF cw st.1 st.2.2 st.2.1 (mfs Q nr).1 Q 0 ([], false, 0)).2.1 with
    | true => rw [oneM_f hk h2 ⟨rfl, rfl⟩ h3]; exact hs
    | false =>
      rw [oneM_r hk h2 ⟨rfl, rfl⟩ h3]
      dsimp only
      split <;> omega
