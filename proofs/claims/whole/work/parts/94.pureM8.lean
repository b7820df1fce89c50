theorem rul_snoc {X : gs_X} {σ : gs_St} {A : Nat → Nat} {nr : Nat} {Q : List MR} {R : MR} {f18 f19 f20 f21 f22 f23 : Nat → Int32} (hQl : Q.length < 24) (hQ : ∀ q R, Q[q]? = some R → rAt f18 f19 f20 f21 f22 f23 q R ∧ mrB nr R) (hR : rAt f18 f19 f20 f21 f22 f23 24 R) (hRB : mrB nr R)
    (e1 : σ (A 18) = some (gs_ia X 25 (upd f18 Q.length (f18 24)))) (e2 : σ (A 19) = some (gs_ia X 75 (cpF f19 72 (3 * Q.length) 3))) (e3 : σ (A 20) = some (gs_ia X 25 (upd f20 Q.length (f20 24)))) (e4 : σ (A 21) = some (gs_ia X 150 (cpF f21 144 (6 * Q.length) R.2.length))) (e5 : σ (A 22) = some (gs_ia X 150 (cpF f22 144 (6 * Q.length) R.2.length))) (e6 : σ (A 23) = some (gs_ia X 450 (cpF f23 432 (18 * Q.length) (3 * R.2.length)))) : rulA X σ A nr (Q ++ [R]) none := by
  refine ⟨_, _, _, _, _, _, e1, e2, e3, e4, e5, e6, by simp; omega, fun q R0 z => ?_, fun R0 z => by cases z⟩
  by_cases e : q < Q.length
  · rw [List.getElem?_append_left e] at z
    exact ⟨rAt_cp (hQ q R0 z).1 e hQl (hQ q R0 z).2.2.2.1, (hQ q R0 z).2⟩
  · have e2 : q = Q.length := by have := (List.getElem?_eq_some_iff.mp z).1; simp at this; omega
    subst e2
    simp at z
    subst z
    exact ⟨rAt_mk hR, hRB⟩
