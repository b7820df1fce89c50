theorem nn_nil {σ : gs_St} : ∀ a ∈ ([] : List Nat), σ a = none := fun a h => by cases h
theorem nn_cons {σ : gs_St} {a : Nat} {L : List Nat} (h : σ a = none) (h2 : ∀ b ∈ L, σ b = none) : ∀ b ∈ a :: L, σ b = none := fun b hb => by
  rcases List.mem_cons.mp hb with rfl | z
  · exact h
  · exact h2 b z
