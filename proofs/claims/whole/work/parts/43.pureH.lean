theorem tuB_keep {E : List En} (h : tuB E) : tuB (keepE E) := by
  refine ⟨?_, Nat.le_trans (keepE_len E) h.2.1, fun x hx => ?_⟩
  · have e : cds (keepE E) = (E.filter (fun e => e.2.1 == 0)).map (fun e => e.1) := by simp [cds, keepE, List.map_map, Function.comp_def]
    rw [e]
    exact List.Pairwise.sublist (List.filter_sublist.map _) h.1
  · obtain ⟨y, hy, rfl⟩ := List.mem_map.mp hx
    exact ⟨(h.2.2 y (List.mem_filter.mp hy).1).1, show (0 : Nat) < 2 ^ 30 by decide⟩
theorem frm.none_ {A : List Nat} {σ τ : gs_St} {q : Nat} (fr : frm A σ τ) (hA : ∀ a ∈ A, τ a ≠ none) (hq : τ q = none) : σ q = none := by
  cases hz : σ q with
  | none => rfl
  | some e' =>
    by_cases hqh : q ∈ A
    · exact absurd hq (hA q hqh)
    · have := fr q e' hqh hz
      rw [hq] at this; cases this
theorem al_nil {τ : gs_St} : ∀ a ∈ ([] : List Nat), τ a ≠ none := fun _ h => by cases h
theorem al_cons {τ : gs_St} {a : Nat} {e : va_E} {A : List Nat} (h : τ a = some e) (h2 : ∀ b ∈ A, τ b ≠ none) : ∀ b ∈ a :: A, τ b ≠ none := fun b hb => by
  rcases List.mem_cons.mp hb with rfl | hb
  · rw [h]; exact fun z => by cases z
  · exact h2 b hb
theorem frm.upN {A : List Nat} {σ τ : gs_St} {a : Nat} {e : va_E} (h : frm A σ τ) (ha : σ a = none) : frm A σ (gs_up τ a e) := fun q e' hq z => by
  have hn : q ≠ a := fun w => by rw [w, ha] at z; cases z
  rw [gs_un hn]; exact h q e' hq z
