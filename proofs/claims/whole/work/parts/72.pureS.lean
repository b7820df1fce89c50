/-- a rule stands on whatever holds the cells that it stands on -/
theorem ruAt.sub {X : gs_X} {σ τ : gs_St} {a : Nat} {R : Rl} (h : ruAt X σ a R) (hs : ∀ q e, σ q = some e → τ q = some e) : ruAt X τ a R :=
  h.of (fun q _ _ _ w => hs q _ w) (fun q _ _ w => hs q _ w)
/-- behind settle: what was there and is neither the head nor a check is there -/
theorem settle_keeps {σ τ : gs_St} {hd n : Nat} {ca : Nat → Nat} (h : ∀ q, q ≠ hd → (∀ i, i < n → q ≠ ca i) → τ q = σ q) {ρ : gs_St} (hs : ∀ q e, ρ q = some e → σ q = some e) (h1 : ρ hd = none) (h2 : ∀ i, i < n → ρ (ca i) = none) : ∀ q e, ρ q = some e → τ q = some e := by
  intro q e hq
  rw [h q (fun z => by rw [z, h1] at hq; cases hq) (fun i hi z => by rw [z, h2 i hi] at hq; cases hq)]
  exact hs q e hq
