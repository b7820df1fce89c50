/-- a rule stands on whatever holds the cells that it stands on -/
theorem ruAt.sub {X : gs_X} {σ τ : gs_St} {a : Nat} {R : Rl} (h : ruAt X σ a R) (hs : ∀ q e, σ q = some e → τ q = some e) : ruAt X τ a R :=
  h.of (fun q _ _ _ w => hs q _ w) (fun q _ _ w => hs q _ w)
/-- behind settle: what was there and is neither the head nor a check is there -/
theorem settle_keeps {σ τ : gs_St} {hd n : Nat} {ca : Nat → Nat} (h : ∀ q, q ≠ hd → (∀ i, i < n → q ≠ ca i) → τ q = σ q) {ρ : gs_St} (hs : ∀ q e, ρ q = some e → σ q = some e) (h1 : ρ hd = none) (h2 : ∀ i, i < n → ρ (ca i) = none) : ∀ q e, ρ q = some e → τ q = some e := by
  intro q e hq
  rw [h q (fun z => by rw [z, h1] at hq; cases hq) (fun i hi z => by rw [z, h2 i hi] at hq; cases hq)]
  exact hs q e hq
/-- where all but items is kept the deriving stands -/
theorem dvA.kept {X : gs_X} {σ τ : gs_St} {dv bk tu ma la cm ac ai ab lc li lb mc mi mb va : Nat} {E : List En} {Lt : List Nat} {v : Nat → Nat} {sa : Nat} {nw : Bool} {rc : Nat} (h : dvA X σ dv bk tu ma la cm ac ai ab lc li lb mc mi mb va E Lt v sa nw rc)
    (hk : ∀ q e, σ q = some e → (∀ fs, e ≠ gs_ob 2 fs) → τ q = some e) : dvA X τ dv bk tu ma la cm ac ai ab lc li lb mc mi mb va E Lt v sa nw rc := by
  obtain ⟨cs, ci, cr, ds, vs, a9, b9, c9, z9, d0, t0, t1, t2, t3, l0, l1, m0, m1, m2, m3, q0, q1, r⟩ := h
  exact ⟨cs, ci, cr, ds, vs, a9, b9, c9, z9, hk _ _ d0 (by simp), hk _ _ t0 (by simp), hk _ _ t1 (by simp), hk _ _ t2 (by simp), hk _ _ t3 (by simp), hk _ _ l0 (by simp), hk _ _ l1 (by simp), hk _ _ m0 (by simp), hk _ _ m1 (by simp), hk _ _ m2 (by simp), hk _ _ m3 (by simp), hk _ _ q0 (by simp), hk _ _ q1 (by simp), r⟩
/-- settle changes items alone -/
theorem settle_items {σ τ : gs_St} {hd n : Nat} {ca : Nat → Nat} {th : It} (h : ∀ q, q ≠ hd → (∀ i, i < n → q ≠ ca i) → τ q = σ q) (h0 : σ hd = some (itE th)) (hc : ∀ i, i < n → ∃ t, σ (ca i) = some (itE t)) : ∀ q e, σ q = some e → (∀ fs, e ≠ gs_ob 2 fs) → τ q = some e := by
  intro q e hq hn
  rw [h q (fun z => by rw [z, h0] at hq; exact hn _ (Option.some.inj hq).symm) (fun i hi z => by obtain ⟨t, ht⟩ := hc i hi; rw [z, ht] at hq; exact hn _ (Option.some.inj hq).symm)]
  exact hq
