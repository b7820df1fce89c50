/-! rounds one after the other -/
theorem dvA.kinds {X : gs_X} {σ : gs_St} {dv bk tu ma la cm ac ai ab lc li lb mc mi mb va : Nat} {E : List En} {Lt : List Nat} {v : Nat → Nat} {sa : Nat} {nw : Bool} {rc : Nat} (h : dvA X σ dv bk tu ma la cm ac ai ab lc li lb mc mi mb va E Lt v sa nw rc) :
    ∀ q ∈ [va, cm, mc, mi, mb, dv, tu, ac, ai, ab, la, lc], (∃ fs, σ q = some (gs_ob 1 fs)) ∨ (∃ fs, σ q = some (gs_ob 6 fs)) ∨ (∃ f, σ q = some (gs_ia X 301 f)) ∨ ∃ f, σ q = some (gs_ia X 8 f) := by
  obtain ⟨cs, ci, cr, ds, vs, a9, b9, c9, z9, d0, t0, t1, t2, t3, l0, l1, m0, m1, m2, m3, q0, q1, -⟩ := h
  intro q hq
  simp only [List.mem_cons, List.not_mem_nil, or_false] at hq
  rcases hq with rfl | rfl | rfl | rfl | rfl | rfl | rfl | rfl | rfl | rfl | rfl | rfl
  · exact Or.inr (Or.inr (Or.inr ⟨_, q1⟩))
  · exact Or.inr (Or.inl ⟨_, m0⟩)
  · exact Or.inr (Or.inr (Or.inl ⟨_, m1⟩))
  · exact Or.inr (Or.inr (Or.inl ⟨_, m2⟩))
  · exact Or.inr (Or.inr (Or.inl ⟨_, m3⟩))
  · exact Or.inl ⟨_, d0⟩
  · exact Or.inr (Or.inl ⟨_, t0⟩)
  · exact Or.inr (Or.inr (Or.inl ⟨_, t1⟩))
  · exact Or.inr (Or.inr (Or.inl ⟨_, t2⟩))
  · exact Or.inr (Or.inr (Or.inl ⟨_, t3⟩))
  · exact Or.inr (Or.inl ⟨_, l0⟩)
  · exact Or.inr (Or.inr (Or.inl ⟨_, l1⟩))
/-- what the deriving changes leaves cells of other kinds -/
theorem dvA.keeps {X : gs_X} {σ τ : gs_St} {dv bk tu ma la cm ac ai ab lc li lb mc mi mb va : Nat} {E : List En} {Lt : List Nat} {v : Nat → Nat} {sa : Nat} {nw : Bool} {rc : Nat} (h : dvA X σ dv bk tu ma la cm ac ai ab lc li lb mc mi mb va E Lt v sa nw rc)
    (hf : frm [va, cm, mc, mi, mb, dv, tu, ac, ai, ab, la, lc] σ τ) {q : Nat} {e : va_E} (hq : σ q = some e) (h1 : ∀ fs, e ≠ gs_ob 1 fs) (h2 : ∀ fs, e ≠ gs_ob 6 fs) (h3 : ∀ f, e ≠ gs_ia X 301 f) (h4 : ∀ f, e ≠ gs_ia X 8 f) : τ q = some e := by
  refine hf q e (fun hm => ?_) hq
  rcases h.kinds q hm with ⟨f, z⟩ | ⟨f, z⟩ | ⟨f, z⟩ | ⟨f, z⟩ <;> rw [hq] at z <;> cases z
  · exact h1 _ rfl
  · exact h2 _ rfl
  · exact h3 _ rfl
  · exact h4 _ rfl
theorem dvA.bk {X : gs_X} {σ τ : gs_St} {dv bk tu ma la cm ac ai ab lc li lb mc mi mb va : Nat} {E : List En} {Lt : List Nat} {v : Nat → Nat} {sa : Nat} {nw : Bool} {rc : Nat} (h : dvA X σ dv bk tu ma la cm ac ai ab lc li lb mc mi mb va E Lt v sa nw rc)
    (hf : frm [va, cm, mc, mi, mb, dv, tu, ac, ai, ab, la, lc] σ τ) {co ru sr nr : Nat} {sc : Int32} {Q : List Rl} {S : Nat → Nat} (hb : bkA X σ bk co ru sr nr sc Q S) : bkA X τ bk co ru sr nr sc Q S := by
  obtain ⟨fR, sf, k0, k2, k3, hQl, hsO, hQ⟩ := hb
  refine ⟨fR, sf, h.keeps hf k0 (by simp) (by simp) (by simp) (by simp), h.keeps hf k2 (by simp) (by simp) (by simp) (by simp), h.keeps hf k3 (by simp) (by simp) (by simp) (by simp), hQl, hsO, fun i R hR => ?_⟩
  obtain ⟨g1, g2, a, g3, g4⟩ := hQ i R hR
  exact ⟨g1, g2, a, g3, g4.of (fun q ci fs hc w => h.keeps hf w (by rcases hc with rfl | rfl <;> simp) (by rcases hc with rfl | rfl <;> simp) (by simp) (by simp)) (fun q n f w => h.keeps hf w (by simp) (by simp) (by simp) (by simp))⟩
theorem nxt_le {Q : List Rl} {S : Nat → Nat} {sc r : Int32} {E E' : List En} {Lt Lt' : List Nat} {v v' : Nat → Nat} {sa sa' rc rc' : Nat} {nw nw' : Bool} (h : nxt Q S sc E Lt v sa nw rc = (r, (E', Lt', v', sa', nw', rc'))) : sa' ≤ sa + 1 ∧ rc' ≤ rc + 1 := by
  unfold nxt at h
  split at h
  · cases h; omega
  · split at h
    · split at h
      · cases h; omega
      · cases h
        refine ⟨?_, Nat.le_refl _⟩
        split <;> omega
    · cases h; omega
def nxtS (Q : List Rl) (S : Nat → Nat) (sc : Int32) (s : DvS) : Int32 × DvS := nxt Q S sc s.1 s.2.1 s.2.2.1 s.2.2.2.1 s.2.2.2.2.1 s.2.2.2.2.2
def runF (Q : List Rl) (S : Nat → Nat) (sc : Int32) : Nat → Int32 → DvS → Int32 × DvS
  | 0, came, s => (came, s)
  | k + 1, came, s => if came < 0 then (came, s) else runF Q S sc k (nxtS Q S sc s).1 (nxtS Q S sc s).2
