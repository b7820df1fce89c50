/-- a change of a cell of another kind leaves the deriving as it is -/
theorem dvA.up {X : gs_X} {σ : gs_St} {dv bk tu ma la cm ac ai ab lc li lb mc mi mb va : Nat} {E : List En} {Lt : List Nat} {v : Nat → Nat} {sa : Nat} {nw : Bool} {rc a : Nat} {e0 e' : va_E} (h : dvA X σ dv bk tu ma la cm ac ai ab lc li lb mc mi mb va E Lt v sa nw rc)
    (ha : σ a = some e0) (h1 : ∀ fs, gs_ob 1 fs ≠ e0) (h2 : ∀ fs, gs_ob 6 fs ≠ e0) (h3 : ∀ fs, gs_ob 3 fs ≠ e0) (h4 : ∀ f, gs_ia X 301 f ≠ e0) (h5 : ∀ f, gs_ia X 8 f ≠ e0) : dvA X (gs_up σ a e') dv bk tu ma la cm ac ai ab lc li lb mc mi mb va E Lt v sa nw rc := by
  obtain ⟨cs, ci, cr, ds, vs, a9, b9, c9, z9, d0, t0, t1, t2, t3, l0, l1, m0, m1, m2, m3, q0, q1, r⟩ := h
  exact ⟨cs, ci, cr, ds, vs, a9, b9, c9, z9, gs_ku (gs_ne d0 ha (h1 _)) d0, gs_ku (gs_ne t0 ha (h2 _)) t0, gs_ku (gs_ne t1 ha (h4 _)) t1, gs_ku (gs_ne t2 ha (h4 _)) t2, gs_ku (gs_ne t3 ha (h4 _)) t3, gs_ku (gs_ne l0 ha (h2 _)) l0, gs_ku (gs_ne l1 ha (h4 _)) l1, gs_ku (gs_ne m0 ha (h2 _)) m0, gs_ku (gs_ne m1 ha (h4 _)) m1, gs_ku (gs_ne m2 ha (h4 _)) m2, gs_ku (gs_ne m3 ha (h4 _)) m3, gs_ku (gs_ne q0 ha (h3 _)) q0, gs_ku (gs_ne q1 ha (h5 _)) q1, r⟩
theorem dvA.up5 {X : gs_X} {σ : gs_St} {dv bk tu ma la cm ac ai ab lc li lb mc mi mb va : Nat} {E : List En} {Lt : List Nat} {v : Nat → Nat} {sa : Nat} {nw : Bool} {rc a : Nat} {gs : List Value} {e' : va_E} (h : dvA X σ dv bk tu ma la cm ac ai ab lc li lb mc mi mb va E Lt v sa nw rc) (ha : σ a = some (gs_ob 5 gs)) : dvA X (gs_up σ a e') dv bk tu ma la cm ac ai ab lc li lb mc mi mb va E Lt v sa nw rc :=
  h.up ha (by simp) (by simp) (by simp) (by simp) (by simp)
theorem dvA.up0 {X : gs_X} {σ : gs_St} {dv bk tu ma la cm ac ai ab lc li lb mc mi mb va : Nat} {E : List En} {Lt : List Nat} {v : Nat → Nat} {sa : Nat} {nw : Bool} {rc a : Nat} {gs : List Value} {e' : va_E} (h : dvA X σ dv bk tu ma la cm ac ai ab lc li lb mc mi mb va E Lt v sa nw rc) (ha : σ a = some (gs_ob 0 gs)) : dvA X (gs_up σ a e') dv bk tu ma la cm ac ai ab lc li lb mc mi mb va E Lt v sa nw rc :=
  h.up ha (by simp) (by simp) (by simp) (by simp) (by simp)
theorem dvA.up12 {X : gs_X} {σ : gs_St} {dv bk tu ma la cm ac ai ab lc li lb mc mi mb va : Nat} {E : List En} {Lt : List Nat} {v : Nat → Nat} {sa : Nat} {nw : Bool} {rc a : Nat} {g : Nat → Int32} {e' : va_E} (h : dvA X σ dv bk tu ma la cm ac ai ab lc li lb mc mi mb va E Lt v sa nw rc) (ha : σ a = some (gs_ia X 12 g)) : dvA X (gs_up σ a e') dv bk tu ma la cm ac ai ab lc li lb mc mi mb va E Lt v sa nw rc :=
  h.up ha (by simp) (by simp) (by simp) (by simp) (by simp)
theorem dvA.upQ {X : gs_X} {σ : gs_St} {dv bk tu ma la cm ac ai ab lc li lb mc mi mb va : Nat} {E : List En} {Lt : List Nat} {v : Nat → Nat} {sa : Nat} {nw : Bool} {rc a k n : Nat} {g : Nat → Option Nat} {e' : va_E} (h : dvA X σ dv bk tu ma la cm ac ai ab lc li lb mc mi mb va E Lt v sa nw rc) (ha : σ a = some (gs_qa X k n g)) : dvA X (gs_up σ a e') dv bk tu ma la cm ac ai ab lc li lb mc mi mb va E Lt v sa nw rc :=
  h.up ha (by simp) (by simp) (by simp) (by simp) (by simp)
/-- a cell that is no rule's, no item's, no array of items -/
def noR (X : gs_X) (e : va_E) : Prop := (∀ ci fs, ci = 4 ∨ ci = 2 → e ≠ gs_ob ci fs) ∧ ∀ n f, e ≠ gs_qa X 3 n f
theorem noR_ob {X : gs_X} {ci : Nat} {fs : List Value} (h : ci ≠ 4) (h2 : ci ≠ 2) : noR X (gs_ob ci fs) := ⟨fun c f hc z => by rcases hc with rfl | rfl <;> simp at z <;> omega, fun n f z => by simp at z⟩
theorem noR_ia {X : gs_X} {n : Nat} {f : Nat → Int32} : noR X (gs_ia X n f) := ⟨fun c f hc z => by simp at z, fun n f z => by simp at z⟩
theorem nr_nil {X : gs_X} {σ : gs_St} : ∀ q ∈ ([] : List Nat), ∀ e, σ q = some e → noR X e := fun _ h => by cases h
theorem nr_cons {X : gs_X} {σ : gs_St} {a : Nat} {e : va_E} {A : List Nat} (h : σ a = some e) (hn : noR X e) (h2 : ∀ q ∈ A, ∀ e, σ q = some e → noR X e) : ∀ q ∈ a :: A, ∀ e, σ q = some e → noR X e := fun q hq e' z => by
  rcases List.mem_cons.mp hq with rfl | hq
  · rw [h] at z; cases z; exact hn
  · exact h2 q hq e' z
theorem ruAt_frmN {X : gs_X} {σ τ : gs_St} {A : List Nat} {a : Nat} {R : Rl} (h : ruAt X σ a R) (hf : frm A σ τ) (hA : ∀ q ∈ A, ∀ e, σ q = some e → noR X e) : ruAt X τ a R :=
  h.frm hf (fun q hq => ⟨fun ci fs hc z => (hA q hq _ z).1 ci fs hc rfl, fun n f z => (hA q hq _ z).2 n f rfl⟩)
