/-! frames -/
/-- outside of A what was there is there -/
def frm (A : List Nat) (σ τ : gs_St) : Prop := ∀ q e, q ∉ A → σ q = some e → τ q = some e
theorem frm.rf {A : List Nat} {σ : gs_St} : frm A σ σ := fun _ _ _ h => h
theorem frm.up {A : List Nat} {σ τ : gs_St} {a : Nat} {e : va_E} (h : frm A σ τ) (ha : a ∈ A) : frm A σ (gs_up τ a e) := fun q e' hq z => by
  have hn : q ≠ a := fun z => hq (by rw [z]; exact ha)
  rw [gs_un hn]; exact h q e' hq z
theorem frm.born {A : List Nat} {σ τ : gs_St} {a : Nat} {e : va_E} (h : frm A σ τ) (ha : τ a = none) : frm A σ (gs_up τ a e) := fun q e' hq z => by
  have h1 := h q e' hq z
  have hn : q ≠ a := fun z => by rw [z, ha] at h1; cases h1
  rw [gs_un hn]; exact h1
theorem frm.trans {A B : List Nat} {σ τ ρ : gs_St} (h : frm A σ τ) (h2 : frm B τ ρ) (hB : ∀ b ∈ B, b ∈ A) : frm A σ ρ := fun q e hq z => h2 q e (fun x => hq (hB q x)) (h q e hq z)
theorem frm.transN {A B : List Nat} {σ τ ρ : gs_St} (h : frm A σ τ) (h2 : frm B τ ρ) (hB : ∀ b ∈ B, b ∈ A ∨ σ b = none) : frm A σ ρ := fun q e hq z => h2 q e (fun x => by rcases hB q x with w | w; exact hq w; rw [w] at z; cases z) (h q e hq z)
theorem frm.wk {A B : List Nat} {σ τ : gs_St} (h : frm A σ τ) (hB : ∀ b ∈ A, b ∈ B) : frm B σ τ := fun q e hq z => h q e (fun x => hq (hB q x)) z
theorem nin_nil {q : Nat} : q ∉ ([] : List Nat) := List.not_mem_nil
theorem nin_cons {q a : Nat} {A : List Nat} (h : q ≠ a) (h2 : q ∉ A) : q ∉ a :: A := fun z => by rcases List.mem_cons.mp z with z | z; exact h z; exact h2 z
theorem ndp {L : List Nat} (h : L.Nodup) (i j : Nat) {a b : Nat} (hij : i < j) (ha : L[i]? = some a) (hb : L[j]? = some b) : a ≠ b := by
  obtain ⟨h1, h2⟩ := List.getElem?_eq_some_iff.mp ha
  obtain ⟨h3, h4⟩ := List.getElem?_eq_some_iff.mp hb
  have := List.pairwise_iff_getElem.mp h i j h1 h3 hij
  rwa [h2, h4] at this
/-- a rule keeps its place in a frame -/
theorem ruAt.frm {X : gs_X} {σ τ : gs_St} {A : List Nat} {a : Nat} {R : Rl} (h : ruAt X σ a R) (hf : frm A σ τ) (hA : ∀ q ∈ A, (∀ ci fs, ci = 4 ∨ ci = 2 → σ q ≠ some (gs_ob ci fs)) ∧ ∀ n f, σ q ≠ some (gs_qa X 3 n f)) : ruAt X τ a R :=
  h.of (fun q ci fs hc w => hf q _ (fun z => (hA q z).1 ci fs hc w) w) (fun q n f w => hf q _ (fun z => (hA q z).2 n f w) w)
theorem clE_snoc {rc : Nat} {E C : List En} {i : Nat} {x : En} (h : C[i]? = some x) : clE rc E (C.take (i + 1)) = insE (clE rc E (C.take i)) (x.1, rc, x.2.2) := by
  unfold clE
  rw [foldl_snoc (f := fun E (e : En) => insE E (e.1, rc, e.2.2)) h]
theorem va_cpy_0 {ds cs : Nat → Int32} {k j : Nat} (h : j < k) : va_cpy ds cs 0 0 k j = ds j := by
  simp [va_cpy, h]
/-- what comes is an entry more or nothing -/
theorem cds_len (C : List En) : (cds C).length = C.length := by simp
