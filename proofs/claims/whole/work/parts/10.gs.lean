/-! THE STORE: a world as a function from addresses to cells. All cells of the class, of the reference and of the law's own lie in ONE store; a method's contract turns one store into another. -/
abbrev gs_St : Type := Nat → Option va_E
def gs_up (σ : gs_St) (a : Nat) (e : va_E) : gs_St := fun q => if q = a then some e else σ q
theorem gs_us {σ : gs_St} {a : Nat} {e : va_E} : gs_up σ a e a = some e := by simp [gs_up]
theorem gs_un {σ : gs_St} {a q : Nat} {e : va_E} (h : q ≠ a) : gs_up σ a e q = σ q := by simp [gs_up, h]
/-- a cell that is told keeps its place under a store elsewhere -/
theorem gs_ku {σ : gs_St} {a q : Nat} {e e' : va_E} (h : q ≠ a) (hq : σ q = some e') : gs_up σ a e q = some e' := by rw [gs_un h]; exact hq
theorem gs_uu {σ : gs_St} {a : Nat} {e e' : va_E} : gs_up (gs_up σ a e) a e' = gs_up σ a e' := by
  funext q; unfold gs_up; split <;> rfl
theorem gs_uc {σ : gs_St} {a b : Nat} {e e' : va_E} (h : a ≠ b) : gs_up (gs_up σ a e) b e' = gs_up (gs_up σ b e') a e := by
  funext q; unfold gs_up
  by_cases h1 : q = b
  · subst h1; simp [Ne.symm h]
  · simp [h1]
theorem gs_usame {σ : gs_St} {a : Nat} {e : va_E} (h : σ a = some e) : gs_up σ a e = σ := by
  funext q; unfold gs_up; split
  · rename_i h1; rw [h1]; exact h.symm
  · rfl
theorem gs_ne {σ : gs_St} {a b : Nat} {e e' : va_E} (ha : σ a = some e) (hb : σ b = some e') (h : e ≠ e') : a ≠ b := by
  intro q; subst q; exact h (Option.some.inj (ha.symm.trans hb))
/-- classes' numbers and slots; the array classes' numbers; where the law began -/
abbrev gs_X : Type := va_G × (Nat → ClassId) × Nat
def gs_A (X : gs_X) : Nat → Prop := fun q => X.2.2 ≤ q
def gs_H (X : gs_X) (σ : gs_St) (H : Heap) : Prop := ∃ ws : va_W, va_P X.1 gs_cl ws H ∧ va_D (gs_A X) ws ∧ ∀ (a : Nat) (e : va_E), σ a = some e → (a, e) ∈ ws
abbrev gs_ia (X : gs_X) (n : Nat) (f : Nat → Int32) : va_E := .inl (X.2.1 0, n, .inl f)
abbrev gs_la (X : gs_X) (n : Nat) (f : Nat → Int64) : va_E := .inl (X.2.1 1, n, .inr (.inl f))
abbrev gs_qa (X : gs_X) (k n : Nat) (f : Nat → Option Nat) : va_E := .inl (X.2.1 k, n, .inr (.inr (.inr (.inr f))))
/-- the array classes that are made: of ints, of longs, of rules, of items -/
abbrev gs_ty (X : gs_X) : List (ClassId × FieldType) := [(X.2.1 0, .int), (X.2.1 1, .long), (X.2.1 2, .object R_RU), (X.2.1 3, .object R_IT)]
/-- what the tables say: classes, array classes, the one call across the nest -/
def gs_T (X : gs_X) (U : State) : Prop := va_K X.1 gs_cl (gs_ty X) U ∧ va_Nw (.methodLinkNest R_MA 38 y_RR_valueAt "RuleRounds") U ∧ va_AO R_RU U ∧ va_AO R_IT U
/-- what a throw needs of the machine -/
def gs_E (X : gs_X) (U : State) : Prop := gx_E X.2.2 U
def gs_U (X : gs_X) (σ : gs_St) (U : State) : Prop := gs_T X U ∧ gs_H X σ U.heap ∧ X.2.2 ≤ U.heap.size ∧ gs_E X U
theorem gs_T.warm {X : gs_X} {s U : State} (h : gs_T X s) (hW : s.WarmedH U.vm) : gs_T X U := ⟨va_K.moved hW.alike h.1, va_Nw.warmM hW h.2.1, va_AO.moved hW.alike h.2.2.1, va_AO.moved hW.alike h.2.2.2⟩
theorem gs_E.step {X : gs_X} {s U : State} (h : gs_E X s) (hW : s.WarmedH U.vm) (hq : ∀ q : Nat, q < X.2.2 → U.heap[q]? = s.heap[q]?) : gs_E X U := gx_E.step h hW hq
abbrev gs_ob (ci : Nat) (fs : List Value) : va_E := .inr (ci, fs)
theorem gs_set {X : gs_X} {σ : gs_St} {ws : va_W} {a q0 : Nat} {e0 e : va_E} (hD : va_D (gs_A X) ws) (hw : ∀ (a : Nat) (e : va_E), σ a = some e → (a, e) ∈ ws) (hq : ws[q0]? = some (a, e0)) :
    ∀ (b : Nat) (e' : va_E), gs_up σ a e b = some e' → (b, e') ∈ ws.set q0 (a, e) := by
  intro b e' h
  have hl := (List.getElem?_eq_some_iff.mp hq).1
  by_cases hb : b = a
  · subst hb
    rw [gs_us] at h
    cases h
    exact List.mem_of_getElem? (i := q0) (by rw [List.getElem?_set_self hl])
  · rw [gs_un hb] at h
    obtain ⟨j, hj⟩ := List.getElem?_of_mem (hw b e' h)
    refine List.mem_of_getElem? (i := j) ?_
    rw [List.getElem?_set_ne ?_]
    · exact hj
    · intro q
      subst q
      rw [hq] at hj
      cases hj
      exact hb rfl
theorem gs_push {X : gs_X} {σ : gs_St} {ws : va_W} {q : Nat} {e : va_E} (hD : va_D (gs_A X) (ws ++ [(q, e)])) (hw : ∀ (a : Nat) (e : va_E), σ a = some e → (a, e) ∈ ws) :
    σ q = none ∧ ∀ (b : Nat) (e' : va_E), gs_up σ q e b = some e' → (b, e') ∈ ws ++ [(q, e)] := by
  refine ⟨?_, ?_⟩
  · cases h : σ q with
    | none => rfl
    | some e' =>
      obtain ⟨j, hj⟩ := List.getElem?_of_mem (hw q e' h)
      have hjl := (List.getElem?_eq_some_iff.mp hj).1
      have := hD.1 j ws.length (q, e') (q, e) (by rw [List.getElem?_append_left hjl]; exact hj) (by simp) rfl
      omega
  · intro b e' h
    by_cases hb : b = q
    · subst hb
      rw [gs_us] at h
      cases h
      simp
    · rw [gs_un hb] at h
      exact List.mem_append_left _ (hw b e' h)
theorem gs_H.in {X : gs_X} {σ : gs_St} {H : Heap} (h : gs_H X σ H) {a : Nat} {e : va_E} (ha : σ a = some e) : a < H.size ∧ gs_A X a := by
  obtain ⟨ws, hP, hD, hw⟩ := h
  obtain ⟨j, hj⟩ := List.getElem?_of_mem (hw a e ha)
  exact ⟨(hP j _ hj).lt, hD.2 j _ hj⟩
theorem gs_H.sub {X : gs_X} {σ τ : gs_St} {H : Heap} (h : gs_H X σ H) (hs : ∀ a e, τ a = some e → σ a = some e) : gs_H X τ H := by
  obtain ⟨ws, hP, hD, hw⟩ := h
  exact ⟨ws, hP, hD, fun a e q => hw a e (hs a e q)⟩
