def tupA (X : gs_X) (σ : gs_St) (A : Nat → Nat) (T : List MT) : Prop := ∃ f8 f9 f10 f11 : Nat → Int32, σ (A 8) = some (gs_ia X 320 f8) ∧ σ (A 9) = some (gs_ia X 320 f9) ∧ σ (A 10) = some (gs_ia X 320 f10) ∧ σ (A 11) = some (gs_ia X 320 f11) ∧ tpOK T f8 f9 f10 f11
def bitA (X : gs_X) (σ : gs_St) (a : Nat) (P : List Nat) : Prop := ∃ g : Nat → Int64, σ a = some (gs_la X 49152 g) ∧ bO g P
def facA (X : gs_X) (σ : gs_St) (A : Nat → Nat) (F : List (Nat × Nat)) : Prop := ∃ f5 f6 : Nat → Int32, σ (A 5) = some (gs_ia X 200 f5) ∧ σ (A 6) = some (gs_ia X 200 f6) ∧ faOK F f5 f6
theorem clr_step {T : List MT} {i : Nat} {x : MT} {g : Nat → Int64} (hx : T[i]? = some x) (hg : ∀ k, gB g k = (decide (k ∈ tcs T) && !decide (k ∈ tcs (T.take i)))) : ∀ k, gB (stB g (262144 * x.1 + x.2.1) false) k = (decide (k ∈ tcs T) && !decide (k ∈ tcs (T.take (i + 1)))) := by
  intro k
  rw [gB_st, hg k, take_snoc hx]
  simp only [tcs, List.map_append, List.map_cons, List.map_nil, List.mem_append, List.mem_singleton]
  by_cases h : k = 262144 * x.1 + x.2.1
  · rw [if_pos h]; simp [h]
  · rw [if_neg h]; simp [h]
theorem set_step {F : List (Nat × Nat)} {i : Nat} {x : Nat × Nat} {g : Nat → Int64} (hx : F[i]? = some x) (hg : bO g (fcs (F.take i))) : bO (stB g (262144 * x.1 + x.2) true) (fcs (F.take (i + 1))) := by
  intro k
  rw [gB_st, hg k, take_snoc hx]
  simp only [fcs, List.map_append, List.map_cons, List.map_nil, List.mem_append, List.mem_singleton]
  by_cases h : k = 262144 * x.1 + x.2
  · rw [if_pos h]; simp [h]
  · rw [if_neg h]; simp [h]
theorem ag_step {F : List (Nat × Nat)} {i : Nat} {x : Nat × Nat} {fo fi fr fu : Nat → Int32} (hx : F[i]? = some x) (h : tpOK ((F.take i).map agT) fo fi fr fu) : tpOK ((F.take (i + 1)).map agT) (upd fo i (nI x.1)) (upd fi i (nI x.2)) (upd fr i (nI 0)) (upd fu i (-1)) := by
  have hl : ((F.take i).map agT).length = i := by
    have := (List.getElem?_eq_some_iff.mp hx).1
    simp; omega
  have := tpOK_snoc (x := agT x) h
  rw [hl] at this
  rw [take_snoc hx, List.map_append]
  exact this
theorem tpOK_nil {a b d e : Nat → Int32} : tpOK [] a b d e := fun j x h => by simp at h
theorem bO_nil {g : Nat → Int64} (h : ∀ k, gB g k = false) : bO g [] := fun k => by rw [h k]; simp
theorem clr_end {T : List MT} {g : Nat → Int64} (hg : ∀ k, gB g k = (decide (k ∈ tcs T) && !decide (k ∈ tcs (T.take T.length)))) : ∀ k, gB g k = false := by
  intro k
  rw [hg k, List.take_length]
  simp
