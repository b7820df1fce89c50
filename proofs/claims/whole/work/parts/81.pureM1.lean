theorem wi_neg {b : Nat} {x : Int32} (h : x < 0) : wi b x = false := by unfold wi; rw [decide_eq_true h]; rfl
theorem wi_ge {b : Nat} {x : Int32} (h : nI b ≤ x) : wi b x = false := by unfold wi; rw [decide_eq_false (Int32.not_lt.mpr h), Bool.and_false]
theorem wi_in {b : Nat} {x : Int32} (h : ¬ x < 0) (h2 : ¬ nI b ≤ x) : wi b x = true := by unfold wi; rw [decide_eq_false h, decide_eq_true (Int32.not_le.mp h2)]; rfl
theorem wi_one (x : Int32) : wi 1 x = decide (x = 0) := by
  by_cases h : x = 0
  · subst h; decide
  · rw [decide_eq_false h]
    cases hw : wi 1 x with
    | false => rfl
    | true =>
      obtain ⟨n, e1, e2⟩ := wi_ex (by decide) hw
      have : n = 0 := by omega
      subst this
      exact absurd e1 h
theorem bI_nat (b : Bool) : bI b = nI b.toNat := by cases b <;> rfl
/-- a tuple of the reference: relation, number, round, rule -/
abbrev MT : Type := Nat × Nat × Nat × Int32
abbrev tcs (T : List MT) : List Nat := T.map (fun x => 262144 * x.1 + x.2.1)
abbrev fcs (F : List (Nat × Nat)) : List Nat := F.map (fun x => 262144 * x.1 + x.2)
def tpOK (T : List MT) (fo fi fr fu : Nat → Int32) : Prop := ∀ (j : Nat) (x : MT), T[j]? = some x → fo j = nI x.1 ∧ fi j = nI x.2.1 ∧ fr j = nI x.2.2.1 ∧ fu j = x.2.2.2
def tpB (T : List MT) : Prop := T.length ≤ 300 ∧ ∀ x ∈ T, x.1 < 12 ∧ x.2.1 < 262144 ∧ x.2.2.1 < 2 ^ 20
def faOK (F : List (Nat × Nat)) (f g : Nat → Int32) : Prop := ∀ (j : Nat) (x : Nat × Nat), F[j]? = some x → f j = nI x.1 ∧ g j = nI x.2
def faB (F : List (Nat × Nat)) : Prop := F.length ≤ 200 ∧ ∀ x ∈ F, x.1 < 12 ∧ x.2 < 262144
def bO (f : Nat → Int64) (P : List Nat) : Prop := ∀ k, gB f k = decide (k ∈ P)
def zfr (L : List Nat) (Z Z' : Nat → Nat) : Prop := ∀ j, j ∉ L → Z' j = Z j
theorem zfr.rf {L : List Nat} {Z : Nat → Nat} : zfr L Z Z := fun _ _ => rfl
theorem zfr.up {L : List Nat} {Z Z' : Nat → Nat} {k v : Nat} (h : zfr L Z Z') (hk : k ∈ L) : zfr L Z (va_up Z' k v) := fun j hj => by
  unfold va_up
  rw [if_neg (fun e => hj (by rw [e]; exact hk))]
  exact h j hj
theorem zfr.trans {L M : List Nat} {Z Z' Z'' : Nat → Nat} (h : zfr L Z Z') (h2 : zfr M Z' Z'') (hs : ∀ j ∈ M, j ∈ L) : zfr L Z Z'' := fun j hj => by
  rw [h2 j (fun e => hj (hs j e)), h j hj]
theorem zfr.mono {L M : List Nat} {Z Z' : Nat → Nat} (h : zfr L Z Z') (hs : ∀ j ∈ L, j ∈ M) : zfr M Z Z' := fun j hj => h j (fun e => hj (hs j e))
/-- the place of a fact -/
def fIx : List (Nat × Nat) → Nat × Nat → Nat
  | [], _ => 0
  | x :: L, y => if x = y then 0 else fIx L y + 1
theorem fIx_le : ∀ (L : List (Nat × Nat)) (y : Nat × Nat), fIx L y ≤ L.length
  | [], _ => Nat.le_refl _
  | x :: L, y => by
    unfold fIx
    split
    · exact Nat.zero_le _
    · have := fIx_le L y
      simp only [List.length_cons]; omega
theorem fIx_drop {L : List (Nat × Nat)} {y x : Nat × Nat} {i : Nat} (h : L[i]? = some x) : fIx (L.drop i) y = if x = y then 0 else fIx (L.drop (i + 1)) y + 1 := by
  rw [drop_cons9 h]; rfl
/-- what again makes of a fact -/
def agT (x : Nat × Nat) : MT := (x.1, x.2, 0, -1)
theorem tcs_ag (F : List (Nat × Nat)) : tcs (F.map agT) = fcs F := by
  unfold tcs fcs
  rw [List.map_map]; rfl
theorem tpOK_snoc {T : List MT} {fo fi fr fu : Nat → Int32} {x : MT} (h : tpOK T fo fi fr fu) : tpOK (T ++ [x]) (upd fo T.length (nI x.1)) (upd fi T.length (nI x.2.1)) (upd fr T.length (nI x.2.2.1)) (upd fu T.length x.2.2.2) := by
  intro j y hy
  unfold upd
  by_cases e : j < T.length
  · rw [List.getElem?_append_left e] at hy
    simp only [if_neg (show ¬ j = T.length by omega)]
    exact h j y hy
  · have e2 : j = T.length := by have := (List.getElem?_eq_some_iff.mp hy).1; simp at this; omega
    subst e2
    simp at hy
    subst hy
    simp
