/-! a rule in the making -/
def fu (t : It) (j : Nat) : Bool := (List.range j).all (fun i => decide (tm t i ≠ tm t j))
def bnd (kn : Nat → Nat) (t : It) (j : Nat) : Bool := decide (64 ≤ tm t j) && decide (kn (tm t j - 64) = 0) && fu t j
/-- binds and leading, once so many of the last columns are looked at -/
def bl (kn : Nat → Nat) (t : It) : Nat → Nat × Nat
  | 0 => (t.2.2.1, t.2.2.2.1)
  | k + 1 => if bnd kn t (t.1.2.2 - (k + 1)) then ((bl kn t k).1 ||| 2 ^ (t.1.2.2 - (k + 1)), t.1.2.2 - (k + 1)) else bl kn t k
def bindI (kn : Nat → Nat) (t : It) : It := (t.1, t.2.1, ((bl kn t t.1.2.2).1, (bl kn t t.1.2.2).2, t.2.2.2.2))
/-- from how many HOLDS on the variables are known, once so many columns are looked at -/
def knP (kn : Nat → Nat) (t : It) (n : Nat) : Nat → (Nat → Nat)
  | 0 => kn
  | j + 1 => if bd t j then va_up (knP kn t n j) (tm t j - 64) n else knP kn t n j
def kOK (ks : Nat → Int32) (kn : Nat → Nat) : Prop := ∀ j, j < 8 → ks j = nI (kn j) ∧ kn j ≤ 3
theorem kOK_up {ks : Nat → Int32} {kn : Nat → Nat} (h : kOK ks kn) {k x : Nat} (hx : x ≤ 3) : kOK (upd ks k (nI x)) (va_up kn k x) := by
  intro j hj
  unfold upd va_up
  by_cases e : j = k
  · simp [e, hx]
  · simp only [if_neg e]; exact h j hj
theorem gs_or3 {b j : Nat} (hb : b < 8) (hj : j < 3) : nI b ||| (nI 1 <<< (nI j &&& 31)) = nI (b ||| 2 ^ j) := by
  have h : ∀ b : Fin 8, ∀ j : Fin 3, nI b.val ||| (nI 1 <<< (nI j.val &&& 31)) = nI (b.val ||| 2 ^ j.val) := by decide
  exact h ⟨b, hb⟩ ⟨j, hj⟩
theorem or3_lt {b j : Nat} (hb : b < 8) (hj : j < 3) : b ||| 2 ^ j < 8 := by
  have h : ∀ b : Fin 8, ∀ j : Fin 3, b.val ||| 2 ^ j.val < 8 := by decide
  exact h ⟨b, hb⟩ ⟨j, hj⟩
theorem sub64_neg {x : Nat} (hx : x < 72) : nI x - nI 64 < 0 ↔ x < 64 := by
  refine ⟨fun h => ?_, fun h => pk_sneg (by decide) h⟩
  rcases Nat.lt_or_ge x 64 with q | q
  · exact q
  · rw [pk_sub q] at h
    exact absurd h (nI_pos (by omega))
theorem cl_neg {x : Int32} {c : Nat} (h : x + 1 = nI c) (hc : c ≤ 3) : x < 0 ↔ c = 0 := by
  have e : x = nI c - 1 := by rw [← h]; simp
  rcases (show c = 0 ∨ c = 1 ∨ c = 2 ∨ c = 3 by omega) with rfl | rfl | rfl | rfl <;> rw [e] <;> decide
theorem cl_pos {x : Int32} {c : Nat} (h : x + 1 = nI (c + 1)) : x = nI c := by
  have e : x = nI (c + 1) - 1 := by rw [← h]; simp
  rw [e]; exact nI_pred c
theorem cl_dec {v : Int32} {j : Nat} (h : v = nI j + Int32.ofInt (-1)) : v + 1 = nI j := by
  rw [h]
  have e : Int32.ofInt (-1) = (-1 : Int32) := rfl
  rw [e, Int32.add_assoc, show (-1 : Int32) + 1 = 0 from rfl, Int32.add_zero]
theorem bl_lt {kn : Nat → Nat} {t : It} (hb : t.2.2.1 < 8) (hw : t.1.2.2 ≤ 3) : ∀ k, k ≤ t.1.2.2 → (bl kn t k).1 < 8
  | 0, _ => hb
  | k + 1, h => by
    have := bl_lt (kn := kn) hb hw k (by omega)
    simp only [bl]
    split
    · exact or3_lt this (by omega)
    · exact this
def rdP (kn : Nat → Nat) (t : It) : Nat → Option Nat
  | 0 => some 0
  | j + 1 => match rdP kn t j with
    | none => none
    | some m => if tm t j < 64 then some m else if kn (tm t j - 64) = 0 then none else some (max m (kn (tm t j - 64)))
def rdO (kn : Nat → Nat) (t : It) : Option Nat := rdP kn t t.1.2.2
def rdI : Option Nat → Int32
  | none => -1
  | some n => nI n
theorem rdP_none {kn : Nat → Nat} {t : It} {j : Nat} (h : rdP kn t j = none) : ∀ i, rdP kn t (j + i) = none
  | 0 => h
  | i + 1 => by
    have := rdP_none h i
    show rdP kn t ((j + i) + 1) = none
    simp only [rdP, this]
def ru4 (X : gs_X) (σ : gs_St) (a hd ho ck kf n k : Nat) (fH fC : Nat → Option Nat) (kn : Nat → Int32) : gs_St := gs_up (gs_up (gs_up (gs_up σ ho (gs_qa X 3 3 fH)) ck (gs_qa X 3 6 fC)) kf (gs_ia X 8 kn)) a (gs_ob 4 [.ref hd, .ref ho, .ref ck, .int (nI n), .int (nI k), .ref kf])
theorem ru4_init {X : gs_X} {σ : gs_St} {a hd ho ck kf : Nat} {fH fC : Nat → Option Nat} {kn : Nat → Int32} {e1 e2 e3 e4 e5 : va_E} (n1 : a ≠ ho) (n2 : a ≠ ck) (n3 : a ≠ kf) :
    gs_up (gs_up (gs_up (gs_up (gs_up (gs_up (gs_up (gs_up (gs_up σ a e1) ho (gs_qa X 3 3 fH)) a e2) ck (gs_qa X 3 6 fC)) a e3) a e4) a e5) kf (gs_ia X 8 kn)) a (gs_ob 4 [.ref hd, .ref ho, .ref ck, .int (nI 0), .int (nI 0), .ref kf]) = ru4 X σ a hd ho ck kf 0 0 fH fC kn := by
  unfold ru4
  funext q
  unfold gs_up
  by_cases e1 : q = a
  · simp [e1]
  · simp [e1]
def wR (t : It) (r : Int32) : It := (t.1, t.2.1, (t.2.2.1, t.2.2.2.1, r))
/-- the item as the first loop of bindVariables has it -/
def blI (kn : Nat → Nat) (t : It) (k : Nat) : It := (t.1, t.2.1, ((bl kn t k).1, (bl kn t k).2, t.2.2.2.2))
theorem gs_swap2 {σ : gs_St} {a b : Nat} {e1 e2 e3 : va_E} (h : a ≠ b) : gs_up (gs_up (gs_up σ a e1) b e2) a e3 = gs_up (gs_up σ a e3) b e2 := by
  funext q
  unfold gs_up
  by_cases e1 : q = b
  · subst e1; simp [Ne.symm h]
  · simp [e1]
    by_cases e2 : q = a <;> simp [e2]
theorem rdP_le {ks : Nat → Int32} {kn : Nat → Nat} (h : kOK ks kn) {t : It} (ht : ∀ j, tm t j < 72) : ∀ (j m : Nat), rdP kn t j = some m → m ≤ 3
  | 0, m, e => by cases e; decide
  | j + 1, m, e => by
    simp only [rdP] at e
    cases hm : rdP kn t j with
    | none => rw [hm] at e; cases e
    | some x =>
      have h1 := rdP_le h ht j x hm
      have h2 := ht j
      rw [hm] at e
      simp only at e
      split at e
      · cases e; exact h1
      · split at e
        · cases e
        · cases e
          have := (h (tm t j - 64) (by omega)).2
          omega
theorem rdI_neg {o : Option Nat} (h : ∀ m, o = some m → m ≤ 3) : rdI o < 0 ↔ o.isSome = false := by
  cases o with
  | none => exact ⟨fun _ => rfl, fun _ => by decide⟩
  | some m => exact ⟨fun z => absurd z (nI_pos (by have := h m rfl; omega)), fun z => by cases z⟩
def safeB (kn : Nat → Nat) (th : It) (ks : List It) : Bool := (rdO kn th).isSome && ks.all (fun t => (rdO kn t).isSome)
