/-! items: (kind, relation, width), (a, b, c), (binds, leading, ready) -/
abbrev It : Type := (Nat × Nat × Nat) × (Nat × Nat × Nat) × (Nat × Nat × Int32)
abbrev itE (t : It) : va_E := gs_ob 2 [.int (nI t.1.1), .int (nI t.1.2.1), .int (nI t.1.2.2), .int (nI t.2.1.1), .int (nI t.2.1.2.1), .int (nI t.2.1.2.2), .int (nI t.2.2.1), .int (nI t.2.2.2.1), .int t.2.2.2.2]
/-- its term in a column -/
def tm (t : It) (j : Nat) : Nat := if j = 0 then t.2.1.1 else if j = 1 then t.2.1.2.1 else t.2.1.2.2
/-- whether the column's variable gets its value there -/
def bd (t : It) (j : Nat) : Bool := decide (t.2.2.1 / 2 ^ j % 2 = 1)
def opn (t : It) : Bool := (List.range t.1.2.2).all (fun j => decide (j < t.2.2.2.1) || bd t j)
def itB (t : It) : Prop := t.1.1 ≤ 3 ∧ t.1.2.1 < 12 ∧ t.1.2.2 ≤ 3 ∧ (∀ j, tm t j < 72) ∧ t.2.2.1 < 8 ∧ t.2.2.2.1 ≤ t.1.2.2 ∧ ∀ j, j < t.1.2.2 → bd t j = true → 64 ≤ tm t j
theorem gs_shr3 {n j : Nat} (hn : n < 2 ^ 31) (hj : j < 3) : nI n >>> (nI j &&& 31) = nI (n / 2 ^ j) := by
  rcases (show j = 0 ∨ j = 1 ∨ j = 2 by omega) with rfl | rfl | rfl <;> exact pk_shrN hn _ _ (by decide)
theorem gs_and1 {n : Nat} (hn : n < 2 ^ 31) : nI n &&& nI 1 = nI (n % 2) := pk_andN (k := 1) (by omega) (by decide)
theorem gs_and63 {n : Nat} (hn : n < 2 ^ 31) : nI n &&& nI 63 = nI (n % 64) := pk_andN (k := 6) (by omega) (by decide)
theorem gs_span {d : Nat} (hd : d ≤ 3) : nI 1 <<< (nI (6 * (3 - d)) &&& 31) = nI (64 ^ (3 - d)) := by
  rcases (show d = 0 ∨ d = 1 ∨ d = 2 ∨ d = 3 by omega) with rfl | rfl | rfl | rfl <;> decide
theorem gs_shr6 {n j : Nat} (hn : n < 2 ^ 31) (hj : j < 3) : nI n >>> (nI (6 * (2 - j)) &&& 31) = nI (n / 64 ^ (2 - j)) := by
  rcases (show j = 0 ∨ j = 1 ∨ j = 2 by omega) with rfl | rfl | rfl
  · exact pk_shrN hn _ 12 (by decide)
  · exact pk_shrN hn _ 6 (by decide)
  · exact pk_shrN hn _ 0 (by decide)
/-- the value in a column of a code -/
def vat (c j : Nat) : Nat := c / 64 ^ (2 - j) % 64
/-- a term's value -/
def vl (v : Nat → Nat) (t : Nat) : Nat := if t < 64 then t else v (t - 64)
def vOK (vs : Nat → Int32) (v : Nat → Nat) : Prop := ∀ j, j < 8 → vs j = nI (v j) ∧ v j < 64
theorem vl_lt {vs : Nat → Int32} {v : Nat → Nat} (h : vOK vs v) {t : Nat} (ht : t < 72) : vl v t < 64 := by
  unfold vl
  split
  · assumption
  · exact (h _ (by omega)).2
/-- the code of an item's known columns -/
def cofP (v : Nat → Nat) (t : It) : Nat → Nat
  | 0 => t.1.2.1
  | j + 1 => cofP v t j * 64 + (if j < t.2.2.2.1 then vl v (tm t j) else 0)
def cof (v : Nat → Nat) (t : It) : Nat := cofP v t 3
theorem cofP_lt {vs : Nat → Int32} {v : Nat → Nat} (h : vOK vs v) {t : It} (ht : itB t) : ∀ j, cofP v t j < 12 * 64 ^ j
  | 0 => by have := ht.2.1; simp [cofP]; omega
  | j + 1 => by
    have h1 := cofP_lt h ht j
    have h2 := vl_lt h (ht.2.2.2.1 j)
    have e : 64 ^ (j + 1) = 64 ^ j * 64 := Nat.pow_succ 64 j
    simp only [cofP]
    split <;> omega
theorem cof_lt {vs : Nat → Int32} {v : Nat → Nat} (h : vOK vs v) {t : It} (ht : itB t) : cof v t < 3145728 := cofP_lt h ht 3
/-- a tuple's further columns: whether they fit, and the values then -/
def fitP (t : It) (c : Nat) : Nat → Nat → (Nat → Nat) → Bool × (Nat → Nat)
  | 0, _, v => (true, v)
  | k + 1, j, v => if bd t j then fitP t c k (j + 1) (va_up v (tm t j - 64) (vat c j)) else if vl v (tm t j) = vat c j then fitP t c k (j + 1) v else (false, v)
def fit1 (t : It) (c : Nat) (v : Nat → Nat) : Bool × (Nat → Nat) := fitP t c (t.1.2.2 - t.2.2.2.1) t.2.2.2.1 v
theorem vat_lt (c j : Nat) : vat c j < 64 := Nat.mod_lt _ (by decide)
theorem vOK_up {vs : Nat → Int32} {v : Nat → Nat} (h : vOK vs v) {k x : Nat} (hx : x < 64) : vOK (upd vs k (nI x)) (va_up v k x) := by
  intro j hj
  unfold upd va_up
  by_cases e : j = k
  · simp [e, hx]
  · simp only [if_neg e]; exact h j hj
/-- LESS, or OTHER -/
def cmpv (v : Nat → Nat) (t : It) : Bool := if t.1.1 = 2 then decide (vl v t.2.1.1 < vl v t.2.1.2.1) else decide (vl v t.2.1.1 ≠ vl v t.2.1.2.1)
