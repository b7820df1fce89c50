def shf (f : Nat → Int32) (k i : Nat) : Nat → Int32 := fun j => if k ≤ j ∧ j < i then f (j + 1) else f j
theorem shf_0 {f : Nat → Int32} {k : Nat} : shf f k k = f := by
  funext j
  unfold shf
  rw [if_neg (by omega)]
theorem shf_at {f : Nat → Int32} {k i : Nat} : shf f k i (i + 1) = f (i + 1) := by
  unfold shf
  rw [if_neg (by omega)]
theorem shf_step {f : Nat → Int32} {k i : Nat} (h : k ≤ i) : upd (shf f k i) i (f (i + 1)) = shf f k (i + 1) := by
  funext j
  unfold shf upd
  by_cases e : j = i
  · subst e; rw [if_pos rfl, if_pos (by omega)]
  · rw [if_neg e]
    show (if k ≤ j ∧ j < i then f (j + 1) else f j) = _
    by_cases e2 : k ≤ j ∧ j < i
    · rw [if_pos e2, if_pos (by omega)]
    · rw [if_neg e2, if_neg (by omega)]
theorem faOK_dl {F : List (Nat × Nat)} {f g : Nat → Int32} {k : Nat} (h : faOK F f g) (hk : k < F.length) : faOK (dlF F k) (shf f k (F.length - 1)) (shf g k (F.length - 1)) := by
  intro j x hx
  have hj := (List.getElem?_eq_some_iff.mp hx).1
  rw [dlF_len hk] at hj
  rw [dlF_get hk] at hx
  unfold shf
  by_cases e : j < k
  · rw [if_pos e] at hx
    rw [if_neg (by omega), if_neg (by omega)]
    exact h j x hx
  · rw [if_neg e] at hx
    rw [if_pos (by omega), if_pos (by omega)]
    exact h (j + 1) x hx
theorem nb_lt {a b z : Nat} (ha : a < 64) (hb : b < 64) (hz : z < 64) : a * 4096 + b * 64 + z < 262144 := by omega
/-- how many tuples of a relation there are -/
def cnR (T : List MT) (r : Int32) : Nat := (T.filter (fun x => decide (nI x.1 = r))).length
theorem cnR_snoc {T : List MT} {i : Nat} {x : MT} {r : Int32} (h : T[i]? = some x) : cnR (T.take (i + 1)) r = cnR (T.take i) r + if nI x.1 = r then 1 else 0 := by
  unfold cnR
  rw [take_snoc h, List.filter_append, List.length_append]
  congr 1
  by_cases e : nI x.1 = r <;> simp [e]
theorem cnR_le (T : List MT) (r : Int32) : cnR T r ≤ T.length := List.length_filter_le _ _
