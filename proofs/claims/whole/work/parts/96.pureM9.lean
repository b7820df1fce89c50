/-! the reference's strata -/
def sOn (nr : Nat) (f : Nat → Int32) (S : Nat → Nat) (B : Nat) : Prop := ∀ j, j < nr → f j = nI (S j) ∧ S j ≤ B
def ls1 (S : Nat → Nat) (x : MI) : Nat := if x.1 = 0 then S x.2.1 else if x.1 = 1 then S x.2.1 + 1 else 0
def mi1 (h : Nat) (p : (Nat → Nat) × Bool) (x : MI) : (Nat → Nat) × Bool := if p.1 h < ls1 p.1 x then (va_up p.1 h (ls1 p.1 x), false) else p
def mq1 (p : (Nat → Nat) × Bool) (R : MR) : (Nat → Nat) × Bool := R.2.foldl (mi1 R.1.1) p
def mst (Q : List MR) (S : Nat → Nat) : (Nat → Nat) × Bool := Q.foldl mq1 (S, true)
def mit (Q : List MR) : Nat → (Nat → Nat) × Bool → (Nat → Nat) × Bool
  | 0, p => p
  | k + 1, p => if p.2 then p else mit Q k (mst Q p.1)
def mfs (Q : List MR) (nr : Nat) : (Nat → Nat) × Bool := mit Q (nr + 1) (fun _ => 0, false)
def sgB (S : Nat → Nat) (nr i : Nat) : Bool := (List.range i).all (fun r => decide (S r < nr))
theorem sgB_s {S : Nat → Nat} {nr i : Nat} : sgB S nr (i + 1) = (sgB S nr i && decide (S i < nr)) := by
  unfold sgB
  rw [range_snoc, List.all_append]; simp
/-- no cycle -/
def mok (Q : List MR) (nr : Nat) : Bool := (mfs Q nr).2 && sgB (mfs Q nr).1 nr nr
theorem mit_t (Q : List MR) : ∀ (k : Nat) (p : (Nat → Nat) × Bool), p.2 = true → mit Q k p = p
  | 0, p, _ => rfl
  | k + 1, p, h => by simp [mit, h]
theorem sOn_up {nr : Nat} {f : Nat → Int32} {S : Nat → Nat} {B : Nat} (h : sOn nr f S B) {k x : Nat} (hx : x ≤ B + 1) : sOn nr (upd f k (nI x)) (va_up S k x) (B + 1) := by
  intro j hj
  unfold upd va_up
  by_cases e : j = k
  · simp [e, hx]
  · simp only [if_neg e]; exact ⟨(h j hj).1, Nat.le_trans (h j hj).2 (Nat.le_succ _)⟩
theorem sOn_mono {nr : Nat} {f : Nat → Int32} {S : Nat → Nat} {B C : Nat} (h : sOn nr f S B) (hBC : B ≤ C) : sOn nr f S C := fun j hj => ⟨(h j hj).1, Nat.le_trans (h j hj).2 hBC⟩
theorem ls1_le {nr : Nat} {f : Nat → Int32} {S : Nat → Nat} {B : Nat} (h : sOn nr f S B) {x : MI} (hx : x.1 < 2 → x.2.1 < nr) : ls1 S x ≤ B + 1 := by
  unfold ls1
  split
  · have := (h _ (hx (by omega))).2; omega
  · split
    · have := (h _ (hx (by omega))).2; omega
    · omega
