theorem act_nf {T : List MT} {rc q : Nat} {R : MR} {ov : OV} {s : FS} : (act T rc q R false ov s).1 = s.1 ∧ (act T rc q R false ov s).2.1 = s.2.1 := by
  unfold act
  split <;> exact ⟨rfl, rfl⟩
theorem foldl_inv {α β : Type} {f : β → α → β} {P : β → Prop} (hf : ∀ b a, P b → P (f b a)) : ∀ (L : List α) (b : β), P b → P (L.foldl f b)
  | [], _, h => h
  | a :: L, b, h => foldl_inv hf L (f b a) (hf b a h)
theorem trM_nf {cw : Nat → Nat} {T : List MT} {rc q : Nat} {R : MR} : ∀ (hs : List MI) (ov : OV) (s : FS), (trM cw T rc q R false hs ov s).1 = s.1 ∧ (trM cw T rc q R false hs ov s).2.1 = s.2.1
  | [], ov, s => act_nf
  | x :: hs, ov, s => by
    refine foldl_inv (P := fun z : FS => z.1 = s.1 ∧ z.2.1 = s.2.1) (fun b t hb => ?_) T s ⟨rfl, rfl⟩
    cases hm : mtc cw x t ov with
    | none => exact hb
    | some p =>
      have := trM_nf (cw := cw) (T := T) (rc := rc) (q := q) (R := R) hs p.1 b
      exact ⟨this.1.trans hb.1, this.2.trans hb.2⟩
/-- how many tuples of the relation stand before a number, among the first -/
def bfT (T : List MT) (r : Int32) (t i : Nat) : Nat := ((T.take i).filter (fun y => decide (nI y.1 = r) && decide (y.2.1 < t))).length
theorem bfT_s {T : List MT} {r : Int32} {t i : Nat} {y : MT} (h : T[i]? = some y) : bfT T r t (i + 1) = bfT T r t i + if nI y.1 = r ∧ y.2.1 < t then 1 else 0 := by
  unfold bfT
  rw [take_snoc h, List.filter_append, List.length_append]
  congr 1
  by_cases e : nI y.1 = r
  · by_cases e2 : y.2.1 < t
    · simp [e, e2]
    · simp [e, e2]
  · simp [e]
theorem bfT_le (T : List MT) (r : Int32) (t i : Nat) : bfT T r t i ≤ T.length := Nat.le_trans (List.length_filter_le _ _) (by simp; omega)
/-- the place of the tuple asked for, among the first -/
def atT (T : List MT) (r pl : Int32) : Nat → Option Nat
  | 0 => none
  | k + 1 => match T[k]? with
    | some x => if nI x.1 = r ∧ nI (bfT T r x.2.1 T.length) = pl then some k else atT T r pl k
    | none => atT T r pl k
theorem atT_s {T : List MT} {r pl : Int32} {k : Nat} {x : MT} (h : T[k]? = some x) : atT T r pl (k + 1) = if nI x.1 = r ∧ nI (bfT T r x.2.1 T.length) = pl then some k else atT T r pl k := by
  show (match T[k]? with | some x => if nI x.1 = r ∧ nI (bfT T r x.2.1 T.length) = pl then some k else atT T r pl k | none => atT T r pl k) = _
  rw [h]
theorem atT_lt {T : List MT} {r pl : Int32} : ∀ (k n : Nat), atT T r pl k = some n → n < k
  | 0, n, h => by cases h
  | k + 1, n, h => by
    unfold atT at h
    split at h
    · split at h
      · cases h; omega
      · have := atT_lt k n h; omega
    · have := atT_lt k n h; omega
/-- a part of a tuple -/
def tupM (x : MT) (wh : Nat) : Int32 := if wh < 3 then nI (clM x.2.1 wh) else if wh = 3 then nI x.2.2.1 else x.2.2.2
/-- whether a tuple is like terms -/
def lk1 (rl a b z : Nat) (t : MT) : Bool := decide (t.1 = rl ∧ (63 < a ∨ a = clM t.2.1 0) ∧ (63 < b ∨ b = clM t.2.1 1) ∧ (63 < z ∨ z = clM t.2.1 2))
def lk2 (rl a b z : Nat) (t : MT) : Bool := lk1 rl a b z t && decide ((a < 64 ∨ a ≠ b ∨ clM t.2.1 0 = clM t.2.1 1) ∧ (a < 64 ∨ a ≠ z ∨ clM t.2.1 0 = clM t.2.1 2) ∧ (b < 64 ∨ b ≠ z ∨ clM t.2.1 1 = clM t.2.1 2))
def lkN (rl a b z : Nat) (T : List MT) : Nat := (T.filter (lk2 rl a b z)).length
theorem lkN_s {rl a b z : Nat} {T : List MT} {i : Nat} {t : MT} (h : T[i]? = some t) : lkN rl a b z (T.take (i + 1)) = lkN rl a b z (T.take i) + (lk2 rl a b z t).toNat := by
  unfold lkN
  rw [take_snoc h, List.filter_append, List.length_append]
  congr 1
  cases e : lk2 rl a b z t <;> simp [e]
