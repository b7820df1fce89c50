/-! a rule's checks, and its matches as they are counted -/
def chk1 (v : Nat → Nat) (L : List Nat) (d : Nat) (t : It) : Bool := decide (t.2.2.2.2 ≠ nI d) || (if t.1.1 = 1 then !decide (cof v t ∈ L) else cmpv v t)
def chk (v : Nat → Nat) (L : List Nat) (ks : List It) (d : Nat) : Bool := ks.all (chk1 v L d)
def oend (n : Nat) (ks : List It) (t : It) (d : Nat) : Bool := decide (n ≤ d + 1) && opn t && ks.all (fun t => decide (t.2.2.2.2 ≠ nI n))
/-- the codes from lo on, below hi -/
def rng (L : List Nat) (lo hi : Nat) : List Nat := (L.take (cb L hi)).drop (cb L lo)
/-- one tuple after the other -/
def cntL (t : It) (f : (Nat → Nat) → Nat × (Nat → Nat)) : List Nat → Nat → (Nat → Nat) → Nat × (Nat → Nat)
  | [], n, v => (n, v)
  | c :: cs, n, v => if (fit1 t c v).1 then cntL t f cs (n + (f (fit1 t c v).2).1) (f (fit1 t c v).2).2 else cntL t f cs n (fit1 t c v).2
def cnt (L : List Nat) (hs ks : List It) : Nat → Nat → (Nat → Nat) → Nat × (Nat → Nat)
  | 0, d, v => if chk v L ks d then (1, v) else (0, v)
  | k + 1, d, v => if chk v L ks d then
      (match hs[d]? with
      | none => (0, v)
      | some t => if oend hs.length ks t d then (cb L (cof v t + 64 ^ (3 - t.2.2.2.1)) - cb L (cof v t), v)
        else cntL t (cnt L hs ks k (d + 1)) (rng L (cof v t) (cof v t + 64 ^ (3 - t.2.2.2.1))) 0 v)
    else (0, v)
theorem cb_mono {L : List Nat} {a b : Nat} (h : a ≤ b) : cb L a ≤ cb L b := List.countP_mono_left (fun x _ hx => by simp at hx ⊢; omega)
/-- what is left of the stretch at a place -/
def rngA (L : List Nat) (hi i : Nat) : List Nat := (L.take (cb L hi)).drop i
theorem rngA_end {L : List Nat} {hi i : Nat} (h : cb L hi ≤ i) : rngA L hi i = [] := by
  unfold rngA
  exact List.drop_eq_nil_of_le (by simp; omega)
theorem rngA_cons {L : List Nat} {hi i x : Nat} (h : i < cb L hi) (hx : L[i]? = some x) : rngA L hi i = x :: rngA L hi (i + 1) := by
  unfold rngA
  have hl : i < (L.take (cb L hi)).length := by
    have := (List.getElem?_eq_some_iff.mp hx).1
    simp; omega
  rw [List.drop_eq_getElem_cons hl]
  congr 1
  have e := List.getElem?_take_of_lt (l := L) h
  rw [List.getElem?_eq_getElem hl, hx] at e
  exact Option.some.inj e
theorem cnt_no {L : List Nat} {hh ks : List It} {k d : Nat} {v : Nat → Nat} (h : chk v L ks d = false) : cnt L hh ks k d v = (0, v) := by
  cases k <;> simp [cnt, h]
theorem cnt_0 {L : List Nat} {hh ks : List It} {d : Nat} {v : Nat → Nat} (h : chk v L ks d = true) : cnt L hh ks 0 d v = (1, v) := by simp [cnt, h]
theorem cnt_open {L : List Nat} {hh ks : List It} {k d : Nat} {v : Nat → Nat} {t : It} (h : chk v L ks d = true) (ht : hh[d]? = some t) (ho : oend hh.length ks t d = true) : cnt L hh ks (k + 1) d v = (cb L (cof v t + 64 ^ (3 - t.2.2.2.1)) - cb L (cof v t), v) := by simp [cnt, h, ht, ho]
theorem cnt_loop {L : List Nat} {hh ks : List It} {k d : Nat} {v : Nat → Nat} {t : It} (h : chk v L ks d = true) (ht : hh[d]? = some t) (ho : oend hh.length ks t d = false) : cnt L hh ks (k + 1) d v = cntL t (cnt L hh ks k (d + 1)) (rngA L (cof v t + 64 ^ (3 - t.2.2.2.1)) (cb L (cof v t))) 0 v := by simp [cnt, h, ht, ho, rng, rngA]
theorem pw3 {d : Nat} : 64 ^ (3 - d) ≤ 262144 := Nat.pow_le_pow_right (by decide) (show 3 - d ≤ 3 by omega)
