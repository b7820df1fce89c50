theorem mxS_le {S : Nat → Nat} {B : Nat} : ∀ n, (∀ j, j < n → S j ≤ B) → mxS S n ≤ B + 1
  | 0, _ => Nat.zero_le _
  | n + 1, h => by
    have h1 := mxS_le n (fun j hj => h j (by omega))
    have h2 := h n (by omega)
    show max (mxS S n) (S n + 1) ≤ B + 1
    omega
theorem nI_nneg {n : Nat} (h : n < 2 ^ 31) {x : Int32} (hx : x < 0) : ¬ nI n = x := fun e => nI_pos h (by rw [e]; exact hx)
/-! values of the reference's search -/
abbrev OV : Type := Nat → Option Nat
def vO (f : Nat → Int32) (ov : OV) : Prop := ∀ j, j < 8 → f j = rdI (ov j) ∧ ∀ n, ov j = some n → n < 64
def ofO (ov : OV) (t : Nat) : Option Nat := if t < 64 then some t else ov (t - 64)
theorem ofO_lt {f : Nat → Int32} {ov : OV} (h : vO f ov) {t n : Nat} (ht : t < 72) (e : ofO ov t = some n) : n < 64 := by
  unfold ofO at e
  by_cases q : t < 64
  · rw [if_pos q] at e; cases e; exact q
  · rw [if_neg q] at e
    exact (h (t - 64) (by omega)).2 n e
theorem rdI_0 {o : Option Nat} (h : ∀ n, o = some n → n < 64) : rdI o < 0 ↔ o = none := by
  cases o with
  | none => exact ⟨fun _ => rfl, fun _ => by decide⟩
  | some n => exact ⟨fun z => absurd z (nI_pos (by have := h n rfl; omega)), fun z => by cases z⟩
theorem rdI_eq {o : Option Nat} (h : ∀ n, o = some n → n < 64) {v : Nat} (hv : v < 64) : rdI o = nI v ↔ o = some v := by
  cases o with
  | none => exact ⟨fun z => absurd z.symm (nI_nneg (by omega) (by decide)), fun z => by cases z⟩
  | some n =>
    have hn := h n rfl
    exact ⟨fun z => by rw [(nI_eq (by omega) (by omega)).mp z], fun z => by cases z; rfl⟩
def frO (b : Nat) (ov : OV) : OV := fun j => if b.testBit j then none else ov j
def frF (f : Nat → Int32) (b i : Nat) : Nat → Int32 := fun j => if j < i ∧ b.testBit j = true then -1 else f j
theorem fr_bit {b j : Nat} (hb : b < 256) (hj : j < 8) : (nI b >>> (nI j &&& 31)) &&& nI 1 = nI 1 ↔ b.testBit j = true := by
  have h : ∀ b : Fin 256, ∀ j : Fin 8, decide ((nI b.val >>> (nI j.val &&& 31)) &&& nI 1 = nI 1) = b.val.testBit j.val := by decide +kernel
  have := h ⟨b, hb⟩ ⟨j, hj⟩
  simp only at this
  constructor
  · intro e; rw [← this]; exact decide_eq_true e
  · intro e; rw [e] at this; exact of_decide_eq_true this
theorem frF_s {f : Nat → Int32} {b i : Nat} : upd (frF f b i) i (if b.testBit i = true then -1 else f i) = frF f b (i + 1) := by
  funext j
  unfold upd
  by_cases e : j = i
  · subst e
    rw [if_pos rfl]
    unfold frF
    by_cases h : b.testBit j = true
    · rw [if_pos h, if_pos ⟨by omega, h⟩]
    · rw [if_neg h, if_neg (fun q => h q.2)]
  · rw [if_neg e]
    unfold frF
    by_cases h : j < i ∧ b.testBit j = true
    · rw [if_pos h, if_pos ⟨by omega, h.2⟩]
    · rw [if_neg h, if_neg (fun q => h ⟨by omega, q.2⟩)]
theorem frF_at {f : Nat → Int32} {b i : Nat} : frF f b i i = f i := by unfold frF; rw [if_neg (by omega)]
theorem frF_0 {f : Nat → Int32} {b : Nat} : frF f b 0 = f := by funext j; unfold frF; rw [if_neg (by omega)]
theorem vO_fr {f : Nat → Int32} {ov : OV} {b : Nat} (h : vO f ov) : vO (frF f b 8) (frO b ov) := by
  intro j hj
  unfold frF frO
  by_cases e : b.testBit j = true
  · rw [if_pos ⟨hj, e⟩]; simp only [e, if_true]
    exact ⟨rfl, fun n z => by cases z⟩
  · rw [if_neg (fun q => e q.2)]; simp only [e]
    exact h j hj
theorem vO_up {f : Nat → Int32} {ov : OV} {k v : Nat} (h : vO f ov) (hv : v < 64) : vO (upd f k (nI v)) (va_up ov k (some v)) := by
  intro j hj
  unfold upd va_up
  by_cases e : j = k
  · simp only [if_pos e]
    exact ⟨rfl, fun n z => by cases z; exact hv⟩
  · simp only [if_neg e]; exact h j hj
/-- a column of a tuple's number -/
def clM (t j : Nat) : Nat := if j = 0 then t / 4096 else if j = 1 then t / 64 % 64 else t % 64
theorem clM_lt {t j : Nat} (h : t < 262144) : clM t j < 64 := by unfold clM; split; omega; split <;> omega
/-- a column is bound: values, bits of what was bound, whether all fits -/
def bd1 (ts : Nat → Nat) (t : Nat) (s : OV × Nat × Bool) (j : Nat) : OV × Nat × Bool :=
  if ofO s.1 (ts j) = none then (va_up s.1 (ts j - 64) (some (clM t j)), s.2.1 ||| 2 ^ (ts j - 64), s.2.2) else (s.1, s.2.1, s.2.2 && decide (ofO s.1 (ts j) = some (clM t j)))
def bdF (ts : Nat → Nat) (t : Nat) (ov : OV) (j : Nat) : OV × Nat × Bool := (List.range j).foldl (bd1 ts t) (ov, 0, true)
theorem bdF_s {ts : Nat → Nat} {t : Nat} {ov : OV} {j : Nat} : bdF ts t ov (j + 1) = bd1 ts t (bdF ts t ov j) j := by
  unfold bdF
  rw [range_snoc, List.foldl_append]; rfl
theorem or8 {b k : Nat} (hb : b < 256) (hk : k < 8) : b ||| 2 ^ k < 256 := by
  have h : ∀ b : Fin 256, ∀ j : Fin 8, b.val ||| 2 ^ j.val < 256 := by decide +kernel
  exact h ⟨b, hb⟩ ⟨k, hk⟩
theorem or8_I {b k : Nat} (hb : b < 256) (hk : k < 8) : nI b ||| (nI 1 <<< (nI k &&& 31)) = nI (b ||| 2 ^ k) := by
  have h : ∀ b : Fin 256, ∀ j : Fin 8, nI b.val ||| (nI 1 <<< (nI j.val &&& 31)) = nI (b.val ||| 2 ^ j.val) := by decide +kernel
  exact h ⟨b, hb⟩ ⟨k, hk⟩
/-- what is bound anew is told by the bits, and freed again -/
theorem bdF_inv {ts : Nat → Nat} {t : Nat} {ov : OV} (hts : ∀ j, ts j < 72) : ∀ j, (bdF ts t ov j).2.1 < 256 ∧ (∀ k, (bdF ts t ov j).2.1.testBit k = true → ov k = none) ∧ ∀ k, (bdF ts t ov j).2.1.testBit k = false → (bdF ts t ov j).1 k = ov k
  | 0 => by
    unfold bdF
    refine ⟨by simp, fun k h => by simp at h, fun k _ => rfl⟩
  | j + 1 => by
    obtain ⟨h1, h2, h3⟩ := bdF_inv (t := t) (ov := ov) hts j
    rw [bdF_s]
    unfold bd1
    by_cases e : ofO (bdF ts t ov j).1 (ts j) = none
    · rw [if_pos e]
      have ht := hts j
      have h64 : ¬ ts j < 64 := fun q => by unfold ofO at e; rw [if_pos q] at e; cases e
      have e0 : (bdF ts t ov j).1 (ts j - 64) = none := by unfold ofO at e; rw [if_neg h64] at e; exact e
      refine ⟨or8 h1 (by omega), fun k hk => ?_, fun k hk => ?_⟩
      · simp only [Nat.testBit_or, Bool.or_eq_true] at hk
        rcases hk with q | q
        · exact h2 k q
        · rw [Nat.testBit_two_pow] at q
          have q := of_decide_eq_true q
          subst q
          cases hb : (bdF ts t ov j).2.1.testBit (ts j - 64) with
          | true => exact h2 _ hb
          | false => rw [← h3 _ hb]; exact e0
      · simp only [Nat.testBit_or, Bool.or_eq_false_iff] at hk
        have q := hk.2
        rw [Nat.testBit_two_pow] at q
        have q := of_decide_eq_false q
        show va_up (bdF ts t ov j).1 (ts j - 64) _ k = ov k
        unfold va_up
        rw [if_neg (fun z => q z.symm)]
        exact h3 k hk.1
    · rw [if_neg e]
      exact ⟨h1, h2, h3⟩
theorem fr_bdF {ts : Nat → Nat} {t : Nat} {ov : OV} (hts : ∀ j, ts j < 72) (j : Nat) : frO (bdF ts t ov j).2.1 (bdF ts t ov j).1 = ov := by
  funext k
  obtain ⟨_, h2, h3⟩ := bdF_inv (t := t) (ov := ov) hts j
  unfold frO
  cases hb : (bdF ts t ov j).2.1.testBit k with
  | true => simp only [if_true]; exact (h2 k hb).symm
  | false => simp only [Bool.false_eq_true, if_false]; exact h3 k hb
/-- a tuple held against an item: the values then, and the bits -/
def mtc (cw : Nat → Nat) (x : MI) (t : MT) (ov : OV) : Option (OV × Nat) :=
  if t.1 = x.2.1 then (if (bdF (t3 x.2.2) t.2.1 ov (cw x.2.1)).2.2 then some ((bdF (t3 x.2.2) t.2.1 ov (cw x.2.1)).1, (bdF (t3 x.2.2) t.2.1 ov (cw x.2.1)).2.1) else none) else none
/-- a term's value -/
def gv (ov : OV) (t : Nat) : Nat := (ofO ov t).getD 0
def nbO (ov : OV) (t : Nat × Nat × Nat) : Nat := gv ov (t3 t 0) * 4096 + gv ov (t3 t 1) * 64 + gv ov (t3 t 2)
def askX (ov : OV) (P : List Nat) (x : MI) : Bool := if x.1 = 1 then !decide (262144 * x.2.1 + nbO ov x.2.2 ∈ P) else if 1 < x.1 then (if x.1 = 2 then decide (gv ov (t3 x.2.2 0) < gv ov (t3 x.2.2 1)) else decide (gv ov (t3 x.2.2 0) ≠ gv ov (t3 x.2.2 1))) else true
def askO (ov : OV) (P : List Nat) (R : MR) : Bool := R.2.all (askX ov P)
/-- all terms have values -/
def alB (ov : OV) (t : Nat × Nat × Nat) : Prop := ∀ j, j < 3 → ∃ n, ofO ov (t3 t j) = some n
theorem gv_of {f : Nat → Int32} {ov : OV} (h : vO f ov) {t : Nat × Nat × Nat} (ha : alB ov t) {j : Nat} (hj : j < 3) (ht : t3 t j < 72) : rdI (ofO ov (t3 t j)) = nI (gv ov (t3 t j)) ∧ gv ov (t3 t j) < 64 := by
  obtain ⟨n, hn⟩ := ha j hj
  unfold gv
  rw [hn]
  exact ⟨rfl, ofO_lt h ht hn⟩
/-- what is found: new tuples, whether there are too many, matches counted -/
abbrev FS : Type := List MT × Bool × Nat
def fnd1 (T : List MT) (rc q : Nat) (R : MR) (ov : OV) (s : FS) : FS :=
  if s.2.1 = true ∨ 262144 * R.1.1 + nbO ov R.1.2 ∈ tcs s.1 ∨ 262144 * R.1.1 + nbO ov R.1.2 ∈ tcs T then s
  else if T.length + s.1.length = 300 then (s.1, true, s.2.2) else (s.1 ++ [(R.1.1, nbO ov R.1.2, rc + 1, nI q)], s.2.1, s.2.2)
def act (T : List MT) (rc q : Nat) (R : MR) (fd : Bool) (ov : OV) (s : FS) : FS :=
  if askO ov (tcs T) R then (if fd then fnd1 T rc q R ov (s.1, s.2.1, s.2.2 + 1) else (s.1, s.2.1, s.2.2 + 1)) else s
/-- the search -/
def trM (cw : Nat → Nat) (T : List MT) (rc q : Nat) (R : MR) (fd : Bool) : List MI → OV → FS → FS
  | [], ov, s => act T rc q R fd ov s
  | x :: hs, ov, s => T.foldl (fun s t => match mtc cw x t ov with | some p => trM cw T rc q R fd hs p.1 s | none => s) s
