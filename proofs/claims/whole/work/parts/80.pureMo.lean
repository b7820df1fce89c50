/-! THE REFERENCE'S OBJECT: A its arrays by the number of their field, Z its numbers by the number of their field -/
abbrev moE (A Z : Nat → Nat) : va_E := gs_ob 7 [.int (nI (Z 0)), .int (nI (Z 1)), .ref (A 2), .ref (A 3), .int (nI (Z 4)), .ref (A 5), .ref (A 6), .int (nI (Z 7)), .ref (A 8), .ref (A 9), .ref (A 10), .ref (A 11), .ref (A 12), .ref (A 13), .int (nI (Z 14)), .int (nI (Z 15)), .int (nI (Z 16)), .int (nI (Z 17)), .ref (A 18), .ref (A 19), .ref (A 20), .ref (A 21), .ref (A 22), .ref (A 23), .ref (A 24), .int (nI (Z 25)), .int (nI (Z 26)), .int (nI (Z 27)), .ref (A 28), .ref (A 29), .ref (A 30)]
abbrev aL (A : Nat → Nat) : List Nat := [A 2, A 3, A 5, A 6, A 8, A 9, A 10, A 11, A 12, A 13, A 18, A 19, A 20, A 21, A 22, A 23, A 24, A 28, A 29, A 30]
/-- bits in a row of longs -/
def gB (f : Nat → Int64) (k : Nat) : Bool := (f (k / 64)).toBitVec.getLsbD (k % 64)
theorem sh63 {j : Nat} (h : j < 64) : ((nI j).toInt64 &&& 63) = Int64.ofNat j := by
  have q : ∀ j : Fin 64, ((nI j.val).toInt64 &&& 63) = Int64.ofNat j.val := by decide
  exact q ⟨j, h⟩
theorem sm64 {j : Nat} (h : j < 64) : ((Int64.ofNat j).toBitVec.smod 64).toNat = j := by
  have q : ∀ j : Fin 64, ((Int64.ofNat j.val).toBitVec.smod 64).toNat = j.val := by decide
  exact q ⟨j, h⟩
theorem shr_bit {x : Int64} {j : Nat} (h : j < 64) (i : Nat) (hi : j + i < 64) : (x >>> ((nI j).toInt64 &&& 63)).toBitVec.getLsbD i = x.toBitVec.getLsbD (j + i) := by
  rw [sh63 h, Int64.toBitVec_shiftRight, BitVec.sshiftRight_eq', sm64 h, BitVec.getLsbD_sshiftRight]
  simp only [show ¬ 64 ≤ i by omega, decide_false, Bool.not_false, Bool.true_and, hi, if_true]
theorem shl_bit {j : Nat} (h : j < 64) (i : Nat) (hi : i < 64) : ((1 : Int64) <<< ((nI j).toInt64 &&& 63)).toBitVec.getLsbD i = decide (i = j) := by
  have q : ∀ j i : Fin 64, ((1 : Int64) <<< ((nI j.val).toInt64 &&& 63)).toBitVec.getLsbD i.val = decide (i.val = j.val) := by decide +kernel
  exact q ⟨j, h⟩ ⟨i, hi⟩
theorem i64_ext {x y : Int64} (h : ∀ i, i < 64 → x.toBitVec.getLsbD i = y.toBitVec.getLsbD i) : x = y := by
  apply Int64.toBitVec_inj.mp
  exact BitVec.eq_of_getLsbD_eq (fun i hi => h i hi)
theorem one_bit (i : Nat) (hi : i < 64) : (1 : Int64).toBitVec.getLsbD i = decide (i = 0) := by
  have q : ∀ i : Fin 64, (1 : Int64).toBitVec.getLsbD i.val = decide (i.val = 0) := by decide
  exact q ⟨i, hi⟩
theorem m1_bit (i : Nat) (hi : i < 64) : (-1 : Int64).toBitVec.getLsbD i = true := by
  have q : ∀ i : Fin 64, (-1 : Int64).toBitVec.getLsbD i.val = true := by decide
  exact q ⟨i, hi⟩
theorem bit_at {x : Int64} {j : Nat} (h : j < 64) : (x >>> ((nI j).toInt64 &&& 63)) &&& 1 = 1 ↔ x.toBitVec.getLsbD j = true := by
  constructor
  · intro e
    have := congrArg (fun z : Int64 => z.toBitVec.getLsbD 0) e
    simp only [Int64.toBitVec_and, BitVec.getLsbD_and, shr_bit h 0 (by omega), one_bit 0 (by omega)] at this
    simpa using this
  · intro e
    apply i64_ext
    intro i hi
    rw [Int64.toBitVec_and, BitVec.getLsbD_and, one_bit i hi]
    by_cases h0 : i = 0
    · subst h0
      rw [shr_bit h 0 (by omega)]
      simp [e]
    · simp [h0]
theorem cmp_0 {x y : Int64} : lg_cmp x y = 0 ↔ x = y := by
  unfold lg_cmp
  constructor
  · intro h
    by_cases h1 : y < x
    · simp [h1] at h
    · by_cases h2 : x < y
      · simp [h1, h2] at h; exact h
      · exact Int64.le_antisymm (Int64.not_lt.mp h1) (Int64.not_lt.mp h2)
  · intro h
    subst h
    simp [Int64.lt_irrefl]
/-- a bit is set or cleared -/
def stB (f : Nat → Int64) (k : Nat) (b : Bool) : Nat → Int64 := vp_updL f (k / 64) (if b then f (k / 64) ||| ((1 : Int64) <<< ((nI (k % 64)).toInt64 &&& 63)) else f (k / 64) &&& (((1 : Int64) <<< ((nI (k % 64)).toInt64 &&& 63)) ^^^ -1))
theorem gB_st {f : Nat → Int64} {k : Nat} {b : Bool} (q : Nat) : gB (stB f k b) q = if q = k then b else gB f q := by
  unfold gB stB vp_updL
  have hk : k % 64 < 64 := Nat.mod_lt _ (by decide)
  have hq : q % 64 < 64 := Nat.mod_lt _ (by decide)
  by_cases e : q / 64 = k / 64
  · rw [if_pos e]
    have em : q % 64 = k % 64 ↔ q = k := by omega
    cases b with
    | true =>
      simp only [if_true, Int64.toBitVec_or, BitVec.getLsbD_or, shl_bit hk _ hq]
      by_cases h : q = k
      · simp [h]
      · rw [if_neg h, decide_eq_false (mt em.mp h), Bool.or_false, e]
    | false =>
      simp only [Bool.false_eq_true, if_false, Int64.toBitVec_and, Int64.toBitVec_xor, BitVec.getLsbD_and, BitVec.getLsbD_xor, shl_bit hk _ hq, m1_bit _ hq]
      by_cases h : q = k
      · simp [h]
      · rw [if_neg h, decide_eq_false (mt em.mp h), e]; simp
  · rw [if_neg e, if_neg (fun h => e (by rw [h]))]
/-- the reference's number of a tuple with its relation -/
theorem cd_div {r t : Nat} (h : t < 262144) : (4096 * r + t / 64) = (262144 * r + t) / 64 ∧ t % 64 = (262144 * r + t) % 64 := by omega
