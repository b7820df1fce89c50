/-! PURE: the two searches. Lists first -/
theorem insE_perm (E : List En) (e : En) : (insE E e).Perm (e :: E) := by
  unfold insE
  refine List.perm_middle.trans ?_
  rw [List.take_append_drop]
theorem take_cb : ∀ {L : List Nat} (_ : L.Pairwise (· ≤ ·)) (c : Nat), L.take (cb L c) = L.filter (fun y => decide (y < c)) ∧ L.drop (cb L c) = L.filter (fun y => decide (c ≤ y))
  | [], _, c => by simp
  | x :: L, h, c => by
    obtain ⟨h1, h2⟩ := List.pairwise_cons.mp h
    by_cases hx : x < c
    · have e : cb (x :: L) c = cb L c + 1 := List.countP_cons_of_pos (by simpa using hx)
      rw [e]
      obtain ⟨i1, i2⟩ := take_cb h2 c
      constructor
      · rw [List.take_succ_cons, i1, List.filter_cons_of_pos (by simpa using hx)]
      · rw [List.drop_succ_cons, i2, List.filter_cons_of_neg (by simp; omega)]
    · have hz : ∀ y ∈ x :: L, ¬ y < c := fun y hy => by
        rcases List.mem_cons.mp hy with rfl | hy
        · exact hx
        · have := h1 y hy; omega
      have e : cb (x :: L) c = 0 := List.countP_eq_zero.mpr (fun y hy => by simpa using hz y hy)
      rw [e]
      constructor
      · rw [List.take_zero, eq_comm, List.filter_eq_nil_iff]
        intro y hy; simpa using hz y hy
      · rw [List.drop_zero, eq_comm, List.filter_eq_self]
        intro y hy; have := hz y hy; simp; omega
theorem rng_eq {L : List Nat} (h : L.Pairwise (· ≤ ·)) {lo hi : Nat} (hl : lo ≤ hi) : rng L lo hi = L.filter (fun c => decide (lo ≤ c) && decide (c < hi)) := by
  unfold rng
  rw [(take_cb h hi).1]
  have e : cb L lo = cb (L.filter (fun y => decide (y < hi))) lo := by
    show L.countP _ = (L.filter _).countP _
    rw [List.countP_filter]
    refine List.countP_congr (fun x hx => ?_)
    simp; omega
  rw [e, (take_cb (h.filter _) lo).2, List.filter_filter]
theorem flatMap_in {α β : Type} {L : List α} {g : α → List β} {p : α → Bool} (h : ∀ c ∈ L, p c = false → g c = []) : L.flatMap g = (L.filter p).flatMap g := by
  induction L with
  | nil => rfl
  | cons x L ih =>
    have ih := ih (fun c hc => h c (List.mem_cons_of_mem _ hc))
    rw [List.flatMap_cons]
    cases hp : p x with
    | true => rw [List.filter_cons_of_pos hp, List.flatMap_cons, ih]
    | false => rw [List.filter_cons_of_neg (by rw [hp]; decide), h x List.mem_cons_self hp, ih]; rfl
/-! what an item binds -/
theorem bl_ch {kn : Nat → Nat} {t : It} (h0 : t.2.2.2.1 = t.1.2.2) : ∀ k, k ≤ t.1.2.2 → (∀ j, t.1.2.2 - k ≤ j → j < t.1.2.2 → bnd kn t j = true → (bl kn t k).1.testBit j = true) ∧ (∀ j, t.1.2.2 - k ≤ j → j < (bl kn t k).2 → bnd kn t j = false)
  | 0, _ => ⟨fun j h1 h2 => by omega, fun j h1 h2 => by unfold bl at h2; simp only [h0] at h2; omega⟩
  | k + 1, hk => by
    obtain ⟨i1, i2⟩ := bl_ch (kn := kn) h0 k (by omega)
    unfold bl
    cases hb : bnd kn t (t.1.2.2 - (k + 1)) with
    | true =>
      rw [if_pos rfl]
      refine ⟨fun j h1 h2 h3 => ?_, fun j h1 h2 => by dsimp only at h2; omega⟩
      dsimp only
      rw [Nat.testBit_or]
      by_cases e : j = t.1.2.2 - (k + 1)
      · rw [e, Nat.testBit_two_pow_self, Bool.or_true]
      · rw [i1 j (by omega) h2 h3, Bool.true_or]
    | false =>
      rw [if_neg (by decide)]
      refine ⟨fun j h1 h2 h3 => ?_, fun j h1 h2 => ?_⟩
      · by_cases e : j = t.1.2.2 - (k + 1)
        · rw [e, hb] at h3; cases h3
        · exact i1 j (by omega) h2 h3
      · by_cases e : j = t.1.2.2 - (k + 1)
        · rw [e]; exact hb
        · exact i2 j (by omega) h2
theorem bindI_bd {kn : Nat → Nat} {t : It} (h1 : t.2.2.1 = 0) (h0 : t.2.2.2.1 = t.1.2.2) {j : Nat} (hj : j < t.1.2.2) : bd (bindI kn t) j = bnd kn t j := by
  have e : bd (bindI kn t) j = (bl kn t t.1.2.2).1.testBit j := by
    unfold bd
    rw [Bool.eq_iff_iff, decide_eq_true_iff]
    exact bit_iff _ _
  rw [e]
  cases hb : bnd kn t j with
  | true => exact (bl_ch h0 _ (Nat.le_refl _)).1 j (by omega) hj hb
  | false =>
    cases hc : (bl kn t t.1.2.2).1.testBit j with
    | true => rw [bl_bd h1 _ _ hc] at hb; cases hb
    | false => rfl
theorem bindI_fst {kn : Nat → Nat} {t : It} (h0 : t.2.2.2.1 = t.1.2.2) : (bindI kn t).2.2.2.1 ≤ t.1.2.2 ∧ ∀ j, j < (bindI kn t).2.2.2.1 → bnd kn t j = false :=
  ⟨bl_le (Nat.le_of_eq h0) _, fun j hj => (bl_ch h0 _ (Nat.le_refl _)).2 j (by omega) hj⟩
theorem knP_z {kn : Nat → Nat} {t : It} {n : Nat} (hn : n ≠ 0) {k : Nat} : ∀ j, knP kn t n j k = 0 ↔ kn k = 0 ∧ ∀ i, i < j → bd t i = true → tm t i - 64 ≠ k
  | 0 => ⟨fun h => ⟨h, fun i hi => by omega⟩, fun h => h.1⟩
  | j + 1 => by
    have ih := knP_z (kn := kn) (t := t) hn (k := k) j
    unfold knP
    cases hb : bd t j with
    | true =>
      rw [if_pos rfl]
      unfold va_up
      by_cases e : k = tm t j - 64
      · rw [if_pos e]
        exact ⟨fun h => absurd h hn, fun h => absurd e.symm (h.2 j (by omega) hb)⟩
      · rw [if_neg e, ih]
        refine ⟨fun h => ⟨h.1, fun i hi hb' => ?_⟩, fun h => ⟨h.1, fun i hi => h.2 i (by omega)⟩⟩
        by_cases e2 : i = j
        · rw [e2]; exact fun z => e z.symm
        · exact h.2 i (by omega) hb'
    | false =>
      rw [if_neg (by decide), ih]
      refine ⟨fun h => ⟨h.1, fun i hi hb' => ?_⟩, fun h => ⟨h.1, fun i hi => h.2 i (by omega)⟩⟩
      by_cases e2 : i = j
      · rw [e2, hb] at hb'; cases hb'
      · exact h.2 i (by omega) hb'
/-- a column binds where its variable is not known yet, also not by a column before it -/
theorem bnd_iff {kn : Nat → Nat} {t : It} (h1 : t.2.2.1 = 0) (h0 : t.2.2.2.1 = t.1.2.2) {n : Nat} (hn : n ≠ 0) {j : Nat} (hj : j < t.1.2.2) : bd (bindI kn t) j = true ↔ 64 ≤ tm t j ∧ knP kn (bindI kn t) n j (tm t j - 64) = 0 := by
  rw [bindI_bd h1 h0 hj, knP_z hn]
  unfold bnd
  constructor
  · intro h
    simp only [Bool.and_eq_true, decide_eq_true_iff] at h
    refine ⟨h.1.1, h.1.2, fun i hi hb e => ?_⟩
    have h64 := bindI_64 h1 i (by omega) hb
    have hf : ∀ x ∈ List.range j, decide (tm t x ≠ tm t j) = true := List.all_eq_true.mp h.2
    have := hf i (List.mem_range.mpr hi)
    simp only [decide_eq_true_iff] at this
    have e : tm t i - 64 = tm t j - 64 := e
    omega
  · rintro ⟨h2, h3, h4⟩
    have hfu : ∀ i, i < j → tm t i ≠ tm t j := by
      intro i
      induction i using Nat.strongRecOn with
      | _ i ih =>
        intro hi e
        have hb : bd (bindI kn t) i = true := by
          rw [bindI_bd h1 h0 (by omega)]
          unfold bnd
          simp only [Bool.and_eq_true, decide_eq_true_iff]
          refine ⟨⟨by omega, by rw [e]; exact h3⟩, List.all_eq_true.mpr (fun x hx => ?_)⟩
          have hx := List.mem_range.mp hx
          simp only [decide_eq_true_iff]
          intro e2
          exact ih x hx (by omega) (by omega)
        exact h4 i hi hb (by show tm t i - 64 = _; rw [e])
    simp only [Bool.and_eq_true, decide_eq_true_iff]
    exact ⟨⟨h2, h3⟩, List.all_eq_true.mpr (fun x hx => by simp only [decide_eq_true_iff]; exact hfu x (List.mem_range.mp hx))⟩
/-! class's values and the reference's -/
def agr (kn v : Nat → Nat) (ov : OV) : Prop := ∀ k, (kn k ≠ 0 → ov k = some (v k) ∧ v k < 64) ∧ (kn k = 0 → ov k = none)
theorem agr.keep {kn v v' : Nat → Nat} {ov : OV} (h : agr kn v ov) (h2 : ∀ k, kn k ≠ 0 → v' k = v k) : agr kn v' ov := fun k => ⟨fun z => by rw [h2 k z]; exact (h k).1 z, (h k).2⟩
theorem agr.val {kn v : Nat → Nat} {ov : OV} (h : agr kn v ov) {t : Nat} (ht : 64 ≤ t → kn (t - 64) ≠ 0) : ofO ov t = some (vl v t) ∧ vl v t < 64 := by
  unfold ofO vl
  by_cases e : t < 64
  · rw [if_pos e, if_pos e]; exact ⟨rfl, e⟩
  · rw [if_neg e, if_neg e]; exact (h _).1 (ht (by omega))
theorem vat_cl (c : Nat) {j : Nat} (hj : j < 3) : clM (c % 262144) j = vat c j := by
  unfold clM vat
  rcases (show j = 0 ∨ j = 1 ∨ j = 2 by omega) with rfl | rfl | rfl <;> simp <;> omega
theorem fitP_keep {kn : Nat → Nat} {t : It} {c : Nat} (h1 : t.2.2.1 = 0) (h0 : t.2.2.2.1 = t.1.2.2) : ∀ (m j : Nat) (v : Nat → Nat), j + m ≤ t.1.2.2 → ∀ k, kn k ≠ 0 → (fitP (bindI kn t) c m j v).2 k = v k
  | 0, j, v, _, k, hk => rfl
  | m + 1, j, v, hj, k, hk => by
    unfold fitP
    cases hb : bd (bindI kn t) j with
    | true =>
      rw [if_pos rfl, fitP_keep h1 h0 m (j + 1) _ (by omega) k hk]
      have hb2 := hb
      rw [bindI_bd h1 h0 (by omega)] at hb2
      unfold bnd at hb2
      simp only [Bool.and_eq_true, decide_eq_true_iff] at hb2
      unfold va_up
      rw [if_neg (fun e => hk (by rw [e]; exact hb2.1.2))]
    | false =>
      rw [if_neg (by decide)]
      split
      · exact fitP_keep h1 h0 m (j + 1) v (by omega) k hk
      · rfl
theorem bdF_false {ts : Nat → Nat} {t : Nat} {ov : OV} {j : Nat} (h : (bdF ts t ov j).2.2 = false) : ∀ i, (bdF ts t ov (j + i)).2.2 = false
  | 0 => h
  | i + 1 => by
    rw [← Nat.add_assoc, bdF_s]
    have := bdF_false h i
    unfold bd1
    split
    · exact this
    · dsimp only; rw [this, Bool.false_and]
/-- both walk an item's columns alike -/
theorem fit_walk {kn : Nat → Nat} {t : It} {c n : Nat} {ov : OV} (h1 : t.2.2.1 = 0) (h0 : t.2.2.2.1 = t.1.2.2) (hn : n ≠ 0) (hw : t.1.2.2 ≤ 3) : ∀ (m j : Nat) (v : Nat → Nat), j + m = t.1.2.2 → agr (knP kn (bindI kn t) n j) v (bdF (tm t) (c % 262144) ov j).1 → (bdF (tm t) (c % 262144) ov j).2.2 = true →
    (fitP (bindI kn t) c m j v).1 = (bdF (tm t) (c % 262144) ov t.1.2.2).2.2 ∧ ((fitP (bindI kn t) c m j v).1 = true → agr (knP kn (bindI kn t) n t.1.2.2) (fitP (bindI kn t) c m j v).2 (bdF (tm t) (c % 262144) ov t.1.2.2).1)
  | 0, j, v, hj, ha, hf => by
    have e : j = t.1.2.2 := by omega
    subst e
    exact ⟨hf.symm, fun _ => ha⟩
  | m + 1, j, v, hj, ha, hf => by
    have hjw : j < t.1.2.2 := by omega
    have hi := bnd_iff (kn := kn) h1 h0 hn hjw
    unfold fitP
    cases hb : bd (bindI kn t) j with
    | true =>
      obtain ⟨g1, g2⟩ := hi.mp hb
      rw [if_pos rfl]
      have hno : ofO (bdF (tm t) (c % 262144) ov j).1 (tm t j) = none := by
        unfold ofO
        rw [if_neg (by omega)]
        exact (ha _).2 g2
      have es : bdF (tm t) (c % 262144) ov (j + 1) = (va_up (bdF (tm t) (c % 262144) ov j).1 (tm t j - 64) (some (clM (c % 262144) j)), (bdF (tm t) (c % 262144) ov j).2.1 ||| 2 ^ (tm t j - 64), (bdF (tm t) (c % 262144) ov j).2.2) := by
        rw [bdF_s]; unfold bd1; rw [if_pos hno]
      refine fit_walk h1 h0 hn hw m (j + 1) _ (by omega) ?_ (by rw [es]; exact hf)
      rw [es]
      have ek : knP kn (bindI kn t) n (j + 1) = va_up (knP kn (bindI kn t) n j) (tm t j - 64) n := by
        show (if bd (bindI kn t) j then _ else _) = _
        rw [if_pos hb]; rfl
      rw [ek]
      intro k
      show (va_up (knP kn (bindI kn t) n j) (tm t j - 64) n k ≠ 0 → va_up _ (tm t j - 64) _ k = some (va_up v (tm t j - 64) (vat c j) k) ∧ va_up v (tm t j - 64) (vat c j) k < 64) ∧ (va_up (knP kn (bindI kn t) n j) (tm t j - 64) n k = 0 → va_up _ (tm t j - 64) _ k = none)
      unfold va_up
      by_cases e : k = tm t j - 64
      · rw [if_pos e, if_pos e, if_pos e]
        exact ⟨fun _ => ⟨by rw [vat_cl c (by omega)], vat_lt _ _⟩, fun z => absurd z hn⟩
      · rw [if_neg e, if_neg e, if_neg e]; exact ha k
    | false =>
      rw [if_neg (by decide)]
      have hkn : 64 ≤ tm t j → knP kn (bindI kn t) n j (tm t j - 64) ≠ 0 := fun z1 z2 => by
        rw [hi.mpr ⟨z1, z2⟩] at hb; cases hb
      obtain ⟨g1, g2⟩ := ha.val hkn
      have es : bdF (tm t) (c % 262144) ov (j + 1) = ((bdF (tm t) (c % 262144) ov j).1, (bdF (tm t) (c % 262144) ov j).2.1, (bdF (tm t) (c % 262144) ov j).2.2 && decide (ofO (bdF (tm t) (c % 262144) ov j).1 (tm t j) = some (clM (c % 262144) j))) := by
        rw [bdF_s]; unfold bd1; rw [if_neg (by rw [g1]; exact fun z => by cases z)]
      have ek : knP kn (bindI kn t) n (j + 1) = knP kn (bindI kn t) n j := by
        show (if bd (bindI kn t) j then _ else _) = _
        rw [if_neg (by rw [hb]; decide)]
      show (if vl v (tm t j) = vat c j then fitP (bindI kn t) c m (j + 1) v else (false, v)).1 = _ ∧ ((if vl v (tm t j) = vat c j then fitP (bindI kn t) c m (j + 1) v else (false, v)).1 = true → agr _ (if vl v (tm t j) = vat c j then fitP (bindI kn t) c m (j + 1) v else (false, v)).2 _)
      by_cases e : vl v (tm t j) = vat c j
      · rw [if_pos e]
        refine fit_walk h1 h0 hn hw m (j + 1) v (by omega) ?_ ?_
        · rw [es, ek]; exact ha
        · rw [es]; dsimp only
          rw [hf, g1, e, vat_cl c (by omega)]; simp
      · rw [if_neg e]
        have hfa : (bdF (tm t) (c % 262144) ov (j + 1)).2.2 = false := by
          rw [es]; dsimp only
          rw [g1, vat_cl c (by omega), decide_eq_false (fun z => e (Option.some.inj z)), Bool.and_false]
        have := bdF_false hfa m
        rw [show j + 1 + m = t.1.2.2 by omega] at this
        exact ⟨this.symm, fun z => by cases z⟩
/-- the columns before the first that binds -/
theorem fit_pre {kn : Nat → Nat} {t : It} {c : Nat} (h1 : t.2.2.1 = 0) (h0 : t.2.2.2.1 = t.1.2.2) : ∀ (i j : Nat) (v : Nat → Nat), j + i = (bindI kn t).2.2.2.1 →
    ((∀ k, j ≤ k → k < (bindI kn t).2.2.2.1 → vl v (tm t k) = vat c k) → fitP (bindI kn t) c (t.1.2.2 - j) j v = fit1 (bindI kn t) c v) ∧ (¬ (∀ k, j ≤ k → k < (bindI kn t).2.2.2.1 → vl v (tm t k) = vat c k) → (fitP (bindI kn t) c (t.1.2.2 - j) j v).1 = false)
  | 0, j, v, hj => by
    have e : j = (bindI kn t).2.2.2.1 := by omega
    rw [← e]
    refine ⟨fun _ => ?_, fun h => absurd (fun k h1 h2 => by omega) h⟩
    unfold fit1
    rw [← e]; rfl
  | i + 1, j, v, hj => by
    obtain ⟨f1, f2⟩ := bindI_fst (kn := kn) h0
    obtain ⟨i1, i2⟩ := fit_pre (kn := kn) (c := c) h1 h0 i (j + 1) v (by omega)
    have hb : bd (bindI kn t) j = false := by rw [bindI_bd h1 h0 (by omega)]; exact f2 j (by omega)
    rw [show t.1.2.2 - j = (t.1.2.2 - (j + 1)) + 1 by omega]
    have es : fitP (bindI kn t) c (t.1.2.2 - (j + 1) + 1) j v = if vl v (tm t j) = vat c j then fitP (bindI kn t) c (t.1.2.2 - (j + 1)) (j + 1) v else (false, v) := by
      show (if bd (bindI kn t) j then _ else _) = _
      rw [if_neg (by rw [hb]; decide)]; rfl
    rw [es]
    constructor
    · intro h
      rw [if_pos (h j (Nat.le_refl _) (by omega))]
      exact i1 (fun k hk => h k (by omega))
    · intro h
      by_cases e : vl v (tm t j) = vat c j
      · rw [if_pos e]
        refine i2 (fun h2 => h (fun k hk1 hk2 => ?_))
        by_cases e2 : k = j
        · rw [e2]; exact e
        · exact h2 k (by omega) hk2
      · rw [if_neg e]
theorem cof_rng {v : Nat → Nat} {t : It} {c : Nat} (h3 : t.2.2.2.1 ≤ 3) (hv : ∀ j, j < t.2.2.2.1 → vl v (tm t j) < 64) : (cof v t ≤ c ∧ c < cof v t + 64 ^ (3 - t.2.2.2.1)) ↔ (c / 262144 = t.1.2.1 ∧ ∀ j, j < t.2.2.2.1 → vl v (tm t j) = vat c j) := by
  have a0 := hv 0
  have a1 := hv 1
  have a2 := hv 2
  unfold cof cofP cofP cofP cofP
  have hq : (∀ j, j < t.2.2.2.1 → vl v (tm t j) = vat c j) ↔ ((0 < t.2.2.2.1 → vl v (tm t 0) = c / 4096 % 64) ∧ (1 < t.2.2.2.1 → vl v (tm t 1) = c / 64 % 64) ∧ (2 < t.2.2.2.1 → vl v (tm t 2) = c % 64)) := by
    constructor
    · intro h
      exact ⟨fun z => by have := h 0 z; unfold vat at this; simpa using this, fun z => by have := h 1 z; unfold vat at this; simpa using this, fun z => by have := h 2 z; unfold vat at this; simpa using this⟩
    · intro h j hj
      unfold vat
      rcases (show j = 0 ∨ j = 1 ∨ j = 2 by omega) with rfl | rfl | rfl
      · simpa using h.1 hj
      · simpa using h.2.1 hj
      · simpa using h.2.2 hj
  rw [hq]
  generalize vl v (tm t 0) = x at *
  generalize vl v (tm t 1) = y at *
  generalize vl v (tm t 2) = z at *
  generalize t.1.2.1 = r at *
  rcases (show t.2.2.2.1 = 0 ∨ t.2.2.2.1 = 1 ∨ t.2.2.2.1 = 2 ∨ t.2.2.2.1 = 3 by omega) with e | e | e | e <;> rw [e] at a0 a1 a2 ⊢ <;> simp <;> omega
def mtC (cw : Nat → Nat) (x : MI) (c : Nat) (ov : OV) : Option (OV × Nat) := mtc cw x (c / 262144, c % 262144, 0, 0) ov
def iW (cw : Nat → Nat) (x : MI) : Nat := if x.1 < 2 then cw x.2.1 else 2
def i0 (cw : Nat → Nat) (x : MI) : It := ((x.1, x.2.1, iW cw x), x.2.2, (0, iW cw x, nI 0))
/-- ONE ITEM, both ways -/
theorem lvl {cw : Nat → Nat} {x : MI} {kn v : Nat → Nat} {ov : OV} {c n : Nat} (h0 : x.1 = 0) (hw : cw x.2.1 ≤ 3) (hn : n ≠ 0) (ha : agr kn v ov) :
    agr kn (fit1 (bindI kn (i0 cw x)) c v).2 ov ∧ (((cof v (bindI kn (i0 cw x)) ≤ c ∧ c < cof v (bindI kn (i0 cw x)) + 64 ^ (3 - (bindI kn (i0 cw x)).2.2.2.1)) ∧ (fit1 (bindI kn (i0 cw x)) c v).1 = true ∧ ∃ p, mtC cw x c ov = some p ∧ agr (knP kn (bindI kn (i0 cw x)) n (cw x.2.1)) (fit1 (bindI kn (i0 cw x)) c v).2 p.1) ∨ (¬ ((cof v (bindI kn (i0 cw x)) ≤ c ∧ c < cof v (bindI kn (i0 cw x)) + 64 ^ (3 - (bindI kn (i0 cw x)).2.2.2.1)) ∧ (fit1 (bindI kn (i0 cw x)) c v).1 = true) ∧ mtC cw x c ov = none)) := by
  have eW : (i0 cw x).1.2.2 = cw x.2.1 := by show iW cw x = _; unfold iW; rw [if_pos (by omega)]
  have b1 : (i0 cw x).2.2.1 = 0 := rfl
  have b0 : (i0 cw x).2.2.2.1 = (i0 cw x).1.2.2 := rfl
  obtain ⟨f1, f2⟩ := bindI_fst (kn := kn) b0
  have hpre : ∀ j, j < (bindI kn (i0 cw x)).2.2.2.1 → ofO ov (tm (i0 cw x) j) = some (vl v (tm (i0 cw x) j)) ∧ vl v (tm (i0 cw x) j) < 64 := fun j hj => by
    refine ha.val (fun z1 z2 => ?_)
    have hb : bd (bindI kn (i0 cw x)) j = true := by
      refine (bnd_iff (n := 1) b1 b0 (by decide) (by omega)).mpr ⟨z1, (knP_z (by decide) _).mpr ⟨z2, fun i hi hb => ?_⟩⟩
      rw [bindI_bd b1 b0 (by omega), f2 i (by omega)] at hb; cases hb
    rw [bindI_bd b1 b0 (by omega), f2 j hj] at hb; cases hb
  have hr := cof_rng (v := v) (t := bindI kn (i0 cw x)) (c := c) (by omega) (fun j hj => (hpre j hj).2)
  have hp := fit_pre (kn := kn) (c := c) b1 b0 (bindI kn (i0 cw x)).2.2.2.1 0 v (by omega)
  have hk := fit_walk (kn := kn) (c := c) (n := n) (ov := ov) b1 b0 hn (by omega) (i0 cw x).1.2.2 0 v (by omega) ha rfl
  have hkeep : agr kn (fit1 (bindI kn (i0 cw x)) c v).2 ov := ha.keep (fun k hk => fitP_keep b1 b0 _ _ v (by show _ + ((bindI kn (i0 cw x)).1.2.2 - _) ≤ _; have : (bindI kn (i0 cw x)).1.2.2 = (i0 cw x).1.2.2 := rfl; omega) k hk)
  refine ⟨hkeep, ?_⟩
  have em : mtC cw x c ov = if c / 262144 = x.2.1 then (if (bdF (tm (i0 cw x)) (c % 262144) ov (cw x.2.1)).2.2 then some ((bdF (tm (i0 cw x)) (c % 262144) ov (cw x.2.1)).1, (bdF (tm (i0 cw x)) (c % 262144) ov (cw x.2.1)).2.1) else none) else none := rfl
  rw [em]
  rw [eW] at hk
  have hr' : (cof v (bindI kn (i0 cw x)) ≤ c ∧ c < cof v (bindI kn (i0 cw x)) + 64 ^ (3 - (bindI kn (i0 cw x)).2.2.2.1)) ↔ (c / 262144 = x.2.1 ∧ ∀ j, j < (bindI kn (i0 cw x)).2.2.2.1 → vl v (tm (i0 cw x) j) = vat c j) := hr
  rw [hr']
  by_cases e1 : c / 262144 = x.2.1
  · rw [if_pos e1]
    by_cases e2 : ∀ j, j < (bindI kn (i0 cw x)).2.2.2.1 → vl v (tm (i0 cw x) j) = vat c j
    · have e3 := hp.1 (fun k _ hk => e2 k hk)
      rw [eW] at e3
      rw [show cw x.2.1 - 0 = cw x.2.1 from rfl] at e3
      rw [e3] at hk
      cases hf : (fit1 (bindI kn (i0 cw x)) c v).1 with
      | true =>
        rw [hf] at hk
        refine Or.inl ⟨⟨e1, e2⟩, rfl, ?_⟩
        rw [← hk.1, if_pos rfl]
        exact ⟨_, rfl, hk.2 rfl⟩
      | false =>
        rw [hf] at hk
        refine Or.inr ⟨(fun z => by cases z.2), ?_⟩
        rw [← hk.1]; rfl
    · have e3 := hp.2 (fun z => e2 (fun j hj => z j (Nat.zero_le _) hj))
      rw [eW] at e3
      rw [show cw x.2.1 - 0 = cw x.2.1 from rfl] at e3
      rw [e3] at hk
      refine Or.inr ⟨fun z => e2 z.1.2, ?_⟩
      rw [← hk.1]; rfl
  · rw [if_neg e1]
    exact Or.inr ⟨fun z => e1 z.1.1, rfl⟩
