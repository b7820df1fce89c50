/-! PURE: rules in the making and rules -/
theorem rdP_wR {kf : Nat → Nat} {t : It} {r : Int32} : ∀ j, rdP kf (wR t r) j = rdP kf t j
  | 0 => rfl
  | j + 1 => by
    unfold rdP
    rw [rdP_wR j]
    rfl
theorem rdO_wR {kf : Nat → Nat} {t : It} {r : Int32} : rdO kf (wR t r) = rdO kf t := rdP_wR _
theorem rdP_iff {kf : Nat → Nat} {t : It} : ∀ j, (rdP kf t j).isSome = true ↔ ∀ i, i < j → 64 ≤ tm t i → kf (tm t i - 64) ≠ 0
  | 0 => ⟨fun _ i hi => by omega, fun _ => rfl⟩
  | j + 1 => by
    have ih := rdP_iff (kf := kf) (t := t) j
    unfold rdP
    cases hr : rdP kf t j with
    | none =>
      refine ⟨(fun h => by cases h), fun h => ?_⟩
      have := ih.mpr (fun i hi => h i (by omega))
      rw [hr] at this; cases this
    | some m =>
      have ih := ih.mp (by rw [hr]; rfl)
      dsimp only
      constructor
      · intro h i hi h64
        by_cases e : i = j
        · subst e
          rw [if_neg (by omega)] at h
          intro z
          rw [if_pos z] at h; cases h
        · exact ih i (by omega) h64
      · intro h
        by_cases e : tm t j < 64
        · rw [if_pos e]; rfl
        · rw [if_neg e, if_neg (h j (by omega) (by omega))]; rfl
theorem knP_mono {kn : Nat → Nat} {t : It} {n k : Nat} (hn : n ≠ 0) {i : Nat} (h : knP kn t n i k ≠ 0) : ∀ d, knP kn t n (i + d) k ≠ 0
  | 0 => h
  | d + 1 => by
    have := knP_mono hn h d
    intro z
    have z := (knP_z hn (i + d + 1)).mp z
    exact this ((knP_z hn _).mpr ⟨z.1, fun q hq => z.2 q (by omega)⟩)
theorem knP_known {kn : Nat → Nat} {t : It} (h1 : t.2.2.1 = 0) (h0 : t.2.2.2.1 = t.1.2.2) {n : Nat} (hn : n ≠ 0) {k : Nat} : knP kn (bindI kn t) n t.1.2.2 k ≠ 0 ↔ kn k ≠ 0 ∨ ∃ j, j < t.1.2.2 ∧ tm t j = k + 64 := by
  constructor
  · intro h
    by_cases e : kn k = 0
    · refine Or.inr (Classical.byContradiction (fun hno => h ((knP_z hn _).mpr ⟨e, fun i hi hb z => hno ⟨i, hi, ?_⟩⟩)))
      have := bindI_64 h1 i hi hb
      have z : tm t i - 64 = k := z
      omega
    · exact Or.inl e
  · intro h
    rcases h with h | ⟨j, hj, e⟩
    · rw [knP_keep h1 h0 h _ (Nat.le_refl _)]; exact h
    · intro z
      by_cases hb : bd (bindI kn t) j = true
      · exact ((knP_z hn _).mp z).2 j hj hb (by show tm t j - 64 = k; omega)
      · have : knP kn (bindI kn t) n j (tm t j - 64) ≠ 0 := fun w => hb ((bnd_iff h1 h0 hn hj).mpr ⟨by omega, w⟩)
        have := knP_mono hn this (t.1.2.2 - j)
        rw [show j + (t.1.2.2 - j) = t.1.2.2 by omega, show tm t j - 64 = k by omega] at this
        exact this z
theorem cK_known {cw : Nat → Nat} : ∀ (xs : List MI) (d : Nat) (kn : Nat → Nat) (k : Nat), (∀ x ∈ xs, x.1 = 0) → (cK cw d kn xs k ≠ 0 ↔ kn k ≠ 0 ∨ ∃ x ∈ xs, ∃ j, j < cw x.2.1 ∧ t3 x.2.2 j = k + 64)
  | [], d, kn, k, _ => ⟨Or.inl, fun h => h.elim id (fun ⟨x, hx, _⟩ => by cases hx)⟩
  | x :: xs, d, kn, k, h => by
    have hx := h x List.mem_cons_self
    show cK cw (d + 1) _ xs k ≠ 0 ↔ _
    rw [cK_known xs (d + 1) _ k (fun y hy => h y (List.mem_cons_of_mem _ hy))]
    have hk := knP_known (kn := kn) (t := i0 cw x) rfl rfl (n := d + 1) (by omega) (k := k)
    rw [i0_w hx] at hk
    rw [hk]
    constructor
    · rintro ((z | ⟨j, z1, z2⟩) | ⟨y, hy, z⟩)
      · exact Or.inl z
      · exact Or.inr ⟨x, List.mem_cons_self, j, z1, z2⟩
      · exact Or.inr ⟨y, List.mem_cons_of_mem _ hy, z⟩
    · rintro (z | ⟨y, hy, j, z1, z2⟩)
      · exact Or.inl (Or.inl z)
      · rcases List.mem_cons.mp hy with e | e
        · subst e; exact Or.inl (Or.inr ⟨j, z1, z2⟩)
        · exact Or.inr ⟨y, e, j, z1, z2⟩
theorem hdB_iff {R : MR} {v : Nat} : hdB R v = true ↔ v < 64 ∨ ∃ x ∈ R.2, x.1 = 0 ∧ ∃ i, i < 3 ∧ t3 x.2.2 i = v := by
  unfold hdB hdJ
  rw [Bool.or_eq_true, decide_eq_true_iff, List.any_eq_true]
  refine or_congr Iff.rfl (exists_congr (fun x => and_congr Iff.rfl ?_))
  rw [Bool.and_eq_true, decide_eq_true_iff, List.any_eq_true]
  refine and_congr Iff.rfl (exists_congr (fun i => ?_))
  rw [List.mem_range, decide_eq_true_iff]
theorem sfJ_iff {R : MR} : sfJ R 3 = true ↔ ∀ j, j < 3 → hdB R (t3 R.1.2 j) = true ∧ ∀ x ∈ R.2, hdB R (t3 x.2.2 j) = true := by
  unfold sfJ
  rw [List.all_eq_true]
  refine ⟨fun h j hj => ?_, fun h j hj => ?_⟩
  · have := h j (List.mem_range.mpr hj)
    rw [Bool.and_eq_true, List.all_eq_true] at this
    exact this
  · rw [Bool.and_eq_true, List.all_eq_true]
    exact h j (List.mem_range.mp hj)
section SAFE
variable {nr : Nat} {cw : Nat → Nat} {R : MR}
theorem rK_iff (hR : rOK nr cw R) {k : Nat} : rK cw R k ≠ 0 ↔ hdB R (k + 64) = true := by
  unfold rK
  rw [cK_known _ _ _ _ (fun x hx => (hls_mem.mp hx).2), hdB_iff]
  constructor
  · rintro (z | ⟨x, hx, j, z1, z2⟩)
    · exact absurd rfl z
    · obtain ⟨x1, x2⟩ := hls_mem.mp hx
      have := (hR.hls x hx).2
      exact Or.inr ⟨x, x1, x2, j, by omega, z2⟩
  · rintro (z | ⟨x, x1, x2, j, z1, z2⟩)
    · omega
    · refine Or.inr ⟨x, hls_mem.mpr ⟨x1, x2⟩, j, ?_, z2⟩
      rcases Nat.lt_or_ge j (cw x.2.1) with e | e
      · exact e
      · have hy := (hR.2.2.2.2.2 x x1).1.2.2 j (by unfold iW; rw [if_pos (by omega)]; exact e) z1
        omega
theorem rd_iff (hR : rOK nr cw R) {y : MI} (hy : yOK cw y) : (rdO (rK cw R) (i0 cw y)).isSome = true ↔ ∀ j, j < 3 → hdB R (t3 y.2.2 j) = true := by
  unfold rdO
  rw [rdP_iff]
  have e1 : (i0 cw y).1.2.2 = iW cw y := rfl
  have e2 : ∀ j, tm (i0 cw y) j = t3 y.2.2 j := fun j => rfl
  rw [e1]
  constructor
  · intro h j hj
    by_cases h64 : 64 ≤ t3 y.2.2 j
    · rcases Nat.lt_or_ge j (iW cw y) with w | w
      · have := h j w h64
        rw [e2, rK_iff hR, show t3 y.2.2 j - 64 + 64 = t3 y.2.2 j by omega] at this
        exact this
      · have := hy.2.2 j w hj; omega
    · exact hdB_iff.mpr (Or.inl (by omega))
  · intro h j hj h64
    have h64 : 64 ≤ t3 y.2.2 j := h64
    have := hy.2.1
    rw [e2, rK_iff hR, show t3 y.2.2 j - 64 + 64 = t3 y.2.2 j by omega]
    exact h j (by omega)
theorem sf_rSF (hR : rOK nr cw R) : sfJ R 3 = true ↔ (rdO (rK cw R) (i0 cw (hdI R))).isSome = true ∧ ∀ y ∈ rY R, (rdO (rK cw R) (i0 cw y)).isSome = true := by
  rw [sfJ_iff, rd_iff hR hR.2.2.1]
  constructor
  · intro h
    refine ⟨fun j hj => (h j hj).1, fun y hy => ?_⟩
    rw [rd_iff hR (hR.rY y hy).2]
    exact fun j hj => (h j hj).2 y (rY_mem.mp hy).1
  · rintro ⟨h1, h2⟩ j hj
    refine ⟨h1 j hj, fun x hx => ?_⟩
    by_cases e : x.1 = 0
    · exact hdB_iff.mpr (Or.inr ⟨x, hx, e, j, hj, rfl⟩)
    · have := h2 x (rY_mem.mpr ⟨hx, e⟩)
      rw [rd_iff hR (hR.2.2.2.2.2 x hx).1] at this
      exact this j hj
theorem rSF_of (hR : rOK nr cw R) (h : sfJ R 3 = true) : rSF cw R := by
  obtain ⟨h1, h2⟩ := (sf_rSF hR).mp h
  exact ⟨Option.isSome_iff_exists.mp h1, fun y hy => Option.isSome_iff_exists.mp (h2 y hy)⟩
end SAFE
/-! the making of a rule -/
def drR (nr : Nat) (cw : Nat → Nat) : Option Dr → Option MR → Prop
  | none, none => True
  | some D, some R => rOK nr cw R ∧ wR D.1 (nI 0) = i0 cw (hdI R) ∧ D.2.1 = rH cw R ∧ D.2.2.1.map (fun t => wR t (nI 0)) = (rY R).map (i0 cw) ∧ D.2.2.2 = rK cw R
  | _, _ => False
theorem cH_snoc {cw : Nat → Nat} {x : MI} : ∀ (xs : List MI) (d : Nat) (kn : Nat → Nat), cH cw d kn (xs ++ [x]) = cH cw d kn xs ++ [bindI (cK cw d kn xs) (i0 cw x)] ∧ cK cw d kn (xs ++ [x]) = knP (cK cw d kn xs) (bindI (cK cw d kn xs) (i0 cw x)) (d + xs.length + 1) (cw x.2.1)
  | [], d, kn => ⟨rfl, rfl⟩
  | y :: xs, d, kn => by
    obtain ⟨i1, i2⟩ := cH_snoc (x := x) xs (d + 1) (knP kn (bindI kn (i0 cw y)) (d + 1) (cw y.2.1))
    constructor
    · show bindI kn (i0 cw y) :: cH cw (d + 1) _ (xs ++ [x]) = _
      rw [i1]; rfl
    · show cK cw (d + 1) _ (xs ++ [x]) = _
      rw [i2, List.length_cons, show d + 1 + xs.length + 1 = d + (xs.length + 1) + 1 by omega]; rfl
theorem hls_snoc0 {R : MR} {x : MI} (h : x.1 = 0) : hls (R.1, R.2 ++ [x]) = hls R ++ [x] ∧ rY (R.1, R.2 ++ [x]) = rY R := by
  constructor
  · show (R.2 ++ [x]).filter _ = R.2.filter _ ++ [x]
    rw [List.filter_append, List.filter_cons_of_pos (by rw [decide_eq_true h])]; rfl
  · show (R.2 ++ [x]).filter _ = R.2.filter _
    rw [List.filter_append, List.filter_cons_of_neg (by rw [decide_eq_true h]; decide)]
    exact List.append_nil _
theorem hls_snoc1 {R : MR} {x : MI} (h : x.1 ≠ 0) : hls (R.1, R.2 ++ [x]) = hls R ∧ rY (R.1, R.2 ++ [x]) = rY R ++ [x] := by
  constructor
  · show (R.2 ++ [x]).filter _ = R.2.filter _
    rw [List.filter_append, List.filter_cons_of_neg (by rw [decide_eq_false h]; decide)]
    exact List.append_nil _
  · show (R.2 ++ [x]).filter _ = R.2.filter _ ++ [x]
    rw [List.filter_append, List.filter_cons_of_pos (by rw [decide_eq_false h]; rfl)]; rfl
theorem wi1 {n : Nat} (hn : n < 2 ^ 31) (h : wi 1 (nI n) = true) : n = 0 := by
  rw [wi_one, decide_eq_true_iff] at h
  exact gs_z hn h
theorem wi3_0 {b w x y z : Nat} (hx : x < 72) (hy : y < 72) (hz : z < 72) (h1 : 1 ≤ w) (h : wi3 b w (nI x) (nI y) (nI z) = true) : ∀ j, w ≤ j → j < 3 → t3 (x, y, z) j = 0 := by
  unfold wi3 at h
  rw [Bool.and_eq_true, Bool.and_eq_true] at h
  obtain ⟨⟨_, h2⟩, h3⟩ := h
  intro j hj hj3
  have y31 : y < 2 ^ 31 := by omega
  have z31 : z < 2 ^ 31 := by omega
  unfold t3
  rw [if_neg (by omega)]
  by_cases e : j = 1
  · rw [if_pos e]
    rw [if_neg (by omega)] at h2
    exact wi1 y31 h2
  · rw [if_neg e]
    rcases Nat.lt_or_ge 2 w with g | g
    · omega
    · rw [if_neg (by omega)] at h3
      exact wi1 z31 h3
theorem t3_72 {x y z : Nat} (hx : x < 72) (hy : y < 72) (hz : z < 72) : ∀ j, t3 (x, y, z) j < 72 := fun j => by
  unfold t3
  split
  · exact hx
  · split
    · exact hy
    · exact hz
theorem yOK_01 {cw : Nat → Nat} {kd rl a b z : Nat} (hk : kd < 2) (hw : 1 ≤ cw rl ∧ cw rl ≤ 3) (ha : a < 72) (hb : b < 72) (hz : z < 72) (h : wi3 72 (cw rl) (nI a) (nI b) (nI z) = true) : yOK cw (kd, rl, a, b, z) := by
  have e : iW cw (kd, rl, a, b, z) = cw rl := by unfold iW; rw [if_pos hk]
  refine ⟨by show kd ≤ 3; omega, by rw [e]; exact hw.2, fun j hj hj3 => ?_⟩
  rw [e] at hj
  exact wi3_0 ha hb hz hw.1 h j hj hj3
theorem yOK_23 {cw : Nat → Nat} {kd a b z : Nat} (hk : kd = 2 ∨ kd = 3) (ha : a < 72) (hb : b < 72) (hz : z < 72) (h : wi3 72 2 (nI a) (nI b) (nI z) = true) : yOK cw (kd, 0, a, b, z) := by
  have e : iW cw (kd, 0, a, b, z) = 2 := by unfold iW; rw [if_neg (by show ¬ kd < 2; omega)]
  refine ⟨by show kd ≤ 3; omega, by rw [e]; omega, fun j hj hj3 => ?_⟩
  rw [e] at hj
  exact wi3_0 ha hb hz (by decide) h j hj hj3
theorem rOK_snoc {nr : Nat} {cw : Nat → Nat} {R : MR} {x : MI} (h : rOK nr cw R) (hl : R.2.length < 6) (hh : x.1 ≠ 0 ∨ hl0 R < 3) (hy : yOK cw x) (hr : x.1 < 2 → x.2.1 < nr) (ht : ∀ j, t3 x.2.2 j < 72) : rOK nr cw (R.1, R.2 ++ [x]) := by
  obtain ⟨h1, h2, h3, h4, h5, h6⟩ := h
  refine ⟨h1, h2, h3, by rw [List.length_append]; exact hl, ?_, fun y hy2 => ?_⟩
  · rcases hh with e | e
    · rw [(hls_snoc1 e).1]; exact h5
    · by_cases e0 : x.1 = 0
      · rw [(hls_snoc0 e0).1, List.length_append]; exact e
      · rw [(hls_snoc1 e0).1]; exact h5
  · rcases List.mem_append.mp hy2 with z | z
    · exact h6 y z
    · rw [List.mem_singleton.mp z]; exact ⟨hy, hr, ht⟩
theorem stl_rlO {nr : Nat} {cw : Nat → Nat} {th : It} {hs ks : List It} {kn : Nat → Nat} {R : MR} (h : drR nr cw (some (th, hs, ks, kn)) (some R)) : stl kn th hs ks = rlO cw R := by
  obtain ⟨_, h2, h3, h4, h5⟩ := h
  have h2 : wR th (nI 0) = i0 cw (hdI R) := h2
  have h3 : hs = rH cw R := h3
  have h4 : ks.map (fun t => wR t (nI 0)) = (rY R).map (i0 cw) := h4
  have h5 : kn = rK cw R := h5
  unfold stl rlO kI
  have ew : ∀ (t : It) (r s : Int32), wR (wR t r) s = wR t s := fun t r s => rfl
  have e1 : wR th (rdI (rdO kn th)) = wR (i0 cw (hdI R)) (rdI (rdO (rK cw R) (i0 cw (hdI R)))) := by
    rw [← h2, ew, rdO_wR, h5]
  have e2 : ks.map (fun t => wR t (rdI (rdO kn t))) = (rY R).map (fun y => wR (i0 cw y) (rdI (rdO (rK cw R) (i0 cw y)))) := by
    have : (fun y => wR (i0 cw y) (rdI (rdO (rK cw R) (i0 cw y)))) = (fun t => wR t (rdI (rdO (rK cw R) t))) ∘ i0 cw := rfl
    rw [this, ← List.map_map, ← h4, List.map_map, h5]
    congr 1
    funext t
    show wR t (rdI (rdO (rK cw R) t)) = wR (wR t (nI 0)) (rdI (rdO (rK cw R) (wR t (nI 0))))
    rw [rdO_wR]; rfl
  rw [e1, e2, h3]
theorem safe_eq {nr : Nat} {cw : Nat → Nat} {th : It} {hs ks : List It} {kn : Nat → Nat} {R : MR} (h : drR nr cw (some (th, hs, ks, kn)) (some R)) : safeB kn th ks = sfJ R 3 := by
  obtain ⟨h1, h2, h3, h4, h5⟩ := h
  have h2 : wR th (nI 0) = i0 cw (hdI R) := h2
  have h4 : ks.map (fun t => wR t (nI 0)) = (rY R).map (i0 cw) := h4
  have h5 : kn = rK cw R := h5
  rw [Bool.eq_iff_iff, sf_rSF h1]
  unfold safeB
  rw [Bool.and_eq_true, ← rdO_wR (t := th) (r := nI 0), h2, h5]
  refine and_congr Iff.rfl ?_
  have e : ks.all (fun t => (rdO (rK cw R) t).isSome) = (ks.map (fun t => wR t (nI 0))).all (fun t => (rdO (rK cw R) t).isSome) := by
    rw [List.all_map]
    congr 1
    funext t
    show _ = (rdO (rK cw R) (wR t (nI 0))).isSome
    rw [rdO_wR]
  rw [e, h4, List.all_map, List.all_eq_true]
  exact Iff.rfl
theorem cH_cg {cw cw' : Nat → Nat} : ∀ (xs : List MI) (d : Nat) (kn : Nat → Nat), (∀ x ∈ xs, i0 cw' x = i0 cw x ∧ cw' x.2.1 = cw x.2.1) → cH cw' d kn xs = cH cw d kn xs ∧ cK cw' d kn xs = cK cw d kn xs
  | [], _, _, _ => ⟨rfl, rfl⟩
  | x :: xs, d, kn, h => by
    obtain ⟨e1, e2⟩ := h x List.mem_cons_self
    unfold cH cK
    rw [e1, e2]
    obtain ⟨i1, i2⟩ := cH_cg xs (d + 1) (knP kn (bindI kn (i0 cw x)) (d + 1) (cw x.2.1)) (fun y hy => h y (List.mem_cons_of_mem _ hy))
    rw [i1, i2]
    exact ⟨rfl, rfl⟩
section WID
variable {nr nr' : Nat} {cw cw' : Nat → Nat} (hn : nr ≤ nr') (hc : ∀ r, r < nr → cw' r = cw r)
theorem iW_cg (hc : ∀ r, r < nr → cw' r = cw r) {x : MI} (h : x.1 < 2 → x.2.1 < nr) : iW cw' x = iW cw x := by
  unfold iW
  by_cases e : x.1 < 2
  · rw [if_pos e, if_pos e, hc _ (h e)]
  · rw [if_neg e, if_neg e]
theorem i0_cg (hc : ∀ r, r < nr → cw' r = cw r) {x : MI} (h : x.1 < 2 → x.2.1 < nr) : i0 cw' x = i0 cw x := by unfold i0; rw [iW_cg hc h]
theorem yOK_cg (hc : ∀ r, r < nr → cw' r = cw r) {x : MI} (h : x.1 < 2 → x.2.1 < nr) (hy : yOK cw x) : yOK cw' x := by
  unfold yOK at hy ⊢
  rw [iW_cg hc h]; exact hy
theorem rOK_cg (hn : nr ≤ nr') (hc : ∀ r, r < nr → cw' r = cw r) {R : MR} (h : rOK nr cw R) : rOK nr' cw' R := by
  obtain ⟨h1, h2, h3, h4, h5, h6⟩ := h
  refine ⟨by omega, h2, yOK_cg hc (fun _ => h1) h3, h4, h5, fun x hx => ?_⟩
  obtain ⟨a, b, c⟩ := h6 x hx
  exact ⟨yOK_cg hc b a, fun z => Nat.lt_of_lt_of_le (b z) hn, c⟩
theorem rH_cg (hc : ∀ r, r < nr → cw' r = cw r) {R : MR} (h : rOK nr cw R) : rH cw' R = rH cw R ∧ rK cw' R = rK cw R := by
  refine cH_cg _ _ _ (fun x hx => ?_)
  obtain ⟨x1, x2⟩ := hls_mem.mp hx
  have := (h.2.2.2.2.2 x x1).2.1
  exact ⟨i0_cg hc this, hc _ (this (by omega))⟩
theorem rlO_cg (hc : ∀ r, r < nr → cw' r = cw r) {R : MR} (h : rOK nr cw R) : rlO cw' R = rlO cw R := by
  obtain ⟨e1, e2⟩ := rH_cg hc h
  unfold rlO kI
  rw [e1, e2, i0_cg hc (x := hdI R) (fun _ => h.1)]
  congr 2
  refine List.map_congr_left (fun y hy => ?_)
  rw [i0_cg hc (h.2.2.2.2.2 y (rY_mem.mp hy).1).2.1]
theorem drR_cg (hn : nr ≤ nr') (hc : ∀ r, r < nr → cw' r = cw r) {dr : Option Dr} {drM : Option MR} (h : drR nr cw dr drM) : drR nr' cw' dr drM := by
  cases dr with
  | none =>
    cases drM with
    | none => trivial
    | some R => exact h.elim
  | some D =>
    cases drM with
    | none => exact h.elim
    | some R =>
      obtain ⟨h1, h2, h3, h4, h5⟩ := h
      obtain ⟨e1, e2⟩ := rH_cg hc h1
      refine ⟨rOK_cg hn hc h1, by rw [i0_cg hc (x := hdI R) (fun _ => h1.1)]; exact h2, by rw [e1]; exact h3, ?_, by rw [e2]; exact h5⟩
      rw [h4]
      refine List.map_congr_left (fun y hy => ?_)
      rw [i0_cg hc (h1.2.2.2.2.2 y (rY_mem.mp hy).1).2.1]
end WID
