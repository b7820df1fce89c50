/-! PURE: what is read -/
theorem cb_rng {L : List Nat} (h : L.Pairwise (· ≤ ·)) {lo hi : Nat} (hl : lo ≤ hi) : cb L hi - cb L lo = L.countP (fun c => decide (lo ≤ c) && decide (c < hi)) := by
  rw [← rng_len, rng_eq h hl, List.countP_eq_length_filter]
section RD
variable {nr : Nat} {cw : Nat → Nat} {E : List En} {F : List (Nat × Nat)} {T : List MT}
theorem tpR.cbs (h : tpR nr cw E F T) (hn : nr ≤ 12) {rl t : Nat} (hr : rl < nr) (ht : t ≤ 262144) : cb (cds E) (262144 * rl + t) - cb (cds E) (rl * 262144) = T.countP (fun y => decide (nI y.1 = nI rl) && decide (y.2.1 < t)) := by
  rw [cb_rng (pw_le h.2.1) (by omega), h.pm.countP_eq]
  show (T.map _).countP _ = _
  rw [List.countP_map]
  refine List.countP_congr (fun x hx => ?_)
  obtain ⟨a, b, _⟩ := h.2.2.2.2.2 x hx
  show (decide (rl * 262144 ≤ 262144 * x.1 + x.2.1) && decide (262144 * x.1 + x.2.1 < 262144 * rl + t)) = true ↔ _
  simp only [Bool.and_eq_true, decide_eq_true_iff]
  rw [nI_eq (by omega) (by omega)]
  omega
theorem tpR.cnt (h : tpR nr cw E F T) (hn : nr ≤ 12) {rl : Nat} (hr : rl < nr) : cb (cds E) ((rl + 1) * 262144) - cb (cds E) (rl * 262144) = cnR T (nI rl) := by
  have := h.cbs hn hr (Nat.le_refl 262144)
  rw [show (rl + 1) * 262144 = 262144 * rl + 262144 by omega, this]
  unfold cnR
  rw [← List.countP_eq_length_filter]
  refine List.countP_congr (fun x hx => ?_)
  have hb := (h.2.2.2.2.2 x hx).2.1
  simp only [Bool.and_eq_true, decide_eq_true_iff]
  exact ⟨fun z => z.1, fun z => ⟨z, hb⟩⟩
theorem tpR.bf (h : tpR nr cw E F T) (hn : nr ≤ 12) {rl t : Nat} (hr : rl < nr) (ht : t ≤ 262144) : cb (cds E) (262144 * rl + t) - cb (cds E) (rl * 262144) = bfT T (nI rl) t T.length := by
  rw [h.cbs hn hr ht]
  unfold bfT
  rw [List.take_length, List.countP_eq_length_filter]
theorem atT_some {T : List MT} {r pl : Int32} : ∀ (k n : Nat), atT T r pl k = some n → n < k ∧ ∃ x, T[n]? = some x ∧ nI x.1 = r ∧ nI (bfT T r x.2.1 T.length) = pl
  | 0, n, h => by cases h
  | k + 1, n, h => by
    unfold atT at h
    cases hx : T[k]? with
    | none =>
      rw [hx] at h
      obtain ⟨a, b⟩ := atT_some k n h
      exact ⟨by omega, b⟩
    | some x =>
      rw [hx] at h
      dsimp only at h
      split at h
      · rename_i hc
        cases h
        exact ⟨by omega, x, hx, hc⟩
      · obtain ⟨a, b⟩ := atT_some k n h
        exact ⟨by omega, b⟩
theorem atT_is {T : List MT} {r pl : Int32} : ∀ (k n : Nat) (x : MT), n < k → T[n]? = some x → nI x.1 = r → nI (bfT T r x.2.1 T.length) = pl → (atT T r pl k).isSome = true
  | 0, n, x, h, _, _, _ => by omega
  | k + 1, n, x, h, hx, h1, h2 => by
    unfold atT
    by_cases e : n = k
    · subst e
      rw [hx]
      dsimp only
      rw [if_pos ⟨h1, h2⟩]; rfl
    · have ih := atT_is k n x (by omega) hx h1 h2
      split
      · split
        · rfl
        · exact ih
      · exact ih
theorem cb_succ {L : List Nat} {lo hi : Nat} (h : lo ≤ hi) : cb L lo ≤ cb L hi := cb_mono h
theorem tpR.tuple (h : tpR nr cw E F T) (hn : nr ≤ 12) {rl : Nat} (hr : rl < nr) :
    (∀ pl : Int32, (¬ pl < 0 ∧ pl < nI (cb (cds E) ((rl + 1) * 262144) - cb (cds E) (rl * 262144))) ↔ (atT T (nI rl) pl T.length).isSome = true) ∧
    ∀ pl x k9 x9 wh, pl < cb (cds E) ((rl + 1) * 262144) - cb (cds E) (rl * 262144) → E[cb (cds E) (rl * 262144) + pl]? = some x → atT T (nI rl) (nI pl) T.length = some k9 → T[k9]? = some x9 → wh < 5 → tupR x wh = tupM x9 wh := by
  obtain ⟨h1, h2, h3, h4, h5, h7⟩ := id h
  have hlen := h.len
  have hcl : ∀ c, cb (cds E) c ≤ 300 := fun c => by have := cb_le (cds E) c; omega
  have hmono : ∀ {a b : Nat}, a ≤ b → cb (cds E) a ≤ cb (cds E) b := fun z => cb_mono z
  have hpos : ∀ y ∈ T, y.1 = rl → cb (cds E) (262144 * rl + y.2.1) = cb (cds E) (rl * 262144) + bfT T (nI rl) y.2.1 T.length ∧ cb (cds E) (262144 * rl + y.2.1) < cb (cds E) ((rl + 1) * 262144) := fun y hy he => by
    have hb := (h7 y hy).2.1
    have e1 := h.bf hn hr (t := y.2.1) (by omega)
    have e2 := hmono (a := rl * 262144) (b := 262144 * rl + y.2.1) (by omega)
    refine ⟨by omega, ?_⟩
    have hc : 262144 * rl + y.2.1 ∈ cds E := (h.mem _).mpr (List.mem_map.mpr ⟨y, hy, by rw [he]⟩)
    have := (mem_cb (pw_le h2) _).mp hc
    exact (cb_iff (cds E) (pw_le h2) ((rl + 1) * 262144) _ _ this).mp (by omega)
  constructor
  · intro pl
    constructor
    · rintro ⟨p0, p1⟩
      obtain ⟨q, hq, rfl⟩ := nI_of p0
      have p1 := (nI_ltI hq (by have := hcl ((rl + 1) * 262144); omega)).mp p1
      have hi : cb (cds E) (rl * 262144) + q < (cds E).length := by have := cb_le (cds E) ((rl + 1) * 262144); omega
      obtain ⟨c, hc⟩ := get_ex hi
      have hlo := (cb_iff (cds E) (pw_le h2) (rl * 262144) _ _ hc)
      have hhi := (cb_iff (cds E) (pw_le h2) ((rl + 1) * 262144) _ _ hc)
      have hcm : c ∈ cds E := List.mem_of_getElem? hc
      obtain ⟨y, hy, hye⟩ := List.mem_map.mp ((h.mem c).mp hcm)
      have hb := (h7 y hy).2.1
      have g1 : ¬ c < rl * 262144 := fun z => by have := hlo.mp z; omega
      have g2 : c < (rl + 1) * 262144 := hhi.mpr (by omega)
      have hye : 262144 * y.1 + y.2.1 = c := hye
      have hr1 : y.1 = rl := by omega
      have hix := cb_uniq h2 hc
      have hp := (hpos y hy hr1).1
      rw [show 262144 * rl + y.2.1 = c by omega, hix] at hp
      obtain ⟨n, hnn⟩ := List.getElem?_of_mem hy
      exact atT_is _ n y (List.getElem?_eq_some_iff.mp hnn).1 hnn (by rw [hr1]) (by congr 1; omega)
    · intro hs
      obtain ⟨n, hnn⟩ := Option.isSome_iff_exists.mp hs
      obtain ⟨hlt, x, hx, hx1, hx2⟩ := atT_some _ n hnn
      have hy := List.mem_of_getElem? hx
      have hr1 : x.1 = rl := (nI_eq (by have := (h7 x hy).1; omega) (by omega)).mp hx1
      obtain ⟨p1, p2⟩ := hpos x hy hr1
      have := hcl ((rl + 1) * 262144)
      rw [← hx2]
      refine ⟨nI_pos (by omega), nI_lt (by omega) (by omega)⟩
  · intro pl x k9 x9 wh hpl hx hat hx9 hwh
    obtain ⟨hlt, x', hx', hx1, hx2⟩ := atT_some _ k9 hat
    rw [hx9] at hx'; cases hx'
    have hy := List.mem_of_getElem? hx9
    have hr1 : x9.1 = rl := (nI_eq (by have := (h7 x9 hy).1; omega) (by omega)).mp hx1
    obtain ⟨p1, p2⟩ := hpos x9 hy hr1
    have := hcl ((rl + 1) * 262144)
    have hbe : bfT T (nI rl) x9.2.1 T.length = pl := (nI_eq (by omega) (by omega)).mp hx2
    have hc : 262144 * rl + x9.2.1 ∈ cds E := (h.mem _).mpr (List.mem_map.mpr ⟨x9, hy, by rw [hr1]⟩)
    obtain ⟨e, he, hee⟩ := cds_get ((mem_cb (pw_le h2) _).mp hc)
    rw [p1, hbe, hx] at he
    cases he
    have hin : enT x9 ∈ E := h1.mem_iff.mpr (List.mem_map_of_mem hy)
    have hev : x = enT x9 := inj_nd (lt_nd h2) (List.mem_of_getElem? hx) hin (by rw [hee]; show _ = 262144 * x9.1 + x9.2.1; rw [hr1])
    rw [hev]
    have hb := (h7 x9 hy).2.1
    unfold tupR tupM
    by_cases e3 : wh < 3
    · rw [if_pos e3, if_pos e3]
      show nI (vat (262144 * x9.1 + x9.2.1) wh) = _
      rw [← vat_cl _ e3, show (262144 * x9.1 + x9.2.1) % 262144 = x9.2.1 by omega]
    · rw [if_neg e3, if_neg e3]
      rfl
end RD
/-! like -/
theorem bdF_none {ts : Nat → Nat} {t : Nat} : ∀ j, (∀ k, (bdF ts t (fun _ => none) j).1 k = none ↔ ∀ i, i < j → ts i ≠ k + 64) ∧ ((bdF ts t (fun _ => none) j).2.2 = true ↔ ∀ i, i < j → (ts i < 64 → ts i = clM t i) ∧ ∀ i', i' < i → 64 ≤ ts i → ts i' = ts i → clM t i' = clM t i) ∧ ((bdF ts t (fun _ => none) j).2.2 = true → ∀ i, i < j → 64 ≤ ts i → (bdF ts t (fun _ => none) j).1 (ts i - 64) = some (clM t i))
  | 0 => ⟨fun k => ⟨fun _ i hi => by omega, fun _ => rfl⟩, ⟨fun _ i hi => by omega, fun _ => rfl⟩, fun _ i hi => by omega⟩
  | j + 1 => by
    obtain ⟨i1, i2, i3⟩ := bdF_none (ts := ts) (t := t) j
    rw [bdF_s]
    generalize bdF ts t (fun _ => none) j = s at i1 i2 i3 ⊢
    unfold bd1
    cases hn : ofO s.1 (ts j) with
    | none =>
      rw [if_pos rfl]
      have h64 : 64 ≤ ts j := by
        unfold ofO at hn
        split at hn
        · cases hn
        · omega
      have hno : s.1 (ts j - 64) = none := by
        unfold ofO at hn
        rw [if_neg (by omega)] at hn; exact hn
      have hfr : ∀ i, i < j → ts i ≠ ts j := fun i hi e => (i1 _).mp hno i hi (by omega)
      refine ⟨fun k => ?_, ?_, ?_⟩
      · show va_up s.1 (ts j - 64) (some (clM t j)) k = none ↔ _
        unfold va_up
        by_cases e : k = ts j - 64
        · rw [if_pos e]
          exact ⟨(fun z => by cases z), fun z => absurd (show ts j = k + 64 by omega) (z j (by omega))⟩
        · rw [if_neg e, i1]
          refine ⟨fun z i hi => ?_, fun z i hi => z i (by omega)⟩
          by_cases e2 : i = j
          · rw [e2]; omega
          · exact z i (by omega)
      · show s.2.2 = true ↔ _
        rw [i2]
        refine ⟨fun z i hi => ?_, fun z i hi => z i (by omega)⟩
        by_cases e2 : i = j
        · rw [e2]
          exact ⟨fun w => by omega, fun i' hi' _ w => absurd w (hfr i' hi')⟩
        · exact z i (by omega)
      · intro hs i hi h6
        have hs : s.2.2 = true := hs
        show va_up s.1 (ts j - 64) (some (clM t j)) (ts i - 64) = _
        unfold va_up
        by_cases e2 : i = j
        · rw [e2, if_pos rfl]
        · rw [if_neg (fun z => hfr i (by omega) (by omega))]
          exact i3 hs i (by omega) h6
    | some n =>
      rw [if_neg (by simp)]
      have hv : (ts j < 64 ∧ n = ts j) ∨ (64 ≤ ts j ∧ s.1 (ts j - 64) = some n) := by
        unfold ofO at hn
        split at hn
        · rename_i e; cases hn; exact Or.inl ⟨e, rfl⟩
        · exact Or.inr ⟨by omega, hn⟩
      refine ⟨fun k => ?_, ?_, ?_⟩
      · rw [i1]
        refine ⟨fun z i hi => ?_, fun z i hi => z i (by omega)⟩
        by_cases e2 : i = j
        · rw [e2]
          intro e
          rcases hv with w | ⟨w1, w2⟩
          · omega
          · rw [show ts j - 64 = k by omega, (i1 k).mpr z] at w2; cases w2
        · exact z i (by omega)
      · show (s.2.2 && decide (some n = some (clM t j))) = true ↔ _
        rw [Bool.and_eq_true, decide_eq_true_iff]
        constructor
        · rintro ⟨z1, z2⟩ i hi
          have z2 : n = clM t j := Option.some.inj z2
          by_cases e2 : i = j
          · rw [e2]
            rcases hv with ⟨w1, w2⟩ | ⟨w1, w2⟩
            · exact ⟨fun _ => by omega, fun i' hi' w => by omega⟩
            · refine ⟨fun w => by omega, fun i' hi' _ e => ?_⟩
              have := i3 z1 i' hi' (by omega)
              rw [e, w2] at this
              have := Option.some.inj this
              omega
          · exact i2.mp z1 i (by omega)
        · intro z
          have z1 : s.2.2 = true := i2.mpr (fun i hi => z i (by omega))
          refine ⟨z1, ?_⟩
          congr 1
          obtain ⟨y1, y2⟩ := z j (by omega)
          rcases hv with ⟨w1, w2⟩ | ⟨w1, w2⟩
          · rw [w2]; exact y1 w1
          · have hex : ∃ i, i < j ∧ ts i = ts j := Classical.byContradiction (fun hno => by
              have := (i1 (ts j - 64)).mpr (fun i hi e => hno ⟨i, hi, by omega⟩)
              rw [this] at w2; cases w2)
            obtain ⟨i, hi, he⟩ := hex
            have := i3 z1 i hi (by omega)
            rw [he, w2] at this
            have := Option.some.inj this
            rw [this]; exact y2 i hi w1 he
      · intro hs i hi h6
        have hs : (s.2.2 && decide (some n = some (clM t j))) = true := hs
        rw [Bool.and_eq_true, decide_eq_true_iff] at hs
        by_cases e2 : i = j
        · rw [e2] at h6 ⊢
          rcases hv with w | ⟨w1, w2⟩
          · omega
          · show s.1 _ = _
            rw [w2]; exact hs.2
        · exact i3 hs.1 i (by omega) h6
theorem mtc_like {cw : Nat → Nat} {rl a b z : Nat} {t : MT} (hw1 : 1 ≤ cw rl) (hw : cw rl ≤ 3) (hy : ∀ j, cw rl ≤ j → j < 3 → t3 (a, b, z) j = 0) (hc : t.1 = rl → ∀ j, cw rl ≤ j → j < 3 → clM t.2.1 j = 0) : (mtc cw (0, rl, a, b, z) t (fun _ => none)).isSome = lk2 rl a b z t := by
  rw [Bool.eq_iff_iff]
  unfold mtc lk2 lk1
  by_cases e : t.1 = rl
  · have e' : t.1 = ((0, rl, a, b, z) : MI).2.1 := e
    rw [if_pos e']
    have hb := (bdF_none (ts := t3 (a, b, z)) (t := t.2.1) (cw rl)).2.1
    have hc := hc e
    have a0 : t3 (a, b, z) 0 = a := rfl
    have a1 : t3 (a, b, z) 1 = b := rfl
    have a2 : t3 (a, b, z) 2 = z := rfl
    have key : (bdF (t3 (a, b, z)) t.2.1 (fun _ => none) (cw rl)).2.2 = true ↔ ((0 < cw rl → (a < 64 → a = clM t.2.1 0)) ∧ (1 < cw rl → (b < 64 → b = clM t.2.1 1) ∧ (64 ≤ b → a = b → clM t.2.1 0 = clM t.2.1 1)) ∧ (2 < cw rl → (z < 64 → z = clM t.2.1 2) ∧ (64 ≤ z → a = z → clM t.2.1 0 = clM t.2.1 2) ∧ (64 ≤ z → b = z → clM t.2.1 1 = clM t.2.1 2))) := by
      rw [hb]
      constructor
      · intro h
        exact ⟨fun w => (h 0 w).1, fun w => ⟨(h 1 w).1, (h 1 w).2 0 (by decide)⟩, fun w => ⟨(h 2 w).1, (h 2 w).2 0 (by decide), (h 2 w).2 1 (by decide)⟩⟩
      · rintro ⟨g0, g1, g2⟩ i hi
        rcases (show i = 0 ∨ i = 1 ∨ i = 2 by omega) with rfl | rfl | rfl
        · exact ⟨g0 hi, fun i' h => by omega⟩
        · refine ⟨(g1 hi).1, fun i' h => ?_⟩
          rw [show i' = 0 by omega]; exact (g1 hi).2
        · refine ⟨(g2 hi).1, fun i' h => ?_⟩
          rcases (show i' = 0 ∨ i' = 1 by omega) with rfl | rfl
          · exact (g2 hi).2.1
          · exact (g2 hi).2.2
    have hm : (if (bdF (t3 (a, b, z)) t.2.1 (fun _ => none) (cw rl)).2.2 = true then some ((bdF (t3 (a, b, z)) t.2.1 (fun _ => none) (cw rl)).1, (bdF (t3 (a, b, z)) t.2.1 (fun _ => none) (cw rl)).2.1) else none).isSome = true ↔ (bdF (t3 (a, b, z)) t.2.1 (fun _ => none) (cw rl)).2.2 = true := by
      split
      · rename_i w; exact ⟨fun _ => w, fun _ => rfl⟩
      · rename_i w; exact ⟨(fun v => by cases v), fun v => absurd v w⟩
    refine hm.trans (key.trans ?_)
    rw [Bool.and_eq_true, decide_eq_true_iff, decide_eq_true_iff]
    have z1 := hy 1
    have z2 := hy 2
    have c1 := hc 1
    have c2 := hc 2
    rw [a1] at z1
    rw [a2] at z2
    generalize clM t.2.1 0 = x0 at *
    generalize clM t.2.1 1 = x1 at *
    generalize clM t.2.1 2 = x2 at *
    rcases (show cw rl = 1 ∨ cw rl = 2 ∨ cw rl = 3 by omega) with w | w | w
    · have z1 := z1 (by omega) (by decide)
      have z2 := z2 (by omega) (by decide)
      have c1 := c1 (by omega) (by decide)
      have c2 := c2 (by omega) (by decide)
      subst z1 z2 c1 c2
      simp only [e, true_and, or_true, implies_true, and_true]
      omega
    · have z2 := z2 (by omega) (by decide)
      have c2 := c2 (by omega) (by decide)
      subst z2 c2
      simp only [e, true_and, or_true, implies_true, and_true]
      omega
    · simp only [e, true_and, or_true, implies_true, and_true]
      omega
  · have e' : ¬ t.1 = ((0, rl, a, b, z) : MI).2.1 := e
    rw [if_neg e', Bool.and_eq_true, decide_eq_true_iff]
    exact ⟨(fun v => by cases v), fun v => absurd v.1.1 e⟩
theorem flatMap_pm {α β : Type} {f g : α → List β} : ∀ (l : List α), (∀ c, (f c).Perm (g c)) → (l.flatMap f).Perm (l.flatMap g)
  | [], _ => List.Perm.refl _
  | c :: l, h => by
    rw [List.flatMap_cons, List.flatMap_cons]
    exact (h c).append (flatMap_pm l h)
theorem lvC_perm {cw : Nat → Nat} {L L' : List Nat} (h : L.Perm L') : ∀ (xs : List MI) (d : Nat) (ov : OV), (lvC cw (fun _ => L) d xs ov).Perm (lvC cw (fun _ => L') d xs ov)
  | [], _, _ => List.Perm.refl _
  | x :: xs, d, ov => by
    rw [lvC_cons, lvC_cons]
    refine (h.flatMap_right _).trans (flatMap_pm L' (fun c => ?_))
    unfold lvx
    cases mtC cw x c ov with
    | none => exact List.Perm.refl _
    | some p => exact lvC_perm h xs (d + 1) p.1
theorem fitP_wR {t : It} {r : Int32} {c : Nat} : ∀ (m j : Nat) (v : Nat → Nat), fitP (wR t r) c m j v = fitP t c m j v
  | 0, _, _ => rfl
  | m + 1, j, v => by
    unfold fitP
    rw [fitP_wR m, fitP_wR m]
    rfl
theorem cntL_wR {t : It} {r : Int32} {f g : (Nat → Nat) → Nat × (Nat → Nat)} (hf : ∀ v, f v = g v) : ∀ (cs : List Nat) (n : Nat) (v : Nat → Nat), cntL (wR t r) f cs n v = cntL t g cs n v
  | [], _, _ => rfl
  | c :: cs, n, v => by
    have e : ∀ v, fit1 (wR t r) c v = fit1 t c v := fun v => fitP_wR _ _ _
    unfold cntL
    rw [e, hf, cntL_wR hf cs, cntL_wR hf cs]
theorem cnt_wR {L : List Nat} {t : It} {r : Int32} {v : Nat → Nat} : cnt L [wR t r] [] 1 0 v = cnt L [t] [] 1 0 v := by
  have hk : ∀ v d, chk v L [] d = true := fun _ _ => rfl
  have h1 : ([wR t r] : List It)[0]? = some (wR t r) := rfl
  have h2 : ([t] : List It)[0]? = some t := rfl
  have eo : oend ([wR t r] : List It).length [] (wR t r) 0 = oend ([t] : List It).length [] t 0 := rfl
  have ec : cof v (wR t r) = cof v t := rfl
  cases ho : oend ([t] : List It).length [] t 0 with
  | true =>
    rw [cnt_open (hk _ _) h2 ho, cnt_open (hk _ _) h1 (eo.trans ho), ec]; rfl
  | false =>
    rw [cnt_loop (hk _ _) h2 ho, cnt_loop (hk _ _) h1 (eo.trans ho), ec]
    exact cntL_wR (fun v => rfl) _ _ _
theorem like_eq {nr : Nat} {cw : Nat → Nat} {E : List En} {F : List (Nat × Nat)} {T : List MT} (h : tpR nr cw E F T) {rl a b z : Nat} (hw1 : 1 ≤ cw rl) (hw : cw rl ≤ 3) (hy : ∀ j, cw rl ≤ j → j < 3 → t3 (a, b, z) j = 0) (v : Nat → Nat) :
    (if safeB (lkK rl (cw rl) a b z) (lkI rl (cw rl) a b z) [] = true then (cnt (cds E) [lkT rl (cw rl) a b z] [] 1 0 v).1 else 0) = lkN rl a b z T := by
  have ei : i0 cw (0, rl, a, b, z) = ((0, rl, cw rl), (a, b, z), (0, cw rl, nI 0)) := rfl
  have hs : safeB (lkK rl (cw rl) a b z) (lkI rl (cw rl) a b z) [] = true := by
    unfold safeB
    rw [List.all_nil, Bool.and_true]
    unfold rdO
    rw [rdP_iff]
    intro i hi h64
    have hk := knP_known (kn := fun _ => 0) (t := i0 cw (0, rl, a, b, z)) rfl rfl (n := 0 + 1) (by decide) (k := t3 (a, b, z) i - 64)
    have h64 : 64 ≤ t3 (a, b, z) i := h64
    exact hk.mpr (Or.inr ⟨i, hi, by show t3 (a, b, z) i = _; omega⟩)
  rw [if_pos hs]
  have hc := cnt_lv (cw := cw) (kf := cK cw 0 (fun _ => 0) [(0, rl, a, b, z)]) (ys := []) (hs := [lkI rl (cw rl) a b z]) (L := cds E) (pw_le h.2.1) (fun y hy => by cases hy) (fun y hy => by cases hy) [(0, rl, a, b, z)] 0 (fun _ => 0) [] v (fun _ => none) (fun x hx => by rw [List.mem_singleton.mp hx]; exact ⟨rfl, hw⟩) rfl rfl (show 0 + 1 ≤ 3 by decide) rfl (fun _ => Nat.le_refl _) agr0 (fun y hy => by cases hy)
  unfold lkT
  rw [cnt_wR]
  have hc1 : (cnt (cds E) [lkI rl (cw rl) a b z] [] 1 0 v).1 = _ := hc.1
  rw [hc1, (lvC_perm h.pm _ _ _).countP_eq]
  have hall : ∀ (T' : List MT), (∀ x ∈ T', x ∈ T) → (lvC cw (fun _ => tcs T') 0 [(0, rl, a, b, z)] (fun _ => none)).countP (fun o => ([] : List MI).all (askX o (cds E))) = lkN rl a b z T' := by
    intro T'
    induction T' with
    | nil => intro _; rfl
    | cons t T' ih =>
      intro hT
      have ih := ih (fun x hx => hT x (List.mem_cons_of_mem _ hx))
      obtain ⟨b1, b2, b3⟩ := h.2.2.2.2.2 t (hT t List.mem_cons_self)
      have hm := mtc_like (cw := cw) (rl := rl) (a := a) (b := b) (z := z) (t := t) hw1 hw hy (fun e => by rw [← e]; exact b3)
      rw [lvC_cons] at ih ⊢
      show (((262144 * t.1 + t.2.1) :: tcs T').flatMap _).countP _ = _
      rw [List.flatMap_cons, List.countP_append, show (tcs T').flatMap (lvx cw (fun _ => tcs (t :: T')) 0 (0, rl, a, b, z) [] fun _ => none) = (tcs T').flatMap (lvx cw (fun _ => tcs T') 0 (0, rl, a, b, z) [] fun _ => none) from rfl, ih]
      unfold lvx lkN
      rw [mtC_code b2]
      cases hq : mtc cw (0, rl, a, b, z) t (fun _ => none) with
      | none =>
        rw [hq] at hm
        rw [List.filter_cons_of_neg (by rw [← hm]; decide)]
        show 0 + _ = _
        rw [Nat.zero_add]
      | some p =>
        rw [hq] at hm
        rw [List.filter_cons_of_pos hm.symm, List.length_cons, Nat.add_comm]
        rfl
  exact hall T (fun x hx => hx)
/-! matches -/
theorem fold_cnt {T : List MT} {rc q : Nat} {R : MR} : ∀ (lv : List OV) (s : FS), (lv.foldl (fun s o => act T rc q R false o s) s).2.2 = s.2.2 + lv.countP (fun o => askO o (tcs T) R)
  | [], _ => rfl
  | o :: lv, s => by
    rw [List.foldl_cons, fold_cnt lv]
    by_cases e : askO o (tcs T) R = true
    · rw [List.countP_cons_of_pos (p := fun o => askO o (tcs T) R) e]
      unfold act
      rw [if_pos e, if_neg (by decide)]
      show s.2.2 + 1 + _ = _
      omega
    · rw [List.countP_cons_of_neg (p := fun o => askO o (tcs T) R) e]
      unfold act
      rw [if_neg e]
theorem matches_eq {nr : Nat} {cw : Nat → Nat} {E : List En} {F : List (Nat × Nat)} {T : List MT} (h : tpR nr cw E F T) {R : MR} (hR : rOK nr cw R) (hs : rSF cw R) {rc q : Nat} (v : Nat → Nat) :
    (cnt (cds E) (rlO cw R).2.1 (rlO cw R).2.2 (rlO cw R).2.1.length 0 v).1 = (trM cw T rc q R false (hls R) (fun _ => none) ([], false, 0)).2.2 := by
  have hT : ∀ x ∈ T, x.2.1 < 262144 := fun x hx => (h.2.2.2.2.2 x hx).2.1
  have h3 := hR.2.2.2.2.1
  have hlen : (rlO cw R).2.1.length = (hls R).length := cH_len _ _ _
  rw [trM_lv hT _ 0, fold_cnt, hlen]
  have hc := cnt_lv (cw := cw) (kf := rK cw R) (ys := rY R) (hs := rH cw R) (L := cds E) (pw_le h.2.1) hR.rY hs.2 (hls R) 0 (fun _ => 0) [] v (fun _ => none) hR.hls rfl rfl (by omega) rfl (fun _ => Nat.le_refl _) agr0 (fun y hy m hm z => by omega)
  have hc1 : (cnt (cds E) (rlO cw R).2.1 (rlO cw R).2.2 (hls R).length 0 v).1 = _ := hc.1
  rw [hc1, (lvC_perm h.pm _ _ _).countP_eq]
  show _ = 0 + _
  rw [Nat.zero_add]
  refine List.countP_congr (fun o _ => ?_)
  rw [askO_rY, List.all_eq_true, List.all_eq_true]
  exact forall_congr' (fun y => by rw [askX_cg h.mem y])
