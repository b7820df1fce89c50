/-- the search at hand: what is found, the values, the three rows -/
def trS (X : gs_X) (σ σ1 : gs_St) (mo : Nat) (A Z : Nat → Nat) (T : List MT) (fd : Bool) (ov : OV) (s : FS) (f28 f29 f30 : Nat → Int32) : Prop :=
  ∃ (Z1 : Nat → Nat) (a8 a9 a10 a11 a24 : Nat → Int32) (g3 : Nat → Int64), σ1 mo = some (moE A Z1) ∧ (fd = true → Z1 14 = s.1.length) ∧ (fd = true → Z1 15 = s.2.1.toNat) ∧ Z1 27 = s.2.2 ∧ zfr [14, 15, 27] Z Z1 ∧ σ1 (A 8) = some (gs_ia X 320 a8) ∧ σ1 (A 9) = some (gs_ia X 320 a9) ∧ σ1 (A 10) = some (gs_ia X 320 a10) ∧ σ1 (A 11) = some (gs_ia X 320 a11) ∧ σ1 (A 13) = some (gs_la X 49152 g3) ∧ σ1 (A 24) = some (gs_ia X 8 a24) ∧ σ1 (A 28) = some (gs_ia X 3 f28) ∧ σ1 (A 29) = some (gs_ia X 3 f29) ∧ σ1 (A 30) = some (gs_ia X 3 f30) ∧ tpOK (T ++ s.1) a8 a9 a10 a11 ∧ bO g3 (tcs s.1) ∧ T.length + s.1.length ≤ 300 ∧ vO a24 ov ∧ frm [mo, A 8, A 9, A 10, A 11, A 13, A 24, A 28, A 29, A 30] σ σ1
theorem ofO_up {ov : OV} {k x v n : Nat} (h : ofO ov v = some n) (hk : ov k = none) : ofO (va_up ov k (some x)) v = some n := by
  unfold ofO at h ⊢
  by_cases q : v < 64
  · rw [if_pos q] at h ⊢; exact h
  · rw [if_neg q] at h ⊢
    unfold va_up
    rw [if_neg (fun e => by rw [e, hk] at h; cases h)]
    exact h
theorem bdF_mono {ts : Nat → Nat} {t : Nat} {ov : OV} {v n : Nat} (h : ofO ov v = some n) : ∀ j, ofO (bdF ts t ov j).1 v = some n
  | 0 => h
  | j + 1 => by
    have ih := bdF_mono (ts := ts) (t := t) h j
    rw [bdF_s]
    unfold bd1
    by_cases e : ofO (bdF ts t ov j).1 (ts j) = none
    · rw [if_pos e]
      have h64 : ¬ ts j < 64 := fun q => by unfold ofO at e; rw [if_pos q] at e; cases e
      exact ofO_up ih (by unfold ofO at e; rw [if_neg h64] at e; exact e)
    · rw [if_neg e]; exact ih
theorem bdF_al {ts : Nat → Nat} {t : Nat} {ov : OV} : ∀ j i, i < j → ∃ n, ofO (bdF ts t ov j).1 (ts i) = some n
  | 0, i, h => by omega
  | j + 1, i, h => by
    by_cases q : i < j
    · obtain ⟨n, hn⟩ := bdF_al (ts := ts) (t := t) (ov := ov) j i q
      refine ⟨n, ?_⟩
      rw [bdF_s]
      unfold bd1
      by_cases e : ofO (bdF ts t ov j).1 (ts j) = none
      · rw [if_pos e]
        have h64 : ¬ ts j < 64 := fun q => by unfold ofO at e; rw [if_pos q] at e; cases e
        exact ofO_up hn (by unfold ofO at e; rw [if_neg h64] at e; exact e)
      · rw [if_neg e]; exact hn
    · have e2 : i = j := by omega
      subst e2
      rw [bdF_s]
      unfold bd1
      by_cases e : ofO (bdF ts t ov i).1 (ts i) = none
      · rw [if_pos e]
        have h64 : ¬ ts i < 64 := fun q => by unfold ofO at e; rw [if_pos q] at e; cases e
        exact ⟨clM t i, by unfold ofO; rw [if_neg h64]; show (if ts i - 64 = ts i - 64 then some (clM t i) else _) = _; rw [if_pos rfl]⟩
      · rw [if_neg e]
        exact Option.ne_none_iff_exists'.mp e
theorem mtc_mono {cw : Nat → Nat} {x : MI} {t : MT} {ov : OV} {p : OV × Nat} (h : mtc cw x t ov = some p) {y : Nat × Nat × Nat} (hy : alB ov y) : alB p.1 y := by
  intro j hj
  obtain ⟨n, hn⟩ := hy j hj
  unfold mtc at h
  split at h
  · split at h
    · cases h; exact ⟨n, bdF_mono hn _⟩
    · cases h
  · cases h
theorem mtc_al {cw : Nat → Nat} {x : MI} {t : MT} {ov : OV} {p : OV × Nat} (h : mtc cw x t ov = some p) (hw : ∀ j, cw x.2.1 ≤ j → j < 3 → t3 x.2.2 j < 64) : alB p.1 x.2.2 := by
  intro j hj
  by_cases q : j < cw x.2.1
  · unfold mtc at h
    split at h
    · split at h
      · cases h; exact bdF_al _ _ q
      · cases h
    · cases h
  · exact ⟨t3 x.2.2 j, by unfold ofO; rw [if_pos (hw j (by omega) hj)]⟩
theorem sf_al {R : MR} {ov : OV} (h : sfJ R 3 = true) (hb : ∀ y ∈ R.2, y.1 = 0 → alB ov y.2.2) : alB ov R.1.2 ∧ ∀ x ∈ R.2, alB ov x.2.2 := by
  have hv : ∀ v, hdB R v = true → ∃ n, ofO ov v = some n := by
    intro v hv
    unfold hdB at hv
    by_cases q : v < 64
    · exact ⟨v, by unfold ofO; rw [if_pos q]⟩
    · rw [decide_eq_false q, Bool.false_or, List.any_eq_true] at hv
      obtain ⟨y, hy, hj⟩ := hv
      unfold hdJ at hj
      rw [Bool.and_eq_true, List.any_eq_true] at hj
      obtain ⟨h0, i, hi, hi2⟩ := hj
      obtain ⟨n, hn⟩ := hb y hy (of_decide_eq_true h0) i (List.mem_range.mp hi)
      exact ⟨n, by rw [← of_decide_eq_true hi2]; exact hn⟩
  unfold sfJ at h
  rw [List.all_eq_true] at h
  refine ⟨fun j hj => ?_, fun x hx j hj => ?_⟩
  · have := h j (List.mem_range.mpr hj)
    rw [Bool.and_eq_true] at this
    exact hv _ this.1
  · have := h j (List.mem_range.mpr hj)
    rw [Bool.and_eq_true, List.all_eq_true] at this
    exact hv _ (this.2 x hx)
/-- one tuple after the other: where none fits nothing happens -/
def tstp (cw : Nat → Nat) (T : List MT) (rc q : Nat) (R : MR) (fd : Bool) (x : MI) (hs : List MI) (ov : OV) (s : FS) (t : MT) : FS := match mtc cw x t ov with | some p => trM cw T rc q R fd hs p.1 s | none => s
theorem tstp_skip {cw : Nat → Nat} {T : List MT} {rc q : Nat} {R : MR} {fd : Bool} {x : MI} {hs : List MI} {ov : OV} : ∀ (m i i' : Nat) (s : FS), i' - i = m → i ≤ i' → i' ≤ T.length → (∀ k t, i ≤ k → k < i' → T[k]? = some t → mtc cw x t ov = none) → (T.drop i).foldl (tstp cw T rc q R fd x hs ov) s = (T.drop i').foldl (tstp cw T rc q R fd x hs ov) s
  | 0, i, i', s, hm, h1, _, _ => by rw [show i = i' by omega]
  | m + 1, i, i', s, hm, h1, h2, h3 => by
    obtain ⟨t, ht⟩ := get_ex (L := T) (j := i) (by omega)
    rw [drop_cons9 ht, List.foldl_cons, show tstp cw T rc q R fd x hs ov s t = s from by unfold tstp; rw [h3 i t (by omega) (by omega) ht]]
    exact tstp_skip m (i + 1) i' s (by omega) (by omega) h2 (fun k t g1 g2 g3 => h3 k t (by omega) g2 g3)
theorem tstp_hit {cw : Nat → Nat} {T : List MT} {rc q : Nat} {R : MR} {fd : Bool} {x : MI} {hs : List MI} {ov : OV} {i : Nat} {t : MT} {p : OV × Nat} (s : FS) (ht : T[i]? = some t) (hm : mtc cw x t ov = some p) : (T.drop i).foldl (tstp cw T rc q R fd x hs ov) s = (T.drop (i + 1)).foldl (tstp cw T rc q R fd x hs ov) (trM cw T rc q R fd hs p.1 s) := by
  rw [drop_cons9 ht, List.foldl_cons, show tstp cw T rc q R fd x hs ov s t = trM cw T rc q R fd hs p.1 s from by unfold tstp; rw [hm]]
theorem trM_cons {cw : Nat → Nat} {T : List MT} {rc q : Nat} {R : MR} {fd : Bool} {x : MI} {hs : List MI} {ov : OV} {s : FS} : trM cw T rc q R fd (x :: hs) ov s = (T.drop 0).foldl (tstp cw T rc q R fd x hs ov) s := rfl
/-- the HOLDS of a rule -/
def hls (R : MR) : List MI := R.2.filter (fun x => x.1 = 0)
theorem hlT_le0 (R : MR) (i : Nat) : hlT R i ≤ hl0 R := by
  unfold hlT hl0
  exact ((List.take_sublist i R.2).filter _).length_le
theorem hlT_lt0 {R : MR} {i : Nat} {x : MI} (h : R.2[i]? = some x) (h0 : x.1 = 0) : hlT R i < hl0 R := by
  have h1 := hlT_le0 R (i + 1)
  rw [hlT_s h, if_pos h0] at h1
  omega
/-- where the HOLDS stand -/
def hpO (f28 : Nat → Int32) (q : Nat) (R : MR) (L : List MI) : Prop := ∀ k y, L[k]? = some y → ∃ p, f28 k = nI (6 * q + p) ∧ R.2[p]? = some y ∧ y.1 = 0
theorem hpO_s {f28 : Nat → Int32} {q i : Nat} {R : MR} {x : MI} (h : hpO f28 q R ((R.2.take i).filter (fun x => x.1 = 0))) (hx : R.2[i]? = some x) (h0 : x.1 = 0) : hpO (upd f28 (hlT R i) (nI (6 * q + i))) q R ((R.2.take (i + 1)).filter (fun x => x.1 = 0)) := by
  intro k y hy
  rw [take_snoc hx, List.filter_append, show [x].filter (fun x : MI => decide (x.1 = 0)) = [x] from by simp [h0]] at hy
  by_cases e : k < ((R.2.take i).filter (fun x => decide (x.1 = 0))).length
  · rw [List.getElem?_append_left e] at hy
    obtain ⟨p, h1, h2⟩ := h k y hy
    exact ⟨p, by unfold upd; rw [if_neg (by unfold hlT; omega)]; exact h1, h2⟩
  · have e2 : k = ((R.2.take i).filter (fun x => decide (x.1 = 0))).length := by have := (List.getElem?_eq_some_iff.mp hy).1; simp at this; omega
    subst e2
    simp at hy
    subst hy
    exact ⟨i, by unfold upd hlT; rw [if_pos rfl], hx, h0⟩
theorem hpO_n {f28 : Nat → Int32} {q i : Nat} {R : MR} {x : MI} (h : hpO f28 q R ((R.2.take i).filter (fun x => x.1 = 0))) (hx : R.2[i]? = some x) (h0 : ¬ x.1 = 0) : hpO f28 q R ((R.2.take (i + 1)).filter (fun x => x.1 = 0)) := by
  intro k y hy
  rw [take_snoc hx, List.filter_append, show [x].filter (fun x : MI => decide (x.1 = 0)) = [] from by simp [h0], List.append_nil] at hy
  exact h k y hy
