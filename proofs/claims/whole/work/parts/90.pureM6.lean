def up3 (f : Nat → Int32) (k : Nat) (x y z : Int32) : Nat → Int32 := upd (upd (upd f (3 * k) x) (3 * k + 1) y) (3 * k + 2) z
def hl0 (R : MR) : Nat := (R.2.filter (fun x => x.1 = 0)).length
def fitR (nr : Nat) (cw : Nat → Nat) (b : Nat) (r x y z : Int32) : Bool := wi nr r && wi3 b (cw r.toInt.toNat) x y z
def itR (nr : Nat) (cw : Nat → Nat) (x r y z u : Int32) : Bool := !decide (x < 0) && decide (x ≤ nI 3) && (if x < nI 2 then fitR nr cw 72 r y z u else (decide (r = 0) && wi3 72 2 y z u))
theorem nI_nat {n : Nat} (h : n < 2 ^ 31) : (nI n).toInt.toNat = n := by rw [nI_toInt h]; rfl
theorem fitR_n {nr : Nat} {cw : Nat → Nat} {b rl : Nat} {x y z : Int32} (h : rl < nr) (h2 : nr ≤ 12) : fitR nr cw b (nI rl) x y z = wi3 b (cw rl) x y z := by
  unfold fitR
  rw [wi_nI h (by omega), nI_nat (by omega)]; rfl
theorem fitR_r {nr : Nat} {cw : Nat → Nat} {b : Nat} {r x y z : Int32} (h : wi nr r = false) : fitR nr cw b r x y z = false := by
  unfold fitR; rw [h]; rfl
/-- whether a variable is held: first columns looked at; the items looked at -/
def hdJ (x : MI) (v j : Nat) : Bool := decide (x.1 = 0) && (List.range j).any (fun i => decide (t3 x.2.2 i = v))
def hdB (R : MR) (v : Nat) : Bool := decide (v < 64) || R.2.any (fun x => hdJ x v 3)
theorem hdJ_s {x : MI} {v j : Nat} : hdJ x v (j + 1) = (hdJ x v j || (decide (x.1 = 0) && decide (t3 x.2.2 j = v))) := by
  unfold hdJ
  rw [range_snoc, List.any_append]
  cases decide (x.1 = 0) <;> simp
theorem any_snoc {α : Type} {L : List α} {i : Nat} {x : α} {f : α → Bool} (h : L[i]? = some x) : (L.take (i + 1)).any f = ((L.take i).any f || f x) := by
  rw [take_snoc h, List.any_append]; simp
theorem all_snoc {α : Type} {L : List α} {i : Nat} {x : α} {f : α → Bool} (h : L[i]? = some x) : (L.take (i + 1)).all f = ((L.take i).all f && f x) := by
  rw [take_snoc h, List.all_append]; simp
/-- whether a rule is safe: columns looked at; items looked at in the next -/
def sfJ (R : MR) (j : Nat) : Bool := (List.range j).all (fun j => hdB R (t3 R.1.2 j) && R.2.all (fun x => hdB R (t3 x.2.2 j)))
def sfI (R : MR) (j i : Nat) : Bool := sfJ R j && hdB R (t3 R.1.2 j) && (R.2.take i).all (fun x => hdB R (t3 x.2.2 j))
theorem sfJ_s {R : MR} {j : Nat} : sfJ R (j + 1) = sfI R j R.2.length := by
  unfold sfJ sfI
  rw [range_snoc, List.all_append, List.take_length]
  simp only [List.all_cons, List.all_nil, Bool.and_true, Bool.and_assoc]; rfl
theorem sfI_s {R : MR} {j i : Nat} {x : MI} (h : R.2[i]? = some x) : sfI R j (i + 1) = (sfI R j i && hdB R (t3 x.2.2 j)) := by
  unfold sfI
  rw [all_snoc h, ← Bool.and_assoc]
/-- a part of a row copied to another place of it -/
def cpF (f : Nat → Int32) (s d n : Nat) : Nat → Int32 := fun k => if d ≤ k ∧ k < d + n then f (s + (k - d)) else f k
theorem cpF_0 {f : Nat → Int32} {s d : Nat} : cpF f s d 0 = f := by
  funext k; unfold cpF; rw [if_neg (by omega)]
theorem cpF_at {f : Nat → Int32} {s d n k : Nat} (h : d + n ≤ k) : cpF f s d n k = f k := by
  unfold cpF; rw [if_neg (by omega)]
theorem cpF_lt {f : Nat → Int32} {s d n k : Nat} (h : k < d) : cpF f s d n k = f k := by
  unfold cpF; rw [if_neg (by omega)]
theorem cpF_in {f : Nat → Int32} {s d n k : Nat} (h : k < n) : cpF f s d n (d + k) = f (s + k) := by
  unfold cpF
  rw [if_pos (by omega)]
  congr 1; omega
theorem cpF_s {f : Nat → Int32} {s d n : Nat} : upd (cpF f s d n) (d + n) (f (s + n)) = cpF f s d (n + 1) := by
  funext k
  unfold upd
  by_cases e : k = d + n
  · subst e
    rw [if_pos rfl, cpF_in (by omega)]
  · rw [if_neg e]
    unfold cpF
    by_cases e2 : d ≤ k ∧ k < d + n
    · rw [if_pos e2, if_pos (by omega)]
    · rw [if_neg e2, if_neg (by omega)]
theorem cpF_3 {f : Nat → Int32} {q i : Nat} : up3 (cpF f 432 (18 * q) (3 * i)) (6 * q + i) (f (3 * (144 + i))) (f (3 * (144 + i) + 1)) (f (3 * (144 + i) + 2)) = cpF f 432 (18 * q) (3 * (i + 1)) := by
  unfold up3
  have e1 : 3 * (6 * q + i) = 18 * q + 3 * i := by omega
  have e2 : 3 * (144 + i) = 432 + 3 * i := by omega
  rw [e1, e2, cpF_s, show 18 * q + 3 * i + 1 = 18 * q + (3 * i + 1) by omega, show 432 + 3 * i + 1 = 432 + (3 * i + 1) by omega, cpF_s, show 18 * q + 3 * i + 2 = 18 * q + (3 * i + 1 + 1) by omega, show 432 + 3 * i + 2 = 432 + (3 * i + 1 + 1) by omega, cpF_s]
  rfl
/-- a new head -/
theorem rAt_head {f18 f19 f20 f21 f22 f23 : Nat → Int32} {q : Nat} {R : MR} {x y z u w : Int32} (h : rAt f18 f19 f20 f21 f22 f23 q R) (hq : q < 24) : rAt (upd f18 24 x) (upd (upd (upd f19 72 y) 73 z) 74 u) (upd f20 24 w) f21 f22 f23 q R := by
  obtain ⟨h1, h2, h3, h4⟩ := h
  refine ⟨by unfold upd; rw [if_neg (by omega)]; exact h1, fun j hj => by unfold upd; rw [if_neg (by omega), if_neg (by omega), if_neg (by omega)]; exact h2 j hj, by unfold upd; rw [if_neg (by omega)]; exact h3, h4⟩
theorem rAt_new {f18 f19 f20 f21 f22 f23 : Nat → Int32} {rl a b z : Nat} : rAt (upd f18 24 (nI rl)) (upd (upd (upd f19 72 (nI a)) 73 (nI b)) 74 (nI z)) (upd f20 24 (nI 0)) f21 f22 f23 24 ((rl, a, b, z), []) := by
  refine ⟨by simp [upd], fun j hj => ?_, by simp [upd], fun i x hx => by simp at hx⟩
  rcases (show j = 0 ∨ j = 1 ∨ j = 2 by omega) with rfl | rfl | rfl <;> simp [upd, t3]
theorem mrB_new {nr rl a b z : Nat} (h : rl < nr) (ha : a < 72) (hb : b < 72) (hz : z < 72) : mrB nr ((rl, a, b, z), []) :=
  ⟨h, fun j => by unfold t3; dsimp only; split; exact ha; split; exact hb; exact hz, by simp, by simp, fun x hx => by cases hx⟩
/-- a new item -/
theorem rAt_item {f18 f19 f20 f21 f22 f23 : Nat → Int32} {q n : Nat} {R : MR} {k r y z u w : Int32} (h : rAt f18 f19 f20 f21 f22 f23 q R) (hq : q < 24) (hR : R.2.length ≤ 6) : rAt f18 f19 (upd f20 24 w) (upd f21 (144 + n) k) (upd f22 (144 + n) r) (up3 f23 (144 + n) y z u) q R := by
  obtain ⟨h1, h2, h3, h4⟩ := h
  refine ⟨h1, h2, by unfold upd; rw [if_neg (by omega)]; exact h3, fun i x hx => ?_⟩
  obtain ⟨g1, g2, g3⟩ := h4 i x hx
  have hi := (List.getElem?_eq_some_iff.mp hx).1
  refine ⟨by unfold upd; rw [if_neg (by omega)]; exact g1, by unfold upd; rw [if_neg (by omega)]; exact g2, fun j hj => by unfold up3 upd; rw [if_neg (by omega), if_neg (by omega), if_neg (by omega)]; exact g3 j hj⟩
theorem rAt_snoc {f18 f19 f20 f21 f22 f23 : Nat → Int32} {R : MR} {kd rl a b z : Nat} (h : rAt f18 f19 f20 f21 f22 f23 24 R) : rAt f18 f19 (upd f20 24 (nI (R.2.length + 1))) (upd f21 (144 + R.2.length) (nI kd)) (upd f22 (144 + R.2.length) (nI rl)) (up3 f23 (144 + R.2.length) (nI a) (nI b) (nI z)) 24 (R.1, R.2 ++ [(kd, rl, a, b, z)]) := by
  obtain ⟨h1, h2, h3, h4⟩ := h
  refine ⟨h1, h2, by simp [upd], fun i x hx => ?_⟩
  by_cases e : i < R.2.length
  · simp only at hx
    rw [List.getElem?_append_left e] at hx
    obtain ⟨g1, g2, g3⟩ := h4 i x hx
    refine ⟨by unfold upd; rw [if_neg (by omega)]; exact g1, by unfold upd; rw [if_neg (by omega)]; exact g2, fun j hj => by unfold up3 upd; rw [if_neg (by omega), if_neg (by omega), if_neg (by omega)]; exact g3 j hj⟩
  · have e2 : i = R.2.length := by have := (List.getElem?_eq_some_iff.mp hx).1; simp at this; omega
    subst e2
    simp at hx
    subst hx
    refine ⟨by simp [upd], by simp [upd], fun j hj => ?_⟩
    rcases (show j = 0 ∨ j = 1 ∨ j = 2 by omega) with rfl | rfl | rfl <;> simp [upd, up3, t3]
theorem mrB_snoc {nr : Nat} {R : MR} {kd rl a b z : Nat} (h : mrB nr R) (hl : R.2.length < 6) (hh : kd ≠ 0 ∨ hl0 R < 3) (hk : kd ≤ 3) (hr : kd < 2 → rl < nr) (hr2 : rl < 12) (ha : a < 72) (hb : b < 72) (hz : z < 72) : mrB nr (R.1, R.2 ++ [(kd, rl, a, b, z)]) := by
  obtain ⟨h1, h2, h3, h4, h5⟩ := h
  refine ⟨h1, h2, by simp; omega, ?_, fun x hx => ?_⟩
  · show ((R.2 ++ [(kd, rl, a, b, z)]).filter (fun x => decide (x.1 = 0))).length ≤ 3
    rw [List.filter_append, List.length_append]
    unfold hl0 at hh
    by_cases e : kd = 0
    · have : (R.2.filter (fun x => decide (x.1 = 0))).length < 3 := by rcases hh with q | q; exact absurd e q; exact q
      have e2 : ([(kd, rl, a, b, z)].filter (fun x : MI => decide (x.1 = 0))).length = 1 := by simp [e]
      omega
    · have e2 : ([(kd, rl, a, b, z)].filter (fun x : MI => decide (x.1 = 0))).length = 0 := by simp [e]
      omega
  · rcases List.mem_append.mp hx with q | q
    · exact h5 x q
    · rw [List.mem_singleton.mp q]
      exact ⟨hk, hr, hr2, fun j => by unfold t3; dsimp only; split; exact ha; split; exact hb; exact hz⟩
/-- the making becomes a rule -/
theorem rAt_cp {f18 f19 f20 f21 f22 f23 : Nat → Int32} {n q : Nat} {R D : MR} (h : rAt f18 f19 f20 f21 f22 f23 q R) (hq : q < n) (hn : n < 24) (hR : R.2.length ≤ 6) : rAt (upd f18 n (f18 24)) (cpF f19 72 (3 * n) 3) (upd f20 n (f20 24)) (cpF f21 144 (6 * n) D.2.length) (cpF f22 144 (6 * n) D.2.length) (cpF f23 432 (18 * n) (3 * D.2.length)) q R := by
  obtain ⟨h1, h2, h3, h4⟩ := h
  refine ⟨by unfold upd; rw [if_neg (by omega)]; exact h1, fun j hj => by rw [cpF_lt (by omega)]; exact h2 j hj, by unfold upd; rw [if_neg (by omega)]; exact h3, fun i x hx => ?_⟩
  obtain ⟨g1, g2, g3⟩ := h4 i x hx
  have hi := (List.getElem?_eq_some_iff.mp hx).1
  refine ⟨by rw [cpF_lt (by omega)]; exact g1, by rw [cpF_lt (by omega)]; exact g2, fun j hj => by rw [cpF_lt (by omega)]; exact g3 j hj⟩
theorem rAt_mk {f18 f19 f20 f21 f22 f23 : Nat → Int32} {n : Nat} {D : MR} (h : rAt f18 f19 f20 f21 f22 f23 24 D) : rAt (upd f18 n (f18 24)) (cpF f19 72 (3 * n) 3) (upd f20 n (f20 24)) (cpF f21 144 (6 * n) D.2.length) (cpF f22 144 (6 * n) D.2.length) (cpF f23 432 (18 * n) (3 * D.2.length)) n D := by
  obtain ⟨h1, h2, h3, h4⟩ := h
  refine ⟨by unfold upd; rw [if_pos rfl]; exact h1, fun j hj => by rw [cpF_in hj]; exact h2 j hj, by unfold upd; rw [if_pos rfl]; exact h3, fun i x hx => ?_⟩
  obtain ⟨g1, g2, g3⟩ := h4 i x hx
  have hi := (List.getElem?_eq_some_iff.mp hx).1
  refine ⟨by rw [cpF_in hi]; exact g1, by rw [cpF_in hi]; exact g2, fun j hj => ?_⟩
  rw [show 3 * (6 * n + i) + j = 18 * n + (3 * i + j) by omega, cpF_in (by omega)]
  rw [show 432 + (3 * i + j) = 3 * (6 * 24 + i) + j by omega]
  exact g3 j hj
theorem hl0_le (R : MR) : hl0 R ≤ R.2.length := List.length_filter_le _ _
def hlT (R : MR) (i : Nat) : Nat := ((R.2.take i).filter (fun x => x.1 = 0)).length
theorem hlT_s {R : MR} {i : Nat} {x : MI} (h : R.2[i]? = some x) : hlT R (i + 1) = hlT R i + if x.1 = 0 then 1 else 0 := by
  unfold hlT
  rw [take_snoc h, List.filter_append, List.length_append]
  congr 1
  by_cases e : x.1 = 0 <;> simp [e]
theorem hlT_le (R : MR) (i : Nat) : hlT R i ≤ R.2.length := Nat.le_trans (List.length_filter_le _ _) (by simp; omega)
