theorem tpB_ag {F : List (Nat × Nat)} (h : faB F) : tpB (F.map agT) := by
  refine ⟨by have := h.1; simp; omega, fun x hx => ?_⟩
  obtain ⟨y, h1, h2⟩ := List.mem_map.mp hx
  subst h2
  obtain ⟨a, b⟩ := h.2 y h1
  exact ⟨a, b, show (0 : Nat) < 2 ^ 20 by decide⟩
theorem bit_ag {X : gs_X} {σ : gs_St} {a : Nat} {F : List (Nat × Nat)} (h : bitA X σ a (fcs F)) : bitA X σ a (tcs (F.map agT)) := by rw [tcs_ag]; exact h
theorem mrB_mono {nr nr' : Nat} {R : MR} (h : mrB nr R) (hl : nr ≤ nr') : mrB nr' R := by
  obtain ⟨h1, h2, h3, h4, h5⟩ := h
  exact ⟨by omega, h2, h3, h4, fun x hx => ⟨(h5 x hx).1, fun q => by have := (h5 x hx).2.1 q; omega, (h5 x hx).2.2⟩⟩
theorem rulA.mono {X : gs_X} {σ : gs_St} {A : Nat → Nat} {nr nr' : Nat} {Q : List MR} {dr : Option MR} (h : rulA X σ A nr Q dr) (hl : nr ≤ nr') : rulA X σ A nr' Q dr := by
  obtain ⟨a1, a2, a3, a4, a5, a6, e1, e2, e3, e4, e5, e6, r1, r2, r3⟩ := h
  exact ⟨a1, a2, a3, a4, a5, a6, e1, e2, e3, e4, e5, e6, r1, fun q R z => ⟨(r2 q R z).1, mrB_mono (r2 q R z).2 hl⟩, fun R z => ⟨(r3 R z).1, mrB_mono (r3 R z).2 hl⟩⟩
theorem col_snoc {nr wd : Nat} {cw : Nat → Nat} {f : Nat → Int32} (h : ∀ r, r < nr → f r = nI (cw r) ∧ 1 ≤ cw r ∧ cw r ≤ 3) (h1 : 1 ≤ wd) (h3 : wd ≤ 3) : ∀ r, r < nr + 1 → upd f nr (nI wd) r = nI (va_up cw nr wd r) ∧ 1 ≤ va_up cw nr wd r ∧ va_up cw nr wd r ≤ 3 := by
  intro r hr
  unfold upd va_up
  by_cases e : r = nr
  · simp [e, h1, h3]
  · simp only [if_neg e]; exact h r (by omega)
theorem faOK_snoc {F : List (Nat × Nat)} {f g : Nat → Int32} {x : Nat × Nat} (h : faOK F f g) : faOK (F ++ [x]) (upd f F.length (nI x.1)) (upd g F.length (nI x.2)) := by
  intro j y hy
  unfold upd
  by_cases e : j < F.length
  · rw [List.getElem?_append_left e] at hy
    simp only [if_neg (show ¬ j = F.length by omega)]
    exact h j y hy
  · have e2 : j = F.length := by have := (List.getElem?_eq_some_iff.mp hy).1; simp at this; omega
    subst e2
    simp at hy
    subst hy
    simp
theorem faB_snoc {F : List (Nat × Nat)} {x : Nat × Nat} (h : faB F) (hl : F.length < 200) (h1 : x.1 < 12) (h2 : x.2 < 262144) : faB (F ++ [x]) := by
  refine ⟨by simp; omega, fun y hy => ?_⟩
  rcases List.mem_append.mp hy with q | q
  · exact h.2 y q
  · rw [List.mem_singleton.mp q]; exact ⟨h1, h2⟩
/-- a fact goes -/
def dlF (F : List (Nat × Nat)) (k : Nat) : List (Nat × Nat) := F.take k ++ F.drop (k + 1)
theorem dlF_len {F : List (Nat × Nat)} {k : Nat} (h : k < F.length) : (dlF F k).length = F.length - 1 := by unfold dlF; simp; omega
theorem faB_dl {F : List (Nat × Nat)} {k : Nat} (h : faB F) (hk : k < F.length) : faB (dlF F k) := by
  refine ⟨by rw [dlF_len hk]; have := h.1; omega, fun y hy => ?_⟩
  rcases List.mem_append.mp hy with q | q
  · exact h.2 y (List.mem_of_mem_take q)
  · exact h.2 y (List.mem_of_mem_drop q)
theorem dlF_get {F : List (Nat × Nat)} {k j : Nat} (hk : k < F.length) : (dlF F k)[j]? = if j < k then F[j]? else F[j + 1]? := by
  unfold dlF
  by_cases h : j < k
  · rw [if_pos h, List.getElem?_append_left (by simp; omega), List.getElem?_take_of_lt h]
  · rw [if_neg h, List.getElem?_append_right (by simp; omega), List.getElem?_drop]
    congr 1
    simp; omega
