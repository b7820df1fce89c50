/-! the reference as a whole -/
abbrev aM (mo : Nat) (A : Nat → Nat) : List Nat := mo :: aL A
/-- an item of the reference: kind, relation, terms; a rule: head's relation and terms, items -/
abbrev MI : Type := Nat × Nat × Nat × Nat × Nat
abbrev MR : Type := (Nat × Nat × Nat × Nat) × List MI
def t3 (t : Nat × Nat × Nat) (j : Nat) : Nat := if j = 0 then t.1 else if j = 1 then t.2.1 else t.2.2
def rAt (fH fE fT fK fP fM : Nat → Int32) (q : Nat) (R : MR) : Prop :=
  fH q = nI R.1.1 ∧ (∀ j, j < 3 → fE (3 * q + j) = nI (t3 R.1.2 j)) ∧ fT q = nI R.2.length ∧ ∀ i x, R.2[i]? = some x → fK (6 * q + i) = nI x.1 ∧ fP (6 * q + i) = nI x.2.1 ∧ ∀ j, j < 3 → fM (3 * (6 * q + i) + j) = nI (t3 x.2.2 j)
def mrB (nr : Nat) (R : MR) : Prop := R.1.1 < nr ∧ (∀ j, t3 R.1.2 j < 72) ∧ R.2.length ≤ 6 ∧ (R.2.filter (fun x => x.1 = 0)).length ≤ 3 ∧ ∀ x ∈ R.2, x.1 ≤ 3 ∧ (x.1 < 2 → x.2.1 < nr) ∧ x.2.1 < 12 ∧ ∀ j, t3 x.2.2 j < 72
def colA (X : gs_X) (σ : gs_St) (A : Nat → Nat) (nr : Nat) (cw : Nat → Nat) : Prop := ∃ f2 : Nat → Int32, σ (A 2) = some (gs_ia X 12 f2) ∧ ∀ r, r < nr → f2 r = nI (cw r) ∧ 1 ≤ cw r ∧ cw r ≤ 3
def rulA (X : gs_X) (σ : gs_St) (A : Nat → Nat) (nr : Nat) (Q : List MR) (dr : Option MR) : Prop := ∃ f18 f19 f20 f21 f22 f23 : Nat → Int32, σ (A 18) = some (gs_ia X 25 f18) ∧ σ (A 19) = some (gs_ia X 75 f19) ∧ σ (A 20) = some (gs_ia X 25 f20) ∧ σ (A 21) = some (gs_ia X 150 f21) ∧ σ (A 22) = some (gs_ia X 150 f22) ∧ σ (A 23) = some (gs_ia X 450 f23) ∧ Q.length ≤ 24 ∧ (∀ q R, Q[q]? = some R → rAt f18 f19 f20 f21 f22 f23 q R ∧ mrB nr R) ∧ ∀ R, dr = some R → rAt f18 f19 f20 f21 f22 f23 24 R ∧ mrB nr R
def scrA (X : gs_X) (σ : gs_St) (A : Nat → Nat) : Prop := ∃ f3 f24 f28 f29 f30 : Nat → Int32, σ (A 3) = some (gs_ia X 12 f3) ∧ σ (A 24) = some (gs_ia X 8 f24) ∧ σ (A 28) = some (gs_ia X 3 f28) ∧ σ (A 29) = some (gs_ia X 3 f29) ∧ σ (A 30) = some (gs_ia X 3 f30)
def objA (σ : gs_St) (mo : Nat) (A : Nat → Nat) (cd nr nf nt nq mk sa rc : Nat) : Prop := ∃ Z : Nat → Nat, σ mo = some (moE A Z) ∧ Z 0 = cd ∧ Z 1 = nr ∧ Z 4 = nf ∧ Z 7 = nt ∧ Z 16 = nq ∧ Z 17 = mk ∧ Z 25 = sa ∧ Z 26 = rc
def moA (X : gs_X) (σ : gs_St) (mo : Nat) (A : Nat → Nat) (cd nr : Nat) (cw : Nat → Nat) (F : List (Nat × Nat)) (T : List MT) (sa rc : Nat) (Q : List MR) (dr : Option MR) : Prop :=
  (aM mo A).Nodup ∧ nr ≤ 12 ∧ faB F ∧ tpB T ∧ rc < 2 ^ 20 ∧ objA σ mo A cd nr F.length T.length Q.length dr.isSome.toNat sa rc ∧ colA X σ A nr cw ∧ facA X σ A F ∧ tupA X σ A T ∧ bitA X σ (A 12) (tcs T) ∧ bitA X σ (A 13) [] ∧ rulA X σ A nr Q dr ∧ scrA X σ A
/-- what a frame keeps of the reference's cells, by their places -/
theorem kp {mo : Nat} {A : Nat → Nat} (hN : (aM mo A).Nodup) (I : List Nat) {σ τ : gs_St} (hf : frm (I.map (fun k => (aM mo A).getD k 0)) σ τ) (k : Nat) (hk : k < 21) (hI : k ∉ I) (hI2 : ∀ j ∈ I, j < 21) {e : va_E} {a : Nat} (ha : (aM mo A).getD k 0 = a) (h : σ a = some e) : τ a = some e := by
  subst ha
  refine hf _ _ (fun hm => ?_) h
  obtain ⟨j, hj, hj2⟩ := List.mem_map.mp hm
  have hl : (aM mo A).length = 21 := rfl
  have e1 : (aM mo A)[j]'(by rw [hl]; exact hI2 j hj) = (aM mo A)[k]'(by rw [hl]; exact hk) := by
    simpa [List.getD_eq_getElem?_getD, List.getElem?_eq_getElem (show j < (aM mo A).length by rw [hl]; exact hI2 j hj), List.getElem?_eq_getElem (show k < (aM mo A).length by rw [hl]; exact hk)] using hj2
  have e2 := (List.getElem_inj hN).mp e1
  exact hI (by rw [← e2]; exact hj)
theorem hN1 {mo : Nat} {A : Nat → Nat} (h : (aM mo A).Nodup) : (aL A).Nodup := (List.nodup_cons.mp h).2
section KP
variable {X : gs_X} {σ τ : gs_St} {mo : Nat} {A : Nat → Nat}
theorem colA.fr {nr : Nat} {cw : Nat → Nat} (h : colA X σ A nr cw) (hN : (aM mo A).Nodup) (I : List Nat) (hf : frm (I.map (fun k => (aM mo A).getD k 0)) σ τ) (h1 : 1 ∉ I) (h9 : ∀ j ∈ I, j < 21) : colA X τ A nr cw := by
  obtain ⟨f, e, r⟩ := h
  exact ⟨f, kp hN I hf 1 (by decide) h1 h9 rfl e, r⟩
theorem facA.fr {F : List (Nat × Nat)} (h : facA X σ A F) (hN : (aM mo A).Nodup) (I : List Nat) (hf : frm (I.map (fun k => (aM mo A).getD k 0)) σ τ) (h1 : 3 ∉ I ∧ 4 ∉ I) (h9 : ∀ j ∈ I, j < 21) : facA X τ A F := by
  obtain ⟨f, g, e1, e2, r⟩ := h
  exact ⟨f, g, kp hN I hf 3 (by decide) h1.1 h9 rfl e1, kp hN I hf 4 (by decide) h1.2 h9 rfl e2, r⟩
theorem tupA.fr {T : List MT} (h : tupA X σ A T) (hN : (aM mo A).Nodup) (I : List Nat) (hf : frm (I.map (fun k => (aM mo A).getD k 0)) σ τ) (h1 : 5 ∉ I ∧ 6 ∉ I ∧ 7 ∉ I ∧ 8 ∉ I) (h9 : ∀ j ∈ I, j < 21) : tupA X τ A T := by
  obtain ⟨f, g, f', g', e1, e2, e3, e4, r⟩ := h
  exact ⟨f, g, f', g', kp hN I hf 5 (by decide) h1.1 h9 rfl e1, kp hN I hf 6 (by decide) h1.2.1 h9 rfl e2, kp hN I hf 7 (by decide) h1.2.2.1 h9 rfl e3, kp hN I hf 8 (by decide) h1.2.2.2 h9 rfl e4, r⟩
theorem bitA.fr {P : List Nat} {k a : Nat} (h : bitA X σ a P) (hN : (aM mo A).Nodup) (I : List Nat) (hf : frm (I.map (fun k => (aM mo A).getD k 0)) σ τ) (h1 : k ∉ I) (h9 : ∀ j ∈ I, j < 21) (hk : k < 21) (ha : (aM mo A).getD k 0 = a) : bitA X τ a P := by
  obtain ⟨f, e, r⟩ := h
  exact ⟨f, kp hN I hf k hk h1 h9 ha e, r⟩
theorem rulA.fr {nr : Nat} {Q : List MR} {dr : Option MR} (h : rulA X σ A nr Q dr) (hN : (aM mo A).Nodup) (I : List Nat) (hf : frm (I.map (fun k => (aM mo A).getD k 0)) σ τ) (h1 : 11 ∉ I ∧ 12 ∉ I ∧ 13 ∉ I ∧ 14 ∉ I ∧ 15 ∉ I ∧ 16 ∉ I) (h9 : ∀ j ∈ I, j < 21) : rulA X τ A nr Q dr := by
  obtain ⟨a1, a2, a3, a4, a5, a6, e1, e2, e3, e4, e5, e6, r⟩ := h
  exact ⟨a1, a2, a3, a4, a5, a6, kp hN I hf 11 (by decide) h1.1 h9 rfl e1, kp hN I hf 12 (by decide) h1.2.1 h9 rfl e2, kp hN I hf 13 (by decide) h1.2.2.1 h9 rfl e3, kp hN I hf 14 (by decide) h1.2.2.2.1 h9 rfl e4, kp hN I hf 15 (by decide) h1.2.2.2.2.1 h9 rfl e5, kp hN I hf 16 (by decide) h1.2.2.2.2.2 h9 rfl e6, r⟩
theorem scrA.fr (h : scrA X σ A) (hN : (aM mo A).Nodup) (I : List Nat) (hf : frm (I.map (fun k => (aM mo A).getD k 0)) σ τ) (h1 : 2 ∉ I ∧ 17 ∉ I ∧ 18 ∉ I ∧ 19 ∉ I ∧ 20 ∉ I) (h9 : ∀ j ∈ I, j < 21) : scrA X τ A := by
  obtain ⟨a1, a2, a3, a4, a5, e1, e2, e3, e4, e5⟩ := h
  exact ⟨a1, a2, a3, a4, a5, kp hN I hf 2 (by decide) h1.1 h9 rfl e1, kp hN I hf 17 (by decide) h1.2.1 h9 rfl e2, kp hN I hf 18 (by decide) h1.2.2.1 h9 rfl e3, kp hN I hf 19 (by decide) h1.2.2.2.1 h9 rfl e4, kp hN I hf 20 (by decide) h1.2.2.2.2 h9 rfl e5⟩
/-- where the object's numbers alone changed -/
theorem moA.num {cd cd' nr : Nat} {cw : Nat → Nat} {F : List (Nat × Nat)} {T : List MT} {sa rc : Nat} {Q : List MR} {dr : Option MR} {sa' rc' : Nat} (h : moA X σ mo A cd nr cw F T sa rc Q dr) (hf : frm [mo] σ τ) (ho : objA τ mo A cd' nr F.length T.length Q.length dr.isSome.toNat sa' rc') (hr : rc' < 2 ^ 20) : moA X τ mo A cd' nr cw F T sa' rc' Q dr := by
  obtain ⟨hN, h1, h2, h3, h4, h5, p1, p2, p3, p4, p5, p6, p7⟩ := h
  have hf' : frm ([0].map (fun k => (aM mo A).getD k 0)) σ τ := hf
  exact ⟨hN, h1, h2, h3, hr, ho, p1.fr hN _ hf' (by decide) (by decide), p2.fr hN _ hf' (by decide) (by decide), p3.fr hN _ hf' (by decide) (by decide), p4.fr (k := 9) hN _ hf' (by decide) (by decide) (by decide) rfl, p5.fr (k := 10) hN _ hf' (by decide) (by decide) (by decide) rfl, p6.fr hN _ hf' (by decide) (by decide), p7.fr hN _ hf' (by decide) (by decide)⟩
end KP
