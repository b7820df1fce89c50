/-! a rule that is settled -/
def stl (kn : Nat → Nat) (th : It) (hs ks : List It) : Rl := (wR th (rdI (rdO kn th)), hs, ks.map (fun t => wR t (rdI (rdO kn t))))
theorem stl_B {kn : Nat → Nat} {th : It} {hs ks : List It} (h : ruB (th, hs, ks)) : ruB (stl kn th hs ks) := by
  obtain ⟨h1, h2, h3, h4, h5⟩ := h
  refine ⟨h1, h2, by simpa [stl] using h3, h4, fun t ht => ?_⟩
  obtain ⟨t0, q1, q2⟩ := List.mem_map.mp ht
  subst q2
  exact h5 t0 q1
theorem stl_rsv {kv : Nat → Int32} {kn : Nat → Nat} {th : It} {hs ks : List It} (hkn : kOK kv kn) (ht : ∀ j, tm th j < 72) (hsf : safeB kn th ks = true) : rsv (stl kn th hs ks) := by
  unfold safeB at hsf
  rw [Bool.and_eq_true] at hsf
  obtain ⟨n, hn⟩ := Option.isSome_iff_exists.mp hsf.1
  have h3 : n ≤ 3 := rdP_le hkn ht _ _ hn
  have e : (stl kn th hs ks).1.2.2.2.2 = nI n := by show rdI (rdO kn th) = nI n; rw [hn]; rfl
  have e2 : rdN (stl kn th hs ks) = n := by
    unfold rdN; rw [e]
    rcases (show n = 0 ∨ n = 1 ∨ n = 2 ∨ n = 3 by omega) with rfl | rfl | rfl | rfl <;> rfl
  exact ⟨by rw [e, e2], by rw [e2]; exact h3⟩
theorem stl_at {X : gs_X} {σ τ : gs_St} {d hd ho ck kf : Nat} {fH fC : Nat → Option Nat} {ca : Nat → Nat} {kn : Nat → Nat} {th : It} {hs ks : List It} (hkp : ∀ q e, σ q = some e → (∀ fs, e ≠ gs_ob 2 fs) → τ q = some e) (h1 : τ hd = some (itE (wR th (rdI (rdO kn th))))) (h2 : ∀ i t, i < ks.length → ks[i]? = some t → τ (ca i) = some (itE (wR t (rdI (rdO kn t))))) (h3 : ∀ q, q ≠ hd → (∀ i, i < ks.length → q ≠ ca i) → τ q = σ q)
    (r0 : σ d = some (gs_ob 4 [.ref hd, .ref ho, .ref ck, .int (nI hs.length), .int (nI ks.length), .ref kf])) (r1 : σ ho = some (gs_qa X 3 3 fH)) (r2 : σ ck = some (gs_qa X 3 6 fC)) (rh : ∀ i t, hs[i]? = some t → ∃ b, fH i = some b ∧ σ b = some (itE t) ∧ b ≠ hd ∧ ∀ j, j < ks.length → b ≠ ca j) (rk : ∀ i t, ks[i]? = some t → fC i = some (ca i)) : ruAt X τ d (stl kn th hs ks) := by
  refine ⟨hd, ho, ck, kf, fH, fC, ?_, h1, hkp _ _ r1 (by simp), hkp _ _ r2 (by simp), fun i t z => ?_, fun i t z => ?_⟩
  · have := hkp _ _ r0 (by simp)
    simpa [stl] using this
  · obtain ⟨b, e1, e2, e3, e4⟩ := rh i t z
    exact ⟨b, e1, by rw [h3 b e3 e4]; exact e2⟩
  · simp only [stl, List.getElem?_map] at z
    cases hk : ks[i]? with
    | none => rw [hk] at z; cases z
    | some t0 =>
      rw [hk] at z
      cases z
      exact ⟨ca i, rk i t0 hk, h2 i t0 (List.getElem?_eq_some_iff.mp hk).1 hk⟩
theorem noR_q2 {X : gs_X} {n : Nat} {f : Nat → Option Nat} (hX : X.2.1 3 ≠ X.2.1 2) : noR X (gs_qa X 2 n f) := ⟨fun c f hc z => by simp at z, fun n f z => by simp at z; exact hX z.1.symm⟩
theorem bk_snoc {X : gs_X} {τ : gs_St} {Q : List Rl} {fR : Nat → Option Nat} {d : Nat} {R9 : Rl} (hQ : ∀ i R, Q[i]? = some R → ruB R ∧ rsv R ∧ ∃ a, fR i = some a ∧ ruAt X τ a R) (h9 : ruB R9 ∧ rsv R9 ∧ ruAt X τ d R9) : ∀ i R, (Q ++ [R9])[i]? = some R → ruB R ∧ rsv R ∧ ∃ a, (va_up fR Q.length (some d)) i = some a ∧ ruAt X τ a R := by
  intro i R z
  by_cases e : i < Q.length
  · rw [List.getElem?_append_left e] at z
    obtain ⟨g1, g2, a, g3, g4⟩ := hQ i R z
    exact ⟨g1, g2, a, by simp only [va_up, if_neg (show i ≠ Q.length by omega)]; exact g3, g4⟩
  · have e2 : i = Q.length := by have := (List.getElem?_eq_some_iff.mp z).1; simp at this; omega
    subst e2
    simp at z
    subst z
    exact ⟨h9.1, h9.2.1, d, by simp [va_up], h9.2.2⟩
