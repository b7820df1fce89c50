/-! the class's calls, from the whole object to the whole object -/
section RRW
variable {X : gs_X} {σ τ ρ : gs_St} {G : List Nat} {rr dv bk tu ma la cm ac ai ab lc li lb mc mi mb va co ru sr : Nat} {v : Nat → Nat} {sf cf : Nat → Int32} {fR : Nat → Option Nat} {dw : Value} {nr : Nat} {cw : Nat → Nat} {Q : List Rl} {E : List En} {Lt : List Nat} {sa : Nat} {nw : Bool} {rc fc : Nat} {dr : Option Dr}
theorem rrI.dvs (h : rrI X σ ρ G rr dv bk tu ma la cm ac ai ab lc li lb mc mi mb va co ru sr v sf cf fR dw nr cw Q E Lt sa nw rc fc) (hD : drA X σ ρ G va nr dw dr) (hX : X.2.1 3 ≠ X.2.1 2) (hf : frm [va, cm, mc, mi, mb, dv, tu, ac, ai, ab, la, lc] σ τ) {E' : List En} {Lt' : List Nat} {v' : Nat → Nat} {sa' : Nat} {nw' : Bool} {rc' : Nat} (hdv' : dvA X τ dv bk tu ma la cm ac ai ab lc li lb mc mi mb va E' Lt' v' sa' nw' rc') :
    rrA X τ G rr nr cw Q E' Lt' sa' nw' rc' fc dr ∧ kG σ τ G := by
  obtain ⟨q1, q2, q3, q4⟩ := h.frms hX hf (by simp)
  obtain ⟨r1, r2, r3, x0, hdv, k0, k2, k3, x2, r9, r10, r11, r12, r13, r14, r15⟩ := h
  exact ⟨⟨ρ, dv, bk, tu, ma, la, cm, ac, ai, ab, lc, li, lb, mc, mi, mb, va, co, ru, sr, v', sf, cf, fR, dw, ⟨r1, r2, r3, hdv.keeps hf x0 (by simp) (by simp) (by simp) (by simp), hdv', hdv.keeps hf k0 (by simp) (by simp) (by simp) (by simp), hdv.keeps hf k2 (by simp) (by simp) (by simp) (by simp), hdv.keeps hf k3 (by simp) (by simp) (by simp) (by simp), hdv.keeps hf x2 (by simp) (by simp) (by simp) (by simp), r9, r10, r11, r12, q1, r14, r15⟩, hD.keep q2 q3⟩, q4⟩
theorem c_rr_step (l : Launch) (hA : rrA X σ G rr nr cw Q E Lt sa nw rc fc dr) (hX : X.2.1 3 ≠ X.2.1 2) (hsa : sa < 2 ^ 20) (hrc : rc + 1 < 2 ^ 30) : gs_Mi l X y_RR_step b_RR_step 1 (some .int) ({ frames := 11, cells := 0, slots := 0, locals := 553 }) σ [.ref rr]
    (fun r σ' => ∃ v E' Lt' v' sa' nw' rc', nxt Q (fst Q nr).1 (scI Q nr) E Lt v sa nw rc = (r, (E', Lt', v', sa', nw', rc')) ∧ rrA X σ' G rr nr cw Q E' Lt' sa' nw' rc' fc dr ∧ kG σ σ' G) := by
  obtain ⟨ρ, dv, bk, tu, ma, la, cm, ac, ai, ab, lc, li, lb, mc, mi, mb, va, co, ru, sr, v, sf, cf, fR, dw, hI, hD⟩ := hA
  refine gs_Mi_post (c_RR_step l X σ rr dv bk tu ma la cm ac ai ab lc li lb mc mi mb va co ru sr nr sa rc fc dw nw (scI Q nr) E Lt v (fst Q nr).1 Q hI.1 hI.2.1 hI.2.2.2.1 hI.2.2.2.2.1 hI.bks hsa hrc) (fun r σ' z => ?_)
  obtain ⟨E', Lt', v', sa', nw', rc', h1, h2, h3⟩ := z
  obtain ⟨g1, g2⟩ := hI.dvs hD hX h3 h2
  exact ⟨v, E', Lt', v', sa', nw', rc', h1, g1, g2⟩
theorem c_rr_run (l : Launch) (hA : rrA X σ G rr nr cw Q E Lt sa nw rc fc dr) (hX : X.2.1 3 ≠ X.2.1 2) (hsa : sa + 1000 < 2 ^ 20) (hrc : rc + 1001 < 2 ^ 30) : gs_Mi l X y_RR_run b_RR_run 3 (some .int) ({ frames := 11, cells := 0, slots := 0, locals := 553 }) σ [.ref rr]
    (fun r σ' => ∃ v E' Lt' v' sa' nw' rc' cm9, runF Q (fst Q nr).1 (scI Q nr) 1000 0 (E, Lt, v, sa, nw, rc) = (cm9, (E', Lt', v', sa', nw', rc')) ∧ rrA X σ' G rr nr cw Q E' Lt' sa' nw' rc' fc dr ∧ kG σ σ' G ∧ r = (if cm9 = -4 then nI E'.length - nI fc else cm9)) := by
  obtain ⟨ρ, dv, bk, tu, ma, la, cm, ac, ai, ab, lc, li, lb, mc, mi, mb, va, co, ru, sr, v, sf, cf, fR, dw, hI, hD⟩ := hA
  refine gs_Mi_post (c_RR_run l X σ rr dv bk tu ma la cm ac ai ab lc li lb mc mi mb va co ru sr nr sa rc fc dw nw (scI Q nr) E Lt v (fst Q nr).1 Q hI.1 hI.2.1 hI.2.2.2.1 hI.2.2.2.2.1 hI.bks hsa hrc) (fun r σ' z => ?_)
  obtain ⟨E', Lt', v', sa', nw', rc', cm9, h1, h2, h3, h4⟩ := z
  obtain ⟨g1, g2⟩ := hI.dvs hD hX h3 h2
  exact ⟨v, E', Lt', v', sa', nw', rc', cm9, h1, g1, g2, h4⟩
theorem c_rr_matches (l : Launch) (hA : rrA X σ G rr nr cw Q E Lt sa nw rc fc dr) (hX : X.2.1 3 ≠ X.2.1 2) {q9 : Nat} {R : Rl} (hq9 : Q[q9]? = some R) : gs_Mi l X y_RR_matches b_RR_matches 2 (some .int) ({ frames := 10, cells := 0, slots := 0, locals := 421 }) σ [.ref rr, .int (nI q9)]
    (fun r σ' => ∃ v, rrA X σ' G rr nr cw Q E Lt sa nw rc fc dr ∧ kG σ σ' G ∧ r = nI (cnt (cds E) R.2.1 R.2.2 R.2.1.length 0 v).1) := by
  obtain ⟨ρ, dv, bk, tu, ma, la, cm, ac, ai, ab, lc, li, lb, mc, mi, mb, va, co, ru, sr, v, sf, cf, fR, dw, hI, hD⟩ := hA
  refine gs_Mi_post (c_RR_matches l X σ rr dv bk tu ma la cm ac ai ab lc li lb mc mi mb va co ru sr nr sa rc fc dw nw (scI Q nr) E Lt v (fst Q nr).1 Q q9 R hI.1 hI.2.1 hI.2.2.2.1 hI.2.2.2.2.1 hI.bks hq9) (fun r σ' z => ?_)
  obtain ⟨h1, h2, h3⟩ := z
  obtain ⟨g1, g2⟩ := hI.dvs hD hX (h2.wk (by simp)) h1
  exact ⟨v, g1, g2, h3⟩
theorem c_rr_like (l : Launch) (hA : rrA X σ G rr nr cw Q E Lt sa nw rc fc dr) (hX : X.2.1 3 ≠ X.2.1 2) {rl a b cz : Nat} (hrl : rl < nr) (ha : a < 72) (hb9 : b < 72) (hc9 : cz < 72) (hok : wi3 72 (cw rl) (nI a) (nI b) (nI cz) = true) : gs_Mi l X y_RR_like b_RR_like 7 (some .int) ({ frames := 10, cells := 5, slots := 32, locals := 421 }) σ [.ref rr, .int (nI rl), .int (nI a), .int (nI b), .int (nI cz)]
    (fun r σ' => ∃ v, rrA X σ' G rr nr cw Q E Lt sa nw rc fc dr ∧ kG σ σ' G ∧ r = nI (if safeB (lkK rl (cw rl) a b cz) (lkI rl (cw rl) a b cz) [] = true then (cnt (cds E) [lkT rl (cw rl) a b cz] [] 1 0 v).1 else 0)) := by
  obtain ⟨ρ, dv, bk, tu, ma, la, cm, ac, ai, ab, lc, li, lb, mc, mi, mb, va, co, ru, sr, v, sf, cf, fR, dw, hI, hD⟩ := hA
  obtain ⟨r1, r2, r3, x0, hdv, k0, k2, k3, x2, r9, r10, r11, r12, r13, r14, r15⟩ := id hI
  refine gs_Mi_post (c_RR_like l X σ rr dv bk tu ma la cm ac ai ab lc li lb mc mi mb va co ru sr nr sa rc fc dw nw (scI Q nr) E Lt v Q.length cf cw rl a b cz x0 hdv k0 x2 r12 hrl (r11 rl hrl).1 (r11 rl hrl).2.2 (r11 rl hrl).2.1 ha hb9 hc9 hok) (fun r σ' z => ?_)
  obtain ⟨⟨v', h1⟩, h2, h3⟩ := z
  obtain ⟨g1, g2⟩ := hI.dvs hD hX (h2.wk (by simp)) h1
  exact ⟨v, g1, g2, h3⟩
theorem c_rr_relation (l : Launch) (hA : rrA X σ G rr nr cw Q E Lt sa nw rc fc dr) (hX : X.2.1 3 ≠ X.2.1 2) {wd : Nat} (hlt : nr < 12) (hw1 : 1 ≤ wd) (hw3 : wd ≤ 3) : gs_Mi l X y_RR_relation b_RR_relation 2 (some .int) ({ frames := 5, cells := 0, slots := 0, locals := 130 }) σ [.ref rr, .int (nI wd)]
    (fun r σ' => rrA X σ' G rr (nr + 1) (va_up cw nr wd) Q (keepE E) Lt 0 true 0 fc dr ∧ kG σ σ' G ∧ r = nI nr) := by
  obtain ⟨ρ, dv, bk, tu, ma, la, cm, ac, ai, ab, lc, li, lb, mc, mi, mb, va, co, ru, sr, v, sf, cf, fR, dw, hI, hD⟩ := hA
  obtain ⟨r1, r2, r3, x0, hdv, k0, k2, k3, x2, r9, r10, r11, r12, r13, r14, r15⟩ := id hI
  refine gs_Mi_post (c_RR_relation l X σ rr dv bk tu ma la cm ac ai ab lc li lb mc mi mb va co ru sr nr sa rc fc dw nw (scI Q nr) E Lt v (fst Q nr).1 Q cf wd r1 r2 r3 x0 hdv hI.bks x2 r12 hlt (fst_out (fun R hR => by obtain ⟨i, hi⟩ := List.getElem?_of_mem hR; exact (r14 i R hi).2.2.1)) hw1 hw3) (fun r σ' z => ?_)
  obtain ⟨h1, h2, h3, h4, h5⟩ := z
  obtain ⟨q1, q2, q3, q4⟩ := hI.frms hX h4 (by simp)
  obtain ⟨fR', sf', g0, g2, g3, g4, g5, _⟩ := h2
  obtain ⟨cs, ci, cr, ds, vs, a9, b9, c9, z9, d0, t0, t1, t2, t3, l0, l1, m0, m1, m2, m3, q0, q1', _⟩ := id hdv
  refine ⟨⟨ρ, dv, bk, tu, ma, la, cm, ac, ai, ab, lc, li, lb, mc, mi, mb, va, co, ru, sr, v, sf', _, fR, dw, ⟨r1, r2, r3, ?_, h1, g0, ?_, g3, h3, g5, r10, col_snoc r11 hw1 hw3, by omega, q1, fun i R z => ⟨(r14 i R z).1, (r14 i R z).2.1, by have := (r14 i R z).2.2.1; omega, (r14 i R z).2.2.2⟩, r15⟩, (hD.keep q2 q3).mono (by omega)⟩, q4, h5⟩
  · exact h4 _ _ (nin_cons (gs_ne x0 k0 (by simp)) (nin_cons (gs_ne x0 x2 (by simp)) (nin_cons (gs_ne x0 k3 (by simp)) (nin_cons (gs_ne x0 d0 (by simp)) (nin_cons (gs_ne x0 t0 (by simp)) (nin_cons (gs_ne x0 t1 (by simp)) (nin_cons (gs_ne x0 t2 (by simp)) (nin_cons (gs_ne x0 t3 (by simp)) nin_nil)))))))) x0
  · exact h4 _ _ (nin_cons (gs_ne k2 k0 (by simp)) (nin_cons (gs_ne k2 x2 (by simp)) (nin_cons (gs_ne k2 k3 (by simp)) (nin_cons (gs_ne k2 d0 (by simp)) (nin_cons (gs_ne k2 t0 (by simp)) (nin_cons (gs_ne k2 t1 (by simp)) (nin_cons (gs_ne k2 t2 (by simp)) (nin_cons (gs_ne k2 t3 (by simp)) nin_nil)))))))) k2
/-- where the object's own head, the deriving and the tuples change -/
theorem rrI.fd (h : rrI X σ ρ G rr dv bk tu ma la cm ac ai ab lc li lb mc mi mb va co ru sr v sf cf fR dw nr cw Q E Lt sa nw rc fc) (hD : drA X σ ρ G va nr dw dr) (hX : X.2.1 3 ≠ X.2.1 2) (hf : frm [rr, dv, tu, ac, ai, ab] σ τ) {E' : List En} {fc' sa' rc' : Nat} {nw' : Bool} {Lt' : List Nat} {v' : Nat → Nat} (hdv' : dvA X τ dv bk tu ma la cm ac ai ab lc li lb mc mi mb va E' Lt' v' sa' nw' rc') (hx : τ rr = some (gs_ob 0 [.ref bk, .ref tu, .ref ma, .ref dv, .int (nI fc'), dw])) :
    rrA X τ G rr nr cw Q E' Lt' sa' nw' rc' fc' dr ∧ kG σ τ G := by
  obtain ⟨q1, q2, q3, q4⟩ := h.frms hX hf (by simp)
  obtain ⟨r1, r2, r3, x0, hdv, k0, k2, k3, x2, r9, r10, r11, r12, r13, r14, r15⟩ := h
  obtain ⟨cs, ci, cr, ds, vs, a9, b9, c9, z9, d0, t0, t1, t2, t3, l0, l1, m0, m1, m2, m3, q0, q1', _⟩ := id hdv
  refine ⟨⟨ρ, dv, bk, tu, ma, la, cm, ac, ai, ab, lc, li, lb, mc, mi, mb, va, co, ru, sr, v', sf, cf, fR, dw, ⟨r1, r2, r3, hx, hdv', ?_, ?_, ?_, ?_, r9, r10, r11, r12, q1, r14, r15⟩, hD.keep q2 q3⟩, q4⟩
  · exact hf _ _ (nin_cons (gs_ne k0 x0 (by simp)) (nin_cons (gs_ne k0 d0 (by simp)) (nin_cons (gs_ne k0 t0 (by simp)) (nin_cons (gs_ne k0 t1 (by simp)) (nin_cons (gs_ne k0 t2 (by simp)) (nin_cons (gs_ne k0 t3 (by simp)) nin_nil)))))) k0
  · exact hf _ _ (nin_cons (gs_ne k2 x0 (by simp)) (nin_cons (gs_ne k2 d0 (by simp)) (nin_cons (gs_ne k2 t0 (by simp)) (nin_cons (gs_ne k2 t1 (by simp)) (nin_cons (gs_ne k2 t2 (by simp)) (nin_cons (gs_ne k2 t3 (by simp)) nin_nil)))))) k2
  · exact hf _ _ (nin_cons (gs_ne k3 x0 (by simp)) (nin_cons (gs_ne k3 d0 (by simp)) (nin_cons (gs_ne k3 t0 (by simp)) (nin_cons (gs_ne k3 t1 (by simp)) (nin_cons (gs_ne k3 t2 (by simp)) (nin_cons (gs_ne k3 t3 (by simp)) nin_nil)))))) k3
  · exact hf _ _ (nin_cons (gs_ne x2 x0 (by simp)) (nin_cons (gs_ne x2 d0 (by simp)) (nin_cons (gs_ne x2 t0 (by simp)) (nin_cons (gs_ne x2 t1 (by simp)) (nin_cons (gs_ne x2 t2 (by simp)) (nin_cons (gs_ne x2 t3 (by simp)) nin_nil)))))) x2
/-- the cells of a store that rules may stand on -/
noncomputable def rOf (X : gs_X) (σ : gs_St) : gs_St := fun q => (σ q).bind (fun e => haveI := Classical.propDecidable (noR X e); if noR X e then none else some e)
theorem rOf_le : ∀ q e, rOf X σ q = some e → σ q = some e ∧ ¬ noR X e := by
  intro q e h
  unfold rOf at h
  cases hs : σ q with
  | none => rw [hs] at h; cases h
  | some e' =>
    rw [hs] at h
    simp only [Option.bind_some] at h
    split at h
    · cases h
    · rename_i hn; cases h; exact ⟨rfl, hn⟩
theorem rOf_of {q : Nat} {e : va_E} (h : σ q = some e) (hn : ¬ noR X e) : rOf X σ q = some e := by
  unfold rOf
  rw [h]
  simp only [Option.bind_some]
  rw [if_neg hn]
theorem ruAt.rOf {a : Nat} {R : Rl} (h : ruAt X σ a R) : ruAt X (rOf X σ) a R := h.of (fun q ci fs hc z => rOf_of z (fun n => n.1 ci fs hc rfl)) (fun q n f z => rOf_of z (fun m => m.2 n f rfl))
end RRW
