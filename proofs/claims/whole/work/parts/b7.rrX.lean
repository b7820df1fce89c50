section RRX
variable {X : gs_X} {σ τ ρ : gs_St} {G : List Nat} {rr dv bk tu ma la cm ac ai ab lc li lb mc mi mb va co ru sr : Nat} {v : Nat → Nat} {sf cf : Nat → Int32} {fR : Nat → Option Nat} {dw : Value} {nr : Nat} {cw : Nat → Nat} {Q : List Rl} {E : List En} {Lt : List Nat} {sa : Nat} {nw : Bool} {rc fc : Nat} {dr : Option Dr}
theorem c_rr_fact (l : Launch) (hA : rrA X σ G rr nr cw Q E Lt sa nw rc fc dr) (hX : X.2.1 3 ≠ X.2.1 2) {rl a b cz : Nat} (hrl : rl < nr) (ha : a < 64) (hb9 : b < 64) (hc9 : cz < 64) (hok : wi3 64 (cw rl) (nI a) (nI b) (nI cz) = true) (hst9 : (cds E).Pairwise (· < ·)) (hin : ¬ (∃ x ∈ E, x.1 = ((rl * 64 + a) * 64 + b) * 64 + cz ∧ x.2.1 = 0)) (hfc : fc < 200) (hkp : (keepE E).length = fc) : gs_Mi l X y_RR_fact b_RR_fact 6 (some .boolean) ({ frames := 3, cells := 0, slots := 0, locals := 87 }) σ [.ref rr, .int (nI rl), .int (nI a), .int (nI b), .int (nI cz)]
    (fun r σ' => rrA X σ' G rr nr cw Q (insE (keepE E) (((rl * 64 + a) * 64 + b) * 64 + cz, 0, -1)) Lt 0 true 0 (fc + 1) dr ∧ kG σ σ' G ∧ r = nI 1) := by
  obtain ⟨ρ, dv, bk, tu, ma, la, cm, ac, ai, ab, lc, li, lb, mc, mi, mb, va, co, ru, sr, v, sf, cf, fR, dw, hI, hD⟩ := hA
  obtain ⟨r1, r2, r3, x0, hdv, k0, k2, k3, x2, r9, r10, r11, r12, r13, r14, r15⟩ := id hI
  refine gs_Mi_post (c_RR_fact l X σ rr dv bk tu ma la cm ac ai ab lc li lb mc mi mb va co ru sr nr sa rc fc dw nw (scI Q nr) E Lt v (fst Q nr).1 Q cf cw rl a b cz r1 r2 x0 hdv hI.bks x2 r12 hrl (r11 rl hrl).1 (r11 rl hrl).2.2 ha hb9 hc9 hok hst9 hin hfc hkp) (fun r σ' z => ?_)
  obtain ⟨h1, h2, h3, h4⟩ := z
  obtain ⟨g1, g2⟩ := hI.fd hD hX h3 h1 h2
  exact ⟨g1, g2, h4⟩
theorem c_rr_drop (l : Launch) (hA : rrA X σ G rr nr cw Q E Lt sa nw rc fc dr) (hX : X.2.1 3 ≠ X.2.1 2) {rl a b cz : Nat} (hrl : rl < nr) (ha : a < 64) (hb9 : b < 64) (hc9 : cz < 64) (hok : wi3 64 (cw rl) (nI a) (nI b) (nI cz) = true) (hst9 : (cds E).Pairwise (· < ·)) (hin : ∃ x ∈ E, x.1 = ((rl * 64 + a) * 64 + b) * 64 + cz ∧ x.2.1 = 0) (hfc : 1 ≤ fc) (hfc2 : fc < 2 ^ 20) : gs_Mi l X y_RR_drop b_RR_drop 6 (some .boolean) ({ frames := 3, cells := 0, slots := 0, locals := 85 }) σ [.ref rr, .int (nI rl), .int (nI a), .int (nI b), .int (nI cz)]
    (fun r σ' => rrA X σ' G rr nr cw Q (keepE (delE E (cb (cds E) (((rl * 64 + a) * 64 + b) * 64 + cz)))) Lt 0 true 0 (fc - 1) dr ∧ kG σ σ' G ∧ r = nI 1) := by
  obtain ⟨ρ, dv, bk, tu, ma, la, cm, ac, ai, ab, lc, li, lb, mc, mi, mb, va, co, ru, sr, v, sf, cf, fR, dw, hI, hD⟩ := hA
  obtain ⟨r1, r2, r3, x0, hdv, k0, k2, k3, x2, r9, r10, r11, r12, r13, r14, r15⟩ := id hI
  refine gs_Mi_post (c_RR_drop l X σ rr dv bk tu ma la cm ac ai ab lc li lb mc mi mb va co ru sr nr sa rc fc dw nw (scI Q nr) E Lt v (fst Q nr).1 Q cf cw rl a b cz r1 r2 x0 hdv hI.bks x2 r12 hrl (r11 rl hrl).1 (r11 rl hrl).2.2 ha hb9 hc9 hok hst9 hin hfc hfc2) (fun r σ' z => ?_)
  obtain ⟨h1, h2, h3, h4⟩ := z
  obtain ⟨g1, g2⟩ := hI.fd hD hX h3 h1 h2
  exact ⟨g1, g2, h4⟩
/-- where all but the object's own cell and new ones is kept -/
theorem rrI.rr1 (h : rrI X σ ρ G rr dv bk tu ma la cm ac ai ab lc li lb mc mi mb va co ru sr v sf cf fR dw nr cw Q E Lt sa nw rc fc) (hX : X.2.1 3 ≠ X.2.1 2) (hf : frm [rr] σ τ) {dw' : Value} (hx : τ rr = some (gs_ob 0 [.ref bk, .ref tu, .ref ma, .ref dv, .int (nI fc), dw'])) : rrI X τ ρ G rr dv bk tu ma la cm ac ai ab lc li lb mc mi mb va co ru sr v sf cf fR dw' nr cw Q E Lt sa nw rc fc ∧ kG σ τ G := by
  obtain ⟨q1, q2, q3, q4⟩ := h.frms hX hf (by simp)
  obtain ⟨r1, r2, r3, x0, hdv, k0, k2, k3, x2, r9, r10, r11, r12, r13, r14, r15⟩ := h
  have kp : ∀ q e, σ q = some e → (∀ fs, e ≠ gs_ob 0 fs) → τ q = some e := fun q e hq hn => hf q e (nin_cons (fun z => by rw [z, x0] at hq; exact hn _ (Option.some.inj hq).symm) nin_nil) hq
  have hdv' : dvA X τ dv bk tu ma la cm ac ai ab lc li lb mc mi mb va E Lt v sa nw rc := by
    obtain ⟨cs, ci, cr, ds, vs, a9, b9, c9, z9, d0, t0, t1, t2, t3, l0, l1, m0, m1, m2, m3, q0, q1, r⟩ := hdv
    exact ⟨cs, ci, cr, ds, vs, a9, b9, c9, z9, kp _ _ d0 (by simp), kp _ _ t0 (by simp), kp _ _ t1 (by simp), kp _ _ t2 (by simp), kp _ _ t3 (by simp), kp _ _ l0 (by simp), kp _ _ l1 (by simp), kp _ _ m0 (by simp), kp _ _ m1 (by simp), kp _ _ m2 (by simp), kp _ _ m3 (by simp), kp _ _ q0 (by simp), kp _ _ q1 (by simp), r⟩
  exact ⟨⟨r1, r2, r3, hx, hdv', kp _ _ k0 (by simp), kp _ _ k2 (by simp), kp _ _ k3 (by simp), kp _ _ x2 (by simp), r9, r10, r11, r12, q1, r14, r15⟩, q4⟩
theorem c_rr_head (l : Launch) (hA : rrA X σ G rr nr cw Q E Lt sa nw rc fc dr) (hX : X.2.1 3 ≠ X.2.1 2) (hg : gG X σ G) {rl a b cz : Nat} (hrl : rl < nr) (ha : a < 72) (hb9 : b < 72) (hc9 : cz < 72) (hok : wi3 72 (cw rl) (nI a) (nI b) (nI cz) = true) : gs_Mv l X y_RR_head b_RR_head 5 ({ frames := 3, cells := 5, slots := 32, locals := 69 }) σ [.ref rr, .int (nI rl), .int (nI a), .int (nI b), .int (nI cz)]
    (fun σ' => rrA X σ' G rr nr cw Q E Lt sa nw rc fc (some (((0, rl, cw rl), (a, b, cz), (0, cw rl, nI 0)), [], [], fun _ => 0)) ∧ kG σ σ' G) := by
  obtain ⟨ρ, dv, bk, tu, ma, la, cm, ac, ai, ab, lc, li, lb, mc, mi, mb, va, co, ru, sr, v, sf, cf, fR, dw, hI, hD⟩ := hA
  obtain ⟨r1, r2, r3, x0, hdv, k0, k2, k3, x2, r9, r10, r11, r12, r13, r14, r15⟩ := id hI
  refine gs_Mv_post (c_RR_head l X σ rr bk tu ma dv co ru sr nr Q.length fc (scI Q nr) dw cf cw rl a b cz x0 k0 r12 x2 hrl (r11 rl hrl).1 (r11 rl hrl).2.2 ha hb9 hc9 hok) (fun σ' z => ?_)
  obtain ⟨d, hd, ho, ck, kf, n1, n2, n3, n4, n5, h1, h2, h3, h4, h5, h6, h7⟩ := z
  obtain ⟨g1, g2⟩ := hI.rr1 hX h7 h1
  have hn : ∀ q, σ q = none → ρ q = none := fun q hq => by
    cases e : ρ q with
    | none => rfl
    | some z => rw [(r13 q z e).1] at hq; cases hq
  have hva : kf ≠ va := fun z => by
    obtain ⟨cs, ci, cr, ds, vs, a9, b9, c9, z9, d0, t0, t1, t2, t3, l0, l1, m0, m1, m2, m3, q0, q1, r⟩ := hdv
    rw [z, q1] at n5; cases n5
  have hkG : kf ∉ G := fun z => by obtain ⟨e, g3, _⟩ := hg kf z; rw [n5] at g3; cases g3
  exact ⟨⟨ρ, dv, bk, tu, ma, la, cm, ac, ai, ab, lc, li, lb, mc, mi, mb, va, co, ru, sr, v, sf, cf, fR, _, g1, d, hd, ho, ck, kf, _, _, fun _ => 0, fun _ => 0, _, rfl, h2, h4, h5, h6, fun j _ => ⟨rfl, Nat.zero_le 3⟩, h3, fun i t z => by simp at z, fun i t z => by simp at z, fun i j z => absurd z (by simp), ⟨itB_new (by decide) (by omega) (r11 rl hrl).2.2 ha hb9 hc9, by simp, by simp, (fun t ht => by cases ht), (fun t ht => by cases ht)⟩, hrl, hva, hkG, hn _ n1, hn _ n2, hn _ n3, hn _ n4, fun i z => absurd z (by simp), fun i z => absurd z (by simp)⟩, g2⟩
end RRX
