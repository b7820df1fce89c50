section RRY
variable {X : gs_X} {σ τ ρ : gs_St} {G : List Nat} {rr dv bk tu ma la cm ac ai ab lc li lb mc mi mb va co ru sr : Nat} {v : Nat → Nat} {sf cf : Nat → Int32} {fR : Nat → Option Nat} {dw : Value} {nr : Nat} {cw : Nat → Nat} {Q : List Rl} {E : List En} {Lt : List Nat} {sa : Nat} {nw : Bool} {rc fc : Nat} {dr : Option Dr}
theorem rrI.kept (h : rrI X σ ρ G rr dv bk tu ma la cm ac ai ab lc li lb mc mi mb va co ru sr v sf cf fR dw nr cw Q E Lt sa nw rc fc) (kO : ∀ q e, q ∈ [rr, dv, bk, tu, ma, la, cm, ac, ai, ab, lc, mc, mi, mb, va, co, ru, sr] → σ q = some e → τ q = some e) (kρ : ∀ q e, ρ q = some e → τ q = some e) : rrI X τ ρ G rr dv bk tu ma la cm ac ai ab lc li lb mc mi mb va co ru sr v sf cf fR dw nr cw Q E Lt sa nw rc fc := by
  obtain ⟨r1, r2, r3, x0, hdv, k0, k2, k3, x2, r9, r10, r11, r12, r13, r14, r15⟩ := h
  have hdv' : dvA X τ dv bk tu ma la cm ac ai ab lc li lb mc mi mb va E Lt v sa nw rc := by
    obtain ⟨cs, ci, cr, ds, vs, a9, b9, c9, z9, d0, t0, t1, t2, t3, l0, l1, m0, m1, m2, m3, q0, q1, r⟩ := hdv
    exact ⟨cs, ci, cr, ds, vs, a9, b9, c9, z9, kO _ _ (by simp) d0, kO _ _ (by simp) t0, kO _ _ (by simp) t1, kO _ _ (by simp) t2, kO _ _ (by simp) t3, kO _ _ (by simp) l0, kO _ _ (by simp) l1, kO _ _ (by simp) m0, kO _ _ (by simp) m1, kO _ _ (by simp) m2, kO _ _ (by simp) m3, kO _ _ (by simp) q0, kO _ _ (by simp) q1, r⟩
  exact ⟨r1, r2, r3, kO _ _ (by simp) x0, hdv', kO _ _ (by simp) k0, kO _ _ (by simp) k2, kO _ _ (by simp) k3, kO _ _ (by simp) x2, r9, r10, r11, r12, fun q e z => ⟨kρ q e z, (r13 q e z).2⟩, r14, r15⟩
theorem nR2 (fs : List Value) : ¬ noR X (gs_ob 2 fs) := fun z => z.1 2 fs (Or.inr rfl) rfl
theorem nR4 (fs : List Value) : ¬ noR X (gs_ob 4 fs) := fun z => z.1 4 fs (Or.inl rfl) rfl
theorem nRq (n : Nat) (f : Nat → Option Nat) : ¬ noR X (gs_qa X 3 n f) := fun z => z.2 n f rfl
/-- cells of the making are no own cells, none of the outside, none of the book's rules -/
theorem rrI.mk (h : rrI X σ ρ G rr dv bk tu ma la cm ac ai ab lc li lb mc mi mb va co ru sr v sf cf fR dw nr cw Q E Lt sa nw rc fc) (hX : X.2.1 3 ≠ X.2.1 2) (hg : gG X σ G) {A : List Nat} (hf : frm A σ τ) (hA : ∀ q ∈ A, (∃ e, σ q = some e ∧ (¬ noR X e ∨ ((∃ f, e = gs_ia X 8 f) ∧ q ≠ va ∧ q ∉ G))) ∧ ρ q = none) :
    rrI X τ ρ G rr dv bk tu ma la cm ac ai ab lc li lb mc mi mb va co ru sr v sf cf fR dw nr cw Q E Lt sa nw rc fc ∧ kG σ τ G := by
  have ho := h.own hX
  refine ⟨h.kept (fun q e hq he => hf q e (fun z => ?_) he) (fun q e hq => hf q e (fun z => ?_) (h.2.2.2.2.2.2.2.2.2.2.2.2.2.1 q e hq).1), fun q hq e he => hf q e (fun z => ?_) he⟩
  · obtain ⟨e1, g1, g2, g3⟩ := ho q hq
    obtain ⟨⟨e2, g4, g5⟩, _⟩ := hA q z
    rw [g1] at g4; cases g4
    rcases g5 with g5 | ⟨⟨f, g5⟩, g6, _⟩
    · exact g5 g2
    · exact g3 g6 f g5
  · rw [(hA q z).2] at hq; cases hq
  · obtain ⟨e1, g1, g2⟩ := hg q hq
    obtain ⟨⟨e2, g4, g5⟩, _⟩ := hA q z
    rw [g1] at g4; cases g4
    rcases g5 with g5 | ⟨_, _, g6⟩
    · exact g5 g2
    · exact g6 hq
theorem ne_fresh {a b : Nat} {e : va_E} (h : σ a = none) (h2 : σ b = some e) : a ≠ b := fun z => by rw [z, h2] at h; cases h
theorem c_rr_item_h (l : Launch) {th : It} {hs ks : List It} {kn : Nat → Nat} (hA : rrA X σ G rr nr cw Q E Lt sa nw rc fc (some (th, hs, ks, kn))) (hX : X.2.1 3 ≠ X.2.1 2) (hg : gG X σ G) {rl a b cz : Nat} (hrl : rl < nr) (ha : a < 72) (hb9 : b < 72) (hc9 : cz < 72) (hok : wi3 72 (cw rl) (nI a) (nI b) (nI cz) = true) (hrm : hs.length + ks.length < 6 ∧ hs.length < 3) : gs_Mi l X y_RR_item b_RR_item 7 (some .int) ({ frames := 4, cells := 1, slots := 9, locals := 106 }) σ [.ref rr, .int (nI 0), .int (nI rl), .int (nI a), .int (nI b), .int (nI cz)]
    (fun r σ' => rrA X σ' G rr nr cw Q E Lt sa nw rc fc (some (th, hs ++ [bindI kn ((0, rl, cw rl), (a, b, cz), (0, cw rl, nI 0))], ks, knP kn (bindI kn ((0, rl, cw rl), (a, b, cz), (0, cw rl, nI 0))) (hs.length + 1) (cw rl))) ∧ kG σ σ' G ∧ r = nI (hs.length + ks.length + 1)) := by
  obtain ⟨ρ, dv, bk, tu, ma, la, cm, ac, ai, ab, lc, li, lb, mc, mi, mb, va, co, ru, sr, v, sf, cf, fR, dw, hI, d, hd, ho, ck, kf, fH, fC, hp, ca, kv, g0, g1, g2, g3, g4, g5, g6, g7, g8, g9, g10, g11, g12, g13, g14, g15, g16, g17, g18, g19⟩ := hA
  subst g0
  obtain ⟨r1, r2, r3, x0, hdv, k0, k2, k3, x2, r9, r10, r11, r12, r13, r14, r15⟩ := id hI
  refine gs_Mi_post (c_RR_item_ih l X σ rr bk tu ma dv co ru sr nr Q.length fc (scI Q nr) cf cw rl d hd ho ck kf hs.length ks.length fH fC kv kn 0 a b cz x0 k0 r12 x2 hrl (r11 rl hrl).1 (r11 rl hrl).2.2 g1 g10.2.1 g10.2.2.1 g2 g3 g4 g5 rfl ha hb9 hc9 hok ⟨hrm.1, Or.inr hrm.2⟩ (r11 rl hrl).2.1) (fun r σ' z => ?_)
  obtain ⟨kv', h1, b0, h2, h3, h4, h5, h6, h7, h8⟩ := z
  obtain ⟨q1, q2⟩ := hI.mk hX hg h7 (fun q hq => by
    simp only [List.mem_cons, List.not_mem_nil, or_false] at hq
    rcases hq with rfl | rfl | rfl
    · exact ⟨⟨_, g1, Or.inl (nR4 _)⟩, g14⟩
    · exact ⟨⟨_, g2, Or.inl (nRq _ _)⟩, g16⟩
    · exact ⟨⟨_, g4, Or.inr ⟨⟨_, rfl⟩, g12, g13⟩⟩, by
        cases e : ρ q with
        | none => rfl
        | some z => obtain ⟨w1, w2⟩ := r13 q z e; rw [g4] at w1; cases w1; exact absurd noR_ia w2⟩)
  have kI : ∀ q t, σ q = some (itE t) → σ' q = some (itE t) := fun q t hq => h7 q _ (nin_cons (gs_ne hq g1 (by simp)) (nin_cons (gs_ne hq g2 (by simp)) (nin_cons (gs_ne hq g4 (by simp)) nin_nil))) hq
  have hρb : ρ b0 = none := by
    cases e : ρ b0 with
    | none => rfl
    | some z => have := (r13 b0 z e).1; rw [h2] at this; cases this
  refine ⟨⟨ρ, dv, bk, tu, ma, la, cm, ac, ai, ab, lc, li, lb, mc, mi, mb, va, co, ru, sr, v, sf, cf, fR, _, q1, d, hd, ho, ck, kf, va_up fH hs.length (some b0), fC, va_up hp hs.length b0, ca, kv', rfl, by rw [List.length_append]; exact h3, h5, h7 _ _ (nin_cons (gs_ne g3 g1 (by simp)) (nin_cons (gs_ne g3 g2 (by simp)) (nin_cons (gs_ne g3 g4 (by simp)) nin_nil))) g3, h6, h1, kI _ _ g6, fun i t z => ?_, fun i t z => ⟨(g8 i t z).1, kI _ _ (g8 i t z).2.1, (g8 i t z).2.2⟩, g9, ⟨g10.1, by rw [List.length_append]; exact hrm.2, g10.2.2.1, fun t ht => ?_, g10.2.2.2.2⟩, g11, g12, g13, g14, g15, g16, g17, fun i hi => ?_, g19⟩, q2, h8⟩
  · by_cases e : i < hs.length
    · rw [List.getElem?_append_left e] at z
      obtain ⟨w1, w2, w3, w4⟩ := g7 i t z
      simp only [va_up, if_neg (show i ≠ hs.length by omega)]
      exact ⟨w1, kI _ _ w2, w3, w4⟩
    · have e2 : i = hs.length := by have := (List.getElem?_eq_some_iff.mp z).1; simp at this; omega
      subst e2
      simp at z
      subst z
      simp only [va_up, if_true]
      exact ⟨trivial, h4, ne_fresh h2 g6, fun j hj => ne_fresh h2 (g8 j _ (List.getElem?_eq_getElem hj)).2.1⟩
  · rcases List.mem_append.mp ht with z | z
    · exact g10.2.2.2.1 t z
    · rw [List.mem_singleton.mp z]; exact bindI_B (by decide) (by omega) (r11 rl hrl).2.2 ha hb9 hc9
  · simp only [va_up]
    split
    · exact hρb
    · rename_i hne
      exact g18 i (show i < hs.length by
        have hi : i < (hs ++ [bindI kn ((0, rl, cw rl), (a, b, cz), (0, cw rl, nI 0))]).length := hi
        rw [List.length_append] at hi
        simp at hi
        omega)
/-- a check comes to the making -/
theorem rrI.chk (hI : rrI X σ ρ G rr dv bk tu ma la cm ac ai ab lc li lb mc mi mb va co ru sr v sf cf fR dw nr cw Q E Lt sa nw rc fc) (hX : X.2.1 3 ≠ X.2.1 2) (hg : gG X σ G) {th : It} {hs ks : List It} {kn : Nat → Nat} (hD : drA X σ ρ G va nr dw (some (th, hs, ks, kn))) {d hd ho ck kf b0 : Nat} {fC : Nat → Option Nat} {t0 : It} (hdw : dw = .ref d) (hd0 : σ d = some (gs_ob 4 [.ref hd, .ref ho, .ref ck, .int (nI hs.length), .int (nI ks.length), .ref kf])) (hck : σ ck = some (gs_qa X 3 6 fC))
    (h2 : σ b0 = none) (h3 : τ d = some (gs_ob 4 [.ref hd, .ref ho, .ref ck, .int (nI hs.length), .int (nI (ks.length + 1)), .ref kf])) (h4 : τ b0 = some (itE t0)) (h5 : τ ck = some (gs_qa X 3 6 (va_up fC ks.length (some b0)))) (h7 : frm [d, ck] σ τ) (ht : itB t0 ∧ t0.1.1 ≠ 0) (hl : ks.length < 6) : rrA X τ G rr nr cw Q E Lt sa nw rc fc (some (th, hs, ks ++ [t0], kn)) ∧ kG σ τ G := by
  obtain ⟨d', hd', ho', ck', kf', fH, fC', hp, ca, kv, g0, g1, g2, g3, g4, g5, g6, g7, g8, g9, g10, g11, g12, g13, g14, g15, g16, g17, g18, g19⟩ := hD
  subst g0
  cases hdw
  rw [hd0] at g1
  simp only [Option.some.injEq, Sum.inr.injEq, Prod.mk.injEq, List.cons.injEq, Value.ref.injEq, and_true, true_and] at g1
  obtain ⟨rfl, rfl, rfl, rfl⟩ : hd = hd' ∧ ho = ho' ∧ ck = ck' ∧ kf = kf' := by first | exact g1 | exact ⟨g1.1, g1.2.1, g1.2.2.1, g1.2.2.2⟩ | (simp at g1; exact g1)
  rw [hck] at g3
  obtain rfl : fC = fC' := by
    have := Option.some.inj g3
    simp only [gs_qa, Sum.inl.injEq, Prod.mk.injEq, Sum.inr.injEq, true_and] at this
    exact this
  obtain ⟨r1, r2, r3, x0, hdv, k0, k2, k3, x2, r9, r10, r11, r12, r13, r14, r15⟩ := id hI
  obtain ⟨q1, q2⟩ := hI.mk hX hg h7 (fun q hq => by
    simp only [List.mem_cons, List.not_mem_nil, or_false] at hq
    rcases hq with rfl | rfl
    · exact ⟨⟨_, hd0, Or.inl (nR4 _)⟩, g14⟩
    · exact ⟨⟨_, hck, Or.inl (nRq _ _)⟩, g17⟩)
  have kI : ∀ q t, σ q = some (itE t) → τ q = some (itE t) := fun q t hq => h7 q _ (nin_cons (gs_ne hq hd0 (by simp)) (nin_cons (gs_ne hq hck (by simp)) nin_nil)) hq
  have hρb : ρ b0 = none := by
    cases e : ρ b0 with
    | none => rfl
    | some z => have := (r13 b0 z e).1; rw [h2] at this; cases this
  refine ⟨⟨ρ, dv, bk, tu, ma, la, cm, ac, ai, ab, lc, li, lb, mc, mi, mb, va, co, ru, sr, v, sf, cf, fR, _, q1, d, hd, ho, ck, kf, fH, va_up fC ks.length (some b0), hp, va_up ca ks.length b0, kv, rfl, by rw [List.length_append]; exact h3, h7 _ _ (nin_cons (gs_ne g2 hd0 (by simp)) (nin_cons (gs_ne g2 hck (by simp)) nin_nil)) g2, h5, h7 _ _ (nin_cons (gs_ne g4 hd0 (by simp)) (nin_cons (gs_ne g4 hck (by simp)) nin_nil)) g4, g5, kI _ _ g6, fun i t z => ?_, fun i t z => ?_, fun i j hi hj => ?_, ⟨g10.1, g10.2.1, by rw [List.length_append]; exact hl, g10.2.2.2.1, fun t z => ?_⟩, g11, g12, g13, g14, g15, g16, g17, g18, fun i hi => ?_⟩, q2⟩
  · obtain ⟨w1, w2, w3, w4⟩ := g7 i t z
    refine ⟨w1, kI _ _ w2, w3, fun j hj => ?_⟩
    rw [List.length_append] at hj
    simp only [va_up]
    split
    · exact (ne_fresh h2 w2).symm
    · rename_i hne
      exact w4 j (show j < ks.length by simp at hj; omega)
  · by_cases e : i < ks.length
    · rw [List.getElem?_append_left e] at z
      obtain ⟨w1, w2, w3⟩ := g8 i t z
      simp only [va_up, if_neg (show i ≠ ks.length by omega)]
      exact ⟨w1, kI _ _ w2, w3⟩
    · have e2 : i = ks.length := by have := (List.getElem?_eq_some_iff.mp z).1; simp at this; omega
      subst e2
      simp at z
      subst z
      simp only [va_up, if_true]
      exact ⟨trivial, h4, ne_fresh h2 g6⟩
  · rw [List.length_append] at hi hj
    simp at hi hj
    simp only [va_up]
    by_cases ei : i = ks.length
    · by_cases ej : j = ks.length
      · intro _; omega
      · rw [if_pos ei, if_neg ej]
        intro z
        exact absurd z (ne_fresh h2 (g8 j _ (List.getElem?_eq_getElem (show j < ks.length by omega))).2.1)
    · by_cases ej : j = ks.length
      · rw [if_neg ei, if_pos ej]
        intro z
        exact absurd z.symm (ne_fresh h2 (g8 i _ (List.getElem?_eq_getElem (show i < ks.length by omega))).2.1)
      · rw [if_neg ei, if_neg ej]
        exact g9 i j (show i < ks.length by omega) (show j < ks.length by omega)
  · rcases List.mem_append.mp z with w | w
    · exact g10.2.2.2.2 t w
    · rw [List.mem_singleton.mp w]; exact ht
  · rw [List.length_append] at hi
    simp at hi
    simp only [va_up]
    split
    · exact hρb
    · rename_i hne
      exact g19 i (show i < ks.length by omega)
end RRY
