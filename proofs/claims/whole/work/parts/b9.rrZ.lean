section RRZ
variable {X : gs_X} {σ τ ρ : gs_St} {G : List Nat} {rr dv bk tu ma la cm ac ai ab lc li lb mc mi mb va co ru sr : Nat} {v : Nat → Nat} {sf cf : Nat → Int32} {fR : Nat → Option Nat} {dw : Value} {nr : Nat} {cw : Nat → Nat} {Q : List Rl} {E : List En} {Lt : List Nat} {sa : Nat} {nw : Bool} {rc fc : Nat} {dr : Option Dr}
theorem c_rr_item_n (l : Launch) {th : It} {hs ks : List It} {kn : Nat → Nat} (hA : rrA X σ G rr nr cw Q E Lt sa nw rc fc (some (th, hs, ks, kn))) (hX : X.2.1 3 ≠ X.2.1 2) (hg : gG X σ G) {rl a b cz : Nat} (hrl : rl < nr) (ha : a < 72) (hb9 : b < 72) (hc9 : cz < 72) (hok : wi3 72 (cw rl) (nI a) (nI b) (nI cz) = true) (hrm : hs.length + ks.length < 6) : gs_Mi l X y_RR_item b_RR_item 7 (some .int) ({ frames := 4, cells := 1, slots := 9, locals := 106 }) σ [.ref rr, .int (nI 1), .int (nI rl), .int (nI a), .int (nI b), .int (nI cz)]
    (fun r σ' => rrA X σ' G rr nr cw Q E Lt sa nw rc fc (some (th, hs, ks ++ [((1, rl, cw rl), (a, b, cz), (0, cw rl, nI 0))], kn)) ∧ kG σ σ' G ∧ r = nI (hs.length + ks.length + 1)) := by
  obtain ⟨ρ, dv, bk, tu, ma, la, cm, ac, ai, ab, lc, li, lb, mc, mi, mb, va, co, ru, sr, v, sf, cf, fR, dw, hI, hD⟩ := hA
  obtain ⟨d, hd, ho, ck, kf, fH, fC, hp, ca, kv, g0, g1, g2, g3, g4, g5, g6, g7, g8, g9, g10, g11, g12⟩ := id hD
  obtain ⟨r1, r2, r3, x0, hdv, k0, k2, k3, x2, r9, r10, r11, r12, r13, r14, r15⟩ := id hI
  subst g0
  refine gs_Mi_post (c_RR_item_in l X σ rr bk tu ma dv co ru sr nr Q.length fc (scI Q nr) cf cw rl d hd ho ck kf hs.length ks.length fH fC kv kn 1 a b cz x0 k0 r12 x2 hrl (r11 rl hrl).1 (r11 rl hrl).2.2 g1 g10.2.1 g10.2.2.1 g2 g3 g4 g5 rfl ha hb9 hc9 hok ⟨hrm, Or.inl (by decide)⟩ (r11 rl hrl).2.1) (fun r σ' z => ?_)
  obtain ⟨b0, h2, h3, h4, h5, h7, h8⟩ := z
  obtain ⟨q1, q2⟩ := hI.chk hX hg hD rfl g1 g3 h2 h3 h4 h5 h7 ⟨itB_new (by decide) (by omega) (r11 rl hrl).2.2 ha hb9 hc9, by show (1 : Nat) ≠ 0; decide⟩ (by omega)
  exact ⟨q1, q2, h8⟩
theorem c_rr_item_c (l : Launch) {th : It} {hs ks : List It} {kn : Nat → Nat} (hA : rrA X σ G rr nr cw Q E Lt sa nw rc fc (some (th, hs, ks, kn))) (hX : X.2.1 3 ≠ X.2.1 2) (hg : gG X σ G) {kd a b cz : Nat} (hkd : kd = 2 ∨ kd = 3) (ha : a < 72) (hb9 : b < 72) (hc9 : cz < 72) (hok : wi3 72 2 (nI a) (nI b) (nI cz) = true) (hrm : hs.length + ks.length < 6) : gs_Mi l X y_RR_item b_RR_item 7 (some .int) ({ frames := 4, cells := 1, slots := 9, locals := 106 }) σ [.ref rr, .int (nI kd), .int (nI 0), .int (nI a), .int (nI b), .int (nI cz)]
    (fun r σ' => rrA X σ' G rr nr cw Q E Lt sa nw rc fc (some (th, hs, ks ++ [((kd, 0, 2), (a, b, cz), (0, 2, nI 0))], kn)) ∧ kG σ σ' G ∧ r = nI (hs.length + ks.length + 1)) := by
  obtain ⟨ρ, dv, bk, tu, ma, la, cm, ac, ai, ab, lc, li, lb, mc, mi, mb, va, co, ru, sr, v, sf, cf, fR, dw, hI, hD⟩ := hA
  obtain ⟨d, hd, ho, ck, kf, fH, fC, hp, ca, kv, g0, g1, g2, g3, g4, g5, g6, g7, g8, g9, g10, g11, g12⟩ := id hD
  obtain ⟨r1, r2, r3, x0, hdv, k0, k2, k3, x2, r9, r10, r11, r12, r13, r14, r15⟩ := id hI
  subst g0
  refine gs_Mi_post (c_RR_item_ic l X σ rr bk tu ma dv co ru sr nr Q.length fc (scI Q nr) d hd ho ck kf hs.length ks.length fH fC kv kn kd a b cz x0 k0 r12 g1 g10.2.1 g10.2.2.1 g2 g3 g4 g5 hkd ha hb9 hc9 hok ⟨hrm, Or.inl (by omega)⟩) (fun r σ' z => ?_)
  obtain ⟨b0, h2, h3, h4, h5, h7, h8⟩ := z
  obtain ⟨q1, q2⟩ := hI.chk hX hg hD rfl g1 g3 h2 h3 h4 h5 h7 ⟨itB_new (by omega) (by decide) (by decide) ha hb9 hc9, by show kd ≠ 0; omega⟩ (by omega)
  exact ⟨q1, q2, h8⟩
theorem c_rr_rule_u (l : Launch) {th : It} {hs ks : List It} {kn : Nat → Nat} (hA : rrA X σ G rr nr cw Q E Lt sa nw rc fc (some (th, hs, ks, kn))) (hX : X.2.1 3 ≠ X.2.1 2) (hg : gG X σ G) (hq24 : Q.length < 24) (hsf : safeB kn th ks = false) : gs_Mi l X y_RR_rule b_RR_rule 1 (some .int) ({ frames := 3, cells := 0, slots := 0, locals := 86 }) σ [.ref rr]
    (fun r σ' => rrA X σ' G rr nr cw Q E Lt sa nw rc fc (some (wR th (rdI (rdO kn th)), hs, ks.map (fun t => wR t (rdI (rdO kn t))), kn)) ∧ kG σ σ' G ∧ r = -2) := by
  obtain ⟨ρ, dv, bk, tu, ma, la, cm, ac, ai, ab, lc, li, lb, mc, mi, mb, va, co, ru, sr, v, sf, cf, fR, dw, hI, d, hd, ho, ck, kf, fH, fC, hp, ca, kv, g0, g1, g2, g3, g4, g5, g6, g7, g8, g9, g10, g11, g12, g13, g14, g15, g16, g17, g18, g19⟩ := hA
  subst g0
  obtain ⟨r1, r2, r3, x0, hdv, k0, k2, k3, x2, r9, r10, r11, r12, r13, r14, r15⟩ := id hI
  refine gs_Mi_post (c_RR_rule_u l X σ rr bk tu ma dv co ru sr nr Q.length fc (scI Q nr) d hd ho ck kf hs.length fC ca kv kn th ks x0 k0 r12 hq24 g1 g3 g4 g5 g6 g10.1.2.2.1 g10.1.2.2.2.1 g10.2.2.1 (fun i t z => ⟨(g8 i t z).1, (g8 i t z).2.1, (g8 i t z).2.2, (g10.2.2.2.2 t (List.mem_of_getElem? z)).1.2.2.1, (g10.2.2.2.2 t (List.mem_of_getElem? z)).1.2.2.2.1⟩) g9 hsf) (fun r σ' z => ?_)
  obtain ⟨h1, h2, h3, h4⟩ := z
  have hkp := settle_items h4 g6 (fun i hi => ⟨_, (g8 i _ (List.getElem?_eq_getElem hi)).2.1⟩)
  have kρ := settle_keeps h4 (fun q e z => (r13 q e z).1) g15 g19
  have hD' : drA X σ' ρ G va nr (.ref d) (some (wR th (rdI (rdO kn th)), hs, ks.map (fun t => wR t (rdI (rdO kn t))), kn)) := by
    refine ⟨d, hd, ho, ck, kf, fH, fC, hp, ca, kv, rfl, by rw [List.length_map]; exact hkp _ _ g1 (by simp), hkp _ _ g2 (by simp), hkp _ _ g3 (by simp), hkp _ _ g4 (by simp), g5, h2, fun i t z => ?_, fun i t z => ?_, by simpa using g9, stl_B (kn := kn) g10, g11, g12, g13, g14, g15, g16, g17, g18, by simpa using g19⟩
    · obtain ⟨w1, w2, w3, w4⟩ := g7 i t z
      exact ⟨w1, by rw [h4 _ w3 w4]; exact w2, w3, by simpa using w4⟩
    · simp only [List.getElem?_map] at z
      cases hk : ks[i]? with
      | none => rw [hk] at z; cases z
      | some t0 =>
        rw [hk] at z
        cases z
        exact ⟨(g8 i t0 hk).1, h3 i t0 (List.getElem?_eq_some_iff.mp hk).1 hk, (g8 i t0 hk).2.2⟩
  refine ⟨⟨ρ, dv, bk, tu, ma, la, cm, ac, ai, ab, lc, li, lb, mc, mi, mb, va, co, ru, sr, v, sf, cf, fR, _, hI.kept (fun q e hq he => hkp q e he (fun fs z => ?_)) kρ, hD'⟩, fun q hq e he => hkp q e he (fun fs z => ?_), h1⟩
  · obtain ⟨e1, w1, w2, _⟩ := hI.own hX q hq
    rw [he] at w1; cases w1; rw [z] at w2; exact nR2 _ w2
  · obtain ⟨e1, w1, w2⟩ := hg q hq
    rw [he] at w1; cases w1; rw [z] at w2; exact nR2 _ w2
theorem c_rr_rule (l : Launch) {th : It} {hs ks : List It} {kn : Nat → Nat} (hA : rrA X σ G rr nr cw Q E Lt sa nw rc fc (some (th, hs, ks, kn))) (hX : X.2.1 3 ≠ X.2.1 2) (hg : gG X σ G) (hq24 : Q.length < 24) (hsf : safeB kn th ks = true) : gs_Mi l X y_RR_rule b_RR_rule 1 (some .int) ({ frames := 5, cells := 0, slots := 0, locals := 130 }) σ [.ref rr]
    (fun r σ' => rrA X σ' G rr nr cw (Q ++ [stl kn th hs ks]) (keepE E) Lt 0 true 0 fc none ∧ kG σ σ' G ∧ r = nI Q.length) := by
  obtain ⟨ρ, dv, bk, tu, ma, la, cm, ac, ai, ab, lc, li, lb, mc, mi, mb, va, co, ru, sr, v, sf, cf, fR, dw, hI, d, hd, ho, ck, kf, fH, fC, hp, ca, kv, g0, g1, g2, g3, g4, g5, g6, g7, g8, g9, g10, g11, g12, g13, g14, g15, g16, g17, g18, g19⟩ := hA
  subst g0
  obtain ⟨r1, r2, r3, x0, hdv, k0, k2, k3, x2, r9, r10, r11, r12, r13, r14, r15⟩ := id hI
  have hS0 := fst_out (Q := Q) (nr := nr) (fun R hR => by obtain ⟨i, hi⟩ := List.getElem?_of_mem hR; exact (r14 i R hi).2.2.1)
  refine gs_Mi_post (c_RR_rule l X σ ρ rr dv bk tu ma la cm ac ai ab lc li lb mc mi mb va co ru sr nr sa rc fc nw (scI Q nr) E Lt v (fst Q nr).1 Q sf fR d hd ho ck kf fH fC ca kv kn th hs ks r1 r2 x0 hdv k0 k2 k3 hq24 r9 (fun q e z => (r13 q e z).1) (fun i R z => by obtain ⟨w1, w2, _, w4⟩ := r14 i R z; exact ⟨w1, w2, w4⟩) g15 g19 r12 hS0 hX g1 g2 g3 g4 g5 g6 g10 (fun i t z => ⟨_, (g7 i t z).1, (g7 i t z).2.1, (g7 i t z).2.2.1, (g7 i t z).2.2.2⟩) (fun i t z => ⟨(g8 i t z).1, (g8 i t z).2.1, (g8 i t z).2.2, (g10.2.2.2.2 t (List.mem_of_getElem? z)).1.2.2.1, (g10.2.2.2.2 t (List.mem_of_getElem? z)).1.2.2.2.1⟩) g9 hsf) (fun r σ' z => ?_)
  obtain ⟨h1, ⟨fR', sf', w0, w2, w3, w4, w5, w6⟩, h3, h4, h5⟩ := z
  have ho := hI.own hX
  have kq : ∀ q, (∃ e, σ q = some e ∧ noR X e) → q ≠ hd ∧ ∀ i, i < ks.length → q ≠ ca i := fun q ⟨e, e1, e2⟩ => ⟨fun z => by rw [z, g6] at e1; cases e1; exact nR2 _ e2, fun i hi z => by rw [z, (g8 i _ (List.getElem?_eq_getElem hi)).2.1] at e1; cases e1; exact nR2 _ e2⟩
  obtain ⟨cs, ci, cr, ds, vs, a9, b9, c9, z9, d0, t0, t1, t2, t3, l0, l1, m0, m1, m2, m3, q0, q1', _⟩ := id hdv
  have hx2 : σ' co = some (gs_ia X 12 cf) := h4 co _ (nin_cons (gs_ne x2 x0 (by simp)) (nin_cons (gs_ne x2 k0 (by simp)) (nin_cons (gs_ne x2 k2 (by simp)) (nin_cons r3 (nin_cons (gs_ne x2 d0 (by simp)) (nin_cons (gs_ne x2 t0 (by simp)) (nin_cons (gs_ne x2 t1 (by simp)) (nin_cons (gs_ne x2 t2 (by simp)) (nin_cons (gs_ne x2 t3 (by simp)) nin_nil))))))))) (gs_ne x2 g6 (by simp)) (fun i hi => gs_ne x2 (g8 i _ (List.getElem?_eq_getElem hi)).2.1 (by simp)) x2
  refine ⟨⟨rOf X σ', dv, bk, tu, ma, la, cm, ac, ai, ab, lc, li, lb, mc, mi, mb, va, co, ru, sr, v, sf', cf, fR', .null, ⟨r1, r2, r3, h3, h1, w0, w2, w3, hx2, w5, w4, r11, r12, rOf_le, fun i R z => ?_, r15⟩, rfl⟩, fun q hq e he => ?_, h5⟩
  · obtain ⟨u1, u2, a, u3, u4⟩ := w6 i R z
    refine ⟨u1, u2, ?_, a, u3, u4.rOf⟩
    by_cases e : i < Q.length
    · rw [List.getElem?_append_left e] at z; exact (r14 i R z).2.2.1
    · have e2 : i = Q.length := by have := (List.getElem?_eq_some_iff.mp z).1; simp at this; omega
      subst e2
      simp at z
      subst z
      exact g11
  · obtain ⟨n1, n2⟩ := kq q (hg q hq)
    refine h4 q e (fun z => ?_) n1 n2 he
    exact r15 q (by simp only [List.mem_cons, List.not_mem_nil, or_false] at z ⊢; rcases z with z | z | z | z | z | z | z | z | z <;> simp [z]) hq
theorem c_rr_init (l : Launch) {rr : Nat} (hg : gG X σ G) (hrr : rr ∉ G) (h0 : σ rr = some (gs_ob 0 [.null, .null, .null, .null, .int 0, .null])) : gs_Mv l X y_RR_init b_RR_init 1 ({ frames := 3, cells := 19, slots := 2805, locals := 63 }) σ [.ref rr]
    (fun σ' => rrA X σ' G rr 0 (fun _ => 0) [] [] [] 0 true 0 0 none ∧ kG σ σ' G) := by
  refine gs_Mv_post (c_RR_init l X σ rr h0) (fun σ' z => ?_)
  obtain ⟨dv, bk, tu, ma, la, cm, ac, ai, ab, lc, li, lb, mc, mi, mb, va, co, ru, sr, h1, h2, h3, h4, h5, h6, ⟨fR, sf, w0, w2, w3, w4, w5, w6⟩, h8, h9⟩ := z
  refine ⟨⟨fun _ => none, dv, bk, tu, ma, la, cm, ac, ai, ab, lc, li, lb, mc, mi, mb, va, co, ru, sr, _, sf, _, fR, .null, ⟨h2, h3, h4, h5, h6, w0, w2, w3, h8, w5, by simp, fun r hr => by omega, by decide, (fun q e z => by cases z), (fun i R z => by simp at z), fun q hq hG => ?_⟩, rfl⟩, fun q hq e he => h9 q e (nin_cons (fun z => hrr (by rw [← z]; exact hq)) nin_nil) he⟩
  rcases List.mem_cons.mp hq with z | z
  · exact hrr (by rw [← z]; exact hG)
  · obtain ⟨e, g1, _⟩ := hg q hG
    rw [h1 q z] at g1; cases g1
end RRZ
