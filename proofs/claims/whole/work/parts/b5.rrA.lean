/-! THE CLASS'S OBJECT AS A WHOLE. G: addresses of the world outside. ρ: a part of the store on which the rules of the book stand. -/
/-- a rule in the making: head, HOLDS, checks, from how many HOLDS on a variable is known -/
abbrev Dr : Type := It × List It × List It × (Nat → Nat)
def drA (X : gs_X) (σ ρ : gs_St) (G : List Nat) (va nr : Nat) (dw : Value) : Option Dr → Prop
  | none => dw = .null
  | some D => ∃ (d hd ho ck kf : Nat) (fH fC : Nat → Option Nat) (ha ca : Nat → Nat) (kv : Nat → Int32), dw = .ref d ∧ σ d = some (gs_ob 4 [.ref hd, .ref ho, .ref ck, .int (nI D.2.1.length), .int (nI D.2.2.1.length), .ref kf]) ∧ σ ho = some (gs_qa X 3 3 fH) ∧ σ ck = some (gs_qa X 3 6 fC) ∧ σ kf = some (gs_ia X 8 kv) ∧ kOK kv D.2.2.2 ∧ σ hd = some (itE D.1) ∧
      (∀ i t, D.2.1[i]? = some t → fH i = some (ha i) ∧ σ (ha i) = some (itE t) ∧ ha i ≠ hd ∧ ∀ j, j < D.2.2.1.length → ha i ≠ ca j) ∧ (∀ i t, D.2.2.1[i]? = some t → fC i = some (ca i) ∧ σ (ca i) = some (itE t) ∧ ca i ≠ hd) ∧ (∀ i j, i < D.2.2.1.length → j < D.2.2.1.length → ca i = ca j → i = j) ∧ ruB (D.1, D.2.1, D.2.2.1) ∧ D.1.1.2.1 < nr ∧ kf ≠ va ∧ kf ∉ G ∧
      ρ d = none ∧ ρ hd = none ∧ ρ ho = none ∧ ρ ck = none ∧ (∀ i, i < D.2.1.length → ρ (ha i) = none) ∧ ∀ i, i < D.2.2.1.length → ρ (ca i) = none
/-- all but the rule in the making -/
def rrI (X : gs_X) (σ ρ : gs_St) (G : List Nat) (rr dv bk tu ma la cm ac ai ab lc li lb mc mi mb va co ru sr : Nat) (v : Nat → Nat) (sf cf : Nat → Int32) (fR : Nat → Option Nat) (dw : Value) (nr : Nat) (cw : Nat → Nat) (Q : List Rl) (E : List En) (Lt : List Nat) (sa : Nat) (nw : Bool) (rc fc : Nat) : Prop :=
  [ac, ai, ab, lc, mc, mi, mb].Nodup ∧ [tu, la, cm].Nodup ∧ co ≠ sr ∧ σ rr = some (gs_ob 0 [.ref bk, .ref tu, .ref ma, .ref dv, .int (nI fc), dw]) ∧ dvA X σ dv bk tu ma la cm ac ai ab lc li lb mc mi mb va E Lt v sa nw rc ∧
  σ bk = some (gs_ob 5 [.ref co, .ref ru, .ref sr, .int (nI nr), .int (nI Q.length), .int (scI Q nr)]) ∧ σ ru = some (gs_qa X 2 24 fR) ∧ σ sr = some (gs_ia X 12 sf) ∧ σ co = some (gs_ia X 12 cf) ∧ sOK sf (fst Q nr).1 288 ∧ Q.length ≤ 24 ∧ (∀ r, r < nr → cf r = nI (cw r) ∧ 1 ≤ cw r ∧ cw r ≤ 3) ∧ nr ≤ 12 ∧
  (∀ q e, ρ q = some e → σ q = some e ∧ ¬ noR X e) ∧ (∀ i R, Q[i]? = some R → ruB R ∧ rsv R ∧ R.1.1.2.1 < nr ∧ ∃ a, fR i = some a ∧ ruAt X ρ a R) ∧
  (∀ q ∈ [rr, dv, bk, tu, ma, la, cm, ac, ai, ab, lc, mc, mi, mb, va, co, ru, sr], q ∉ G)
def rrA (X : gs_X) (σ : gs_St) (G : List Nat) (rr nr : Nat) (cw : Nat → Nat) (Q : List Rl) (E : List En) (Lt : List Nat) (sa : Nat) (nw : Bool) (rc fc : Nat) (dr : Option Dr) : Prop :=
  ∃ (ρ : gs_St) (dv bk tu ma la cm ac ai ab lc li lb mc mi mb va co ru sr : Nat) (v : Nat → Nat) (sf cf : Nat → Int32) (fR : Nat → Option Nat) (dw : Value), rrI X σ ρ G rr dv bk tu ma la cm ac ai ab lc li lb mc mi mb va co ru sr v sf cf fR dw nr cw Q E Lt sa nw rc fc ∧ drA X σ ρ G va nr dw dr
/-- the world outside: cells of other kinds -/
def gG (X : gs_X) (σ : gs_St) (G : List Nat) : Prop := ∀ q ∈ G, ∃ e, σ q = some e ∧ noR X e
/-- the outside's cells are kept -/
def kG (σ τ : gs_St) (G : List Nat) : Prop := ∀ q ∈ G, ∀ e, σ q = some e → τ q = some e
section RRA
variable {X : gs_X} {σ τ ρ : gs_St} {G : List Nat} {rr dv bk tu ma la cm ac ai ab lc li lb mc mi mb va co ru sr : Nat} {v : Nat → Nat} {sf cf : Nat → Int32} {fR : Nat → Option Nat} {dw : Value} {nr : Nat} {cw : Nat → Nat} {Q : List Rl} {E : List En} {Lt : List Nat} {sa : Nat} {nw : Bool} {rc fc : Nat} {dr : Option Dr}
theorem drA.keep (h : drA X σ ρ G va nr dw dr) (h1 : ∀ q e, σ q = some e → ¬ noR X e → τ q = some e) (h2 : ∀ q f, q ≠ va → q ∉ G → σ q = some (gs_ia X 8 f) → τ q = some (gs_ia X 8 f)) : drA X τ ρ G va nr dw dr := by
  have n2 : ∀ fs, ¬ noR X (gs_ob 2 fs) := fun fs z => z.1 2 fs (Or.inr rfl) rfl
  have n4 : ∀ fs, ¬ noR X (gs_ob 4 fs) := fun fs z => z.1 4 fs (Or.inl rfl) rfl
  have nq : ∀ n f, ¬ noR X (gs_qa X 3 n f) := fun n f z => z.2 n f rfl
  cases dr with
  | none => exact h
  | some D =>
    obtain ⟨d, hd, ho, ck, kf, fH, fC, ha, ca, kv, g0, g1, g2, g3, g4, g5, g6, g7, g8, g9, g10, g11, g12, g13, g14⟩ := h
    exact ⟨d, hd, ho, ck, kf, fH, fC, ha, ca, kv, g0, h1 _ _ g1 (n4 _), h1 _ _ g2 (nq _ _), h1 _ _ g3 (nq _ _), h2 _ _ g12 g13 g4, g5, h1 _ _ g6 (n2 _), fun i t z => ⟨(g7 i t z).1, h1 _ _ (g7 i t z).2.1 (n2 _), (g7 i t z).2.2⟩, fun i t z => ⟨(g8 i t z).1, h1 _ _ (g8 i t z).2.1 (n2 _), (g8 i t z).2.2⟩, g9, g10, g11, g12, g13, g14⟩
theorem drA.mono (h : drA X σ ρ G va nr dw dr) {nr' : Nat} (hl : nr ≤ nr') : drA X σ ρ G va nr' dw dr := by
  cases dr with
  | none => exact h
  | some D =>
    obtain ⟨d, hd, ho, ck, kf, fH, fC, ha, ca, kv, g0, g1, g2, g3, g4, g5, g6, g7, g8, g9, g10, g11, r⟩ := h
    exact ⟨d, hd, ho, ck, kf, fH, fC, ha, ca, kv, g0, g1, g2, g3, g4, g5, g6, g7, g8, g9, g10, by omega, r⟩
/-- the object's own cells are of no rule; of eight ints there is but one row -/
theorem rrI.own (h : rrI X σ ρ G rr dv bk tu ma la cm ac ai ab lc li lb mc mi mb va co ru sr v sf cf fR dw nr cw Q E Lt sa nw rc fc) (hX : X.2.1 3 ≠ X.2.1 2) : ∀ q ∈ [rr, dv, bk, tu, ma, la, cm, ac, ai, ab, lc, mc, mi, mb, va, co, ru, sr], ∃ e, σ q = some e ∧ noR X e ∧ (q ≠ va → ∀ f, e ≠ gs_ia X 8 f) := by
  obtain ⟨_, _, _, x0, hdv, k0, k2, k3, x2, _⟩ := h
  obtain ⟨cs, ci, cr, ds, vs, a9, b9, c9, z9, d0, t0, t1, t2, t3, l0, l1, m0, m1, m2, m3, q0, q1, _⟩ := hdv
  have o : ∀ {q ci fs}, σ q = some (gs_ob ci fs) → ci ≠ 4 → ci ≠ 2 → ∃ e, σ q = some e ∧ noR X e ∧ (q ≠ va → ∀ f, e ≠ gs_ia X 8 f) := fun h a b => ⟨_, h, noR_ob a b, fun _ f z => by simp at z⟩
  have i3 : ∀ {q f}, σ q = some (gs_ia X 301 f) → ∃ e, σ q = some e ∧ noR X e ∧ (q ≠ va → ∀ f, e ≠ gs_ia X 8 f) := fun h => ⟨_, h, noR_ia, fun _ f z => by simp at z⟩
  have i1 : ∀ {q f}, σ q = some (gs_ia X 12 f) → ∃ e, σ q = some e ∧ noR X e ∧ (q ≠ va → ∀ f, e ≠ gs_ia X 8 f) := fun h => ⟨_, h, noR_ia, fun _ f z => by simp at z⟩
  intro q hq
  simp only [List.mem_cons, List.not_mem_nil, or_false] at hq
  rcases hq with rfl | rfl | rfl | rfl | rfl | rfl | rfl | rfl | rfl | rfl | rfl | rfl | rfl | rfl | rfl | rfl | rfl | rfl
  · exact o x0 (by decide) (by decide)
  · exact o d0 (by decide) (by decide)
  · exact o k0 (by decide) (by decide)
  · exact o t0 (by decide) (by decide)
  · exact o q0 (by decide) (by decide)
  · exact o l0 (by decide) (by decide)
  · exact o m0 (by decide) (by decide)
  · exact i3 t1
  · exact i3 t2
  · exact i3 t3
  · exact i3 l1
  · exact i3 m1
  · exact i3 m2
  · exact i3 m3
  · exact ⟨_, q1, noR_ia, fun z => absurd rfl z⟩
  · exact i1 x2
  · exact ⟨_, k2, noR_q2 hX, fun _ f z => by simp at z⟩
  · exact i1 k3
/-- what changes own cells alone keeps the rules, the making, the outside -/
theorem rrI.frms (h : rrI X σ ρ G rr dv bk tu ma la cm ac ai ab lc li lb mc mi mb va co ru sr v sf cf fR dw nr cw Q E Lt sa nw rc fc) (hX : X.2.1 3 ≠ X.2.1 2) {A : List Nat} (hf : frm A σ τ) (hA : ∀ q ∈ A, q ∈ [rr, dv, bk, tu, ma, la, cm, ac, ai, ab, lc, mc, mi, mb, va, co, ru, sr]) :
    (∀ q e, ρ q = some e → τ q = some e ∧ ¬ noR X e) ∧ (∀ q e, σ q = some e → ¬ noR X e → τ q = some e) ∧ (∀ q f, q ≠ va → q ∉ G → σ q = some (gs_ia X 8 f) → τ q = some (gs_ia X 8 f)) ∧ kG σ τ G := by
  have ho := h.own hX
  have k1 : ∀ q e, σ q = some e → ¬ noR X e → τ q = some e := fun q e hq hn => hf q e (fun z => by
    obtain ⟨e', g1, g2, _⟩ := ho q (hA q z)
    rw [hq] at g1; cases g1; exact hn g2) hq
  refine ⟨fun q e hq => ?_, k1, fun q f h1 h2 hq => hf q _ (fun z => ?_) hq, fun q hq e he => hf q e (fun z => h.2.2.2.2.2.2.2.2.2.2.2.2.2.2.2 q (hA q z) hq) he⟩
  · obtain ⟨g1, g2⟩ := h.2.2.2.2.2.2.2.2.2.2.2.2.2.1 q e hq
    exact ⟨k1 q e g1 g2, g2⟩
  · obtain ⟨e', g1, _, g3⟩ := ho q (hA q z)
    rw [hq] at g1; cases g1; exact g3 h1 _ rfl
/-- the outside changes: the object stands -/
theorem rrA.out (h : rrA X σ G rr nr cw Q E Lt sa nw rc fc dr) (hg : gG X σ G) (hf : frm G σ τ) : rrA X τ G rr nr cw Q E Lt sa nw rc fc dr := by
  obtain ⟨ρ, dv, bk, tu, ma, la, cm, ac, ai, ab, lc, li, lb, mc, mi, mb, va, co, ru, sr, v, sf, cf, fR, dw, ⟨r1, r2, r3, x0, hdv, k0, k2, k3, x2, r9, r10, r11, r12, r13, r14, r15⟩, hd⟩ := h
  have k1 : ∀ q e, σ q = some e → ¬ noR X e → τ q = some e := fun q e hq hn => hf q e (fun z => by
    obtain ⟨e', g1, g2⟩ := hg q z
    rw [hq] at g1; cases g1; exact hn g2) hq
  have kO : ∀ q e, q ∈ [rr, dv, bk, tu, ma, la, cm, ac, ai, ab, lc, mc, mi, mb, va, co, ru, sr] → σ q = some e → τ q = some e := fun q e hq z => hf q e (r15 q hq) z
  have hdv' : dvA X τ dv bk tu ma la cm ac ai ab lc li lb mc mi mb va E Lt v sa nw rc := by
    obtain ⟨cs, ci, cr, ds, vs, a9, b9, c9, z9, d0, t0, t1, t2, t3, l0, l1, m0, m1, m2, m3, q0, q1, r⟩ := hdv
    exact ⟨cs, ci, cr, ds, vs, a9, b9, c9, z9, kO _ _ (by simp) d0, kO _ _ (by simp) t0, kO _ _ (by simp) t1, kO _ _ (by simp) t2, kO _ _ (by simp) t3, kO _ _ (by simp) l0, kO _ _ (by simp) l1, kO _ _ (by simp) m0, kO _ _ (by simp) m1, kO _ _ (by simp) m2, kO _ _ (by simp) m3, kO _ _ (by simp) q0, kO _ _ (by simp) q1, r⟩
  exact ⟨ρ, dv, bk, tu, ma, la, cm, ac, ai, ab, lc, li, lb, mc, mi, mb, va, co, ru, sr, v, sf, cf, fR, dw, ⟨r1, r2, r3, kO _ _ (by simp) x0, hdv', kO _ _ (by simp) k0, kO _ _ (by simp) k2, kO _ _ (by simp) k3, kO _ _ (by simp) x2, r9, r10, r11, r12, fun q e z => ⟨k1 q e (r13 q e z).1 (r13 q e z).2, (r13 q e z).2⟩, r14, r15⟩, hd.keep k1 (fun q f _ h2 hq => hf q _ h2 hq)⟩
theorem rrI.bks (h : rrI X σ ρ G rr dv bk tu ma la cm ac ai ab lc li lb mc mi mb va co ru sr v sf cf fR dw nr cw Q E Lt sa nw rc fc) : bkA X σ bk co ru sr nr (scI Q nr) Q (fst Q nr).1 := by
  obtain ⟨r1, r2, r3, x0, hdv, k0, k2, k3, x2, r9, r10, r11, r12, r13, r14, r15⟩ := h
  exact ⟨fR, sf, k0, k2, k3, r10, r9, fun i R z => by obtain ⟨g1, g2, _, a, g3, g4⟩ := r14 i R z; exact ⟨g1, g2, a, g3, g4.sub (fun q e w => (r13 q e w).1)⟩⟩
end RRA
/-- what no rule heads stays at stratum 0 -/
theorem rs1_out {j : Nat} {x : (Nat → Nat) × Bool} {R : Rl} (h : x.1 j = 0) (hR : R.1.1.2.1 ≠ j) : (rs1 x R).1 j = 0 := by
  unfold rs1
  split
  · show va_up x.1 R.1.1.2.1 _ j = 0
    unfold va_up
    rw [if_neg (fun z => hR z.symm)]; exact h
  · exact h
theorem stp_out {Q : List Rl} {S : Nat → Nat} {j : Nat} (hQ : ∀ R ∈ Q, R.1.1.2.1 ≠ j) (h : S j = 0) : (stp Q S).1 j = 0 :=
  foldl_invM (P := fun x : (Nat → Nat) × Bool => x.1 j = 0) Q (S, false) (fun b R hR hb => rs1_out hb (hQ R hR)) h
theorem itr_out {Q : List Rl} {j : Nat} (hQ : ∀ R ∈ Q, R.1.1.2.1 ≠ j) : ∀ (k : Nat) (x : (Nat → Nat) × Bool), x.1 j = 0 → (itr Q k x).1 j = 0
  | 0, x, h => h
  | k + 1, x, h => by
    unfold itr
    split
    · exact itr_out hQ k _ (stp_out hQ h)
    · exact h
theorem fst_out {Q : List Rl} {nr : Nat} (hQ : ∀ R ∈ Q, R.1.1.2.1 < nr) : ∀ j, nr ≤ j → (fst Q nr).1 j = 0 := fun j hj => itr_out (fun R hR => by have := hQ R hR; omega) _ _ rfl
