/-! deriving by one rule, as the class does it -/
def kwn (L : List Nat) (C : List En) (c : Nat) : Bool := decide (c ∈ L) || decide (c ∈ cds C)
def tmc (n : Nat) (C : List En) : Bool := decide (300 < n + C.length)
/-- whether the head is known, the values, what comes -/
abbrev DS : Type := Bool × (Nat → Nat) × List En
def dvL (t : It) (hr d n : Nat) (f : (Nat → Nat) → List En → DS) : List Nat → (Nat → Nat) → List En → DS
  | [], v, C => (false, v, C)
  | c :: cs, v, C => if (fit1 t c v).1 then
      (if ((f (fit1 t c v).2 C).1 && decide (hr ≤ d)) || tmc n (f (fit1 t c v).2 C).2.2 then f (fit1 t c v).2 C else dvL t hr d n f cs (f (fit1 t c v).2 C).2.1 (f (fit1 t c v).2 C).2.2)
    else dvL t hr d n f cs (fit1 t c v).2 C
def dvF (L Lt : List Nat) (num : Nat) (R : Rl) (hr : Nat) (pv : Int32) : Nat → Nat → (Nat → Nat) → List En → DS
  | 0, d, v, C => if (decide (d = hr) && kwn L C (cof v R.1)) then (true, v, C) else if chk v L R.2.2 d then (true, v, insG C (cof v R.1, 0, nI num)) else (false, v, C)
  | k + 1, d, v, C => if (decide (d = hr) && kwn L C (cof v R.1)) then (true, v, C) else if chk v L R.2.2 d then
      (match R.2.1[d]? with
      | none => (false, v, C)
      | some t => dvL t hr d L.length (dvF L Lt num R hr pv k (d + 1)) (rng (if nI d = pv then Lt else L) (cof v t) (cof v t + 64 ^ (3 - t.2.2.2.1))) v C)
    else (false, v, C)
theorem dvF_known {L Lt : List Nat} {num : Nat} {R : Rl} {hr : Nat} {pv : Int32} {k d : Nat} {v : Nat → Nat} {C : List En} (h : d = hr) (h2 : kwn L C (cof v R.1) = true) : dvF L Lt num R hr pv k d v C = (true, v, C) := by
  cases k <;> simp [dvF, h, h2]
theorem dvF_no {L Lt : List Nat} {num : Nat} {R : Rl} {hr : Nat} {pv : Int32} {k d : Nat} {v : Nat → Nat} {C : List En} (h : ¬ d = hr ∨ kwn L C (cof v R.1) = false) (h2 : chk v L R.2.2 d = false) : dvF L Lt num R hr pv k d v C = (false, v, C) := by
  have e : (decide (d = hr) && kwn L C (cof v R.1)) = false := by rcases h with h | h <;> simp [h]
  cases k <;> simp only [dvF, e, h2] <;> rfl
theorem dvF_end {L Lt : List Nat} {num : Nat} {R : Rl} {hr : Nat} {pv : Int32} {d : Nat} {v : Nat → Nat} {C : List En} (h : ¬ d = hr ∨ kwn L C (cof v R.1) = false) (h2 : chk v L R.2.2 d = true) : dvF L Lt num R hr pv 0 d v C = (true, v, insG C (cof v R.1, 0, nI num)) := by
  have e : (decide (d = hr) && kwn L C (cof v R.1)) = false := by rcases h with h | h <;> simp [h]
  simp only [dvF, e, h2]; rfl
theorem dvF_loop {L Lt Ls : List Nat} {num : Nat} {R : Rl} {hr : Nat} {pv : Int32} {k d : Nat} {v : Nat → Nat} {C : List En} {t : It} (h : ¬ d = hr ∨ kwn L C (cof v R.1) = false) (h2 : chk v L R.2.2 d = true) (ht : R.2.1[d]? = some t) (hs : (if nI d = pv then Lt else L) = Ls) :
    dvF L Lt num R hr pv (k + 1) d v C = dvL t hr d L.length (dvF L Lt num R hr pv k (d + 1)) (rngA Ls (cof v t + 64 ^ (3 - t.2.2.2.1)) (cb Ls (cof v t))) v C := by
  have e : (decide (d = hr) && kwn L C (cof v R.1)) = false := by rcases h with h | h <;> simp [h]
  simp only [dvF, e, h2, ht, hs, rng, rngA]; rfl
/-- the values and what comes, in the store -/
def dvS (X : gs_X) (σ : gs_St) (va : Nat) (vs : Nat → Int32) (cm mc mi mb n : Nat) (a b c : Nat → Int32) : gs_St := tu4 X (gs_up σ va (gs_ia X 8 vs)) cm mc mi mb n a b c
theorem dvS_va {X : gs_X} {σ : gs_St} {va : Nat} {vs vs' : Nat → Int32} {cm mc mi mb n : Nat} {a b c : Nat → Int32} (h1 : va ≠ cm) (h2 : va ≠ mc) (h3 : va ≠ mi) (h4 : va ≠ mb) : gs_up (dvS X σ va vs cm mc mi mb n a b c) va (gs_ia X 8 vs') = dvS X σ va vs' cm mc mi mb n a b c := by
  funext q
  unfold dvS tu4 gs_up
  by_cases e : q = va
  · subst e; simp [h1, h2, h3, h4]
  · simp [e]
theorem dvS_tu {X : gs_X} {σ : gs_St} {va : Nat} {vs : Nat → Int32} {cm mc mi mb n n' : Nat} {a b c a' b' c' : Nat → Int32} : tu4 X (dvS X σ va vs cm mc mi mb n a b c) cm mc mi mb n' a' b' c' = dvS X σ va vs cm mc mi mb n' a' b' c' := by
  funext q
  unfold dvS tu4 gs_up
  by_cases e1 : q = cm
  · simp [e1]
  · by_cases e2 : q = mb
    · simp [e1, e2]
    · by_cases e3 : q = mi
      · simp [e1, e2, e3]
      · by_cases e4 : q = mc
        · simp [e1, e2, e3, e4]
        · simp [e1, e2, e3, e4]
theorem dvS_dvS {X : gs_X} {σ : gs_St} {va : Nat} {vs vs' : Nat → Int32} {cm mc mi mb n n' : Nat} {a b c a' b' c' : Nat → Int32} (h1 : va ≠ cm) (h2 : va ≠ mc) (h3 : va ≠ mi) (h4 : va ≠ mb) : dvS X (dvS X σ va vs cm mc mi mb n a b c) va vs' cm mc mi mb n' a' b' c' = dvS X σ va vs' cm mc mi mb n' a' b' c' := by
  show tu4 X (gs_up (dvS X σ va vs cm mc mi mb n a b c) va (gs_ia X 8 vs')) cm mc mi mb n' a' b' c' = _
  rw [dvS_va h1 h2 h3 h4, dvS_tu]
theorem dvS_same {X : gs_X} {σ : gs_St} {va : Nat} {vs : Nat → Int32} {cm mc mi mb n : Nat} {a b c : Nat → Int32} (g : σ va = some (gs_ia X 8 vs)) (h0 : σ cm = some (gs_ob 6 [.ref mc, .ref mi, .ref mb, .int (nI n)])) (h1 : σ mc = some (gs_ia X 301 a)) (h2 : σ mi = some (gs_ia X 301 b)) (h3 : σ mb = some (gs_ia X 301 c)) : dvS X σ va vs cm mc mi mb n a b c = σ := by
  unfold dvS
  rw [gs_usame g, tu4_same h0 h1 h2 h3]
theorem dvS_n {X : gs_X} {σ : gs_St} {va : Nat} {vs : Nat → Int32} {cm mc mi mb n q : Nat} {a b c : Nat → Int32} (h0 : q ≠ va) (h1 : q ≠ cm) (h2 : q ≠ mc) (h3 : q ≠ mi) (h4 : q ≠ mb) : dvS X σ va vs cm mc mi mb n a b c q = σ q := by
  unfold dvS tu4
  rw [gs_un h1, gs_un h4, gs_un h3, gs_un h2, gs_un h0]
theorem ruAt.dvS {X : gs_X} {σ : gs_St} {va : Nat} {vs vs0 : Nat → Int32} {cm mc mi mb n : Nat} {a b c a0 b0 c0 : Nat → Int32} {gs : List Value} {z : Nat} {R : Rl} (h : ruAt X σ z R) (g : σ va = some (gs_ia X 8 vs0)) (h0 : σ cm = some (gs_ob 6 gs)) (h1 : σ mc = some (gs_ia X 301 a0)) (h2 : σ mi = some (gs_ia X 301 b0)) (h3 : σ mb = some (gs_ia X 301 c0)) : ruAt X (dvS X σ va vs cm mc mi mb n a b c) z R :=
  h.of (fun q ci fs hc w => by rw [dvS_n (gs_ne w g (by simp)) (gs_ne w h0 (by rcases hc with rfl | rfl <;> simp)) (gs_ne w h1 (by simp)) (gs_ne w h2 (by simp)) (gs_ne w h3 (by simp))]; exact w)
    (fun q n f w => by rw [dvS_n (gs_ne w g (by simp)) (gs_ne w h0 (by simp)) (gs_ne w h1 (by simp)) (gs_ne w h2 (by simp)) (gs_ne w h3 (by simp))]; exact w)
