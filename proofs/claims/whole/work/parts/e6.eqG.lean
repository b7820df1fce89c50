/-! PURE: strata -/
abbrev KT : Type := Nat → Nat → Nat → Prop
def SolK (K : KT) (M : Nat → Nat) : Prop := ∀ h x w, K h x w → M x + w ≤ M h
def LstK (K : KT) (M : Nat → Nat) : Prop := SolK K M ∧ ∀ M', SolK K M' → ∀ r, M r ≤ M' r
/-- one below on a set, where nothing forbids it -/
theorem LstK.low {K : KT} {M : Nat → Nat} (h : LstK K M) {B : Nat → Prop} (hB : ∀ r, B r → 1 ≤ M r) (hn : ∀ r x w, K r x w → B r → ¬ B x → M x + w < M r) : ∀ r, ¬ B r := by
  intro r hr
  haveI : DecidablePred B := fun r => Classical.propDecidable _
  have hs : SolK K (fun r => if B r then M r - 1 else M r) := by
    intro h' x w hk
    have := h.1 h' x w hk
    dsimp only
    by_cases b1 : B h'
    · rw [if_pos b1]
      have := hB h' b1
      by_cases b2 : B x
      · rw [if_pos b2]
        have := hB x b2
        omega
      · rw [if_neg b2]
        have := hn h' x w hk b1 b2
        omega
    · rw [if_neg b1]
      by_cases b2 : B x
      · rw [if_pos b2]; omega
      · rw [if_neg b2]; exact this
  have : M r ≤ (if B r then M r - 1 else M r) := h.2 _ hs r
  rw [if_pos hr] at this
  have := hB r hr
  omega
def cnS (nr : Nat) (M S : Nat → Nat) : Nat := (List.range nr).countP (fun r => decide (S r < M r))
theorem countP_lt {L : List Nat} {p q : Nat → Bool} (h : ∀ r ∈ L, q r = true → p r = true) {a : Nat} (ha : a ∈ L) (h1 : p a = true) (h2 : q a = false) : L.countP q < L.countP p := by
  induction L with
  | nil => cases ha
  | cons x L ih =>
    have hm : L.countP q ≤ L.countP p := List.countP_mono_left (fun r hr => h r (List.mem_cons_of_mem _ hr))
    rcases List.mem_cons.mp ha with e | e
    · subst e
      rw [List.countP_cons_of_pos h1, List.countP_cons_of_neg (by rw [h2]; decide)]
      omega
    · have := ih (fun r hr => h r (List.mem_cons_of_mem _ hr)) e
      have hx := h x List.mem_cons_self
      by_cases c1 : q x = true
      · rw [List.countP_cons_of_pos c1, List.countP_cons_of_pos (hx c1)]; omega
      · rw [List.countP_cons_of_neg c1]
        by_cases c2 : p x = true
        · rw [List.countP_cons_of_pos c2]; omega
        · rw [List.countP_cons_of_neg c2]; exact this
section STR
variable {K : KT} {nr : Nat} {M : Nat → Nat}
theorem LstK.out (hK : ∀ h x w, K h x w → h < nr ∧ x < nr ∧ w ≤ 1) (h : LstK K M) : ∀ r, nr ≤ r → M r = 0 := fun r hr => by
  have hs : SolK K (fun r => if r < nr then M r else 0) := fun h' x w hk => by
    obtain ⟨k1, k2, _⟩ := hK h' x w hk
    dsimp only
    rw [if_pos k1, if_pos k2]
    exact h.1 h' x w hk
  have : M r ≤ (if r < nr then M r else 0) := h.2 _ hs r
  rw [if_neg (by omega)] at this
  omega
/-- a pass brings one more to its end -/
theorem LstK.step (hK : ∀ h x w, K h x w → h < nr ∧ x < nr ∧ w ≤ 1) (h : LstK K M) {S S' : Nat → Nat} (h1 : ∀ r, S r ≤ S' r) (h2 : ∀ r x w, K r x w → S x + w ≤ S' r) (h3 : ∀ r, S' r ≤ M r) {a : Nat} (ha : S a < M a) : cnS nr M S' < cnS nr M S := by
  have hex : ∃ r, S r < M r ∧ S' r = M r := by
    refine Classical.byContradiction (fun hno => ?_)
    refine h.low (B := fun r => S r < M r) (fun r hr => by omega) (fun r x w hk hr hx => ?_) a ha
    have e1 := h2 r x w hk
    have e2 : S' r ≠ M r := fun e => hno ⟨r, hr, e⟩
    have e3 := h3 r
    omega
  obtain ⟨r, r1, r2⟩ := hex
  have hr : r < nr := by
    rcases Nat.lt_or_ge r nr with e | e
    · exact e
    · have := h.out hK r e; omega
  refine countP_lt (fun q _ hq => ?_) (List.mem_range.mpr hr) (decide_eq_true r1) (decide_eq_false (by omega))
  rw [decide_eq_true_iff] at hq ⊢
  have := h1 q
  omega
theorem LstK.start (hK : ∀ h x w, K h x w → h < nr ∧ x < nr ∧ w ≤ 1) (h : LstK K M) (hn : 0 < nr) : cnS nr M (fun _ => 0) < nr := by
  have hex : ∃ r, r < nr ∧ M r = 0 := by
    refine Classical.byContradiction (fun hno => ?_)
    refine h.low (B := fun r => r < nr) (fun r hr => ?_) (fun r x w hk hr hx => absurd (hK r x w hk).2.1 hx) 0 hn
    rcases Nat.eq_zero_or_pos (M r) with e | e
    · exact absurd ⟨r, hr, e⟩ hno
    · exact e
  obtain ⟨r, r1, r2⟩ := hex
  have : cnS nr M (fun _ => 0) < (List.range nr).countP (fun _ => true) := countP_lt (fun _ _ _ => rfl) (List.mem_range.mpr r1) rfl (decide_eq_false (by omega))
  have e : (List.range nr).countP (fun _ => true) = nr := by
    rw [List.countP_true, List.length_range]
  rw [e] at this
  exact this
theorem LstK.lt (hK : ∀ h x w, K h x w → h < nr ∧ x < nr ∧ w ≤ 1) (h : LstK K M) : ∀ r, r < nr → M r < nr := by
  have hc : ∀ t, (List.range nr).countP (fun r => decide (t ≤ M r)) ≤ nr - t := by
    intro t
    induction t with
    | zero =>
      refine Nat.le_trans List.countP_le_length ?_
      rw [List.length_range]; exact Nat.le_refl _
    | succ t ih =>
      by_cases hz : ∃ r, r < nr ∧ t + 1 ≤ M r
      · obtain ⟨a, a1, a2⟩ := hz
        have hex : ∃ r, r < nr ∧ M r = t := by
          refine Classical.byContradiction (fun hno => ?_)
          refine h.low (B := fun r => t < M r) (fun r hr => by omega) (fun r x w hk hr hx => ?_) a (by omega)
          obtain ⟨k1, k2, k3⟩ := hK r x w hk
          have : M x ≠ t := fun e => hno ⟨x, k2, e⟩
          omega
        obtain ⟨r, r1, r2⟩ := hex
        have : (List.range nr).countP (fun r => decide (t + 1 ≤ M r)) < (List.range nr).countP (fun r => decide (t ≤ M r)) := countP_lt (fun q _ hq => by rw [decide_eq_true_iff] at hq ⊢; omega) (List.mem_range.mpr r1) (decide_eq_true (by omega)) (decide_eq_false (by omega))
        omega
      · have : (List.range nr).countP (fun r => decide (t + 1 ≤ M r)) = 0 := List.countP_eq_zero.mpr (fun r hr => by
          have hr := List.mem_range.mp hr
          rw [decide_eq_true_iff]
          exact fun z => hz ⟨r, hr, z⟩)
        omega
  intro r hr
  rcases Nat.lt_or_ge (M r) nr with e | e
  · exact e
  · have h1 := hc nr
    have h2 : 0 < (List.range nr).countP (fun r => decide (nr ≤ M r)) := List.countP_pos_iff.mpr ⟨r, List.mem_range.mpr hr, decide_eq_true e⟩
    omega
end STR
/-- what a step of a relaxation does; ch: the flag's value after a change -/
def stP (ch : Bool) (K : KT) (x z : (Nat → Nat) × Bool) : Prop := (∀ r, x.1 r ≤ z.1 r) ∧ (∀ h y w, K h y w → x.1 y + w ≤ z.1 h) ∧ (∀ M, SolK K M → (∀ r, x.1 r ≤ M r) → ∀ r, z.1 r ≤ M r) ∧ (z.2 ≠ ch → x.2 ≠ ch ∧ z.1 = x.1) ∧ (z.2 = ch → x.2 = ch ∨ ∃ r, x.1 r < z.1 r)
def stOK (ch : Bool) (K : KT) (g : (Nat → Nat) × Bool → (Nat → Nat) × Bool) : Prop := ∀ x, stP ch K x (g x)
theorem stP.comp {ch : Bool} {K1 K2 : KT} {x y z : (Nat → Nat) × Bool} (h1 : stP ch K1 x y) (h2 : stP ch K2 y z) : stP ch (fun h x w => K1 h x w ∨ K2 h x w) x z := by
  obtain ⟨a1, a2, a3, a4, a5⟩ := h1
  obtain ⟨b1, b2, b3, b4, b5⟩ := h2
  refine ⟨fun r => Nat.le_trans (a1 r) (b1 r), fun h y w hk => ?_, fun M hM hx => b3 M (fun h y w hk => hM h y w (Or.inr hk)) (a3 M (fun h y w hk => hM h y w (Or.inl hk)) hx), fun hc => ?_, fun hc => ?_⟩
  · rcases hk with hk | hk
    · exact Nat.le_trans (a2 h y w hk) (b1 h)
    · have := b2 h y w hk
      have := a1 y
      omega
  · obtain ⟨c1, c2⟩ := b4 hc
    obtain ⟨c3, c4⟩ := a4 c1
    exact ⟨c3, by rw [c2, c4]⟩
  · rcases b5 hc with z | ⟨r, z⟩
    · rcases a5 z with z | ⟨r, z⟩
      · exact Or.inl z
      · exact Or.inr ⟨r, Nat.lt_of_lt_of_le z (b1 r)⟩
    · exact Or.inr ⟨r, Nat.lt_of_le_of_lt (a1 r) z⟩
theorem stOK.comp {ch : Bool} {K1 K2 : KT} {g1 g2 : (Nat → Nat) × Bool → (Nat → Nat) × Bool} (h1 : stOK ch K1 g1) (h2 : stOK ch K2 g2) : stOK ch (fun h x w => K1 h x w ∨ K2 h x w) (fun x => g2 (g1 x)) := fun x => (h1 x).comp (h2 (g1 x))
theorem stOK.id {ch : Bool} : stOK ch (fun _ _ _ => False) (fun x => x) := fun x => ⟨fun r => Nat.le_refl _, fun _ _ _ h => h.elim, fun M _ hx => hx, fun h => ⟨h, rfl⟩, fun h => Or.inl h⟩
theorem stOK.cg {ch : Bool} {K K' : KT} {g : (Nat → Nat) × Bool → (Nat → Nat) × Bool} (h : stOK ch K g) (hk : ∀ a b c, K a b c ↔ K' a b c) : stOK ch K' g := by
  have : K = K' := by funext a b c; exact propext (hk a b c)
  rw [← this]; exact h
theorem stOK.foldl {α : Type} {ch : Bool} {K : α → KT} {g : (Nat → Nat) × Bool → α → (Nat → Nat) × Bool} : ∀ (L : List α), (∀ a ∈ L, stOK ch (K a) (fun x => g x a)) → stOK ch (fun h x w => ∃ a ∈ L, K a h x w) (fun x => L.foldl g x)
  | [], _ => stOK.id.cg (fun a b c => ⟨fun h => h.elim, fun ⟨_, h, _⟩ => by cases h⟩)
  | a :: L, h => by
    refine ((h a List.mem_cons_self).comp (stOK.foldl L (fun b hb => h b (List.mem_cons_of_mem _ hb)))).cg (fun x y w => ⟨fun z => ?_, fun ⟨b, hb, z⟩ => ?_⟩)
    · rcases z with z | ⟨b, hb, z⟩
      · exact ⟨a, List.mem_cons_self, z⟩
      · exact ⟨b, List.mem_cons_of_mem _ hb, z⟩
    · rcases List.mem_cons.mp hb with e | e
      · subst e; exact Or.inl z
      · exact Or.inr ⟨b, e, z⟩
/-- passes until nothing changes -/
def gI (ch : Bool) (P : (Nat → Nat) → (Nat → Nat) × Bool) : Nat → (Nat → Nat) × Bool → (Nat → Nat) × Bool
  | 0, x => x
  | k + 1, x => if x.2 = ch then gI ch P k (P x.1) else x
section GI
variable {K : KT} {nr : Nat} {ch : Bool} {g : (Nat → Nat) × Bool → (Nat → Nat) × Bool}
theorem gI_sol (hg : stOK ch K g) {b : Bool} (hb : b ≠ ch) : ∀ (k : Nat) (x : (Nat → Nat) × Bool), (x.2 ≠ ch → SolK K x.1) → (∀ M, SolK K M → ∀ r, x.1 r ≤ M r) → ((gI ch (fun S => g (S, b)) k x).2 ≠ ch → SolK K (gI ch (fun S => g (S, b)) k x).1) ∧ ∀ M, SolK K M → ∀ r, (gI ch (fun S => g (S, b)) k x).1 r ≤ M r
  | 0, x, h1, h2 => ⟨h1, h2⟩
  | k + 1, x, h1, h2 => by
    unfold gI
    by_cases e : x.2 = ch
    · rw [if_pos e]
      obtain ⟨a1, a2, a3, a4, a5⟩ := hg (x.1, b)
      refine gI_sol hg hb k (g (x.1, b)) (fun hc => ?_) (fun M hM => a3 M hM (h2 M hM))
      obtain ⟨_, c2⟩ := a4 hc
      rw [c2] at a2 ⊢
      exact a2
    · rw [if_neg e]; exact ⟨h1, h2⟩
theorem gI_stop {P : (Nat → Nat) → (Nat → Nat) × Bool} {x : (Nat → Nat) × Bool} (h : x.2 ≠ ch) : ∀ k, gI ch P k x = x
  | 0 => rfl
  | k + 1 => by unfold gI; rw [if_neg h]
theorem gI_end (hK : ∀ h x w, K h x w → h < nr ∧ x < nr ∧ w ≤ 1) (hg : stOK ch K g) {b : Bool} (hb : b ≠ ch) {M : Nat → Nat} (hM : LstK K M) : ∀ (k : Nat) (S : Nat → Nat), (∀ r, S r ≤ M r) → cnS nr M S < k → (gI ch (fun S => g (S, b)) k (S, ch)).2 ≠ ch
  | 0, S, _, h => by omega
  | k + 1, S, hS, h => by
    unfold gI
    rw [if_pos rfl]
    obtain ⟨a1, a2, a3, a4, a5⟩ := hg (S, b)
    show (gI ch (fun S => g (S, b)) k (g (S, b))).2 ≠ ch
    by_cases e : (g (S, b)).2 = ch
    · rcases a5 e with z | ⟨r, z⟩
      · exact absurd z hb
      · have hle := a3 M hM.1 hS
        have := LstK.step hK hM a1 a2 hle (Nat.lt_of_lt_of_le z (hle r))
        have ep : g (S, b) = ((g (S, b)).1, ch) := by rw [← e]
        rw [ep]
        have : cnS nr M (g (S, b)).1 < cnS nr M S := this
        exact gI_end hK hg hb hM k (g (S, b)).1 hle (by omega)
    · rw [gI_stop e]; exact e
end GI
/-! the two relaxations -/
def conI (h : Nat) (y : MI) : KT := fun a x w => a = h ∧ x = y.2.1 ∧ ((y.1 = 0 ∧ w = 0) ∨ (y.1 = 1 ∧ w = 1))
def conR (R : MR) : KT := fun a x w => ∃ y ∈ R.2, conI R.1.1 y a x w
def conQ (Q : List MR) : KT := fun a x w => ∃ R ∈ Q, conR R a x w
theorem mi1_ok {h : Nat} {y : MI} : stOK false (conI h y) (fun p => mi1 h p y) := fun p => by
  show stP false (conI h y) p (mi1 h p y)
  have hls : ∀ w, ((y.1 = 0 ∧ w = 0) ∨ (y.1 = 1 ∧ w = 1)) → ls1 p.1 y = p.1 y.2.1 + w := fun w hw => by
    unfold ls1
    rcases hw with ⟨z1, z2⟩ | ⟨z1, z2⟩
    · rw [if_pos z1, z2]; rfl
    · rw [if_neg (by omega), if_pos z1, z2]
  unfold mi1
  by_cases hc : p.1 h < ls1 p.1 y
  · rw [if_pos hc]
    refine ⟨fun r => ?_, fun a x w ⟨k1, k2, k3⟩ => ?_, fun M hM hx r => ?_, fun z => absurd rfl z, fun _ => Or.inr ⟨h, ?_⟩⟩
    · show p.1 r ≤ va_up p.1 h (ls1 p.1 y) r
      unfold va_up
      split
      · rename_i e; rw [e]; omega
      · exact Nat.le_refl _
    · show _ ≤ va_up p.1 h (ls1 p.1 y) a
      unfold va_up
      rw [if_pos k1, k2, hls w k3]; exact Nat.le_refl _
    · show va_up p.1 h (ls1 p.1 y) r ≤ _
      unfold va_up
      split
      · rename_i e
        rw [e]
        by_cases hk : y.1 = 0 ∨ y.1 = 1
        · rcases hk with hk | hk
          · have := hM h y.2.1 0 ⟨rfl, rfl, Or.inl ⟨hk, rfl⟩⟩
            rw [hls 0 (Or.inl ⟨hk, rfl⟩)]
            have := hx y.2.1
            omega
          · have := hM h y.2.1 1 ⟨rfl, rfl, Or.inr ⟨hk, rfl⟩⟩
            rw [hls 1 (Or.inr ⟨hk, rfl⟩)]
            have := hx y.2.1
            omega
        · unfold ls1
          rw [if_neg (by omega), if_neg (by omega)]; omega
      · exact hx r
    · show _ < va_up p.1 h (ls1 p.1 y) h
      unfold va_up
      rw [if_pos rfl]; exact hc
  · rw [if_neg hc]
    refine ⟨fun r => Nat.le_refl _, fun a x w ⟨k1, k2, k3⟩ => ?_, fun M hM hx => hx, fun z => ⟨z, rfl⟩, fun z => Or.inl z⟩
    rw [k1, k2, ← hls w k3]; omega
theorem mst_ok {Q : List MR} : stOK false (conQ Q) (fun p => Q.foldl mq1 p) :=
  stOK.foldl Q (fun R _ => (stOK.foldl (K := fun y => conI R.1.1 y) R.2 (fun y _ => mi1_ok)))
theorem foldl_max {α : Type} {f : α → Option Nat} : ∀ (L : List α) (m b : Nat), L.foldl (fun m t => match f t with | some x => max m x | none => m) m ≤ b ↔ m ≤ b ∧ ∀ t ∈ L, ∀ x, f t = some x → x ≤ b
  | [], m, b => ⟨fun h => ⟨h, fun t ht => by cases ht⟩, fun h => h.1⟩
  | a :: L, m, b => by
    rw [List.foldl_cons, foldl_max L]
    cases ha : f a with
    | none =>
      refine ⟨fun h => ⟨h.1, fun t ht x hx => ?_⟩, fun h => ⟨h.1, fun t ht => h.2 t (List.mem_cons_of_mem _ ht)⟩⟩
      rcases List.mem_cons.mp ht with e | e
      · rw [e, ha] at hx; cases hx
      · exact h.2 t e x hx
    | some q =>
      have hmx : max m q ≤ b ↔ m ≤ b ∧ q ≤ b := Nat.max_le
      refine ⟨fun h => ⟨(hmx.mp h.1).1, fun t ht x hx => ?_⟩, fun h => ⟨?_, fun t ht => h.2 t (List.mem_cons_of_mem _ ht)⟩⟩
      · rcases List.mem_cons.mp ht with e | e
        · rw [e, ha] at hx; cases hx; exact (hmx.mp h.1).2
        · exact h.2 t e x hx
      · exact hmx.mpr ⟨h.1, h.2 a List.mem_cons_self q ha⟩
theorem lst_le_iff {S : Nat → Nat} {R : Rl} {b : Nat} : lst S R ≤ b ↔ (∀ t ∈ R.2.1, S t.1.2.1 ≤ b) ∧ ∀ t ∈ R.2.2, t.1.1 = 1 → S t.1.2.1 + 1 ≤ b := by
  have e1 : lstH S R.2.1 = R.2.1.foldl (fun m t => match (some (S t.1.2.1) : Option Nat) with | some x => max m x | none => m) 0 := rfl
  have e2 : ∀ m, lstK S m R.2.2 = R.2.2.foldl (fun m t => match (if t.1.1 = 1 then some (S t.1.2.1 + 1) else none : Option Nat) with | some x => max m x | none => m) m := fun m => by
    unfold lstK
    refine foldl_cg _ _ (fun t _ b => ?_)
    by_cases e : t.1.1 = 1
    · rw [if_pos e, if_pos e]
    · rw [if_neg e, if_neg e]
  unfold lst
  rw [e2, foldl_max, e1, foldl_max (f := fun t : It => (some (S t.1.2.1) : Option Nat))]
  constructor
  · rintro ⟨⟨_, h1⟩, h2⟩
    exact ⟨fun t ht => h1 t ht _ rfl, fun t ht hk => h2 t ht _ (if_pos hk)⟩
  · rintro ⟨h1, h2⟩
    refine ⟨⟨Nat.zero_le _, fun t ht x hx => ?_⟩, fun t ht x hx => ?_⟩
    · cases hx; exact h1 t ht
    · split at hx
      · rename_i hk
        cases hx; exact h2 t ht hk
      · cases hx
theorem cH_mem {cw : Nat → Nat} : ∀ (xs : List MI) (d : Nat) (kn : Nat → Nat), (∀ t ∈ cH cw d kn xs, ∃ x ∈ xs, t.1.2.1 = x.2.1) ∧ ∀ x ∈ xs, ∃ t ∈ cH cw d kn xs, t.1.2.1 = x.2.1
  | [], _, _ => ⟨(fun t ht => by cases ht), (fun x hx => by cases hx)⟩
  | x :: xs, d, kn => by
    obtain ⟨i1, i2⟩ := cH_mem (cw := cw) xs (d + 1) (knP kn (bindI kn (i0 cw x)) (d + 1) (cw x.2.1))
    constructor
    · intro t ht
      rcases List.mem_cons.mp ht with e | e
      · exact ⟨x, List.mem_cons_self, by rw [e]; rfl⟩
      · obtain ⟨y, hy, hye⟩ := i1 t e
        exact ⟨y, List.mem_cons_of_mem _ hy, hye⟩
    · intro y hy
      rcases List.mem_cons.mp hy with e | e
      · exact ⟨bindI kn (i0 cw x), List.mem_cons_self, by rw [e]; rfl⟩
      · obtain ⟨t, ht, hte⟩ := i2 y e
        exact ⟨t, List.mem_cons_of_mem _ ht, hte⟩
theorem lst_rlO {cw : Nat → Nat} {S : Nat → Nat} {R : MR} {b : Nat} : lst S (rlO cw R) ≤ b ↔ ∀ x w, conR R R.1.1 x w → S x + w ≤ b := by
  rw [lst_le_iff]
  obtain ⟨m1, m2⟩ := cH_mem (cw := cw) (hls R) 0 (fun _ => 0)
  constructor
  · rintro ⟨h1, h2⟩ x w ⟨y, hy, _, k2, k3⟩
    rcases k3 with ⟨k3, k4⟩ | ⟨k3, k4⟩
    · obtain ⟨t, ht, hte⟩ := m2 y (hls_mem.mpr ⟨hy, k3⟩)
      have := h1 t ht
      rw [hte, ← k2] at this
      omega
    · have := h2 (kI cw (rK cw R) y) (List.mem_map_of_mem (rY_mem.mpr ⟨hy, by omega⟩)) k3
      have e : (kI cw (rK cw R) y).1.2.1 = y.2.1 := rfl
      rw [e, ← k2] at this
      omega
  · intro h
    refine ⟨fun t ht => ?_, fun t ht hk => ?_⟩
    · obtain ⟨y, hy, hye⟩ := m1 t ht
      obtain ⟨y1, y2⟩ := hls_mem.mp hy
      have := h y.2.1 0 ⟨y, y1, rfl, rfl, Or.inl ⟨y2, rfl⟩⟩
      rw [hye]; omega
    · obtain ⟨y, hy, rfl⟩ := List.mem_map.mp ht
      obtain ⟨y1, y2⟩ := rY_mem.mp hy
      exact h y.2.1 1 ⟨y, y1, rfl, rfl, Or.inr ⟨hk, rfl⟩⟩
theorem rs1_ok {cw : Nat → Nat} {R : MR} : stOK true (conR R) (fun x => rs1 x (rlO cw R)) := fun p => by
  show stP true (conR R) p (rs1 p (rlO cw R))
  have hle := fun b => lst_rlO (cw := cw) (S := p.1) (R := R) (b := b)
  have hcon : ∀ a x w, conR R a x w → a = R.1.1 ∧ p.1 x + w ≤ lst p.1 (rlO cw R) := fun a x w hk => by
    obtain ⟨y, hy, k1, k2⟩ := id hk
    refine ⟨k1, (hle _).mp (Nat.le_refl _) x w ?_⟩
    rw [← k1]; exact hk
  have eh : (rlO cw R).1.1.2.1 = R.1.1 := rfl
  unfold rs1
  rw [eh]
  by_cases hc : p.1 R.1.1 < lst p.1 (rlO cw R)
  · rw [if_pos hc]
    refine ⟨fun r => ?_, fun a x w hk => ?_, fun M hM hx r => ?_, fun z => absurd rfl z, fun _ => Or.inr ⟨R.1.1, ?_⟩⟩
    · show p.1 r ≤ va_up p.1 R.1.1 _ r
      unfold va_up
      split
      · rename_i e; rw [e]; omega
      · exact Nat.le_refl _
    · obtain ⟨k1, k2⟩ := hcon a x w hk
      show _ ≤ va_up p.1 R.1.1 _ a
      unfold va_up
      rw [if_pos k1]; exact k2
    · show va_up p.1 R.1.1 _ r ≤ _
      unfold va_up
      split
      · rename_i e
        rw [e]
        refine (hle _).mpr (fun x w hk => ?_)
        have := hM _ x w hk
        have := hx x
        omega
      · exact hx r
    · show _ < va_up p.1 R.1.1 _ R.1.1
      unfold va_up
      rw [if_pos rfl]; exact hc
  · rw [if_neg hc]
    refine ⟨fun r => Nat.le_refl _, fun a x w hk => ?_, fun M hM hx => hx, fun z => ⟨z, rfl⟩, fun z => Or.inl z⟩
    obtain ⟨k1, k2⟩ := hcon a x w hk
    rw [k1]; omega
theorem stp_ok {cw : Nat → Nat} {Q : List MR} : stOK true (conQ Q) (fun x => (Q.map (rlO cw)).foldl rs1 x) := by
  have : (fun x => (Q.map (rlO cw)).foldl rs1 x) = (fun x => Q.foldl (fun x R => rs1 x (rlO cw R)) x) := by funext x; rw [List.foldl_map]
  rw [this]
  exact stOK.foldl Q (fun R _ => rs1_ok)
theorem itr_gI {Q : List Rl} : ∀ (k : Nat) (x : (Nat → Nat) × Bool), itr Q k x = gI true (fun S => Q.foldl rs1 (S, false)) k x
  | 0, _ => rfl
  | k + 1, x => by unfold itr gI; rw [itr_gI k]; rfl
theorem mit_gI {Q : List MR} : ∀ (k : Nat) (p : (Nat → Nat) × Bool), mit Q k p = gI false (fun S => Q.foldl mq1 (S, true)) k p
  | 0, _ => rfl
  | k + 1, p => by
    unfold mit gI
    cases hp : p.2 with
    | true => rfl
    | false => rw [if_neg (by decide), if_pos rfl]; exact mit_gI k _
theorem sgB_iff {S : Nat → Nat} {nr i : Nat} : sgB S nr i = true ↔ ∀ r, r < i → S r < nr := by
  unfold sgB
  rw [List.all_eq_true]
  exact ⟨fun h r hr => by have := h r (List.mem_range.mpr hr); rwa [decide_eq_true_iff] at this, fun h r hr => by rw [decide_eq_true_iff]; exact h r (List.mem_range.mp hr)⟩
/-- STRATA, both ways -/
theorem strata_eq {cw : Nat → Nat} {nr : Nat} {QM : List MR} (hQ : ∀ R ∈ QM, R.1.1 < nr ∧ ∀ x ∈ R.2, x.1 < 2 → x.2.1 < nr) :
    ((fst (QM.map (rlO cw)) nr).2 = false ↔ mok QM nr = true) ∧ (mok QM nr = true → (fst (QM.map (rlO cw)) nr).1 = (mfs QM nr).1 ∧ ∀ r, r < nr → (mfs QM nr).1 r < nr) := by
  have hK : ∀ h x w, conQ QM h x w → h < nr ∧ x < nr ∧ w ≤ 1 := fun h x w ⟨R, hR, y, hy, k1, k2, k3⟩ => by
    obtain ⟨a1, a2⟩ := hQ R hR
    refine ⟨by rw [k1]; exact a1, by rw [k2]; exact a2 y hy (by omega), by omega⟩
  have c1 := gI_sol (b := false) (stp_ok (cw := cw) (Q := QM)) (by decide) nr (fun _ => 0, decide (0 < nr)) (fun z h x w hk => by
    have := hK h x w hk
    have : 0 < nr := by omega
    exact absurd (decide_eq_true this) z) (fun M _ r => Nat.zero_le _)
  have m1 := gI_sol (b := true) (mst_ok (Q := QM)) (by decide) (nr + 1) (fun _ => 0, false) (fun z => absurd rfl z) (fun M _ r => Nat.zero_le _)
  have e1 : fst (QM.map (rlO cw)) nr = gI true (fun S => (QM.map (rlO cw)).foldl rs1 (S, false)) nr (fun _ => 0, decide (0 < nr)) := itr_gI _ _
  have e2 : mfs QM nr = gI false (fun S => QM.foldl mq1 (S, true)) (nr + 1) (fun _ => 0, false) := mit_gI _ _
  rw [← e1] at c1
  rw [← e2] at m1
  have h1 : (fst (QM.map (rlO cw)) nr).2 = false → (mfs QM nr).2 = true := fun z => by
    have hM : LstK (conQ QM) (fst (QM.map (rlO cw)) nr).1 := ⟨c1.1 (by rw [z]; decide), fun M' => c1.2 M'⟩
    have hcn : cnS nr (fst (QM.map (rlO cw)) nr).1 (fun _ => 0) < nr + 1 := by
      rcases Nat.eq_zero_or_pos nr with e | e
      · rw [e]; exact Nat.zero_lt_one
      · have := hM.start hK e; omega
    have := gI_end (b := true) hK (mst_ok (Q := QM)) (by decide) hM (nr + 1) (fun _ => 0) (fun r => Nat.zero_le _) hcn
    rw [← e2] at this
    cases hq : (mfs QM nr).2 with
    | true => rfl
    | false => exact absurd hq this
  have h2 : (mfs QM nr).2 = true → (fst (QM.map (rlO cw)) nr).2 = false := fun z => by
    have hM : LstK (conQ QM) (mfs QM nr).1 := ⟨m1.1 (by rw [z]; decide), fun M' => m1.2 M'⟩
    rcases Nat.eq_zero_or_pos nr with e | e
    · rw [e]; rfl
    · have := gI_end (b := false) hK (stp_ok (cw := cw) (Q := QM)) (by decide) hM nr (fun _ => 0) (fun r => Nat.zero_le _) (hM.start hK e)
      rw [decide_eq_true e] at e1
      rw [← e1] at this
      cases hq : (fst (QM.map (rlO cw)) nr).2 with
      | false => rfl
      | true => exact absurd hq this
  have h3 : (mfs QM nr).2 = true → (fst (QM.map (rlO cw)) nr).1 = (mfs QM nr).1 ∧ ∀ r, r < nr → (mfs QM nr).1 r < nr := fun z => by
    have hM : LstK (conQ QM) (mfs QM nr).1 := ⟨m1.1 (by rw [z]; decide), fun M' => m1.2 M'⟩
    have hM2 : LstK (conQ QM) (fst (QM.map (rlO cw)) nr).1 := ⟨c1.1 (by rw [h2 z]; decide), fun M' => c1.2 M'⟩
    exact ⟨funext (fun r => Nat.le_antisymm (hM2.2 _ hM.1 r) (hM.2 _ hM2.1 r)), hM.lt hK⟩
  have hmk : mok QM nr = true ↔ (mfs QM nr).2 = true := by
    unfold mok
    rw [Bool.and_eq_true]
    exact ⟨fun z => z.1, fun z => ⟨z, sgB_iff.mpr (h3 z).2⟩⟩
  exact ⟨⟨fun z => hmk.mpr (h1 z), fun z => h2 (hmk.mp z)⟩, fun z => h3 (hmk.mp z)⟩
