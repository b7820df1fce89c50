/-! rules as values; strata -/
/-- head, HOLDS, checks -/
abbrev Rl : Type := It × List It × List It
def ruB (R : Rl) : Prop := itB R.1 ∧ R.2.1.length ≤ 3 ∧ R.2.2.length ≤ 6 ∧ (∀ t ∈ R.2.1, itB t) ∧ ∀ t ∈ R.2.2, itB t ∧ t.1.1 ≠ 0
def ruAt (X : gs_X) (σ : gs_St) (a : Nat) (R : Rl) : Prop := ∃ (hd ho ck kf : Nat) (fH fC : Nat → Option Nat), σ a = some (gs_ob 4 [.ref hd, .ref ho, .ref ck, .int (nI R.2.1.length), .int (nI R.2.2.length), .ref kf]) ∧ σ hd = some (itE R.1) ∧ σ ho = some (gs_qa X 3 3 fH) ∧ σ ck = some (gs_qa X 3 6 fC) ∧
  (∀ i t, R.2.1[i]? = some t → ∃ b, fH i = some b ∧ σ b = some (itE t)) ∧ ∀ i t, R.2.2[i]? = some t → ∃ b, fC i = some b ∧ σ b = some (itE t)
/-- a rule stands on objects of two classes and arrays of references: other cells may change -/
theorem ruAt.of {X : gs_X} {σ τ : gs_St} {a : Nat} {R : Rl} (h : ruAt X σ a R) (h1 : ∀ q ci fs, ci = 4 ∨ ci = 2 → σ q = some (gs_ob ci fs) → τ q = some (gs_ob ci fs)) (h2 : ∀ q n f, σ q = some (gs_qa X 3 n f) → τ q = some (gs_qa X 3 n f)) : ruAt X τ a R := by
  obtain ⟨hd, ho, ck, kf, fH, fC, r0, r1, r2, r3, r4, r5⟩ := h
  refine ⟨hd, ho, ck, kf, fH, fC, h1 _ _ _ (Or.inl rfl) r0, h1 _ _ _ (Or.inr rfl) r1, h2 _ _ _ r2, h2 _ _ _ r3, fun i t z => ?_, fun i t z => ?_⟩
  · obtain ⟨b, e1, e2⟩ := r4 i t z
    exact ⟨b, e1, h1 _ _ _ (Or.inr rfl) e2⟩
  · obtain ⟨b, e1, e2⟩ := r5 i t z
    exact ⟨b, e1, h1 _ _ _ (Or.inr rfl) e2⟩
theorem ruAt.upi {X : gs_X} {σ : gs_St} {a x n : Nat} {f : Nat → Int32} {e : va_E} {R : Rl} (h : ruAt X σ a R) (hx : σ x = some (gs_ia X n f)) : ruAt X (gs_up σ x e) a R :=
  h.of (fun q ci fs _ z => gs_ku (gs_ne z hx (by simp)) z) (fun q n f z => gs_ku (gs_ne z hx (by simp)) z)
theorem ruAt.upo {X : gs_X} {σ : gs_St} {a x c : Nat} {gs : List Value} {e : va_E} {R : Rl} (h : ruAt X σ a R) (hx : σ x = some (gs_ob c gs)) (hc : c ≠ 4) (hc2 : c ≠ 2) : ruAt X (gs_up σ x e) a R :=
  h.of (fun q ci fs hci z => gs_ku (gs_ne z hx (by rcases hci with rfl | rfl <;> simp [Ne.symm hc, Ne.symm hc2])) z) (fun q n f z => gs_ku (gs_ne z hx (by simp)) z)
theorem ruAt.upn {X : gs_X} {σ : gs_St} {a x : Nat} {e : va_E} {R : Rl} (h : ruAt X σ a R) (hx : σ x = none) : ruAt X (gs_up σ x e) a R :=
  h.of (fun q ci fs _ z => gs_ku (fun w => by rw [w, hx] at z; cases z) z) (fun q n f z => gs_ku (fun w => by rw [w, hx] at z; cases z) z)
theorem ruAt.upq {X : gs_X} {σ : gs_St} {a x n : Nat} {f : Nat → Option Nat} {e : va_E} {R : Rl} (h : ruAt X σ a R) (hx : σ x = some (gs_qa X 2 n f)) (hne : X.2.1 3 ≠ X.2.1 2) : ruAt X (gs_up σ x e) a R :=
  h.of (fun q ci fs _ z => gs_ku (gs_ne z hx (by simp)) z) (fun q n f z => gs_ku (gs_ne z hx (by simp [hne])) z)
def lstH (S : Nat → Nat) (hh : List It) : Nat := hh.foldl (fun m t => max m (S t.1.2.1)) 0
def lstK (S : Nat → Nat) (m : Nat) (ks : List It) : Nat := ks.foldl (fun m t => if t.1.1 = 1 then max m (S t.1.2.1 + 1) else m) m
def lst (S : Nat → Nat) (R : Rl) : Nat := lstK S (lstH S R.2.1) R.2.2
def sOK (sf : Nat → Int32) (S : Nat → Nat) (B : Nat) : Prop := ∀ j, j < 12 → sf j = nI (S j) ∧ S j ≤ B
theorem foldl_snoc {α β : Type} {f : β → α → β} {z : β} {L : List α} {i : Nat} {x : α} (h : L[i]? = some x) : (L.take (i + 1)).foldl f z = f ((L.take i).foldl f z) x := by
  rw [take_snoc h, List.foldl_append]; rfl
theorem foldl_le {α : Type} {f : Nat → α → Nat} {B : Nat} : ∀ (L : List α) (z : Nat), z ≤ B → (∀ m x, m ≤ B → x ∈ L → f m x ≤ B) → L.foldl f z ≤ B
  | [], z, h, _ => h
  | x :: L, z, h, hf => foldl_le L (f z x) (hf z x h List.mem_cons_self) (fun m y hm hy => hf m y hm (List.mem_cons_of_mem _ hy))
theorem lstH_le {sf : Nat → Int32} {S : Nat → Nat} {B : Nat} (h : sOK sf S B) {hh : List It} (hB : ∀ t ∈ hh, itB t) : lstH S hh ≤ B :=
  foldl_le hh 0 (Nat.zero_le _) (fun m x hm hx => by have := (h _ (hB x hx).2.1).2; omega)
theorem lst_le {sf : Nat → Int32} {S : Nat → Nat} {B : Nat} (h : sOK sf S B) {R : Rl} (hB : ruB R) : lst S R ≤ B + 1 := by
  refine foldl_le R.2.2 _ (by have := lstH_le h hB.2.2.2.1; omega) (fun m x hm hx => ?_)
  have := (h _ (hB.2.2.2.2 x hx).1.2.1).2
  split <;> omega
/-- one rule raises its head -/
def rs1 (x : (Nat → Nat) × Bool) (R : Rl) : (Nat → Nat) × Bool := if x.1 R.1.1.2.1 < lst x.1 R then (va_up x.1 R.1.1.2.1 (lst x.1 R), true) else x
def stp (Q : List Rl) (S : Nat → Nat) : (Nat → Nat) × Bool := Q.foldl rs1 (S, false)
theorem sOK_up {sf : Nat → Int32} {S : Nat → Nat} {B : Nat} (h : sOK sf S B) {k x C : Nat} (hx : x ≤ C) (hBC : B ≤ C) : sOK (upd sf k (nI x)) (va_up S k x) C := by
  intro j hj
  unfold upd va_up
  by_cases e : j = k
  · simp [e, hx]
  · simp only [if_neg e]; exact ⟨(h j hj).1, Nat.le_trans (h j hj).2 hBC⟩
theorem sOK_mono {sf : Nat → Int32} {S : Nat → Nat} {B C : Nat} (h : sOK sf S B) (hBC : B ≤ C) : sOK sf S C := fun j hj => ⟨(h j hj).1, Nat.le_trans (h j hj).2 hBC⟩
/-- passes while something was raised -/
def itr (Q : List Rl) : Nat → (Nat → Nat) × Bool → (Nat → Nat) × Bool
  | 0, x => x
  | k + 1, x => if x.2 then itr Q k (stp Q x.1) else x
theorem itr_f (Q : List Rl) : ∀ (k : Nat) (x : (Nat → Nat) × Bool), x.2 = false → itr Q k x = x
  | 0, x, _ => rfl
  | k + 1, x, h => by simp [itr, h]
/-- one more than the greatest stratum -/
def mxS (S : Nat → Nat) : Nat → Nat
  | 0 => 0
  | n + 1 => max (mxS S n) (S n + 1)
theorem mx_step {x : Int32} {m y : Nat} (h : x + 1 = nI m) (hm : m < 2 ^ 30) (hy : y < 2 ^ 30) : (if x < nI y then nI y else x) + 1 = nI (max m (y + 1)) := by
  cases m with
  | zero =>
    have e : x = -1 := by
      have : x = nI 0 - 1 := by rw [← h]; simp
      rw [this]; decide
    subst e
    have h2 : (-1 : Int32) < nI y := by
      have := nI_pos' (n := y) (by omega)
      exact Int32.lt_of_lt_of_le (by decide) this
    rw [if_pos h2, nI_1, Nat.max_eq_right (by omega)]
  | succ k =>
    have e := cl_pos h
    subst e
    by_cases hk : k < y
    · rw [if_pos ((nI_ltI (by omega) (by omega)).mpr hk), nI_1, Nat.max_eq_right (by omega)]
    · rw [if_neg (mt (nI_ltI (by omega) (by omega)).mp hk), nI_1, Nat.max_eq_left (by omega)]
def fst (Q : List Rl) (nr : Nat) : (Nat → Nat) × Bool := itr Q nr (fun _ => 0, decide (0 < nr))
/-- the number of strata, or CYCLE -/
def scI (Q : List Rl) (nr : Nat) : Int32 := if (fst Q nr).2 then -3 else nI (mxS (fst Q nr).1 nr)
theorem sOK_z {sf : Nat → Int32} {S : Nat → Nat} {B i : Nat} (h : sOK sf (fun j => if j < i then 0 else S j) B) : sOK (upd sf i (nI 0)) (fun j => if j < i + 1 then 0 else S j) B := by
  intro j hj
  have z := h j hj
  by_cases e : j = i
  · subst e; simp [upd]
  · by_cases e2 : j < i
    · simp only [upd, if_neg e, if_pos e2, if_pos (show j < i + 1 by omega)] at z ⊢; exact z
    · simp only [upd, if_neg e, if_neg e2, if_neg (show ¬ j < i + 1 by omega)] at z ⊢; exact z
theorem rb_fold {σ : gs_St} {x bk sr : Nat} {e1 e2 e3 e4 : va_E} (h : bk ≠ sr) : gs_up (gs_up (gs_up (gs_up σ x e1) bk e2) sr e3) bk e4 = gs_up (gs_up (gs_up σ x e1) sr e3) bk e4 := by
  funext q
  unfold gs_up
  by_cases a : q = bk
  · simp [a]
  · by_cases b : q = sr
    · simp [a, b]
    · simp [a, b]
theorem rb_init {σ : gs_St} {bk a b d : Nat} {x y z e1 e2 e3 e4 e5 e6 : va_E} : gs_up (gs_up (gs_up (gs_up (gs_up (gs_up (gs_up (gs_up (gs_up σ a x) bk e1) b y) bk e2) d z) bk e3) bk e4) bk e5) bk e6 = gs_up (gs_up (gs_up (gs_up σ a x) b y) d z) bk e6 := by
  funext q
  unfold gs_up
  by_cases e : q = bk
  · simp [e]
  · simp [e]
