/-! sorted lists of codes -/
/-- how many of L lie below c -/
abbrev cb (L : List Nat) (c : Nat) : Nat := L.countP (fun y => decide (y < c))
theorem cb_le (L : List Nat) (c : Nat) : cb L c ≤ L.length := List.countP_le_length
theorem cb_iff : ∀ (L : List Nat), L.Pairwise (· ≤ ·) → ∀ (c j x : Nat), L[j]? = some x → (x < c ↔ j < cb L c)
  | [], _, c, j, x, h => by simp at h
  | a :: L, hs, c, j, x, h => by
    obtain ⟨h1, h2⟩ := List.pairwise_cons.mp hs
    by_cases ha : a < c
    · have e : cb (a :: L) c = cb L c + 1 := by simp [cb, List.countP_cons, ha]
      rw [e]
      cases j with
      | zero => simp at h; subst h; exact ⟨fun _ => Nat.succ_pos _, fun _ => ha⟩
      | succ j =>
        have := cb_iff L h2 c j x (by simpa using h)
        omega
    · have e : cb (a :: L) c = 0 := by
        simp only [cb, List.countP_eq_zero, decide_eq_true_eq]
        intro y hy
        rcases List.mem_cons.mp hy with rfl | hy
        · exact ha
        · have := h1 y hy; omega
      rw [e]
      refine ⟨fun hx => ?_, fun hx => absurd hx (Nat.not_lt_zero _)⟩
      have : a ≤ x := by
        cases j with
        | zero => simp at h; omega
        | succ j => have := h1 x (List.mem_of_getElem? (by simpa using h)); omega
      omega
theorem get_ex {α : Type} {L : List α} {j : Nat} (h : j < L.length) : ∃ x, L[j]? = some x := ⟨L[j], List.getElem?_eq_getElem h⟩
theorem mem_cb {L : List Nat} (hs : L.Pairwise (· ≤ ·)) (c : Nat) : c ∈ L ↔ L[cb L c]? = some c := by
  refine ⟨fun h => ?_, fun h => List.mem_of_getElem? h⟩
  obtain ⟨j, hj⟩ := List.getElem?_of_mem h
  have h1 := cb_iff L hs c j c hj
  have hjl := (List.getElem?_eq_some_iff.mp hj).1
  have hle : cb L c ≤ j := by omega
  rcases Nat.lt_or_ge (cb L c) j with h2 | h2
  · obtain ⟨y, hy⟩ := get_ex (L := L) (j := cb L c) (by omega)
    have h3 := cb_iff L hs c _ y hy
    have h4 := List.pairwise_iff_getElem.mp hs (cb L c) j (by omega) hjl h2
    have e1 := (List.getElem?_eq_some_iff.mp hy).2
    have e2 := (List.getElem?_eq_some_iff.mp hj).2
    have : y = c := by omega
    rw [← this]
    rw [this] at hy ⊢
    exact hy
  · have : cb L c = j := by omega
    rw [this]; exact hj
theorem pw_le {L : List Nat} (h : L.Pairwise (· < ·)) : L.Pairwise (· ≤ ·) := h.imp (fun z => Nat.le_of_lt z)
/-- entries: a code, its round, its rule -/
abbrev En : Type := Nat × Nat × Int32
abbrev cds (E : List En) : List Nat := E.map (fun e => e.1)
def tuR (E : List En) (cs ci cr : Nat → Int32) : Prop := ∀ (j : Nat) (x : En), E[j]? = some x → cs j = nI x.1 ∧ ci j = nI x.2.1 ∧ cr j = x.2.2
/-- codes and rounds stay small -/
def tuB (E : List En) : Prop := (cds E).Pairwise (· ≤ ·) ∧ E.length ≤ 301 ∧ ∀ x ∈ E, x.1 < 2 ^ 30 ∧ x.2.1 < 2 ^ 30
def tu4 (X : gs_X) (σ : gs_St) (h ac ai ab n : Nat) (cs ci cr : Nat → Int32) : gs_St := gs_up (gs_up (gs_up (gs_up σ ac (gs_ia X 301 cs)) ai (gs_ia X 301 ci)) ab (gs_ia X 301 cr)) h (gs_ob 6 [.ref ac, .ref ai, .ref ab, .int (nI n)])
theorem cds_get {E : List En} {j : Nat} {x : Nat} (h : (cds E)[j]? = some x) : ∃ e : En, E[j]? = some e ∧ e.1 = x := by
  rw [List.getElem?_map] at h
  cases he : E[j]? with
  | none => rw [he] at h; cases h
  | some e => rw [he] at h; exact ⟨e, rfl, Option.some.inj h⟩
theorem tuR.cds {E : List En} {cs ci cr : Nat → Int32} (h : tuR E cs ci cr) (hb : ∀ x ∈ E, x.1 < 2 ^ 30 ∧ x.2.1 < 2 ^ 30) : ∀ (j x : Nat), (cds E)[j]? = some x → cs j = nI x ∧ x < 2 ^ 30 := by
  intro j x hx
  obtain ⟨e, he, rfl⟩ := cds_get hx
  exact ⟨(h j e he).1, (hb e (List.mem_of_getElem? he)).1⟩
/-- behind an insertion at its place -/
def insE (E : List En) (e : En) : List En := E.take (cb (cds E) e.1) ++ e :: E.drop (cb (cds E) e.1)
theorem insE_len (E : List En) (e : En) : (insE E e).length = E.length + 1 := by
  simp [insE]; omega
theorem insE_get (E : List En) (e : En) (j : Nat) : (insE E e)[j]? = if j < cb (cds E) e.1 then E[j]? else if j = cb (cds E) e.1 then some e else E[j - 1]? := by
  have hp : cb (cds E) e.1 ≤ E.length := by have := cb_le (cds E) e.1; simpa using this
  unfold insE
  generalize cb (cds E) e.1 = p at hp ⊢
  have hl : (E.take p).length = p := by simp; omega
  by_cases h1 : j < p
  · rw [if_pos h1, List.getElem?_append_left (by omega), List.getElem?_take_of_lt h1]
  · rw [if_neg h1, List.getElem?_append_right (by omega), hl]
    by_cases h2 : j = p
    · subst h2; simp
    · rw [if_neg h2]
      obtain ⟨k, rfl⟩ : ∃ k, j = p + (k + 1) := ⟨j - p - 1, by omega⟩
      rw [show p + (k + 1) - p = k + 1 by omega, List.getElem?_cons_succ, List.getElem?_drop, show p + (k + 1) - 1 = p + k by omega]
theorem tuR_ins {E : List En} {cs ci cr : Nat → Int32} (h : tuR E cs ci cr) (e : En) {p n : Nat} (hp : p = cb (cds E) e.1) (hn : n = E.length) :
    tuR (insE E e) (upd (va_cpy cs cs p (p + 1) (n - p)) p (nI e.1)) (upd (va_cpy ci ci p (p + 1) (n - p)) p (nI e.2.1)) (upd (va_cpy cr cr p (p + 1) (n - p)) p e.2.2) := by
  have hpl : p ≤ n := by have := cb_le (cds E) e.1; rw [List.length_map] at this; omega
  intro j x hx
  rw [insE_get, ← hp] at hx
  by_cases h1 : j < p
  · rw [if_pos h1] at hx
    have hj : j ≠ p := by omega
    simp only [upd, if_neg hj, va_cpy, if_neg (show ¬ (p + 1 ≤ j ∧ j < p + 1 + (n - p)) by omega)]
    exact h j x hx
  · rw [if_neg h1] at hx
    by_cases h2 : j = p
    · rw [if_pos h2] at hx
      cases hx
      simp [upd, h2]
    · rw [if_neg h2] at hx
      have hlt := (List.getElem?_eq_some_iff.mp hx).1
      simp only [upd, if_neg h2, va_cpy, if_pos (show p + 1 ≤ j ∧ j < p + 1 + (n - p) by omega), show p + (j - (p + 1)) = j - 1 by omega]
      exact h (j - 1) x hx
/-- behind a removal -/
def delE (E : List En) (p : Nat) : List En := E.take p ++ E.drop (p + 1)
theorem delE_get (E : List En) {p : Nat} (hp : p < E.length) (j : Nat) : (delE E p)[j]? = if j < p then E[j]? else E[j + 1]? := by
  unfold delE
  have hl : (E.take p).length = p := by simp; omega
  by_cases h1 : j < p
  · rw [if_pos h1, List.getElem?_append_left (by omega), List.getElem?_take_of_lt h1]
  · rw [if_neg h1, List.getElem?_append_right (by omega), hl, List.getElem?_drop, show p + 1 + (j - p) = j + 1 by omega]
theorem tuR_del {E : List En} {cs ci cr : Nat → Int32} (h : tuR E cs ci cr) {p n : Nat} (hp : p < n) (hn : n = E.length) :
    tuR (delE E p) (va_cpy cs cs (p + 1) p (n - (p + 1))) (va_cpy ci ci (p + 1) p (n - (p + 1))) (va_cpy cr cr (p + 1) p (n - (p + 1))) := by
  intro j x hx
  rw [delE_get E (by omega)] at hx
  by_cases h1 : j < p
  · rw [if_pos h1] at hx
    simp only [va_cpy, if_neg (show ¬ (p ≤ j ∧ j < p + (n - (p + 1))) by omega)]
    exact h j x hx
  · rw [if_neg h1] at hx
    have hlt := (List.getElem?_eq_some_iff.mp hx).1
    simp only [va_cpy, if_pos (show p ≤ j ∧ j < p + (n - (p + 1)) by omega), show p + 1 + (j - p) = j + 1 by omega]
    exact h (j + 1) x hx
/-- the facts among them -/
def keepE (E : List En) : List En := (E.filter (fun e => e.2.1 == 0)).map (fun e => (e.1, 0, -1))
theorem keepE_len (E : List En) : (keepE E).length ≤ E.length := by simp [keepE]; exact List.length_filter_le _ _
theorem keepE_snoc (E : List En) (e : En) : keepE (E ++ [e]) = keepE E ++ (if e.2.1 = 0 then [(e.1, 0, -1)] else []) := by
  by_cases h : e.2.1 = 0
  · simp [keepE, List.filter_append, h]
  · simp [keepE, List.filter_append, h]
theorem take_snoc {α : Type} {E : List α} {i : Nat} {x : α} (h : E[i]? = some x) : E.take (i + 1) = E.take i ++ [x] := by
  rw [List.take_succ, h]; rfl
theorem tuR_snoc {E : List En} {cs ci cr : Nat → Int32} (h : tuR E cs ci cr) (x : En) {k : Nat} (hk : k = E.length) : tuR (E ++ [x]) (upd cs k (nI x.1)) (upd ci k (nI x.2.1)) (upd cr k x.2.2) := by
  intro j y hy
  by_cases h1 : j < E.length
  · rw [List.getElem?_append_left h1] at hy
    have : j ≠ k := by omega
    simp only [upd, if_neg this]
    exact h j y hy
  · have h2 : j = k := by
      have := (List.getElem?_eq_some_iff.mp hy).1
      simp at this; omega
    subst h2
    subst hk
    simp at hy
    subst hy
    simp [upd]
theorem tu4_fold {X : gs_X} {σ : gs_St} {h ac ai ab n : Nat} {a1 a2 a3 : va_E} {cs ci cr : Nat → Int32} (n1 : ac ≠ ai) (n2 : ac ≠ ab) (n3 : ai ≠ ab) :
    gs_up (gs_up (gs_up (gs_up (gs_up (gs_up (gs_up σ ac a1) ai a2) ab a3) ac (gs_ia X 301 cs)) ai (gs_ia X 301 ci)) ab (gs_ia X 301 cr)) h (gs_ob 6 [.ref ac, .ref ai, .ref ab, .int (nI n)]) = tu4 X σ h ac ai ab n cs ci cr := by
  unfold tu4
  congr 1
  funext q
  unfold gs_up
  by_cases e1 : q = ab
  · simp [e1]
  · by_cases e2 : q = ai
    · simp [e1, e2]
    · by_cases e3 : q = ac
      · simp [e1, e2, e3]
      · simp [e1, e2, e3]
theorem cb_uniq {L : List Nat} (hs : L.Pairwise (· < ·)) {c j : Nat} (h : L[j]? = some c) : cb L c = j := by
  have h1 := (mem_cb (pw_le hs) c).mp (List.mem_of_getElem? h)
  have a := (List.getElem?_eq_some_iff.mp h).1
  have b := (List.getElem?_eq_some_iff.mp h1).1
  rcases Nat.lt_trichotomy (cb L c) j with q | q | q
  · have := List.pairwise_iff_getElem.mp hs _ _ b a q
    have e1 := (List.getElem?_eq_some_iff.mp h).2
    have e2 := (List.getElem?_eq_some_iff.mp h1).2
    omega
  · exact q
  · have := List.pairwise_iff_getElem.mp hs _ _ a b q
    have e1 := (List.getElem?_eq_some_iff.mp h).2
    have e2 := (List.getElem?_eq_some_iff.mp h1).2
    omega
theorem tu3_fold {σ : gs_St} {ac ai ab : Nat} {a1 a2 a3 b1 b2 b3 : va_E} (n1 : ac ≠ ai) (n2 : ac ≠ ab) (n3 : ai ≠ ab) :
    gs_up (gs_up (gs_up (gs_up (gs_up (gs_up σ ac a1) ai a2) ab a3) ac b1) ai b2) ab b3 = gs_up (gs_up (gs_up σ ac b1) ai b2) ab b3 := by
  funext q
  unfold gs_up
  by_cases e1 : q = ab
  · simp [e1]
  · by_cases e2 : q = ai
    · simp [e1, e2]
    · by_cases e3 : q = ac
      · simp [e1, e2, e3]
      · simp [e1, e2, e3]
theorem tu4_init {X : gs_X} {σ : gs_St} {h a b d : Nat} {e1 e2 e3 : va_E} {f g k : Nat → Int32} (n1 : h ≠ a) (n2 : h ≠ b) (n3 : h ≠ d) :
    gs_up (gs_up (gs_up (gs_up (gs_up (gs_up (gs_up σ a (gs_ia X 301 f)) h e1) b (gs_ia X 301 g)) h e2) d (gs_ia X 301 k)) h e3) h (gs_ob 6 [.ref a, .ref b, .ref d, .int (nI 0)]) = tu4 X σ h a b d 0 f g k := by
  unfold tu4
  funext q
  unfold gs_up
  by_cases e1 : q = h
  · simp [e1]
  · simp [e1]
theorem gs_none1 {σ : gs_St} {a q : Nat} {e : va_E} (h : gs_up σ a e q = none) : σ q = none := by
  unfold gs_up at h
  split at h
  · cases h
  · exact h
theorem gs_none {σ : gs_St} {q : Nat} (h : σ q = none) : σ q = none := h
/-- insertion where there is room -/
def insG (E : List En) (e : En) : List En := if E.length ≤ 300 then insE E e else E
theorem insE_mem {E : List En} {e x : En} : x ∈ insE E e ↔ x = e ∨ x ∈ E := by
  unfold insE
  constructor
  · intro h
    rcases List.mem_append.mp h with h | h
    · exact Or.inr (List.mem_of_mem_take h)
    · rcases List.mem_cons.mp h with h | h
      · exact Or.inl h
      · exact Or.inr (List.mem_of_mem_drop h)
  · intro h
    rcases h with rfl | h
    · exact List.mem_append_right _ List.mem_cons_self
    · have h2 : x ∈ E.take (cb (cds E) e.1) ++ E.drop (cb (cds E) e.1) := by rw [List.take_append_drop]; exact h
      rcases List.mem_append.mp h2 with h | h
      · exact List.mem_append_left _ h
      · exact List.mem_append_right _ (List.mem_cons_of_mem _ h)
theorem cds_insE (E : List En) (e : En) : cds (insE E e) = (cds E).take (cb (cds E) e.1) ++ e.1 :: (cds E).drop (cb (cds E) e.1) := by
  simp [insE, cds, List.map_take, List.map_drop]
theorem sorted_ins {L : List Nat} (hs : L.Pairwise (· ≤ ·)) (c : Nat) : (L.take (cb L c) ++ c :: L.drop (cb L c)).Pairwise (· ≤ ·) := by
  have hlo : ∀ x ∈ L.take (cb L c), x < c := by
    intro x hx
    obtain ⟨j, hj⟩ := List.getElem?_of_mem hx
    have hjl := (List.getElem?_eq_some_iff.mp hj).1
    have hjc : j < cb L c := by simp at hjl; omega
    rw [List.getElem?_take_of_lt hjc] at hj
    exact (cb_iff L hs c j x hj).mpr hjc
  have hhi : ∀ x ∈ L.drop (cb L c), c ≤ x := by
    intro x hx
    obtain ⟨j, hj⟩ := List.getElem?_of_mem hx
    rw [List.getElem?_drop] at hj
    have := cb_iff L hs c _ x hj
    omega
  refine List.pairwise_append.mpr ⟨List.Pairwise.sublist (List.take_sublist _ _) hs, List.pairwise_cons.mpr ⟨hhi, List.Pairwise.sublist (List.drop_sublist _ _) hs⟩, fun a ha b hb => ?_⟩
  have h1 := hlo a ha
  rcases List.mem_cons.mp hb with rfl | hb
  · omega
  · have := hhi b hb; omega
theorem tuB_ins {E : List En} (h : tuB E) {e : En} (h1 : e.1 < 2 ^ 30) (h2 : e.2.1 < 2 ^ 30) (hl : E.length ≤ 300) : tuB (insE E e) := by
  refine ⟨by rw [cds_insE]; exact sorted_ins h.1 e.1, by rw [insE_len]; omega, fun x hx => ?_⟩
  rcases insE_mem.mp hx with rfl | hx
  · exact ⟨h1, h2⟩
  · exact h.2.2 x hx
theorem tuB_insG {E : List En} (h : tuB E) {e : En} (h1 : e.1 < 2 ^ 30) (h2 : e.2.1 < 2 ^ 30) : tuB (insG E e) := by
  unfold insG
  split
  · exact tuB_ins h h1 h2 (by assumption)
  · exact h
theorem tu4_same {X : gs_X} {σ : gs_St} {h ac ai ab n : Nat} {cs ci cr : Nat → Int32} (h0 : σ h = some (gs_ob 6 [.ref ac, .ref ai, .ref ab, .int (nI n)])) (h1 : σ ac = some (gs_ia X 301 cs)) (h2 : σ ai = some (gs_ia X 301 ci)) (h3 : σ ab = some (gs_ia X 301 cr)) : tu4 X σ h ac ai ab n cs ci cr = σ := by
  unfold tu4
  rw [gs_usame h1, gs_usame h2, gs_usame h3, gs_usame h0]
