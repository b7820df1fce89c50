/-! PURE: the tree of a rule's matches -/
def lvC (cw : Nat → Nat) (Ls : Nat → List Nat) : Nat → List MI → OV → List OV
  | _, [], ov => [ov]
  | d, x :: xs, ov => (Ls d).flatMap (fun c => match mtC cw x c ov with | some p => lvC cw Ls (d + 1) xs p.1 | none => [])
theorem foldl_cg {α β : Type} {f g : β → α → β} : ∀ (L : List α) (b : β), (∀ x ∈ L, ∀ b, f b x = g b x) → L.foldl f b = L.foldl g b
  | [], _, _ => rfl
  | x :: L, b, h => by
    rw [List.foldl_cons, List.foldl_cons, h x List.mem_cons_self b]
    exact foldl_cg L _ (fun y hy => h y (List.mem_cons_of_mem _ hy))
theorem mtC_code {cw : Nat → Nat} {x : MI} {t : MT} {ov : OV} (h : t.2.1 < 262144) : mtC cw x (262144 * t.1 + t.2.1) ov = mtc cw x t ov := by
  unfold mtC mtc
  rw [show (262144 * t.1 + t.2.1) / 262144 = t.1 by omega, show (262144 * t.1 + t.2.1) % 262144 = t.2.1 by omega]
theorem trM_lv {cw : Nat → Nat} {T : List MT} {rc q : Nat} {R : MR} {fd : Bool} (hT : ∀ x ∈ T, x.2.1 < 262144) : ∀ (xs : List MI) (d : Nat) (ov : OV) (s : FS), trM cw T rc q R fd xs ov s = (lvC cw (fun _ => tcs T) d xs ov).foldl (fun s o => act T rc q R fd o s) s
  | [], _, _, _ => rfl
  | x :: xs, d, ov, s => by
    show T.foldl (fun s t => match mtc cw x t ov with | some p => trM cw T rc q R fd xs p.1 s | none => s) s = ((T.map (fun x => 262144 * x.1 + x.2.1)).flatMap (fun c => match mtC cw x c ov with | some p => lvC cw (fun _ => tcs T) (d + 1) xs p.1 | none => [])).foldl _ s
    rw [List.flatMap_map, List.foldl_flatMap]
    refine foldl_cg T s (fun t ht b => ?_)
    show _ = List.foldl _ b (match mtC cw x (262144 * t.1 + t.2.1) ov with | some p => lvC cw (fun _ => tcs T) (d + 1) xs p.1 | none => [])
    rw [mtC_code (hT t ht)]
    cases mtc cw x t ov with
    | none => rfl
    | some p => exact trM_lv hT xs (d + 1) p.1 b
def ext (ov o : OV) : Prop := ∀ k n, ov k = some n → o k = some n
theorem ext.rf {ov : OV} : ext ov ov := fun _ _ h => h
theorem ext.tr {a b c : OV} (h : ext a b) (h2 : ext b c) : ext a c := fun k n z => h2 k n (h k n z)
theorem ext.of {ov o : OV} (h : ext ov o) {t n : Nat} (z : ofO ov t = some n) : ofO o t = some n := by
  unfold ofO at z ⊢
  split
  · rename_i e; rw [if_pos e] at z; exact z
  · rename_i e; rw [if_neg e] at z; exact h _ _ z
theorem mtC_ext {cw : Nat → Nat} {x : MI} {c : Nat} {ov : OV} {p : OV × Nat} (h : mtC cw x c ov = some p) : ext ov p.1 := by
  unfold mtC mtc at h
  dsimp only at h
  split at h
  · split at h
    · cases h
      intro k n z
      have : ofO ov (k + 64) = some n := by unfold ofO; rw [if_neg (by omega)]; simpa using z
      have := bdF_mono (ts := t3 x.2.2) (t := c % 262144) this (cw x.2.1)
      unfold ofO at this
      rw [if_neg (by omega)] at this
      simpa using this
    · cases h
  · cases h
theorem lv_ext {cw : Nat → Nat} {Ls : Nat → List Nat} : ∀ (xs : List MI) (d : Nat) (ov o : OV), o ∈ lvC cw Ls d xs ov → ext ov o
  | [], _, ov, o, h => by
    rw [List.mem_singleton.mp h]; exact ext.rf
  | x :: xs, d, ov, o, h => by
    obtain ⟨c, hc, h2⟩ := List.mem_flatMap.mp h
    cases hm : mtC cw x c ov with
    | none => rw [hm] at h2; cases h2
    | some p => rw [hm] at h2; exact (mtC_ext hm).tr (lv_ext xs (d + 1) p.1 o h2)
theorem gv_ext {ov o : OV} (h : ext ov o) {t : Nat} (z : ∃ n, ofO ov t = some n) : gv o t = gv ov t := by
  obtain ⟨n, z⟩ := z
  unfold gv
  rw [z, h.of z]
theorem askX_ext {ov o : OV} (h : ext ov o) {y : MI} (ha : alB ov y.2.2) (P : List Nat) : askX o P y = askX ov P y := by
  unfold askX nbO
  rw [gv_ext h (ha 0 (by decide)), gv_ext h (ha 1 (by decide)), gv_ext h (ha 2 (by decide))]
/-! how the class makes a rule of the items that hold -/
def cH (cw : Nat → Nat) : Nat → (Nat → Nat) → List MI → List It
  | _, _, [] => []
  | d, kn, x :: xs => bindI kn (i0 cw x) :: cH cw (d + 1) (knP kn (bindI kn (i0 cw x)) (d + 1) (cw x.2.1)) xs
def cK (cw : Nat → Nat) : Nat → (Nat → Nat) → List MI → (Nat → Nat)
  | _, kn, [] => kn
  | d, kn, x :: xs => cK cw (d + 1) (knP kn (bindI kn (i0 cw x)) (d + 1) (cw x.2.1)) xs
theorem cH_len {cw : Nat → Nat} : ∀ (xs : List MI) (d : Nat) (kn : Nat → Nat), (cH cw d kn xs).length = xs.length
  | [], _, _ => rfl
  | x :: xs, d, kn => by show (cH cw (d + 1) _ xs).length + 1 = _; rw [cH_len xs]; rfl
theorem knP_or {kn : Nat → Nat} {t : It} {n k : Nat} : ∀ j, knP kn t n j k = kn k ∨ knP kn t n j k = n
  | 0 => Or.inl rfl
  | j + 1 => by
    unfold knP
    split
    · unfold va_up
      split
      · exact Or.inr rfl
      · exact knP_or j
    · exact knP_or j
theorem knP_keep {kn : Nat → Nat} {t : It} {n k : Nat} (h1 : t.2.2.1 = 0) (h0 : t.2.2.2.1 = t.1.2.2) (hk : kn k ≠ 0) : ∀ j, j ≤ t.1.2.2 → knP kn (bindI kn t) n j k = kn k
  | 0, _ => rfl
  | j + 1, hj => by
    unfold knP
    cases hb : bd (bindI kn t) j with
    | true =>
      rw [if_pos rfl]
      rw [bindI_bd h1 h0 (by omega)] at hb
      unfold bnd at hb
      simp only [Bool.and_eq_true, decide_eq_true_iff] at hb
      unfold va_up
      rw [if_neg (fun e => hk (by rw [e]; exact hb.1.2))]
      exact knP_keep h1 h0 hk j (by omega)
    | false =>
      rw [if_neg (by decide)]
      exact knP_keep h1 h0 hk j (by omega)
theorem i0_w {cw : Nat → Nat} {x : MI} (h : x.1 = 0) : (i0 cw x).1.2.2 = cw x.2.1 := by show iW cw x = _; unfold iW; rw [if_pos (by omega)]
theorem kn_keep {cw : Nat → Nat} {x : MI} (h : x.1 = 0) {kn : Nat → Nat} {n k : Nat} (hk : kn k ≠ 0) : knP kn (bindI kn (i0 cw x)) n (cw x.2.1) k = kn k := knP_keep rfl rfl hk _ (by rw [i0_w h]; exact Nat.le_refl _)
theorem kn_le {kn : Nat → Nat} {t : It} {d j : Nat} (h : ∀ k, kn k ≤ d) : ∀ k, knP kn t (d + 1) j k ≤ d + 1 := fun k => by
  have := h k
  rcases knP_or (kn := kn) (t := t) (n := d + 1) (k := k) j with e | e <;> omega
theorem cK_keep {cw : Nat → Nat} : ∀ (xs : List MI) (d : Nat) (kn : Nat → Nat), (∀ x ∈ xs, x.1 = 0) → ∀ k, kn k ≠ 0 → cK cw d kn xs k = kn k
  | [], _, _, _, _, _ => rfl
  | x :: xs, d, kn, h, k, hk => by
    have e := kn_keep (cw := cw) (h x List.mem_cons_self) (n := d + 1) hk
    show cK cw (d + 1) _ xs k = _
    rw [cK_keep xs (d + 1) _ (fun y hy => h y (List.mem_cons_of_mem _ hy)) k (by rw [e]; exact hk), e]
theorem cK_le {cw : Nat → Nat} : ∀ (xs : List MI) (d : Nat) (kn : Nat → Nat), (∀ k, kn k ≤ d) → ∀ k, cK cw d kn xs k ≤ d + xs.length
  | [], _, _, h, k => h k
  | x :: xs, d, kn, h, k => by
    have := cK_le (cw := cw) xs (d + 1) (knP kn (bindI kn (i0 cw x)) (d + 1) (cw x.2.1)) (kn_le h) k
    show cK cw (d + 1) _ xs k ≤ _
    rw [List.length_cons]; omega
theorem cK_kr {cw : Nat → Nat} : ∀ (xs : List MI) (d : Nat) (kn : Nat → Nat), (∀ x ∈ xs, x.1 = 0) → (∀ k, kn k ≤ d) → ∀ k, cK cw d kn xs k ≠ 0 → cK cw d kn xs k ≤ d → kn k ≠ 0
  | [], _, _, _, _, k, h, _ => h
  | x :: xs, d, kn, h, hd, k, h1, h2 => by
    intro h0
    have h' : ∀ y ∈ xs, y.1 = 0 := fun y hy => h y (List.mem_cons_of_mem _ hy)
    have i1 := cK_kr xs (d + 1) (knP kn (bindI kn (i0 cw x)) (d + 1) (cw x.2.1)) h' (kn_le hd) k h1 (by have : cK cw (d + 1) (knP kn (bindI kn (i0 cw x)) (d + 1) (cw x.2.1)) xs k ≤ d := h2; omega)
    have i2 := cK_keep (cw := cw) xs (d + 1) _ h' k i1
    rcases knP_or (kn := kn) (t := bindI kn (i0 cw x)) (n := d + 1) (k := k) (cw x.2.1) with e | e
    · exact i1 (by rw [e, h0])
    · have h2 : cK cw (d + 1) (knP kn (bindI kn (i0 cw x)) (d + 1) (cw x.2.1)) xs k ≤ d := h2
      omega
theorem rdP_all {kf : Nat → Nat} {t : It} : ∀ (j m : Nat), rdP kf t j = some m → ∀ i, i < j → 64 ≤ tm t i → kf (tm t i - 64) ≠ 0 ∧ kf (tm t i - 64) ≤ m
  | 0, _, _, i, hi, _ => by omega
  | j + 1, m, h, i, hi, h64 => by
    unfold rdP at h
    cases hr : rdP kf t j with
    | none => rw [hr] at h; cases h
    | some m' =>
      rw [hr] at h
      dsimp only at h
      have ih := rdP_all j m' hr
      by_cases e : i = j
      · subst e
        rw [if_neg (by omega)] at h
        split at h
        · cases h
        · rename_i hz
          cases h
          exact ⟨hz, Nat.le_max_right _ _⟩
      · have hi2 := ih i (by omega) h64
        split at h
        · cases h; exact hi2
        · split at h
          · cases h
          · cases h; exact ⟨hi2.1, Nat.le_trans hi2.2 (Nat.le_max_left _ _)⟩
theorem rdP_bd {kf : Nat → Nat} {t : It} {n : Nat} (h : ∀ k, kf k ≤ n) : ∀ (j m : Nat), rdP kf t j = some m → m ≤ n
  | 0, m, e => by cases e; exact Nat.zero_le _
  | j + 1, m, e => by
    unfold rdP at e
    cases hr : rdP kf t j with
    | none => rw [hr] at e; cases e
    | some m' =>
      rw [hr] at e
      dsimp only at e
      have ih := rdP_bd h j m' hr
      have := h (tm t j - 64)
      split at e
      · cases e; exact ih
      · split at e
        · cases e
        · cases e; omega
/-! the items that do not hold but are asked -/
def yOK (cw : Nat → Nat) (y : MI) : Prop := y.1 ≤ 3 ∧ iW cw y ≤ 3 ∧ ∀ j, iW cw y ≤ j → j < 3 → t3 y.2.2 j = 0
def kI (cw kf : Nat → Nat) (y : MI) : It := wR (i0 cw y) (rdI (rdO kf (i0 cw y)))
theorem vals_known {cw : Nat → Nat} {y : MI} {v : Nat → Nat} {ov : OV} (hy : yOK cw y) (hk : ∀ j, j < iW cw y → ofO ov (t3 y.2.2 j) = some (vl v (t3 y.2.2 j))) : alB ov y.2.2 ∧ ∀ j, j < 3 → gv ov (t3 y.2.2 j) = if j < iW cw y then vl v (t3 y.2.2 j) else 0 := by
  have z : ∀ j, iW cw y ≤ j → j < 3 → ofO ov (t3 y.2.2 j) = some 0 := fun j hj hj3 => by rw [hy.2.2 j hj hj3]; rfl
  constructor
  · intro j hj3
    by_cases e : j < iW cw y
    · exact ⟨_, hk j e⟩
    · exact ⟨_, z j (by omega) hj3⟩
  · intro j hj3
    unfold gv
    by_cases e : j < iW cw y
    · rw [if_pos e, hk j e]; rfl
    · rw [if_neg e, z j (by omega) hj3]; rfl
theorem cof_i0 {cw : Nat → Nat} {y : MI} {v : Nat → Nat} {ov : OV} {r : Int32} (hg : ∀ j, j < 3 → gv ov (t3 y.2.2 j) = if j < iW cw y then vl v (t3 y.2.2 j) else 0) : cof v (wR (i0 cw y) r) = 262144 * y.2.1 + nbO ov y.2.2 := by
  unfold cof cofP cofP cofP cofP nbO
  rw [hg 0 (by decide), hg 1 (by decide), hg 2 (by decide)]
  have e : ∀ j, tm (wR (i0 cw y) r) j = t3 y.2.2 j := fun j => rfl
  have e2 : (wR (i0 cw y) r).2.2.2.1 = iW cw y := rfl
  have e3 : (wR (i0 cw y) r).1.2.1 = y.2.1 := rfl
  rw [e, e, e, e2, e3]
  omega
theorem ask_eq {cw kf : Nat → Nat} {y : MI} {v : Nat → Nat} {ov : OV} {L : List Nat} (h0 : y.1 ≠ 0) (hy : yOK cw y) (hk : ∀ j, j < iW cw y → ofO ov (t3 y.2.2 j) = some (vl v (t3 y.2.2 j))) : (if (kI cw kf y).1.1 = 1 then !decide (cof v (kI cw kf y) ∈ L) else cmpv v (kI cw kf y)) = askX ov L y := by
  obtain ⟨-, hg⟩ := vals_known hy hk
  unfold askX
  have e1 : (kI cw kf y).1.1 = y.1 := rfl
  rw [e1]
  by_cases h1 : y.1 = 1
  · rw [if_pos h1, if_pos h1]
    unfold kI
    rw [cof_i0 hg]
  · rw [if_neg h1, if_neg h1, if_pos (by omega)]
    have ew : iW cw y = 2 := by unfold iW; rw [if_neg (by omega)]
    unfold cmpv
    rw [hg 0 (by decide), hg 1 (by decide), ew, if_pos (show (0 : Nat) < 2 by decide), if_pos (show (1 : Nat) < 2 by decide), e1]
    rfl
/-- what is asked when d items hold -/
theorem known_at {cw kn kf : Nat → Nat} {y : MI} {v : Nat → Nat} {ov : OV} {d m : Nat} (ha : agr kn v ov) (hkr : ∀ k, kf k ≠ 0 → kf k ≤ d → kn k ≠ 0) (hm : rdO kf (i0 cw y) = some m) (hd : m ≤ d) : ∀ j, j < iW cw y → ofO ov (t3 y.2.2 j) = some (vl v (t3 y.2.2 j)) := fun j hj =>
  (ha.val (fun z => by
    have := rdP_all (kf := kf) (t := i0 cw y) _ m hm j hj z
    exact hkr _ this.1 (Nat.le_trans this.2 hd))).1
theorem chk_iff {cw kn kf : Nat → Nat} {ys : List MI} {v : Nat → Nat} {ov : OV} {d n : Nat} {L : List Nat} (hys : ∀ y ∈ ys, y.1 ≠ 0 ∧ yOK cw y) (ha : agr kn v ov) (hkr : ∀ k, kf k ≠ 0 → kf k ≤ d → kn k ≠ 0) (hsf : ∀ y ∈ ys, ∃ m, rdO kf (i0 cw y) = some m) (hn : ∀ k, kf k ≤ n) (hn3 : n ≤ 3) (hd : d ≤ 3) :
    chk v L (ys.map (kI cw kf)) d = true ↔ ∀ y ∈ ys, rdO kf (i0 cw y) = some d → askX ov L y = true := by
  unfold chk
  rw [List.all_map, List.all_eq_true]
  refine forall_congr' (fun y => forall_congr' (fun hy => ?_))
  obtain ⟨m, hm⟩ := hsf y hy
  have hmn := rdP_bd hn _ m hm
  show chk1 v L d (kI cw kf y) = true ↔ _
  unfold chk1
  have e : (kI cw kf y).2.2.2.2 = nI m := by show rdI (rdO kf (i0 cw y)) = _; rw [hm]; rfl
  rw [e, Bool.or_eq_true, decide_eq_true_iff]
  by_cases h : m = d
  · subst h
    rw [ask_eq (hys y hy).1 (hys y hy).2 (known_at ha hkr hm (Nat.le_refl _))]
    exact ⟨fun z _ => z.resolve_left (fun w => w rfl), fun z => Or.inr (z hm)⟩
  · refine ⟨fun _ z => ?_, fun _ => Or.inl (fun z => h ((nI_eq (by omega) (by omega)).mp z))⟩
    rw [hm] at z; cases z; exact absurd rfl h
