/-! a round of the reference -/
def rdQ (cw : Nat → Nat) (T : List MT) (rc sa : Nat) (S : Nat → Nat) (s : FS) (qR : Nat × MR) : FS := if S qR.2.1.1 = sa then trM cw T rc qR.1 qR.2 true (hls qR.2) (fun _ => none) s else s
/-- the rules one after the other, from number i on -/
def rdF (cw : Nat → Nat) (T : List MT) (rc sa : Nat) (S : Nat → Nat) : List MR → Nat → FS → FS
  | [], _, s => s
  | R :: Q, i, s => rdF cw T rc sa S Q (i + 1) (rdQ cw T rc sa S s (i, R))
abbrev RS : Type := List MT × Nat × Nat
def oneM (cw : Nat → Nat) (nr : Nat) (Q : List MR) (st : RS) : Int32 × RS :=
  if mok Q nr = true then
    (if st.2.1 = mxS (mfs Q nr).1 nr then (-4, st)
    else
      let s := rdF cw st.1 st.2.2 st.2.1 (mfs Q nr).1 Q 0 ([], false, 0)
      if s.2.1 = true then (-5, st) else (nI s.1.length, (st.1 ++ s.1, st.2.1 + (if s.1 = [] then 1 else 0), st.2.2 + 1)))
  else (-3, st)
def rnM (cw : Nat → Nat) (nr : Nat) (Q : List MR) : Nat → Int32 → RS → Int32 × RS
  | 0, said, st => (said, st)
  | k + 1, said, st => if said < 0 then (said, st) else rnM cw nr Q k (oneM cw nr Q st).1 (oneM cw nr Q st).2
/-- what is found does not hang on what was counted -/
def fEq (s s' : FS) : Prop := s.1 = s'.1 ∧ s.2.1 = s'.2.1
theorem fnd1_ct {T : List MT} {rc q : Nat} {R : MR} {ov : OV} {s s' : FS} (h : fEq s s') : fEq (fnd1 T rc q R ov s) (fnd1 T rc q R ov s') := by
  obtain ⟨h1, h2⟩ := h
  unfold fnd1 fEq
  rw [h1, h2]
  split
  · exact ⟨h1, h2⟩
  · split
    · exact ⟨rfl, rfl⟩
    · exact ⟨rfl, rfl⟩
theorem act_ct {T : List MT} {rc q : Nat} {R : MR} {fd : Bool} {ov : OV} {s s' : FS} (h : fEq s s') : fEq (act T rc q R fd ov s) (act T rc q R fd ov s') := by
  unfold act
  split
  · split
    · exact fnd1_ct ⟨h.1, h.2⟩
    · exact ⟨h.1, h.2⟩
  · exact h
theorem foldl_rel {α β : Type} {f : β → α → β} {P : β → β → Prop} (hf : ∀ b b' a, P b b' → P (f b a) (f b' a)) : ∀ (L : List α) (b b' : β), P b b' → P (L.foldl f b) (L.foldl f b')
  | [], _, _, h => h
  | a :: L, b, b', h => foldl_rel hf L (f b a) (f b' a) (hf b b' a h)
theorem trM_ct {cw : Nat → Nat} {T : List MT} {rc q : Nat} {R : MR} {fd : Bool} : ∀ (hs : List MI) (ov : OV) (s s' : FS), fEq s s' → fEq (trM cw T rc q R fd hs ov s) (trM cw T rc q R fd hs ov s')
  | [], ov, s, s', h => act_ct h
  | x :: hs, ov, s, s', h => by
    refine foldl_rel (P := fEq) (fun b b' t hb => ?_) T s s' h
    cases hm : mtc cw x t ov with
    | none => exact hb
    | some p => exact trM_ct hs p.1 b b' hb
theorem rdF_ct {cw : Nat → Nat} {T : List MT} {rc sa : Nat} {S : Nat → Nat} : ∀ (Q : List MR) (i : Nat) (s s' : FS), fEq s s' → fEq (rdF cw T rc sa S Q i s) (rdF cw T rc sa S Q i s')
  | [], _, _, _, h => h
  | R :: Q, i, s, s', h => by
    refine rdF_ct Q (i + 1) _ _ ?_
    unfold rdQ
    split
    · exact trM_ct _ _ _ _ h
    · exact h
/-- what is found is within bounds, and new -/
def fsB (T : List MT) (rc : Nat) (s : FS) : Prop := ∀ x ∈ s.1, x.1 < 12 ∧ x.2.1 < 262144 ∧ x.2.2.1 = rc + 1 ∧ 262144 * x.1 + x.2.1 ∉ tcs T
def ovB (ov : OV) : Prop := ∀ j n, ov j = some n → n < 64
theorem gv_lt {ov : OV} (h : ovB ov) (t : Nat) : gv ov t < 64 := by
  unfold gv ofO
  by_cases q : t < 64
  · rw [if_pos q]; exact q
  · rw [if_neg q]
    cases e : ov (t - 64) with
    | none => decide
    | some n => exact h _ _ e
theorem ovB_bd {ts : Nat → Nat} {t : Nat} {ov : OV} (h : ovB ov) (ht : t < 262144) : ∀ j, ovB (bdF ts t ov j).1
  | 0 => h
  | j + 1 => by
    have ih := ovB_bd (ts := ts) h ht j
    rw [bdF_s]
    unfold bd1
    split
    · intro k n hn
      simp only [va_up] at hn
      split at hn
      · cases hn; exact clM_lt ht
      · exact ih k n hn
    · exact ih
theorem ovB_m {cw : Nat → Nat} {x : MI} {t : MT} {ov : OV} {p : OV × Nat} (h : ovB ov) (ht : t.2.1 < 262144) (hm : mtc cw x t ov = some p) : ovB p.1 := by
  unfold mtc at hm
  split at hm
  · split at hm
    · cases hm; exact ovB_bd h ht _
    · cases hm
  · cases hm
theorem fnd1_B {T : List MT} {rc q nr : Nat} {R : MR} {ov : OV} {s : FS} (h : fsB T rc s) (ho : ovB ov) (hR : R.1.1 < nr) (hnr : nr ≤ 12) : fsB T rc (fnd1 T rc q R ov s) := by
  unfold fnd1
  split
  · exact h
  · rename_i hn
    split
    · exact h
    · intro x hx
      rcases List.mem_append.mp hx with z | z
      · exact h x z
      · rw [List.mem_singleton.mp z]
        exact ⟨by omega, nb_lt (gv_lt ho _) (gv_lt ho _) (gv_lt ho _), rfl, fun z => hn (Or.inr (Or.inr z))⟩
theorem foldl_invM {α β : Type} {f : β → α → β} {P : β → Prop} : ∀ (L : List α) (b : β), (∀ b a, a ∈ L → P b → P (f b a)) → P b → P (L.foldl f b)
  | [], _, _, h => h
  | a :: L, b, hf, h => foldl_invM L (f b a) (fun b x hx => hf b x (List.mem_cons_of_mem _ hx)) (hf b a List.mem_cons_self h)
theorem trM_B {cw : Nat → Nat} {T : List MT} {rc q nr : Nat} {R : MR} (hT : tpB T) (hR : R.1.1 < nr) (hnr : nr ≤ 12) : ∀ (hs : List MI) (ov : OV) (s : FS), ovB ov → fsB T rc s → fsB T rc (trM cw T rc q R true hs ov s)
  | [], ov, s, ho, h => by
    show fsB T rc (act T rc q R true ov s)
    unfold act
    split
    · exact fnd1_B h ho hR hnr
    · exact h
  | x :: hs, ov, s, ho, h => by
    refine foldl_invM (P := fsB T rc) T s (fun b t ht hb => ?_) h
    cases hm : mtc cw x t ov with
    | none => exact hb
    | some p => exact trM_B hT hR hnr hs p.1 b (ovB_m ho (hT.2 t ht).2.1 hm) hb
theorem rdF_B {cw : Nat → Nat} {T : List MT} {rc sa nr : Nat} {S : Nat → Nat} (hT : tpB T) (hnr : nr ≤ 12) : ∀ (Q : List MR) (i : Nat) (s : FS), (∀ R ∈ Q, R.1.1 < nr) → fsB T rc s → fsB T rc (rdF cw T rc sa S Q i s)
  | [], _, _, _, h => h
  | R :: Q, i, s, hQ, h => by
    refine rdF_B hT hnr Q (i + 1) _ (fun R hR => hQ R (List.mem_cons_of_mem _ hR)) ?_
    unfold rdQ
    split
    · exact trM_B hT (hQ R List.mem_cons_self) hnr _ _ _ (fun j n z => by cases z) h
    · exact h
theorem trS.trans {X : gs_X} {σ σ1 σ2 : gs_St} {mo : Nat} {A Z Z1 : Nat → Nat} {T : List MT} {fd : Bool} {ov : OV} {s : FS} {f28 f29 f30 : Nat → Int32} (hf : frm [mo, A 8, A 9, A 10, A 11, A 13, A 24, A 28, A 29, A 30] σ σ1) (hz : zfr [14, 15, 27] Z Z1) (h : trS X σ1 σ2 mo A Z1 T fd ov s f28 f29 f30) : trS X σ σ2 mo A Z T fd ov s f28 f29 f30 := by
  obtain ⟨Z2, a8, a9, a10, a11, a24, g3, h1, h2, h3, h4, h5, h6, h7, h8, h9, h10, h11, h12, h13, h14, h15, h16, h17, h18, h19⟩ := h
  exact ⟨Z2, a8, a9, a10, a11, a24, g3, h1, h2, h3, h4, hz.trans h5 (by simp), h6, h7, h8, h9, h10, h11, h12, h13, h14, h15, h16, h17, h18, hf.trans h19 (by simp)⟩
theorem bO_keep {g : Nat → Int64} {P : List Nat} {k : Nat} (h : bO g P) (hk : k ∉ P) : bO (stB g k false) P := by
  intro q
  rw [gB_st, h q]
  by_cases e : q = k
  · rw [if_pos e, e, decide_eq_false hk]
  · rw [if_neg e]
theorem tcs_app (T N : List MT) : tcs (T ++ N) = tcs T ++ tcs N := by unfold tcs; rw [List.map_append]
theorem tpB_app {T N : List MT} {rc : Nat} (h : tpB T) (hN : ∀ x ∈ N, x.1 < 12 ∧ x.2.1 < 262144 ∧ x.2.2.1 = rc + 1 ∧ 262144 * x.1 + x.2.1 ∉ tcs T) (hl : T.length + N.length ≤ 300) (hrc : rc + 1 < 2 ^ 20) : tpB (T ++ N) := by
  refine ⟨by rw [List.length_append]; exact hl, fun x hx => ?_⟩
  rcases List.mem_append.mp hx with z | z
  · exact h.2 x z
  · obtain ⟨a, b, d, _⟩ := hN x z
    exact ⟨a, b, by rw [d]; exact hrc⟩
theorem getapp {T N : List MT} {i : Nat} {x : MT} (h : N[i]? = some x) : (T ++ N)[T.length + i]? = some x := by
  rw [List.getElem?_append_right (by omega), Nat.add_sub_cancel_left]; exact h
theorem oneM_c {cw : Nat → Nat} {nr : Nat} {Q : List MR} {st : RS} (h : mok Q nr = false) : oneM cw nr Q st = (-3, st) := by
  unfold oneM; rw [if_neg (by rw [h]; decide)]
theorem oneM_d {cw : Nat → Nat} {nr : Nat} {Q : List MR} {st : RS} (h : mok Q nr = true) (h2 : st.2.1 = mxS (mfs Q nr).1 nr) : oneM cw nr Q st = (-4, st) := by
  unfold oneM; rw [if_pos h, if_pos h2]
theorem oneM_f {cw : Nat → Nat} {nr : Nat} {Q : List MR} {st : RS} {s : FS} (h : mok Q nr = true) (h2 : ¬ st.2.1 = mxS (mfs Q nr).1 nr) (hs : fEq s (rdF cw st.1 st.2.2 st.2.1 (mfs Q nr).1 Q 0 ([], false, 0))) (h3 : s.2.1 = true) : oneM cw nr Q st = (-5, st) := by
  unfold oneM; rw [if_pos h, if_neg h2]
  exact if_pos (by rw [← hs.2]; exact h3)
theorem oneM_r {cw : Nat → Nat} {nr : Nat} {Q : List MR} {st : RS} {s : FS} (h : mok Q nr = true) (h2 : ¬ st.2.1 = mxS (mfs Q nr).1 nr) (hs : fEq s (rdF cw st.1 st.2.2 st.2.1 (mfs Q nr).1 Q 0 ([], false, 0))) (h3 : s.2.1 = false) : oneM cw nr Q st = (nI s.1.length, (st.1 ++ s.1, st.2.1 + (if s.1 = [] then 1 else 0), st.2.2 + 1)) := by
  unfold oneM; rw [if_pos h, if_neg h2]
  refine (if_neg (by rw [← hs.2, h3]; decide)).trans ?_
  rw [← hs.1]
