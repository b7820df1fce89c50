/-! PURE: a rule as the class makes it; a round -/
abbrev rY (R : MR) : List MI := R.2.filter (fun x => !decide (x.1 = 0))
def hdI (R : MR) : MI := (0, R.1)
def rH (cw : Nat → Nat) (R : MR) : List It := cH cw 0 (fun _ => 0) (hls R)
def rK (cw : Nat → Nat) (R : MR) : Nat → Nat := cK cw 0 (fun _ => 0) (hls R)
def rlO (cw : Nat → Nat) (R : MR) : Rl := (kI cw (rK cw R) (hdI R), rH cw R, (rY R).map (kI cw (rK cw R)))
/-- what the two want of a rule -/
def rOK (nr : Nat) (cw : Nat → Nat) (R : MR) : Prop := R.1.1 < nr ∧ (∀ j, t3 R.1.2 j < 72) ∧ yOK cw (hdI R) ∧ R.2.length ≤ 6 ∧ (hls R).length ≤ 3 ∧ ∀ x ∈ R.2, yOK cw x ∧ (x.1 < 2 → x.2.1 < nr) ∧ ∀ j, t3 x.2.2 j < 72
def rSF (cw : Nat → Nat) (R : MR) : Prop := (∃ m, rdO (rK cw R) (i0 cw (hdI R)) = some m) ∧ ∀ y ∈ rY R, ∃ m, rdO (rK cw R) (i0 cw y) = some m
theorem hls_mem {R : MR} {x : MI} : x ∈ hls R ↔ x ∈ R.2 ∧ x.1 = 0 := by
  unfold hls
  rw [List.mem_filter, decide_eq_true_iff]
theorem rY_mem {R : MR} {x : MI} : x ∈ rY R ↔ x ∈ R.2 ∧ x.1 ≠ 0 := by
  rw [List.mem_filter, Bool.not_eq_true', decide_eq_false_iff_not]
theorem rOK.hls {nr : Nat} {cw : Nat → Nat} {R : MR} (h : rOK nr cw R) : ∀ x ∈ hls R, x.1 = 0 ∧ cw x.2.1 ≤ 3 := fun x hx => by
  obtain ⟨h1, h2⟩ := hls_mem.mp hx
  have := (h.2.2.2.2.2 x h1).1.2.1
  unfold iW at this
  rw [if_pos (by omega)] at this
  exact ⟨h2, this⟩
theorem rOK.rY {nr : Nat} {cw : Nat → Nat} {R : MR} (h : rOK nr cw R) : ∀ y ∈ rY R, y.1 ≠ 0 ∧ yOK cw y := fun y hy => by
  obtain ⟨h1, h2⟩ := rY_mem.mp hy
  exact ⟨h2, (h.2.2.2.2.2 y h1).1⟩
theorem askO_rY {R : MR} {o : OV} {P : List Nat} : askO o P R = (rY R).all (askX o P) := by
  unfold askO
  rw [Bool.eq_iff_iff, List.all_eq_true, List.all_eq_true]
  refine ⟨fun h y hy => h y (rY_mem.mp hy).1, fun h y hy => ?_⟩
  by_cases e : y.1 = 0
  · unfold askX; rw [if_neg (by omega), if_neg (by omega)]
  · exact h y (rY_mem.mpr ⟨hy, e⟩)
theorem askX_cg {o : OV} {P P' : List Nat} (h : ∀ c, c ∈ P ↔ c ∈ P') (y : MI) : askX o P y = askX o P' y := by
  unfold askX
  have : decide (262144 * y.2.1 + nbO o y.2.2 ∈ P) = decide (262144 * y.2.1 + nbO o y.2.2 ∈ P') := by rw [decide_eq_decide]; exact h _
  rw [this]
theorem lvC_cg {cw : Nat → Nat} {Ls Ls' : Nat → List Nat} : ∀ (xs : List MI) (d : Nat) (ov : OV), (∀ i, d ≤ i → i < d + xs.length → Ls i = Ls' i) → lvC cw Ls d xs ov = lvC cw Ls' d xs ov
  | [], _, _, _ => rfl
  | x :: xs, d, ov, h => by
    rw [lvC_cons, lvC_cons, h d (Nat.le_refl _) (by rw [List.length_cons]; omega)]
    congr 1
    funext c
    unfold lvx
    cases mtC cw x c ov with
    | none => rfl
    | some p => exact lvC_cg xs (d + 1) p.1 (fun i h1 h2 => h i (by omega) (by rw [List.length_cons]; omega))
theorem lv_mono {cw : Nat → Nat} {Ls Ls' : Nat → List Nat} (h : ∀ i, ∀ c ∈ Ls i, c ∈ Ls' i) : ∀ (xs : List MI) (d : Nat) (ov o : OV), o ∈ lvC cw Ls d xs ov → o ∈ lvC cw Ls' d xs ov
  | [], _, _, _, ho => ho
  | x :: xs, d, ov, o, ho => by
    rw [lvC_cons] at ho ⊢
    obtain ⟨c, hc, h2⟩ := List.mem_flatMap.mp ho
    refine List.mem_flatMap.mpr ⟨c, h d c hc, ?_⟩
    cases hm : mtC cw x c ov with
    | none => rw [lvx_none hm] at h2; cases h2
    | some p => rw [lvx_some hm] at h2 ⊢; exact lv_mono h xs (d + 1) p.1 o h2
theorem lv_split {cw : Nat → Nat} {L Lt : List Nat} : ∀ (xs : List MI) (d : Nat) (ov o : OV), o ∈ lvC cw (fun _ => L) d xs ov → o ∈ lvC cw (fun _ => L.filter (fun c => !decide (c ∈ Lt))) d xs ov ∨ ∃ p, d ≤ p ∧ p < d + xs.length ∧ o ∈ lvC cw (fun i => if i = p then Lt else L) d xs ov
  | [], _, _, _, ho => Or.inl ho
  | x :: xs, d, ov, o, ho => by
    rw [lvC_cons] at ho
    obtain ⟨c, hc, h2⟩ := List.mem_flatMap.mp ho
    cases hm : mtC cw x c ov with
    | none => rw [lvx_none hm] at h2; cases h2
    | some p =>
      rw [lvx_some hm] at h2
      by_cases e : c ∈ Lt
      · refine Or.inr ⟨d, Nat.le_refl _, by rw [List.length_cons]; omega, ?_⟩
        rw [lvC_cons, if_pos rfl]
        refine List.mem_flatMap.mpr ⟨c, e, ?_⟩
        rw [lvx_some hm, lvC_cg (Ls' := fun _ => L) xs (d + 1) p.1 (fun i h1 _ => if_neg (by omega))]
        exact h2
      · rcases lv_split (Lt := Lt) xs (d + 1) p.1 o h2 with w | ⟨q, w1, w2, w3⟩
        · refine Or.inl ?_
          rw [lvC_cons]
          refine List.mem_flatMap.mpr ⟨c, List.mem_filter.mpr ⟨hc, by rw [decide_eq_false e]; rfl⟩, ?_⟩
          rw [lvx_some hm]; exact w
        · refine Or.inr ⟨q, by omega, by rw [List.length_cons]; omega, ?_⟩
          rw [lvC_cons, if_neg (by omega)]
          exact List.mem_flatMap.mpr ⟨c, hc, by rw [lvx_some hm]; exact w3⟩
theorem insG_len (C : List En) (e : En) : C.length ≤ (insG C e).length := by
  unfold insG
  split
  · rw [insE_len]; omega
  · exact Nat.le_refl _
theorem dvL_len {t : It} {hr d n : Nat} {f : (Nat → Nat) → List En → DS} (hf : ∀ v C, C.length ≤ (f v C).2.2.length) : ∀ (cs : List Nat) (v : Nat → Nat) (C : List En), C.length ≤ (dvL t hr d n f cs v C).2.2.length
  | [], _, C => Nat.le_refl _
  | c :: cs, v, C => by
    unfold dvL
    split
    · split
      · exact hf _ _
      · exact Nat.le_trans (hf _ _) (dvL_len hf cs _ _)
    · exact dvL_len hf cs _ _
theorem dvF_len {L Lt : List Nat} {num : Nat} {R : Rl} {hr : Nat} {pv : Int32} : ∀ (k d : Nat) (v : Nat → Nat) (C : List En), C.length ≤ (dvF L Lt num R hr pv k d v C).2.2.length
  | 0, d, v, C => by
    unfold dvF
    split
    · exact Nat.le_refl _
    · split
      · exact insG_len _ _
      · exact Nat.le_refl _
  | k + 1, d, v, C => by
    unfold dvF
    split
    · exact Nat.le_refl _
    · split
      · split
        · exact Nat.le_refl _
        · exact dvL_len (fun v C => dvF_len k (d + 1) v C) _ _ _
      · exact Nat.le_refl _
theorem tmc_mono {n : Nat} {C C' : List En} (h : tmc n C = true) (hl : C.length ≤ C'.length) : tmc n C' = true := by
  unfold tmc at h ⊢
  rw [decide_eq_true_iff] at h ⊢
  omega
/-- one rule has done its part: either all is found, or it is too much -/
def RSP (L : List Nat) (D : Nat → Prop) (num : Nat) (C C' : List En) : Prop :=
  (tmc L.length C' = true ∧ ∃ C1, CI L C1 ∧ tmc L.length C1 = true ∧ ∀ e ∈ C1, e ∈ C ∨ (D e.1)) ∨
  (tmc L.length C' = false ∧ CI L C' ∧ (∀ e ∈ C, e ∈ C') ∧ (∀ e ∈ C', e ∈ C ∨ (D e.1 ∧ e = (e.1, 0, nI num))) ∧ ∀ c, D c → c ∈ L ∨ c ∈ cds C')
section DVB
variable {nr : Nat} {cw : Nat → Nat} {R : MR} {L Lt : List Nat} {num : Nat}
/-- the heads of the matches of a rule -/
def HD (cw : Nat → Nat) (R : MR) (Ls : Nat → List Nat) (L : List Nat) (c : Nat) : Prop := ∃ o ∈ lvC cw Ls 0 (hls R) (fun _ => none), (rY R).all (askX o L) = true ∧ c = hC (hdI R) o
theorem agr0 {v : Nat → Nat} : agr (fun _ => 0) v (fun _ => none) := fun k => ⟨fun h => absurd rfl h, fun _ => rfl⟩
theorem dvF_rule (hR : rOK nr cw R) (hs : rSF cw R) (hL : L.Pairwise (· ≤ ·)) (hLt : Lt.Pairwise (· ≤ ·)) {pv : Int32} (v : Nat → Nat) {C : List En} (ht : tmc L.length C = false) (hc : CI L C) :
    RSP L (HD cw R (fun d => if nI d = pv then Lt else L) L) num C (dvF L Lt num (rlO cw R) (rdN (rlO cw R)) pv (rlO cw R).2.1.length 0 v C).2.2 := by
  obtain ⟨⟨m, hm⟩, hs2⟩ := hs
  have hle := cK_le (cw := cw) (hls R) 0 (fun _ => 0) (fun _ => Nat.le_refl _)
  have h3 := hR.2.2.2.2.1
  have hm3 : m ≤ 0 + (hls R).length := rdP_bd hle _ m hm
  have hrd : rdN (rlO cw R) = m := by
    show (rdI (rdO (rK cw R) (i0 cw (hdI R)))).toInt.toNat = m
    rw [hm]
    exact nI_nat (by omega)
  have hlen : (rlO cw R).2.1.length = (hls R).length := cH_len _ _ _
  rw [hrd, hlen]
  obtain ⟨d1, d2, d3, d4, d5, d6, d7⟩ := dvF_lv (num := num) (pv := pv) hL hLt hR.rY hs2 hR.2.2.1 hm (hls R) 0 (fun _ => 0) [] v (fun _ => none) C hR.hls (hs := rH cw R) (by rw [List.nil_append]; rfl) rfl (by omega) rfl (fun _ => Nat.le_refl _) agr0 (fun y hy m hm h => by omega) ht hc (fun h => by omega)
  show RSP L _ num C (dvF L Lt num (kI cw (rK cw R) (hdI R), rH cw R, (rY R).map (kI cw (rK cw R))) m pv (hls R).length 0 v C).2.2
  generalize dvF L Lt num (kI cw (rK cw R) (hdI R), rH cw R, (rY R).map (kI cw (rK cw R))) m pv (hls R).length 0 v C = r at *
  have hnew : ∀ e ∈ r.2.2, e ∈ C ∨ (HD cw R (fun d => if nI d = pv then Lt else L) L e.1 ∧ e = (e.1, 0, nI num)) := fun e he => by
    rcases d4 e he with w | ⟨o, w1, w2, w3⟩
    · exact Or.inl w
    · exact Or.inr ⟨⟨o, w1, w2, by rw [w3]⟩, by rw [w3]⟩
  cases htr : tmc L.length r.2.2 with
  | true => exact Or.inl ⟨htr, r.2.2, d2, htr, fun e he => (hnew e he).imp id (fun z => z.1)⟩
  | false =>
    refine Or.inr ⟨htr, d2, d3, hnew, fun c hc => ?_⟩
    obtain ⟨o, w1, w2, w3⟩ := hc
    rcases d5 with w | w
    · rw [htr] at w; cases w
    · rw [w3]; exact w o w1 w2
theorem RSP.wk {D D' : Nat → Prop} {C C' : List En} (h : RSP L D num C C') (h1 : ∀ c, D c → D' c) (h2 : ∀ c, D' c → D c ∨ c ∈ L) : RSP L D' num C C' := by
  rcases h with ⟨a, C1, b1, b2, b3⟩ | ⟨a, b, c, d, e⟩
  · exact Or.inl ⟨a, C1, b1, b2, fun e he => (b3 e he).imp id (h1 _)⟩
  · refine Or.inr ⟨a, b, c, fun e he => (d e he).imp id (fun z => ⟨h1 _ z.1, z.2⟩), fun c hc => ?_⟩
    rcases h2 c hc with z | z
    · exact e c z
    · exact Or.inl z
theorem fold_rule (hR : rOK nr cw R) (hs : rSF cw R) (hL : L.Pairwise (· ≤ ·)) (hLt : Lt.Pairwise (· ≤ ·)) (hsub : ∀ c ∈ Lt, c ∈ L) : ∀ (n : Nat) (v : Nat → Nat) (C : List En), n ≤ 3 → tmc L.length C = false → CI L C →
    RSP L (fun c => ∃ p, p < n ∧ HD cw R (fun d => if d = p then Lt else L) L c) num C ((List.range n).foldl (dvP L Lt num (rlO cw R) (rdN (rlO cw R))) (v, C)).2
  | 0, v, C, _, ht, hc => Or.inr ⟨ht, hc, fun e he => he, fun e he => Or.inl he, fun c ⟨p, hp, _⟩ => by omega⟩
  | n + 1, v, C, hn, ht, hc => by
    have ih := fold_rule hR hs hL hLt hsub n v C (by omega) ht hc
    rw [List.range_succ, List.foldl_append]
    generalize hg : (List.range n).foldl (dvP L Lt num (rlO cw R) (rdN (rlO cw R))) (v, C) = s at ih ⊢
    show RSP L _ num C (dvF L Lt num (rlO cw R) (rdN (rlO cw R)) (nI n) (rlO cw R).2.1.length 0 s.1 s.2).2.2
    rcases ih with ⟨a, C1, b1, b2, b3⟩ | ⟨a, b, c, d, e⟩
    · exact Or.inl ⟨tmc_mono a (dvF_len _ _ _ _), C1, b1, b2, fun e he => (b3 e he).imp id (fun ⟨p, hp, hd⟩ => ⟨p, by omega, hd⟩)⟩
    · have h3 := hR.2.2.2.2.1
      have hcg : ∀ c, HD cw R (fun d => if nI d = nI n then Lt else L) L c ↔ HD cw R (fun d => if d = n then Lt else L) L c := fun c => by
        unfold HD
        rw [lvC_cg (Ls' := fun d => if d = n then Lt else L) (hls R) 0 _ (fun i _ hi => by
          by_cases e : i = n
          · rw [if_pos e, if_pos (by rw [e])]
          · rw [if_neg e, if_neg (fun z => e ((nI_eq (by omega) (by omega)).mp z))])]
      have := dvF_rule (num := num) hR hs hL hLt (pv := nI n) s.1 a b
      rcases this with ⟨a', C1, b1', b2', b3'⟩ | ⟨a', b', c', d', e'⟩
      · refine Or.inl ⟨a', C1, b1', b2', fun x hx => ?_⟩
        rcases b3' x hx with w | w
        · rcases d x w with w | ⟨⟨p, hp, w⟩, _⟩
          · exact Or.inl w
          · exact Or.inr ⟨p, by omega, w⟩
        · exact Or.inr ⟨n, by omega, (hcg _).mp w⟩
      · refine Or.inr ⟨a', b', fun x hx => c' x (c x hx), fun x hx => ?_, fun q hq => ?_⟩
        · rcases d' x hx with w | ⟨w, w2⟩
          · rcases d x w with w | ⟨⟨p, hp, w⟩, w2⟩
            · exact Or.inl w
            · exact Or.inr ⟨⟨p, by omega, w⟩, w2⟩
          · exact Or.inr ⟨⟨n, by omega, (hcg _).mp w⟩, w2⟩
        · obtain ⟨p, hp, w⟩ := hq
          by_cases e2 : p = n
          · subst e2
            exact e' q ((hcg _).mpr w)
          · rcases e q ⟨p, by omega, w⟩ with z | z
            · exact Or.inl z
            · obtain ⟨y, hy, hye⟩ := List.mem_map.mp z
              exact Or.inr (List.mem_map.mpr ⟨y, c' y hy, hye⟩)
/-- ONE RULE OF THE CLASS, new or not -/
theorem dvB_rule (hR : rOK nr cw R) (hs : rSF cw R) (hL : L.Pairwise (· ≤ ·)) {nw : Bool} (hsn : nw = false → Lt.Pairwise (· ≤ ·) ∧ (∀ c ∈ Lt, c ∈ L) ∧ ∀ c, HD cw R (fun _ => L.filter (fun c => !decide (c ∈ Lt))) L c → c ∈ L) (v : Nat → Nat) {C : List En} (ht : tmc L.length C = false) (hc : CI L C) :
    RSP L (HD cw R (fun _ => L) L) num C (dvB L Lt num (rlO cw R) (rdN (rlO cw R)) nw v C).2 := by
  have h3 := hR.2.2.2.2.1
  unfold dvB
  cases nw with
  | true =>
    rw [if_pos rfl]
    have key := dvF_rule (num := num) (Lt := []) hR hs hL List.Pairwise.nil (pv := -1) v ht hc
    have e : ∀ (k d : Nat) (v : Nat → Nat) (C : List En), d + k ≤ 3 → dvF L Lt num (rlO cw R) (rdN (rlO cw R)) (-1) k d v C = dvF L [] num (rlO cw R) (rdN (rlO cw R)) (-1) k d v C := by
      intro k
      induction k with
      | zero => intro d v C _; rfl
      | succ k ih =>
        intro d v C hd
        have hne : ¬ nI d = -1 := nI_nneg (by omega) (by decide)
        unfold dvF
        rw [if_neg hne, if_neg hne, show dvF L Lt num (rlO cw R) (rdN (rlO cw R)) (-1) k (d + 1) = dvF L [] num (rlO cw R) (rdN (rlO cw R)) (-1) k (d + 1) from funext (fun v => funext (fun C => ih (d + 1) v C (by omega)))]
    have hlen : (rlO cw R).2.1.length = (hls R).length := cH_len _ _ _
    rw [e _ _ _ _ (by omega)]
    refine key.wk (fun c hc => ?_) (fun c hc => Or.inl ?_)
    · unfold HD at hc ⊢
      rw [lvC_cg (Ls' := fun _ => L) (hls R) 0 _ (fun i _ hi => if_neg (nI_nneg (by omega) (by decide)))] at hc
      exact hc
    · unfold HD at hc ⊢
      rw [lvC_cg (Ls' := fun _ => L) (hls R) 0 _ (fun i _ hi => if_neg (nI_nneg (by omega) (by decide)))]
      exact hc
  | false =>
    rw [if_neg (by decide)]
    obtain ⟨s1, s2, s3⟩ := hsn rfl
    have hlen : (rlO cw R).2.1.length = (hls R).length := cH_len _ _ _
    rw [hlen]
    refine (fold_rule (num := num) hR hs hL s1 s2 (hls R).length v C h3 ht hc).wk (fun c hc => ?_) (fun c hc => ?_)
    · obtain ⟨p, hp, o, w1, w2, w3⟩ := hc
      refine ⟨o, lv_mono (fun i c hc => ?_) _ _ _ _ w1, w2, w3⟩
      split at hc
      · exact s2 c hc
      · exact hc
    · obtain ⟨o, w1, w2, w3⟩ := hc
      rcases lv_split (Lt := Lt) (hls R) 0 _ o w1 with z | ⟨p, z1, z2, z3⟩
      · exact Or.inr (s3 c ⟨o, z, w2, w3⟩)
      · exact Or.inl ⟨p, by omega, o, z3, w2, w3⟩
end DVB
