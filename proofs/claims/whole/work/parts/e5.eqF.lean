/-! PURE: a round of the reference beside a round of the class -/
def FI (T : List MT) (N : List MT) : Prop := (tcs N).Nodup ∧ (∀ c ∈ tcs N, c ∉ tcs T) ∧ T.length + N.length ≤ 300
def nwT (R : MR) (rc q : Nat) (o : OV) : MT := (R.1.1, nbO o R.1.2, rc + 1, nI q)
theorem act_flag {T : List MT} {rc q : Nat} {R : MR} {o : OV} {s : FS} (h : s.2.1 = true) : (act T rc q R true o s).2.1 = true := by
  unfold act
  split
  · rw [if_pos rfl]
    unfold fnd1
    rw [if_pos (Or.inl h)]; exact h
  · exact h
theorem fold_flag {T : List MT} {rc q : Nat} {R : MR} : ∀ (lv : List OV) (s : FS), s.2.1 = true → (lv.foldl (fun s o => act T rc q R true o s) s).2.1 = true
  | [], _, h => h
  | o :: lv, s, h => fold_flag lv _ (act_flag h)
theorem code_nwT {R : MR} {rc q : Nat} {o : OV} : 262144 * (nwT R rc q o).1 + (nwT R rc q o).2.1 = hC (hdI R) o := rfl
def FR (T : List MT) (rc q : Nat) (R : MR) (lv : List OV) (N0 : List MT) (s' : FS) : Prop :=
  (s'.2.1 = true ∧ ∃ N : List MT, (tcs N).Nodup ∧ (∀ c ∈ tcs N, c ∉ tcs T) ∧ T.length + N.length = 300 ∧ (∀ x ∈ N, x ∈ N0 ∨ ∃ o ∈ lv, askO o (tcs T) R = true ∧ x = nwT R rc q o) ∧ ∃ o ∈ lv, askO o (tcs T) R = true ∧ hC (hdI R) o ∉ tcs T ∧ hC (hdI R) o ∉ tcs N) ∨
  (s'.2.1 = false ∧ FI T s'.1 ∧ (∀ x ∈ N0, x ∈ s'.1) ∧ (∀ x ∈ s'.1, x ∈ N0 ∨ ∃ o ∈ lv, askO o (tcs T) R = true ∧ x = nwT R rc q o) ∧ ∀ o ∈ lv, askO o (tcs T) R = true → hC (hdI R) o ∈ tcs T ∨ hC (hdI R) o ∈ tcs s'.1)
theorem fold_ref {T : List MT} {rc q : Nat} {R : MR} : ∀ (lv : List OV) (s : FS), s.2.1 = false → FI T s.1 → FR T rc q R lv s.1 (lv.foldl (fun s o => act T rc q R true o s) s)
  | [], s, hf, hi => Or.inr ⟨hf, hi, fun x hx => hx, fun x hx => Or.inl hx, fun o ho => by cases ho⟩
  | o :: lv, s, hf, hi => by
    rw [List.foldl_cons]
    have lift : ∀ s1 : FS, s1 = act T rc q R true o s → s1.2.1 = false → FI T s1.1 → (∀ x ∈ s.1, x ∈ s1.1) → (∀ x ∈ s1.1, x ∈ s.1 ∨ (askO o (tcs T) R = true ∧ x = nwT R rc q o)) → (askO o (tcs T) R = true → hC (hdI R) o ∈ tcs T ∨ hC (hdI R) o ∈ tcs s1.1) → FR T rc q R (o :: lv) s.1 (lv.foldl (fun s o => act T rc q R true o s) (act T rc q R true o s)) := fun s1 e1 g1 g2 g3 g4 g5 => by
      rw [← e1]
      have ih := fold_ref (rc := rc) (q := q) (R := R) lv s1 g1 g2
      generalize lv.foldl (fun s o => act T rc q R true o s) s1 = s' at ih ⊢
      have up : ∀ x, (x ∈ s1.1 ∨ ∃ o ∈ lv, askO o (tcs T) R = true ∧ x = nwT R rc q o) → (x ∈ s.1 ∨ ∃ o' ∈ o :: lv, askO o' (tcs T) R = true ∧ x = nwT R rc q o') := fun x hx => by
        rcases hx with w | ⟨o', w1, w2, w3⟩
        · rcases g4 x w with w | ⟨w1, w2⟩
          · exact Or.inl w
          · exact Or.inr ⟨o, List.mem_cons_self, w1, w2⟩
        · exact Or.inr ⟨o', List.mem_cons_of_mem _ w1, w2, w3⟩
      rcases ih with ⟨a, N, b1, b2, b3, b4, o', b5, b6⟩ | ⟨a, b, c, d, e⟩
      · exact Or.inl ⟨a, N, b1, b2, b3, fun x hx => up x (b4 x hx), o', List.mem_cons_of_mem _ b5, b6⟩
      · refine Or.inr ⟨a, b, fun x hx => c x (g3 x hx), fun x hx => up x (d x hx), fun o' ho' hq => ?_⟩
        rcases List.mem_cons.mp ho' with z | z
        · subst z
          rcases g5 hq with w | w
          · exact Or.inl w
          · obtain ⟨y, hy, hye⟩ := List.mem_map.mp w
            exact Or.inr (List.mem_map.mpr ⟨y, c y hy, hye⟩)
        · exact e o' z hq
    by_cases hq : askO o (tcs T) R = true
    · have ea : act T rc q R true o s = fnd1 T rc q R o (s.1, s.2.1, s.2.2 + 1) := by unfold act; rw [if_pos hq, if_pos rfl]
      by_cases hk : hC (hdI R) o ∈ tcs s.1 ∨ hC (hdI R) o ∈ tcs T
      · have e2 : act T rc q R true o s = (s.1, s.2.1, s.2.2 + 1) := by rw [ea]; unfold fnd1; rw [if_pos (show ((s.1, s.2.1, s.2.2 + 1) : FS).2.1 = true ∨ 262144 * R.1.1 + nbO o R.1.2 ∈ tcs ((s.1, s.2.1, s.2.2 + 1) : FS).1 ∨ 262144 * R.1.1 + nbO o R.1.2 ∈ tcs T from Or.inr hk)]
        refine lift _ rfl (by rw [e2]; exact hf) (by rw [e2]; exact hi) (by rw [e2]; exact fun x hx => hx) (by rw [e2]; exact fun x hx => Or.inl hx) (fun _ => ?_)
        rw [e2]
        exact hk.symm
      · have hk' : ¬ ((s.1, s.2.1, s.2.2 + 1) : FS).2.1 = true ∧ hC (hdI R) o ∉ tcs s.1 ∧ hC (hdI R) o ∉ tcs T := ⟨by show ¬ s.2.1 = true; rw [hf]; decide, fun z => hk (Or.inl z), fun z => hk (Or.inr z)⟩
        have hkn : ¬ (((s.1, s.2.1, s.2.2 + 1) : FS).2.1 = true ∨ 262144 * R.1.1 + nbO o R.1.2 ∈ tcs ((s.1, s.2.1, s.2.2 + 1) : FS).1 ∨ 262144 * R.1.1 + nbO o R.1.2 ∈ tcs T) := fun z => by
          rcases z with z | z | z
          · exact hk'.1 z
          · exact hk'.2.1 z
          · exact hk'.2.2 z
        by_cases hl : T.length + s.1.length = 300
        · have e2 : act T rc q R true o s = (s.1, true, s.2.2 + 1) := by rw [ea]; unfold fnd1; rw [if_neg hkn, if_pos hl]
          refine Or.inl ⟨fold_flag lv _ (by rw [e2]), s.1, hi.1, hi.2.1, hl, fun x hx => Or.inl hx, o, List.mem_cons_self, hq, hk'.2.2, hk'.2.1⟩
        · have e2 : act T rc q R true o s = (s.1 ++ [nwT R rc q o], s.2.1, s.2.2 + 1) := by rw [ea]; unfold fnd1; rw [if_neg hkn, if_neg hl]; rfl
          have hc : ∀ c, c ∈ tcs (s.1 ++ [nwT R rc q o]) ↔ c ∈ tcs s.1 ∨ c = hC (hdI R) o := fun c => by
            rw [tcs_snoc, List.mem_append, List.mem_singleton]; rfl
          refine lift _ rfl (by rw [e2]; exact hf) ?_ (by rw [e2]; exact fun x hx => List.mem_append_left _ hx) ?_ (fun _ => ?_)
          · rw [e2]
            refine ⟨?_, fun c hc' => ?_, ?_⟩
            · show (tcs (s.1 ++ [nwT R rc q o])).Nodup
              rw [tcs_snoc]
              refine (List.perm_append_singleton _ _).symm.nodup (List.nodup_cons.mpr ⟨hk'.2.1, hi.1⟩)
            · rcases (hc c).mp hc' with z | z
              · exact hi.2.1 c z
              · rw [z]; exact hk'.2.2
            · show T.length + (s.1 ++ [nwT R rc q o]).length ≤ 300
              rw [List.length_append]
              have := hi.2.2
              simp; omega
          · rw [e2]
            intro x hx
            rcases List.mem_append.mp hx with z | z
            · exact Or.inl z
            · exact Or.inr ⟨hq, List.mem_singleton.mp z⟩
          · rw [e2]
            exact Or.inr ((hc _).mpr (Or.inr rfl))
    · have e2 : act T rc q R true o s = s := by unfold act; rw [if_neg hq]
      exact lift _ rfl (by rw [e2]; exact hf) (by rw [e2]; exact hi) (by rw [e2]; exact fun x hx => hx) (by rw [e2]; exact fun x hx => Or.inl hx) (fun z => absurd z hq)
theorem inj_nd {α : Type} {f : α → Nat} : ∀ {l : List α}, (l.map f).Nodup → ∀ {x y : α}, x ∈ l → y ∈ l → f x = f y → x = y
  | [], _, x, _, hx, _, _ => by cases hx
  | a :: l, h, x, y, hx, hy, e => by
    rw [List.map_cons, List.nodup_cons] at h
    rcases List.mem_cons.mp hx with hx1 | hx1
    · rcases List.mem_cons.mp hy with hy1 | hy1
      · rw [hx1, hy1]
      · exact absurd (List.mem_map.mpr ⟨y, hy1, by rw [← e, hx1]⟩) h.1
    · rcases List.mem_cons.mp hy with hy1 | hy1
      · exact absurd (List.mem_map.mpr ⟨x, hx1, by rw [e, hy1]⟩) h.1
      · exact inj_nd h.2 hx1 hy1 e
def enC (x : MT) : En := (262144 * x.1 + x.2.1, 0, x.2.2.2)
def gdN (nr : Nat) (cw : Nat → Nat) (rc : Nat) (x : MT) : Prop := x.1 < nr ∧ x.2.1 < 262144 ∧ x.2.2.1 = rc + 1 ∧ ∀ j, cw x.1 ≤ j → j < 3 → clM x.2.1 j = 0
def XR (T : List MT) (L : List Nat) (nr : Nat) (cw : Nat → Nat) (rc : Nat) (C : List En) (s : FS) : Prop :=
  (s.2.1 = false ∧ tmc L.length C = false ∧ CI L C ∧ FI T s.1 ∧ (∀ e, e ∈ C ↔ ∃ x ∈ s.1, e = enC x) ∧ ∀ x ∈ s.1, gdN nr cw rc x) ∨ (s.2.1 = true ∧ tmc L.length C = true)
theorem lv_ovB {cw : Nat → Nat} {Ls : Nat → List Nat} : ∀ (xs : List MI) (d : Nat) (ov o : OV), ovB ov → o ∈ lvC cw Ls d xs ov → ovB o
  | [], _, ov, o, h, ho => by rw [List.mem_singleton.mp ho]; exact h
  | x :: xs, d, ov, o, h, ho => by
    rw [lvC_cons] at ho
    obtain ⟨c, hc, h2⟩ := List.mem_flatMap.mp ho
    cases hm : mtC cw x c ov with
    | none => rw [lvx_none hm] at h2; cases h2
    | some p =>
      rw [lvx_some hm] at h2
      exact lv_ovB xs (d + 1) p.1 o (ovB_m h (Nat.mod_lt _ (by decide)) hm) h2
theorem nbO_lt {o : OV} (h : ovB o) (t : Nat × Nat × Nat) : nbO o t < 262144 := by
  unfold nbO
  have h0 := gv_lt h (t3 t 0)
  have h1 := gv_lt h (t3 t 1)
  have h2 := gv_lt h (t3 t 2)
  omega
theorem clM_nbO {o : OV} (h : ovB o) (t : Nat × Nat × Nat) {j : Nat} (hj : j < 3) : clM (nbO o t) j = gv o (t3 t j) := by
  unfold nbO
  have h0 := gv_lt h (t3 t 0)
  have h1 := gv_lt h (t3 t 1)
  have h2 := gv_lt h (t3 t 2)
  generalize e0 : gv o (t3 t 0) = x at *
  generalize e1 : gv o (t3 t 1) = y at *
  generalize e2 : gv o (t3 t 2) = z at *
  rcases (show j = 0 ∨ j = 1 ∨ j = 2 by omega) with rfl | rfl | rfl
  · rw [e0]; unfold clM; rw [if_pos rfl]; omega
  · rw [e1]; unfold clM; rw [if_neg (by decide), if_pos rfl]; omega
  · rw [e2]; unfold clM; rw [if_neg (by decide), if_neg (by decide)]; omega
section RND
variable {nr : Nat} {cw : Nat → Nat} {T : List MT} {L Lt : List Nat} {rc : Nat}
/-- ONE RULE IN A ROUND -/
theorem XR.rule {R : MR} {q : Nat} {C C' : List En} {s : FS} (hR : rOK nr cw R) (hm : ∀ c, c ∈ L ↔ c ∈ tcs T) (hl : L.length = T.length) (hX : XR T L nr cw rc C s) (hs : s.2.1 = false) (hS : RSP L (HD cw R (fun _ => L) L) q C C') :
    XR T L nr cw rc C' ((lvC cw (fun _ => tcs T) 0 (hls R) (fun _ => none)).foldl (fun s o => act T rc q R true o s) s) := by
  rcases hX with ⟨x1, x2, x3, x4, x5, x6⟩ | ⟨x1, _⟩
  · have hlv : ∀ o, o ∈ lvC cw (fun _ => L) 0 (hls R) (fun _ => none) ↔ o ∈ lvC cw (fun _ => tcs T) 0 (hls R) (fun _ => none) := fun o => ⟨lv_mono (fun _ c => (hm c).mp) _ _ _ _, lv_mono (fun _ c => (hm c).mpr) _ _ _ _⟩
    have hask : ∀ o, (rY R).all (askX o L) = askO o (tcs T) R := fun o => by
      rw [askO_rY, Bool.eq_iff_iff, List.all_eq_true, List.all_eq_true]
      exact forall_congr' (fun y => by rw [askX_cg hm y])
    have hD : ∀ c, HD cw R (fun _ => L) L c ↔ ∃ o ∈ lvC cw (fun _ => tcs T) 0 (hls R) (fun _ => none), askO o (tcs T) R = true ∧ c = hC (hdI R) o := fun c => by
      unfold HD
      refine exists_congr (fun o => ?_)
      rw [hlv o, hask o]
    have hgood : ∀ o ∈ lvC cw (fun _ => tcs T) 0 (hls R) (fun _ => none), gdN nr cw rc (nwT R rc q o) := fun o ho => by
      have hob : ovB o := lv_ovB _ _ _ _ (fun j n z => by cases z) ho
      refine ⟨hR.1, nbO_lt hob _, rfl, fun j hj hj3 => ?_⟩
      show clM (nbO o R.1.2) j = 0
      rw [clM_nbO hob _ hj3]
      have : t3 R.1.2 j = 0 := hR.2.2.1.2.2 j (by show iW cw (hdI R) ≤ j; exact hj) hj3
      rw [this]; rfl
    have hF := fold_ref (rc := rc) (q := q) (R := R) (lvC cw (fun _ => tcs T) 0 (hls R) (fun _ => none)) s x1 x4
    generalize (lvC cw (fun _ => tcs T) 0 (hls R) (fun _ => none)).foldl (fun s o => act T rc q R true o s) s = s' at hF ⊢
    generalize hlve : lvC cw (fun _ => tcs T) 0 (hls R) (fun _ => none) = lv at *
    have inC : ∀ {x : MT} {C : List En}, enC x ∈ C → 262144 * x.1 + x.2.1 ∈ cds C := fun h => List.mem_map.mpr ⟨_, h, rfl⟩
    have inT : ∀ {x : MT} {N : List MT}, x ∈ N → 262144 * x.1 + x.2.1 ∈ tcs N := fun h => List.mem_map.mpr ⟨_, h, rfl⟩
    rcases hS with ⟨a, C1, b1, b2, b3⟩ | ⟨a, b, c, d, e⟩
    · rcases hF with ⟨f, _⟩ | ⟨f, g1, g2, g3, g4⟩
      · exact Or.inr ⟨f, a⟩
      · exfalso
        have hsub : cds C1 ⊆ tcs s'.1 := fun y hy => by
          obtain ⟨e, he, hee⟩ := List.mem_map.mp hy
          have hnl := b1.2 y hy
          rcases b3 e he with w | w
          · obtain ⟨x, hx, hxe⟩ := (x5 e).mp w
            rw [← hee, hxe]
            exact inT (g2 x hx)
          · obtain ⟨o, w1, w2, w3⟩ := (hD _).mp w
            rw [hee] at w3
            rcases g4 o w1 w2 with z | z
            · rw [← w3, ← hm] at z; exact absurd z hnl
            · rw [w3]; exact z
        have := List.Nodup.length_le_of_subset (lt_nd b1.1) hsub
        rw [List.length_map, List.length_map] at this
        unfold tmc at b2
        rw [decide_eq_true_iff] at b2
        have := g1.2.2
        omega
    · rcases hF with ⟨f, N, n1, n2, n3, n4, o, n5, n6, n7, n8⟩ | ⟨f, g1, g2, g3, g4⟩
      · exfalso
        have hdc : ∀ o ∈ lv, askO o (tcs T) R = true → hC (hdI R) o ∉ tcs T → hC (hdI R) o ∈ cds C' := fun o w1 w2 w3 => by
          rcases e _ ((hD _).mpr ⟨o, w1, w2, rfl⟩) with z | z
          · exact absurd ((hm _).mp z) w3
          · exact z
        have hsub : (hC (hdI R) o :: tcs N) ⊆ cds C' := fun y hy => by
          rcases List.mem_cons.mp hy with z | z
          · rw [z]; exact hdc o n5 n6 n7
          · obtain ⟨x, hx, hxe⟩ := List.mem_map.mp z
            have hnt := n2 y z
            rcases n4 x hx with w | ⟨o', w1, w2, w3⟩
            · rw [← hxe]
              exact inC (c _ ((x5 _).mpr ⟨x, w, rfl⟩))
            · have : y = hC (hdI R) o' := by rw [← hxe, w3]; rfl
              rw [this] at hnt ⊢
              exact hdc o' w1 w2 hnt
        have := List.Nodup.length_le_of_subset (List.nodup_cons.mpr ⟨n8, n1⟩) hsub
        rw [List.length_cons, List.length_map, List.length_map] at this
        unfold tmc at a
        rw [decide_eq_false_iff_not] at a
        omega
      · refine Or.inl ⟨f, a, b, g1, fun y => ⟨fun hy => ?_, fun hy => ?_⟩, fun x hx => ?_⟩
        · rcases d y hy with w | ⟨w1, w2⟩
          · obtain ⟨x, hx, hxe⟩ := (x5 y).mp w
            exact ⟨x, g2 x hx, hxe⟩
          · obtain ⟨o, z1, z2, z3⟩ := (hD _).mp w1
            have hnl : y.1 ∉ L := b.2 _ (List.mem_map.mpr ⟨y, hy, rfl⟩)
            rcases g4 o z1 z2 with z | z
            · rw [← z3, ← hm] at z; exact absurd z hnl
            · obtain ⟨x, hx, hxe⟩ := List.mem_map.mp z
              rcases g3 x hx with w | ⟨o', v1, v2, v3⟩
              · have h2 : enC x ∈ C' := c _ ((x5 _).mpr ⟨x, w, rfl⟩)
                exact ⟨x, hx, inj_nd (lt_nd b.1) hy h2 (by rw [z3, ← hxe]; rfl)⟩
              · refine ⟨x, hx, ?_⟩
                rw [w2, z3, ← hxe, v3]; rfl
        · obtain ⟨x, hx, rfl⟩ := hy
          rcases g3 x hx with w | ⟨o, v1, v2, v3⟩
          · exact c _ ((x5 _).mpr ⟨x, w, rfl⟩)
          · have hnt : hC (hdI R) o ∉ tcs T := g1.2.1 _ (by rw [v3] at hx; exact inT hx)
            rcases e _ ((hD _).mpr ⟨o, v1, v2, rfl⟩) with z | z
            · exact absurd ((hm _).mp z) hnt
            · obtain ⟨y, hy, hye⟩ := List.mem_map.mp z
              rcases d y hy with w | ⟨_, w2⟩
              · obtain ⟨x2, hx2, hxe⟩ := (x5 y).mp w
                have : x = x2 := inj_nd g1.1 hx (g2 x2 hx2) (by
                  have : (enC x2).1 = hC (hdI R) o := by rw [← hxe]; exact hye
                  rw [v3]; exact this.symm)
                rw [this, ← hxe]; exact hy
              · have : enC x = y := by rw [w2, hye, v3]; rfl
                rw [this]; exact hy
        · rcases g3 x hx with w | ⟨o, v1, v2, v3⟩
          · exact x6 x w
          · rw [v3]; exact hgood o v1
  · rw [hs] at x1; cases x1
theorem rdF_flag {sa : Nat} {S : Nat → Nat} : ∀ (Q : List MR) (i : Nat) (s : FS), (∀ x ∈ T, x.2.1 < 262144) → s.2.1 = true → (rdF cw T rc sa S Q i s).2.1 = true
  | [], _, _, _, h => h
  | R :: Q, i, s, hT, h => by
    refine rdF_flag Q (i + 1) _ hT ?_
    unfold rdQ
    split
    · rw [trM_lv hT _ 0]; exact fold_flag _ _ h
    · exact h
/-- A ROUND, both ways -/
theorem XR.round {S S' : Nat → Nat} {sa : Nat} {nw : Bool} (hT : ∀ x ∈ T, x.2.1 < 262144) (hL : L.Pairwise (· ≤ ·)) (hm : ∀ c, c ∈ L ↔ c ∈ tcs T) (hl : L.length = T.length) : ∀ (QM : List MR) (i : Nat) (v : Nat → Nat) (C : List En) (s : FS),
    (∀ R ∈ QM, rOK nr cw R ∧ rSF cw R ∧ (S R.1.1 = sa ↔ S' R.1.1 = sa) ∧ (S' R.1.1 = sa → nw = false → Lt.Pairwise (· ≤ ·) ∧ (∀ c ∈ Lt, c ∈ L) ∧ ∀ c, HD cw R (fun _ => L.filter (fun c => !decide (c ∈ Lt))) L c → c ∈ L)) → XR T L nr cw rc C s →
    XR T L nr cw rc (nrF L Lt S sa nw (QM.map (rlO cw)) i (v, C)).2 (rdF cw T rc sa S' QM i s) ∧ (tmc L.length (nrF L Lt S sa nw (QM.map (rlO cw)) i (v, C)).2 = false → (∀ e ∈ C, e ∈ (nrF L Lt S sa nw (QM.map (rlO cw)) i (v, C)).2) ∧ ∀ R ∈ QM, S' R.1.1 = sa → ∀ c, HD cw R (fun _ => L) L c → c ∈ L ∨ c ∈ cds (nrF L Lt S sa nw (QM.map (rlO cw)) i (v, C)).2)
  | [], i, v, C, s, _, hX => ⟨hX, fun _ => ⟨fun e he => he, fun R hR => by cases hR⟩⟩
  | R :: QM, i, v, C, s, hQ, hX => by
    obtain ⟨hR, hsf, hst, hsn⟩ := hQ R List.mem_cons_self
    have hQ' := fun R hR => hQ R (List.mem_cons_of_mem _ hR)
    rw [List.map_cons]
    unfold nrF
    cases ht : tmc L.length C with
    | true =>
      rw [if_pos (show true = true from rfl)]
      refine ⟨Or.inr ⟨rdF_flag _ _ _ hT ?_, ht⟩, fun z => by rw [ht] at z; cases z⟩
      rcases hX with ⟨_, x2, _⟩ | ⟨x1, _⟩
      · rw [ht] at x2; cases x2
      · exact x1
    | false =>
      rw [if_neg (show ¬ false = true by decide)]
      have hx1 : s.2.1 = false ∧ CI L C := by
        rcases hX with ⟨x1, _, x3, _⟩ | ⟨_, x2⟩
        · exact ⟨x1, x3⟩
        · rw [ht] at x2; cases x2
      have earg : (if S (rlO cw R).1.1.2.1 = sa then dvB L Lt i (rlO cw R) (rdN (rlO cw R)) nw ((v, C) : (Nat → Nat) × List En).1 ((v, C) : (Nat → Nat) × List En).2 else (v, C)) = if S R.1.1 = sa then dvB L Lt i (rlO cw R) (rdN (rlO cw R)) nw v C else (v, C) := rfl
      have er : rdF cw T rc sa S' (R :: QM) i s = rdF cw T rc sa S' QM (i + 1) (rdQ cw T rc sa S' s (i, R)) := rfl
      rw [earg, er]
      unfold rdQ
      by_cases hsa : S' R.1.1 = sa
      · rw [if_pos (hst.mpr hsa), if_pos hsa, trM_lv hT _ 0]
        have hrs := dvB_rule (num := i) hR hsf hL (hsn hsa) v ht hx1.2
        have hX2 := hX.rule hR hm hl hx1.1 hrs
        obtain ⟨i1, i2⟩ := XR.round hT hL hm hl QM (i + 1) (dvB L Lt i (rlO cw R) (rdN (rlO cw R)) nw v C).1 (dvB L Lt i (rlO cw R) (rdN (rlO cw R)) nw v C).2 _ hQ' hX2
        refine ⟨i1, fun z => ?_⟩
        obtain ⟨j1, j2⟩ := i2 z
        have hnt : tmc L.length (dvB L Lt i (rlO cw R) (rdN (rlO cw R)) nw v C).2 = false := by
          cases hq : tmc L.length (dvB L Lt i (rlO cw R) (rdN (rlO cw R)) nw v C).2 with
          | false => rfl
          | true =>
            refine absurd (tmc_mono hq ?_) (by rw [z]; decide)
            have hnd : (cds (dvB L Lt i (rlO cw R) (rdN (rlO cw R)) nw v C).2).length ≤ (cds (dvB L Lt i (rlO cw R) (rdN (rlO cw R)) nw v C).2).length := Nat.le_refl _
            cases QM with
            | nil => exact Nat.le_refl _
            | cons R2 QM2 =>
              rw [List.map_cons]
              unfold nrF
              have e3 : tmc L.length ((dvB L Lt i (rlO cw R) (rdN (rlO cw R)) nw v C)).2 = true := hq
              rw [if_pos e3]
              exact Nat.le_refl _
        rcases hrs with ⟨a, _⟩ | ⟨_, _, c, _, e5⟩
        · rw [hnt] at a; cases a
        · refine ⟨fun e he => j1 e (c e he), fun R' hR' hsa' q hq => ?_⟩
          rcases List.mem_cons.mp hR' with w | w
          · subst w
            rcases e5 q hq with u | u
            · exact Or.inl u
            · obtain ⟨y, hy, hye⟩ := List.mem_map.mp u
              exact Or.inr (List.mem_map.mpr ⟨y, j1 y hy, hye⟩)
          · exact j2 R' w hsa' q hq
      · rw [if_neg (fun z => hsa (hst.mp z)), if_neg hsa]
        obtain ⟨i1, i2⟩ := XR.round hT hL hm hl QM (i + 1) v C s hQ' hX
        refine ⟨i1, fun z => ?_⟩
        obtain ⟨j1, j2⟩ := i2 z
        refine ⟨j1, fun R' hR' hsa' q hq => ?_⟩
        rcases List.mem_cons.mp hR' with w | w
        · subst w; exact absurd hsa' hsa
        · exact j2 R' w hsa' q hq
end RND
