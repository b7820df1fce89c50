/-! PURE: counting a rule's matches -/
theorem agr.back {kn kn' v w : Nat → Nat} {ov o : OV} (h : agr kn v ov) (he : ext ov o) (h2 : agr kn' w o) (hk : ∀ k, kn k ≠ 0 → kn' k ≠ 0) : agr kn w ov :=
  h.keep (fun k z => by
    have e1 := ((h2 k).1 (hk k z)).1
    have e2 := he k _ ((h k).1 z).1
    rw [e1] at e2; exact Option.some.inj e2)
theorem cof_agr {kn v w : Nat → Nat} {ov : OV} {t : It} (h1 : t.2.2.1 = 0) (h0 : t.2.2.2.1 = t.1.2.2) (h : agr kn v ov) (h2 : agr kn w ov) : cof v (bindI kn t) = cof w (bindI kn t) := by
  obtain ⟨f1, f2⟩ := bindI_fst (kn := kn) h0
  have e : ∀ j, (if j < (bindI kn t).2.2.2.1 then vl v (tm (bindI kn t) j) else 0) = (if j < (bindI kn t).2.2.2.1 then vl w (tm (bindI kn t) j) else 0) := fun j => by
    by_cases hj : j < (bindI kn t).2.2.2.1
    · rw [if_pos hj, if_pos hj]
      have hk : 64 ≤ tm t j → kn (tm t j - 64) ≠ 0 := fun z1 z2 => by
        have hb : bd (bindI kn t) j = true := by
          refine (bnd_iff (n := 1) h1 h0 (by decide) (by omega)).mpr ⟨z1, (knP_z (by decide) _).mpr ⟨z2, fun i hi hb => ?_⟩⟩
          rw [bindI_bd h1 h0 (by omega), f2 i (by omega)] at hb; cases hb
        rw [bindI_bd h1 h0 (by omega), f2 j hj] at hb; cases hb
      have e1 := (h.val hk).1
      have e2 := (h2.val hk).1
      rw [e1] at e2
      exact Option.some.inj e2
    · rw [if_neg hj, if_neg hj]
  unfold cof cofP cofP cofP
  rw [e 0, e 1, e 2]
  rfl
theorem fitP_open {t : It} {c : Nat} : ∀ (m j : Nat) (v : Nat → Nat), (∀ i, j ≤ i → i < j + m → bd t i = true) → (fitP t c m j v).1 = true
  | 0, _, _, _ => rfl
  | m + 1, j, v, h => by
    unfold fitP
    rw [if_pos (h j (Nat.le_refl _) (by omega))]
    exact fitP_open m (j + 1) _ (fun i h1 h2 => h i (by omega) (by omega))
theorem countP_ones {α β : Type} {g : α → List β} {P : β → Bool} : ∀ (cs : List α), (∀ c ∈ cs, ∃ o, g c = [o] ∧ P o = true) → (cs.flatMap g).countP P = cs.length
  | [], _ => rfl
  | c :: cs, h => by
    obtain ⟨o, h1, h2⟩ := h c List.mem_cons_self
    rw [List.flatMap_cons, List.countP_append, h1, countP_ones cs (fun x hx => h x (List.mem_cons_of_mem _ hx)), List.countP_cons_of_pos h2, List.length_cons]
    simp; omega
theorem rng_len {L : List Nat} {lo hi : Nat} : (rng L lo hi).length = cb L hi - cb L lo := by
  unfold rng
  rw [List.length_drop, List.length_take, Nat.min_eq_left (cb_le L hi)]
def lvx (cw : Nat → Nat) (Ls : Nat → List Nat) (d : Nat) (x : MI) (xs : List MI) (ov : OV) (c : Nat) : List OV := match mtC cw x c ov with | some p => lvC cw Ls (d + 1) xs p.1 | none => []
theorem lvC_cons {cw : Nat → Nat} {Ls : Nat → List Nat} {d : Nat} {x : MI} {xs : List MI} {ov : OV} : lvC cw Ls d (x :: xs) ov = (Ls d).flatMap (lvx cw Ls d x xs ov) := rfl
theorem lvx_some {cw : Nat → Nat} {Ls : Nat → List Nat} {d : Nat} {x : MI} {xs : List MI} {ov : OV} {c : Nat} {p : OV × Nat} (h : mtC cw x c ov = some p) : lvx cw Ls d x xs ov c = lvC cw Ls (d + 1) xs p.1 := by unfold lvx; rw [h]
theorem lvx_none {cw : Nat → Nat} {Ls : Nat → List Nat} {d : Nat} {x : MI} {xs : List MI} {ov : OV} {c : Nat} (h : mtC cw x c ov = none) : lvx cw Ls d x xs ov c = [] := by unfold lvx; rw [h]
/-- the codes that an item looks through are those that can match -/
theorem lvC_rng {cw : Nat → Nat} {Ls : Nat → List Nat} {d n : Nat} {x : MI} {xs : List MI} {kn v : Nat → Nat} {ov : OV} (hL : (Ls d).Pairwise (· ≤ ·)) (h0 : x.1 = 0) (hw : cw x.2.1 ≤ 3) (hn : n ≠ 0) (ha : agr kn v ov) :
    lvC cw Ls d (x :: xs) ov = (rng (Ls d) (cof v (bindI kn (i0 cw x))) (cof v (bindI kn (i0 cw x)) + 64 ^ (3 - (bindI kn (i0 cw x)).2.2.2.1))).flatMap (lvx cw Ls d x xs ov) := by
  rw [lvC_cons, rng_eq hL (Nat.le_add_right _ _)]
  refine flatMap_in (fun c _ hc => lvx_none ?_)
  rcases (lvl (c := c) h0 hw hn ha).2 with z | z
  · simp only [Bool.and_eq_false_iff, decide_eq_false_iff_not] at hc
    have := z.1
    omega
  · exact z.2
theorem rng_in {L : List Nat} (hL : L.Pairwise (· ≤ ·)) {lo k c : Nat} (hc : c ∈ rng L lo (lo + k)) : c ∈ L ∧ lo ≤ c ∧ c < lo + k := by
  rw [rng_eq hL (Nat.le_add_right _ _), List.mem_filter] at hc
  simp only [Bool.and_eq_true, decide_eq_true_iff] at hc
  exact hc
section CNT
variable {cw kf : Nat → Nat} {ys : List MI} {hs : List It} {L : List Nat}
theorem cntL_lv {x : MI} {xs : List MI} {kn v0 : Nat → Nat} {ov : OV} {d : Nat} {f : (Nat → Nat) → Nat × (Nat → Nat)} {P : OV → Bool} {Ls : Nat → List Nat} (h0 : x.1 = 0) (hw : cw x.2.1 ≤ 3) (ha0 : agr kn v0 ov)
    (hf : ∀ v o, ext ov o → agr (knP kn (bindI kn (i0 cw x)) (d + 1) (cw x.2.1)) v o → (f v).1 = (lvC cw Ls (d + 1) xs o).countP P ∧ agr (knP kn (bindI kn (i0 cw x)) (d + 1) (cw x.2.1)) (f v).2 o) :
    ∀ (cs : List Nat) (n : Nat) (v : Nat → Nat), (∀ c ∈ cs, cof v0 (bindI kn (i0 cw x)) ≤ c ∧ c < cof v0 (bindI kn (i0 cw x)) + 64 ^ (3 - (bindI kn (i0 cw x)).2.2.2.1)) → agr kn v ov →
      (cntL (bindI kn (i0 cw x)) f cs n v).1 = n + (cs.flatMap (lvx cw Ls d x xs ov)).countP P ∧ agr kn (cntL (bindI kn (i0 cw x)) f cs n v).2 ov
  | [], n, v, _, ha => ⟨rfl, ha⟩
  | c :: cs, n, v, hc, ha => by
    have hcs : ∀ c ∈ cs, cof v0 (bindI kn (i0 cw x)) ≤ c ∧ c < cof v0 (bindI kn (i0 cw x)) + 64 ^ (3 - (bindI kn (i0 cw x)).2.2.2.1) := fun y hy => hc y (List.mem_cons_of_mem _ hy)
    have hin := hc c List.mem_cons_self
    rw [cof_agr rfl rfl ha0 ha] at hin
    obtain ⟨hk, hl⟩ := lvl (c := c) (n := d + 1) h0 hw (by omega) ha
    unfold cntL
    rw [List.flatMap_cons, List.countP_append]
    rcases hl with ⟨_, z1, p, hp, hap⟩ | ⟨z1, z2⟩
    · rw [if_pos z1]
      obtain ⟨e1, e2⟩ := hf _ _ (mtC_ext hp) hap
      have hb := ha.back (mtC_ext hp) e2 (fun k hk => by rw [kn_keep h0 hk]; exact hk)
      obtain ⟨i1, i2⟩ := cntL_lv h0 hw ha0 hf cs (n + (f (fit1 (bindI kn (i0 cw x)) c v).2).1) (f (fit1 (bindI kn (i0 cw x)) c v).2).2 hcs hb
      refine ⟨?_, i2⟩
      rw [i1, e1, lvx_some hp]; omega
    · have hz : ¬ (fit1 (bindI kn (i0 cw x)) c v).1 = true := fun z => z1 ⟨hin, z⟩
      rw [if_neg hz]
      obtain ⟨i1, i2⟩ := cntL_lv h0 hw ha0 hf cs n _ hcs hk
      refine ⟨?_, i2⟩
      rw [i1, lvx_none z2]; simp
theorem cnt_lv (hL : L.Pairwise (· ≤ ·)) (hys : ∀ y ∈ ys, y.1 ≠ 0 ∧ yOK cw y) (hsf : ∀ y ∈ ys, ∃ m, rdO kf (i0 cw y) = some m) :
    ∀ (xs : List MI) (d : Nat) (kn : Nat → Nat) (pre : List It) (v : Nat → Nat) (ov : OV), (∀ x ∈ xs, x.1 = 0 ∧ cw x.2.1 ≤ 3) → hs = pre ++ cH cw d kn xs → pre.length = d → d + xs.length ≤ 3 → kf = cK cw d kn xs → (∀ k, kn k ≤ d) → agr kn v ov → (∀ y ∈ ys, ∀ m, rdO kf (i0 cw y) = some m → m < d → askX ov L y = true) →
      (cnt L hs (ys.map (kI cw kf)) xs.length d v).1 = (lvC cw (fun _ => L) d xs ov).countP (fun o => ys.all (askX o L)) ∧ agr kn (cnt L hs (ys.map (kI cw kf)) xs.length d v).2 ov
  | [], d, kn, pre, v, ov, hxs, hh, hpl, h3, hkf, hkn, ha, hpas => by
    have hkr := cK_kr (cw := cw) [] d kn (fun x hx => by cases hx) hkn
    rw [← hkf] at hkr
    have hle := cK_le (cw := cw) [] d kn hkn
    rw [← hkf] at hle
    have hd3 : d ≤ 3 := by simpa using h3
    have hci := chk_iff (L := L) hys ha hkr hsf hle hd3 hd3
    have hall : chk v L (ys.map (kI cw kf)) d = ys.all (askX ov L) := by
      rw [Bool.eq_iff_iff, hci, List.all_eq_true]
      refine ⟨fun h y hy => ?_, fun h y hy _ => h y hy⟩
      obtain ⟨m, hm⟩ := hsf y hy
      have hmd : m ≤ d := rdP_bd hle _ m hm
      rcases Nat.lt_or_ge m d with e | e
      · exact hpas y hy m hm e
      · exact h y hy (by rw [hm]; congr 1; omega)
    show (if chk v L (ys.map (kI cw kf)) d then (1, v) else (0, v)).1 = _ ∧ agr kn (if chk v L (ys.map (kI cw kf)) d then (1, v) else (0, v)).2 ov
    show _ = [ov].countP (fun o => ys.all (askX o L)) ∧ _
    rw [hall]
    cases he : ys.all (askX ov L) with
    | true => rw [if_pos rfl, List.countP_cons_of_pos (p := fun o => ys.all (askX o L)) he]; exact ⟨rfl, ha⟩
    | false => rw [if_neg (by decide), List.countP_cons_of_neg (p := fun o => ys.all (askX o L)) (by rw [he]; decide)]; exact ⟨rfl, ha⟩
  | x :: xs, d, kn, pre, v, ov, hxs, hh, hpl, h3, hkf, hkn, ha, hpas => by
    obtain ⟨hx0, hxw⟩ := hxs x List.mem_cons_self
    have hxs0 : ∀ y ∈ x :: xs, y.1 = 0 := fun y hy => (hxs y hy).1
    have hkr := cK_kr (cw := cw) (x :: xs) d kn hxs0 hkn
    rw [← hkf] at hkr
    have hle := cK_le (cw := cw) (x :: xs) d kn hkn
    rw [← hkf] at hle
    rw [List.length_cons] at h3 hle
    have hci := chk_iff (L := L) hys ha hkr hsf hle h3 (by omega)
    have hal : ∀ y ∈ ys, ∀ m, rdO kf (i0 cw y) = some m → m ≤ d → alB ov y.2.2 := fun y hy m hm hd => (vals_known (hys y hy).2 (known_at ha hkr hm hd)).1
    have hget : hs[d]? = some (bindI kn (i0 cw x)) := by
      rw [hh, List.getElem?_append_right (by omega), hpl, Nat.sub_self]; rfl
    rw [List.length_cons]
    cases hc : chk v L (ys.map (kI cw kf)) d with
    | false =>
      rw [cnt_no hc]
      refine ⟨?_, ha⟩
      have : ¬ ∀ y ∈ ys, rdO kf (i0 cw y) = some d → askX ov L y = true := fun z => by rw [hci.mpr z] at hc; cases hc
      have : ∃ y ∈ ys, rdO kf (i0 cw y) = some d ∧ askX ov L y = false := by
        refine Classical.byContradiction (fun hn => this (fun y hy hd => ?_))
        cases hq : askX ov L y with
        | true => rfl
        | false => exact absurd ⟨y, hy, hd, hq⟩ hn
      obtain ⟨y, hy, hd, hq⟩ := this
      refine (List.countP_eq_zero.mpr (fun o ho hall => ?_)).symm
      have := List.all_eq_true.mp hall y hy
      rw [askX_ext (lv_ext _ _ _ _ ho) (hal y hy d hd (Nat.le_refl _)), hq] at this
      cases this
    | true =>
      have hpas' : ∀ y ∈ ys, ∀ m, rdO kf (i0 cw y) = some m → m < d + 1 → askX ov L y = true := fun y hy m hm hlt => by
        rcases Nat.lt_or_ge m d with e | e
        · exact hpas y hy m hm e
        · exact hci.mp hc y hy (by rw [hm]; congr 1; omega)
      cases ho : oend hs.length (ys.map (kI cw kf)) (bindI kn (i0 cw x)) d with
      | true =>
        rw [cnt_open hc hget ho]
        refine ⟨?_, ha⟩
        unfold oend at ho
        simp only [Bool.and_eq_true, decide_eq_true_iff] at ho
        obtain ⟨⟨ho1, ho2⟩, ho3⟩ := ho
        have hln : hs.length = d + 1 + xs.length := by rw [hh, List.length_append, cH_len, hpl, List.length_cons]; omega
        have hnil : xs = [] := List.length_eq_zero_iff.mp (by omega)
        subst hnil
        have hn1 : hs.length = d + 1 := by rw [hln]; rfl
        rw [lvC_rng (n := 1) hL hx0 hxw (by decide) ha, countP_ones, rng_len]
        intro c hcin
        obtain ⟨-, hr1, hr2⟩ := rng_in hL hcin
        rcases (lvl (c := c) (n := 1) hx0 hxw (by decide) ha).2 with ⟨_, _, p, hp, _⟩ | ⟨z1, _⟩
        · refine ⟨p.1, by rw [lvx_some hp]; rfl, List.all_eq_true.mpr (fun y hy => ?_)⟩
          obtain ⟨m, hm⟩ := hsf y hy
          have hmn : m ≤ d + 1 := rdP_bd hle _ m hm
          have hne : m ≠ d + 1 := fun e => by
            have := List.all_eq_true.mp ho3 (kI cw kf y) (List.mem_map_of_mem hy)
            simp only [decide_eq_true_iff] at this
            refine this ?_
            show rdI (rdO kf (i0 cw y)) = _
            rw [hm, hn1, e]; rfl
          rw [askX_ext (mtC_ext hp) (hal y hy m hm (by omega))]
          exact hpas' y hy m hm (by omega)
        · refine absurd ⟨⟨hr1, hr2⟩, ?_⟩ z1
          unfold fit1
          refine fitP_open _ _ _ (fun i h1 h2 => ?_)
          unfold opn at ho2
          have := List.all_eq_true.mp ho2 i (List.mem_range.mpr (by omega))
          simp only [Bool.or_eq_true, decide_eq_true_iff] at this
          exact this.resolve_left (by omega)
      | false =>
        rw [cnt_loop hc hget ho]
        have hkf' : kf = cK cw (d + 1) (knP kn (bindI kn (i0 cw x)) (d + 1) (cw x.2.1)) xs := hkf
        have hrec := fun (v' : Nat → Nat) (o : OV) (he : ext ov o) (ha' : agr (knP kn (bindI kn (i0 cw x)) (d + 1) (cw x.2.1)) v' o) =>
          cnt_lv hL hys hsf xs (d + 1) (knP kn (bindI kn (i0 cw x)) (d + 1) (cw x.2.1)) (pre ++ [bindI kn (i0 cw x)]) v' o (fun y hy => hxs y (List.mem_cons_of_mem _ hy)) (by rw [hh, List.append_assoc]; rfl) (by rw [List.length_append, hpl]; rfl) (by omega) hkf' (kn_le hkn) ha' (fun y hy m hm hlt => by
            rw [askX_ext he (hal y hy m hm (by omega))]
            exact hpas' y hy m hm hlt)
        have := cntL_lv (Ls := fun _ => L) hx0 hxw ha hrec (rng L (cof v (bindI kn (i0 cw x))) (cof v (bindI kn (i0 cw x)) + 64 ^ (3 - (bindI kn (i0 cw x)).2.2.2.1))) 0 v (fun c hcin => (rng_in hL hcin).2) ha
        rw [Nat.zero_add, ← lvC_rng (n := 1) (Ls := fun _ => L) hL hx0 hxw (by decide) ha] at this
        exact this
end CNT
