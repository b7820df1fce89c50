/-! PURE: deriving with one rule -/
theorem pw_lt {L : List Nat} (h : L.Pairwise (· ≤ ·)) (h2 : L.Nodup) : L.Pairwise (· < ·) := by
  induction L with
  | nil => exact List.Pairwise.nil
  | cons x L ih =>
    obtain ⟨a1, a2⟩ := List.pairwise_cons.mp h
    obtain ⟨b1, b2⟩ := List.nodup_cons.mp h2
    refine List.pairwise_cons.mpr ⟨fun y hy => Nat.lt_of_le_of_ne (a1 y hy) (fun e => b1 (by rw [e]; exact hy)), ih a2 b2⟩
theorem lt_nd {L : List Nat} (h : L.Pairwise (· < ·)) : L.Nodup := h.imp (fun z => Nat.ne_of_lt z)
theorem cds_ins_perm (E : List En) (e : En) : (cds (insE E e)).Perm (e.1 :: cds E) := (insE_perm E e).map _
theorem insE_lt {E : List En} {e : En} (h : (cds E).Pairwise (· < ·)) (hn : e.1 ∉ cds E) : (cds (insE E e)).Pairwise (· < ·) := by
  refine pw_lt ?_ ((cds_ins_perm E e).symm.nodup (List.nodup_cons.mpr ⟨hn, lt_nd h⟩))
  rw [cds_insE]
  exact sorted_ins (pw_le h) _
def CI (L : List Nat) (C : List En) : Prop := (cds C).Pairwise (· < ·) ∧ ∀ c ∈ cds C, c ∉ L
def hC (hd : MI) (o : OV) : Nat := 262144 * hd.2.1 + nbO o hd.2.2
theorem hC_ext {hd : MI} {ov o : OV} (h : ext ov o) (ha : alB ov hd.2.2) : hC hd o = hC hd ov := by
  unfold hC nbO
  rw [gv_ext h (ha 0 (by decide)), gv_ext h (ha 1 (by decide)), gv_ext h (ha 2 (by decide))]
/-- what a search leaves behind -/
def DP (L : List Nat) (ys : List MI) (hd : MI) (num hr d : Nat) (kn : Nat → Nat) (ov : OV) (lv : List OV) (C : List En) (r : DS) : Prop :=
  agr kn r.2.1 ov ∧ CI L r.2.2 ∧ (∀ e ∈ C, e ∈ r.2.2) ∧ (∀ e ∈ r.2.2, e ∈ C ∨ ∃ o ∈ lv, ys.all (askX o L) = true ∧ e = (hC hd o, 0, nI num)) ∧
  (tmc L.length r.2.2 = true ∨ ∀ o ∈ lv, ys.all (askX o L) = true → hC hd o ∈ L ∨ hC hd o ∈ cds r.2.2) ∧ (hr ≤ d → r.1 = true → hC hd ov ∈ L ∨ hC hd ov ∈ cds r.2.2) ∧ (hr ≤ d → r.1 = false → r.2.2 = C)
theorem DP.same {L : List Nat} {ys : List MI} {hd : MI} {num hr d : Nat} {kn v : Nat → Nat} {ov : OV} {lv : List OV} {C : List En} (ha : agr kn v ov) (hC0 : CI L C) (h : ∀ o ∈ lv, ys.all (askX o L) = true → hC hd o ∈ L ∨ hC hd o ∈ cds C) : DP L ys hd num hr d kn ov lv C (false, v, C) :=
  ⟨ha, hC0, fun e he => he, fun e he => Or.inl he, Or.inr h, (fun _ z => by cases z), fun _ _ => rfl⟩
section DVF
variable {cw kf : Nat → Nat} {ys : List MI} {hs : List It} {L Lt : List Nat} {hd : MI} {num hr : Nat} {pv : Int32}
theorem dvL_lv {x : MI} {xs : List MI} {kn v0 : Nat → Nat} {ov : OV} {d : Nat} {f : (Nat → Nat) → List En → DS} {Ls : Nat → List Nat} (h0 : x.1 = 0) (hw : cw x.2.1 ≤ 3) (ha0 : agr kn v0 ov) (hh : hr ≤ d → ∀ o, ext ov o → hC hd o = hC hd ov)
    (hf : ∀ v o C, ext ov o → agr (knP kn (bindI kn (i0 cw x)) (d + 1) (cw x.2.1)) v o → tmc L.length C = false → CI L C → (hr < d + 1 → hC hd o ∉ L ∧ hC hd o ∉ cds C) → DP L ys hd num hr (d + 1) (knP kn (bindI kn (i0 cw x)) (d + 1) (cw x.2.1)) o (lvC cw Ls (d + 1) xs o) C (f v C)) :
    ∀ (cs : List Nat) (v : Nat → Nat) (C : List En), (∀ c ∈ cs, cof v0 (bindI kn (i0 cw x)) ≤ c ∧ c < cof v0 (bindI kn (i0 cw x)) + 64 ^ (3 - (bindI kn (i0 cw x)).2.2.2.1)) → agr kn v ov → tmc L.length C = false → CI L C → (hr ≤ d → hC hd ov ∉ L ∧ hC hd ov ∉ cds C) →
      DP L ys hd num hr d kn ov (cs.flatMap (lvx cw Ls d x xs ov)) C (dvL (bindI kn (i0 cw x)) hr d L.length f cs v C)
  | [], v, C, _, ha, _, hci, _ => DP.same ha hci (fun o ho => by cases ho)
  | c :: cs, v, C, hc, ha, ht, hci, hnk => by
    have hcs : ∀ c ∈ cs, cof v0 (bindI kn (i0 cw x)) ≤ c ∧ c < cof v0 (bindI kn (i0 cw x)) + 64 ^ (3 - (bindI kn (i0 cw x)).2.2.2.1) := fun y hy => hc y (List.mem_cons_of_mem _ hy)
    have hin := hc c List.mem_cons_self
    rw [cof_agr rfl rfl ha0 ha] at hin
    obtain ⟨hk, hl⟩ := lvl (c := c) (n := d + 1) h0 hw (by omega) ha
    have hex : ∀ o ∈ (c :: cs).flatMap (lvx cw Ls d x xs ov), ext ov o := fun o ho => by
      obtain ⟨c', _, h2⟩ := List.mem_flatMap.mp ho
      cases hm : mtC cw x c' ov with
      | none => rw [lvx_none hm] at h2; cases h2
      | some p => rw [lvx_some hm] at h2; exact (mtC_ext hm).tr (lv_ext _ _ _ _ h2)
    unfold dvL
    rcases hl with ⟨_, z1, p, hp, hap⟩ | ⟨z1, z2⟩
    · rw [if_pos z1]
      have hr1 := hf _ _ C (mtC_ext hp) hap ht hci (fun z => by rw [hh (by omega) _ (mtC_ext hp)]; exact hnk (by omega))
      generalize hre : f (fit1 (bindI kn (i0 cw x)) c v).2 C = r1 at hr1 ⊢
      obtain ⟨d1, d2, d3, d4, d5, d6, d7⟩ := hr1
      have hb := ha.back (mtC_ext hp) d1 (fun k hk => by rw [kn_keep h0 hk]; exact hk)
      have hlv : (c :: cs).flatMap (lvx cw Ls d x xs ov) = lvC cw Ls (d + 1) xs p.1 ++ cs.flatMap (lvx cw Ls d x xs ov) := by rw [List.flatMap_cons, lvx_some hp]
      by_cases hex1 : ((r1.1 && decide (hr ≤ d)) || tmc L.length r1.2.2) = true
      · rw [if_pos hex1]
        refine ⟨hb, d2, d3, fun e he => ?_, ?_, fun z1 z2 => ?_, fun z1 z2 => d7 (by omega) z2⟩
        · rcases d4 e he with w | ⟨o, w1, w2, w3⟩
          · exact Or.inl w
          · exact Or.inr ⟨o, by rw [hlv]; exact List.mem_append_left _ w1, w2, w3⟩
        · rcases Bool.or_eq_true_iff.mp hex1 with w | w
          · rw [Bool.and_eq_true, decide_eq_true_iff] at w
            refine Or.inr (fun o ho _ => ?_)
            rw [hh w.2 o (hex o ho), ← hh w.2 _ (mtC_ext hp)]
            exact d6 (by omega) w.1
          · exact Or.inl w
        · rw [← hh z1 _ (mtC_ext hp)]
          exact d6 (by omega) z2
      · rw [if_neg hex1]
        have hno : tmc L.length r1.2.2 = false := by
          cases ht2 : tmc L.length r1.2.2 with
          | false => rfl
          | true => exact absurd (by rw [ht2, Bool.or_true]) hex1
        have hfa : hr ≤ d → r1.1 = false := fun z => by
          cases hb1 : r1.1 with
          | false => rfl
          | true => exact absurd (by rw [hb1, decide_eq_true z]; rfl) hex1
        obtain ⟨e1, e2, e3, e4, e5, e6, e7⟩ := dvL_lv h0 hw ha0 hh hf cs r1.2.1 r1.2.2 hcs hb hno d2 (fun z => by rw [d7 (by omega) (hfa z)]; exact hnk z)
        refine ⟨e1, e2, fun e he => e3 e (d3 e he), fun e he => ?_, ?_, e6, fun z1 z2 => by rw [e7 z1 z2]; exact d7 (by omega) (hfa z1)⟩
        · rcases e4 e he with w | ⟨o, w1, w2, w3⟩
          · rcases d4 e w with w | ⟨o, w1, w2, w3⟩
            · exact Or.inl w
            · exact Or.inr ⟨o, by rw [hlv]; exact List.mem_append_left _ w1, w2, w3⟩
          · exact Or.inr ⟨o, by rw [hlv]; exact List.mem_append_right _ w1, w2, w3⟩
        · rcases e5 with w | w
          · exact Or.inl w
          · refine Or.inr (fun o ho hq => ?_)
            rw [hlv] at ho
            rcases List.mem_append.mp ho with ho | ho
            · rcases d5 with w5 | w5
              · rw [hno] at w5; cases w5
              · rcases w5 o ho hq with g | g
                · exact Or.inl g
                · obtain ⟨e, he, hee⟩ := List.mem_map.mp g
                  exact Or.inr (List.mem_map.mpr ⟨e, e3 e he, hee⟩)
            · exact w o ho hq
    · have hz : ¬ (fit1 (bindI kn (i0 cw x)) c v).1 = true := fun z => z1 ⟨hin, z⟩
      rw [if_neg hz, List.flatMap_cons, lvx_none z2]
      exact dvL_lv h0 hw ha0 hh hf cs _ C hcs hk ht hci hnk
theorem dvF_lv (hL : L.Pairwise (· ≤ ·)) (hLt : Lt.Pairwise (· ≤ ·)) (hys : ∀ y ∈ ys, y.1 ≠ 0 ∧ yOK cw y) (hsf : ∀ y ∈ ys, ∃ m, rdO kf (i0 cw y) = some m) (hhd : yOK cw hd) (hhr : rdO kf (i0 cw hd) = some hr) :
    ∀ (xs : List MI) (d : Nat) (kn : Nat → Nat) (pre : List It) (v : Nat → Nat) (ov : OV) (C : List En), (∀ x ∈ xs, x.1 = 0 ∧ cw x.2.1 ≤ 3) → hs = pre ++ cH cw d kn xs → pre.length = d → d + xs.length ≤ 3 → kf = cK cw d kn xs → (∀ k, kn k ≤ d) → agr kn v ov → (∀ y ∈ ys, ∀ m, rdO kf (i0 cw y) = some m → m < d → askX ov L y = true) → tmc L.length C = false → CI L C → (hr < d → hC hd ov ∉ L ∧ hC hd ov ∉ cds C) →
      DP L ys hd num hr d kn ov (lvC cw (fun d => if nI d = pv then Lt else L) d xs ov) C (dvF L Lt num (kI cw kf hd, hs, ys.map (kI cw kf)) hr pv xs.length d v C) := by
  intro xs
  induction xs with
  | nil =>
    intro d kn pre v ov C hxs hh hpl h3 hkf hkn ha hpas ht hci hnk
    have hkr := cK_kr (cw := cw) [] d kn (fun x hx => by cases hx) hkn
    rw [← hkf] at hkr
    have hle := cK_le (cw := cw) [] d kn hkn
    rw [← hkf] at hle
    have hd3 : d ≤ 3 := by simpa using h3
    have hck := chk_iff (L := L) hys ha hkr hsf hle hd3 hd3
    have hall : chk v L (ys.map (kI cw kf)) d = ys.all (askX ov L) := by
      rw [Bool.eq_iff_iff, hck, List.all_eq_true]
      refine ⟨fun h y hy => ?_, fun h y hy _ => h y hy⟩
      obtain ⟨m, hm⟩ := hsf y hy
      have hmd : m ≤ d := rdP_bd hle _ m hm
      rcases Nat.lt_or_ge m d with e | e
      · exact hpas y hy m hm e
      · exact h y hy (by rw [hm]; congr 1; omega)
    have hhd2 : hr ≤ d := rdP_bd hle _ hr hhr
    have hcd : cof v (kI cw kf hd) = hC hd ov := cof_i0 (vals_known hhd (known_at ha hkr hhr hhd2)).2
    have hone : ∀ o ∈ lvC cw (fun d => if nI d = pv then Lt else L) d [] ov, o = ov := fun o ho => List.mem_singleton.mp ho
    by_cases hkw : d = hr ∧ kwn L C (cof v (kI cw kf hd)) = true
    · rw [dvF_known (R := (kI cw kf hd, hs, ys.map (kI cw kf))) hkw.1 hkw.2]
      have hkn2 : hC hd ov ∈ L ∨ hC hd ov ∈ cds C := by
        have := hkw.2
        unfold kwn at this
        rw [hcd, Bool.or_eq_true, decide_eq_true_iff, decide_eq_true_iff] at this
        exact this
      exact ⟨ha, hci, fun e he => he, fun e he => Or.inl he, Or.inr (fun o ho _ => by rw [hone o ho]; exact hkn2), fun _ _ => hkn2, (fun _ z => by cases z)⟩
    · have hkw2 : ¬ d = hr ∨ kwn L C (cof v (kI cw kf hd)) = false := by
        by_cases e : d = hr
        · refine Or.inr ?_
          cases hq : kwn L C (cof v (kI cw kf hd)) with
          | false => rfl
          | true => exact absurd ⟨e, hq⟩ hkw
        · exact Or.inl e
      cases hc : chk v L (ys.map (kI cw kf)) d with
      | false =>
        rw [dvF_no (R := (kI cw kf hd, hs, ys.map (kI cw kf))) hkw2 hc]
        refine DP.same ha hci (fun o ho hq => ?_)
        rw [hone o ho, ← hall, hc] at hq; cases hq
      | true =>
        rw [List.length_nil, dvF_end (R := (kI cw kf hd, hs, ys.map (kI cw kf))) hkw2 hc]
        have hn : hC hd ov ∉ L ∧ hC hd ov ∉ cds C := by
          rcases Nat.lt_or_ge hr d with e | e
          · exact hnk e
          · rcases hkw2 with w | w
            · omega
            · unfold kwn at w
              rw [hcd, Bool.or_eq_false_iff, decide_eq_false_iff_not, decide_eq_false_iff_not] at w
              exact w
        have hi : insG C (cof v (kI cw kf hd), 0, nI num) = insE C (hC hd ov, 0, nI num) := by
          unfold insG
          unfold tmc at ht
          rw [if_pos (by rw [decide_eq_false_iff_not] at ht; omega), hcd]
        show DP L ys hd num hr d kn ov _ C (true, v, insG C (cof v (kI cw kf hd), 0, nI num))
        rw [hi]
        have hin : hC hd ov ∈ cds (insE C (hC hd ov, 0, nI num)) := List.mem_map.mpr ⟨_, insE_mem.mpr (Or.inl rfl), rfl⟩
        refine ⟨ha, ⟨insE_lt hci.1 hn.2, fun c hc => ?_⟩, fun e he => insE_mem.mpr (Or.inr he), fun e he => ?_, Or.inr (fun o ho _ => by rw [hone o ho]; exact Or.inr hin), fun _ _ => Or.inr hin, (fun _ z => by cases z)⟩
        · rcases List.mem_cons.mp ((cds_ins_perm _ _).mem_iff.mp hc) with e | e
          · rw [e]; exact hn.1
          · exact hci.2 c e
        · rcases insE_mem.mp he with e | e
          · exact Or.inr ⟨ov, List.mem_singleton.mpr rfl, by rw [← hall, hc], e⟩
          · exact Or.inl e
  | cons x xs ih =>
    intro d kn pre v ov C hxs hh hpl h3 hkf hkn ha hpas ht hci hnk
    obtain ⟨hx0, hxw⟩ := hxs x List.mem_cons_self
    have hxs0 : ∀ y ∈ x :: xs, y.1 = 0 := fun y hy => (hxs y hy).1
    have hkr := cK_kr (cw := cw) (x :: xs) d kn hxs0 hkn
    rw [← hkf] at hkr
    have hle := cK_le (cw := cw) (x :: xs) d kn hkn
    rw [← hkf] at hle
    rw [List.length_cons] at h3 hle
    have hck := chk_iff (L := L) hys ha hkr hsf hle h3 (by omega)
    have hal : ∀ y ∈ ys, ∀ m, rdO kf (i0 cw y) = some m → m ≤ d → alB ov y.2.2 := fun y hy m hm hd => (vals_known (hys y hy).2 (known_at ha hkr hm hd)).1
    have hheq : hr ≤ d → ∀ o, ext ov o → hC hd o = hC hd ov := fun hd2 o ho => hC_ext ho (vals_known hhd (known_at ha hkr hhr hd2)).1
    have hcd : hr ≤ d → cof v (kI cw kf hd) = hC hd ov := fun hd2 => cof_i0 (vals_known hhd (known_at ha hkr hhr hd2)).2
    have hget : hs[d]? = some (bindI kn (i0 cw x)) := by
      rw [hh, List.getElem?_append_right (by omega), hpl, Nat.sub_self]; rfl
    rw [List.length_cons]
    by_cases hkw : d = hr ∧ kwn L C (cof v (kI cw kf hd)) = true
    · rw [dvF_known (R := (kI cw kf hd, hs, ys.map (kI cw kf))) hkw.1 hkw.2]
      have hd2 : hr ≤ d := by omega
      have hkn2 : hC hd ov ∈ L ∨ hC hd ov ∈ cds C := by
        have := hkw.2
        unfold kwn at this
        rw [hcd hd2, Bool.or_eq_true, decide_eq_true_iff, decide_eq_true_iff] at this
        exact this
      exact ⟨ha, hci, fun e he => he, fun e he => Or.inl he, Or.inr (fun o ho _ => by rw [hheq hd2 o (lv_ext _ _ _ _ ho)]; exact hkn2), fun _ _ => hkn2, (fun _ z => by cases z)⟩
    · have hkw2 : ¬ d = hr ∨ kwn L C (cof v (kI cw kf hd)) = false := by
        by_cases e : d = hr
        · refine Or.inr ?_
          cases hq : kwn L C (cof v (kI cw kf hd)) with
          | false => rfl
          | true => exact absurd ⟨e, hq⟩ hkw
        · exact Or.inl e
      cases hc : chk v L (ys.map (kI cw kf)) d with
      | false =>
        rw [dvF_no (R := (kI cw kf hd, hs, ys.map (kI cw kf))) hkw2 hc]
        refine DP.same ha hci (fun o ho hall => ?_)
        have : ¬ ∀ y ∈ ys, rdO kf (i0 cw y) = some d → askX ov L y = true := fun z => by rw [hck.mpr z] at hc; cases hc
        refine absurd (fun y hy hd2 => ?_) this
        rw [← askX_ext (lv_ext _ _ _ _ ho) (hal y hy d hd2 (Nat.le_refl _))]
        exact List.all_eq_true.mp hall y hy
      | true =>
        have hpas' : ∀ y ∈ ys, ∀ m, rdO kf (i0 cw y) = some m → m < d + 1 → askX ov L y = true := fun y hy m hm hlt => by
          rcases Nat.lt_or_ge m d with e | e
          · exact hpas y hy m hm e
          · exact hck.mp hc y hy (by rw [hm]; congr 1; omega)
        have hn : hr ≤ d → hC hd ov ∉ L ∧ hC hd ov ∉ cds C := fun hd2 => by
          rcases Nat.lt_or_ge hr d with e | e
          · exact hnk e
          · rcases hkw2 with w | w
            · omega
            · unfold kwn at w
              rw [hcd hd2, Bool.or_eq_false_iff, decide_eq_false_iff_not, decide_eq_false_iff_not] at w
              exact w
        have hLs : (if nI d = pv then Lt else L).Pairwise (· ≤ ·) := by split <;> assumption
        have hkf' : kf = cK cw (d + 1) (knP kn (bindI kn (i0 cw x)) (d + 1) (cw x.2.1)) xs := hkf
        have hrec := fun (v' : Nat → Nat) (o : OV) (C' : List En) (he : ext ov o) (ha' : agr (knP kn (bindI kn (i0 cw x)) (d + 1) (cw x.2.1)) v' o) (ht' : tmc L.length C' = false) (hci' : CI L C') (hnk' : hr < d + 1 → hC hd o ∉ L ∧ hC hd o ∉ cds C') =>
          ih (d + 1) (knP kn (bindI kn (i0 cw x)) (d + 1) (cw x.2.1)) (pre ++ [bindI kn (i0 cw x)]) v' o C' (fun y hy => hxs y (List.mem_cons_of_mem _ hy)) (by rw [hh, List.append_assoc]; rfl) (by rw [List.length_append, hpl]; rfl) (by omega) hkf' (kn_le hkn) ha' (fun y hy m hm hlt => by
            rw [askX_ext he (hal y hy m hm (by omega))]
            exact hpas' y hy m hm hlt) ht' hci' hnk'
        have key := dvL_lv hx0 hxw ha hheq hrec (rng (if nI d = pv then Lt else L) (cof v (bindI kn (i0 cw x))) (cof v (bindI kn (i0 cw x)) + 64 ^ (3 - (bindI kn (i0 cw x)).2.2.2.1))) v C (fun c hcin => (rng_in hLs hcin).2) ha ht hci hn
        rw [← lvC_rng (n := 1) (Ls := fun d => if nI d = pv then Lt else L) hLs hx0 hxw (by decide) ha] at key
        rw [dvF_loop (R := (kI cw kf hd, hs, ys.map (kI cw kf))) (t := bindI kn (i0 cw x)) hkw2 hc hget rfl]
        exact key
end DVF
