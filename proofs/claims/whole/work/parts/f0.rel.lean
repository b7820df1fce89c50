/-! PURE: the relation between the two, and what each call does to it -/
def snR (nr : Nat) (cw : Nat → Nat) (E : List En) (Lt : List Nat) (sa : Nat) (QM : List MR) : Prop := Lt.Pairwise (· ≤ ·) ∧ (∀ c ∈ Lt, c ∈ cds E) ∧ ∀ R ∈ QM, (mfs QM nr).1 R.1.1 = sa → ∀ c, HD cw R (fun _ => (cds E).filter (fun c => !decide (c ∈ Lt))) (cds E) c → c ∈ cds E
def rel : RLT := fun nr cw Q E Lt sa nw rc fc dr F T QM drM =>
  (nr ≤ 12 ∧ ∀ r, r < nr → 1 ≤ cw r ∧ cw r ≤ 3) ∧ (tpR nr cw E F T ∧ fc = F.length) ∧ (Q = QM.map (rlO cw) ∧ ∀ R ∈ QM, rOK nr cw R ∧ sfJ R 3 = true) ∧ drR nr cw dr drM ∧
  ((mok QM nr = true → sa ≤ mxS (mfs QM nr).1 nr) ∧ (mok QM nr = false → sa = 0) ∧ rc ≤ T.length + sa) ∧ (nw = false → snR nr cw E Lt sa QM)
theorem rel_init : rel 0 (fun _ => 0) [] [] [] 0 true 0 0 none [] [] [] none :=
  ⟨⟨by decide, fun r hr => by omega⟩, ⟨⟨List.Perm.refl _, List.Pairwise.nil, by decide, List.nodup_nil, ⟨[], rfl, fun x hx => by cases hx⟩, fun x hx => by cases hx⟩, rfl⟩, ⟨rfl, fun R hR => by cases hR⟩, trivial, ⟨fun _ => Nat.zero_le _, fun _ => rfl, Nat.le_refl _⟩, fun z => by cases z⟩
theorem rQ {nr : Nat} {cw : Nat → Nat} {QM : List MR} (h : ∀ R ∈ QM, rOK nr cw R ∧ sfJ R 3 = true) : ∀ R ∈ QM, R.1.1 < nr ∧ ∀ x ∈ R.2, x.1 < 2 → x.2.1 < nr := fun R hR => ⟨(h R hR).1.1, fun x hx => ((h R hR).1.2.2.2.2.2 x hx).2.1⟩
theorem mxS_12 {nr : Nat} {cw : Nat → Nat} {QM : List MR} (hn : nr ≤ 12) (h : ∀ R ∈ QM, rOK nr cw R ∧ sfJ R 3 = true) (hm : mok QM nr = true) : mxS (mfs QM nr).1 nr ≤ 13 := by
  have := ((strata_eq (cw := cw) (rQ h)).2 hm).2
  exact mxS_le (B := 12) nr (fun j hj => by have := this j hj; omega)
theorem clM_nb {a b c j : Nat} (ha : a < 64) (hb : b < 64) (hc : c < 64) (hj : j < 3) : clM (a * 4096 + b * 64 + c) j = t3 (a, b, c) j := by
  unfold clM t3
  rcases (show j = 0 ∨ j = 1 ∨ j = 2 by omega) with rfl | rfl | rfl
  · rw [if_pos rfl, if_pos rfl]; show _ = a; omega
  · rw [if_neg (by decide), if_pos rfl, if_neg (by decide), if_pos rfl]; show _ = b; omega
  · rw [if_neg (by decide), if_neg (by decide), if_neg (by decide), if_neg (by decide)]; show _ = c; omega
theorem mok_or (QM : List MR) (nr : Nat) : mok QM nr = true ∨ mok QM nr = false := by cases mok QM nr <;> simp
theorem c_pe0 : pe0 rel := by
  intro nr cw Q E Lt sa nw rc fc dr F T QM drM ⟨⟨hn, hcw⟩, ⟨ht, hfc⟩, ⟨hQ, hR⟩, hdr, ⟨s1, s2, s3⟩, hsn⟩
  have hT := ht.2.2.1
  have hsa : sa ≤ 13 := by
    rcases mok_or QM nr with z | z
    · exact Nat.le_trans (s1 z) (mxS_12 hn hR z)
    · rw [s2 z]; decide
  refine ⟨ht.2.1, by rw [hfc]; exact ht.kl, hfc, by omega, by omega, fun R hm => ⟨(hR R hm).2, fun y hy h0 j hj hj3 => ?_⟩, by rw [hQ, List.length_map], ?_, s1, ?_⟩
  · have := ((hR R hm).1.2.2.2.2.2 y hy).1.2.2 j (by unfold iW; rw [if_pos (by omega)]; exact hj) hj3
    rw [this]; decide
  · unfold msM
    dsimp only
    rcases mok_or QM nr with z | z
    · have := mxS_12 hn hR z
      rw [if_pos z]; omega
    · rw [if_neg (by rw [z]; decide)]; omega
  · cases dr with
    | none =>
      cases drM with
      | none => exact ⟨fun _ => rfl, fun _ => rfl⟩
      | some R => exact hdr.elim
    | some D =>
      cases drM with
      | none => exact hdr.elim
      | some R => exact ⟨(fun z => by cases z), (fun z => by cases z)⟩
theorem c_relation : pe_relation rel := by
  intro nr cw Q E Lt sa nw rc fc dr F T QM drM ⟨⟨hn, hcw⟩, ⟨ht, hfc⟩, ⟨hQ, hR⟩, hdr, ⟨s1, s2, s3⟩, hsn⟩ wd hw h1 h3
  have hc : ∀ r, r < nr → va_up cw nr wd r = cw r := fun r hr => by unfold va_up; rw [if_neg (by omega)]
  refine ⟨⟨hw, fun r hr => ?_⟩, ⟨ht.reset.wk (by omega) hc, hfc⟩, ⟨?_, fun R hm => ⟨rOK_cg (by omega) hc (hR R hm).1, (hR R hm).2⟩⟩, drR_cg (by omega) hc hdr, ⟨fun _ => Nat.zero_le _, fun _ => rfl, Nat.zero_le _⟩, fun z => by cases z⟩
  · by_cases e : r = nr
    · rw [e]; unfold va_up; rw [if_pos rfl]; exact ⟨h1, h3⟩
    · rw [hc r (by omega)]; exact hcw r (by omega)
  · rw [hQ]
    refine List.map_congr_left (fun R hm => ?_)
    rw [rlO_cg hc (hR R hm).1]
theorem c_in : pe_in rel := by
  intro nr cw Q E Lt sa nw rc fc dr F T QM drM ⟨⟨hn, hcw⟩, ⟨ht, hfc⟩, ⟨hQ, hR⟩, hdr, ⟨s1, s2, s3⟩, hsn⟩ rl a b cz hr ha hb hz hw
  rw [cd_eq, fIx_iff]
  exact ht.inF (by omega)
theorem c_fact : pe_fact rel := by
  intro nr cw Q E Lt sa nw rc fc dr F T QM drM ⟨⟨hn, hcw⟩, ⟨ht, hfc⟩, ⟨hQ, hR⟩, hdr, ⟨s1, s2, s3⟩, hsn⟩ rl a b cz hr ha hb hz hw hnew hl
  rw [cd_eq]
  have hnf : (rl, a * 4096 + b * 64 + cz) ∉ F := fun z => hnew (fIx_iff.mpr z)
  refine ⟨⟨hn, hcw⟩, ⟨ht.fact hr (by omega) (fun j hj hj3 => ?_) hnf hl, by rw [List.length_append, hfc]; rfl⟩, ⟨hQ, hR⟩, hdr, ⟨fun _ => Nat.zero_le _, fun _ => rfl, Nat.zero_le _⟩, fun z => by cases z⟩
  rw [clM_nb ha hb hz hj3]
  exact wi3_0 (by omega) (by omega) (by omega) (hcw rl hr).1 hw j hj hj3
theorem c_drop : pe_drop rel := by
  intro nr cw Q E Lt sa nw rc fc dr F T QM drM ⟨⟨hn, hcw⟩, ⟨ht, hfc⟩, ⟨hQ, hR⟩, hdr, ⟨s1, s2, s3⟩, hsn⟩ rl a b cz hr ha hb hz hw hin
  rw [cd_eq]
  have hf := fIx_iff.mp hin
  exact ⟨⟨hn, hcw⟩, ⟨ht.drop hf, by rw [dlF_len hin, hfc]⟩, ⟨hQ, hR⟩, hdr, ⟨fun _ => Nat.zero_le _, fun _ => rfl, Nat.zero_le _⟩, fun z => by cases z⟩
theorem c_head : pe_head rel := by
  intro nr cw Q E Lt sa nw rc fc dr F T QM drM ⟨h1, h2, h3, hdr, h5, h6⟩ rl a b cz hr ha hb hz hw
  refine ⟨h1, h2, h3, ⟨⟨hr, t3_72 ha hb hz, yOK_01 (by decide) (h1.2 rl hr) ha hb hz hw, (show 0 ≤ 6 by decide), (show 0 ≤ 3 by decide), (fun x hx => by cases hx)⟩, rfl, rfl, rfl, rfl⟩, h5, h6⟩
theorem c_len : pe_len rel := by
  intro nr cw Q E Lt sa nw rc fc th hs ks kn F T QM R ⟨h1, h2, h3, hdr, h5, h6⟩
  obtain ⟨d1, d2, d3, d4, d5⟩ := hdr
  have d3 : hs = rH cw R := d3
  have d4 : ks.map (fun t => wR t (nI 0)) = (rY R).map (i0 cw) := d4
  have e1 : hs.length = (hls R).length := by rw [d3]; exact cH_len _ _ _
  have e2 : ks.length = (rY R).length := by
    have := congrArg List.length d4
    rw [List.length_map, List.length_map] at this
    exact this
  refine ⟨e1, ?_⟩
  rw [e1, e2]
  have := (List.filter_append_perm (fun x : MI => decide (x.1 = 0)) R.2).length_eq
  rw [List.length_append] at this
  exact this
theorem c_item_h : pe_item_h rel := by
  intro nr cw Q E Lt sa nw rc fc th hs ks kn F T QM R ⟨h1, h2, h3, hdr, h5, h6⟩ rl a b cz hr ha hb hz hw hl hl3
  obtain ⟨d1, d2, d3, d4, d5⟩ := hdr
  have d2 : wR th (nI 0) = i0 cw (hdI R) := d2
  have d3 : hs = rH cw R := d3
  have d4 : ks.map (fun t => wR t (nI 0)) = (rY R).map (i0 cw) := d4
  have d5 : kn = rK cw R := d5
  have e1 : hs.length = (hls R).length := by rw [d3]; exact cH_len _ _ _
  obtain ⟨g1, g2⟩ := hls_snoc0 (R := R) (x := (0, rl, a, b, cz)) rfl
  obtain ⟨c1, c2⟩ := cH_snoc (cw := cw) (x := (0, rl, a, b, cz)) (hls R) 0 (fun _ => 0)
  refine ⟨h1, h2, h3, ⟨rOK_snoc d1 hl (Or.inr hl3) (yOK_01 (by decide) (h1.2 rl hr) ha hb hz hw) (fun _ => hr) (t3_72 ha hb hz), d2, ?_, ?_, ?_⟩, h5, h6⟩
  · show hs ++ [_] = cH cw 0 (fun _ => 0) (hls (R.1, R.2 ++ [(0, rl, a, b, cz)]))
    rw [g1, c1, d3, d5]; rfl
  · show ks.map _ = (rY (R.1, R.2 ++ [(0, rl, a, b, cz)])).map (i0 cw)
    rw [g2, d4]
  · show knP kn _ _ _ = cK cw 0 (fun _ => 0) (hls (R.1, R.2 ++ [(0, rl, a, b, cz)]))
    rw [g1, c2, d5, e1, Nat.zero_add]; rfl
theorem dr_snoc1 {nr : Nat} {cw : Nat → Nat} {th : It} {hs ks : List It} {kn : Nat → Nat} {R : MR} {x : MI} (h : drR nr cw (some (th, hs, ks, kn)) (some R)) (hx : x.1 ≠ 0) (hok : rOK nr cw (R.1, R.2 ++ [x])) : drR nr cw (some (th, hs, ks ++ [i0 cw x], kn)) (some (R.1, R.2 ++ [x])) := by
  obtain ⟨d1, d2, d3, d4, d5⟩ := h
  obtain ⟨g1, g2⟩ := hls_snoc1 (R := R) hx
  refine ⟨hok, d2, ?_, ?_, ?_⟩
  · show hs = cH cw 0 (fun _ => 0) (hls (R.1, R.2 ++ [x]))
    rw [g1]; exact d3
  · show (ks ++ [i0 cw x]).map _ = (rY (R.1, R.2 ++ [x])).map (i0 cw)
    rw [g2, List.map_append, List.map_append]
    have d4 : ks.map (fun t => wR t (nI 0)) = (rY R).map (i0 cw) := d4
    rw [d4]; rfl
  · show kn = cK cw 0 (fun _ => 0) (hls (R.1, R.2 ++ [x]))
    rw [g1]; exact d5
theorem c_item_n : pe_item_n rel := by
  intro nr cw Q E Lt sa nw rc fc th hs ks kn F T QM R ⟨h1, h2, h3, hdr, h5, h6⟩ rl a b cz hr ha hb hz hw hl
  exact ⟨h1, h2, h3, dr_snoc1 (x := (1, rl, a, b, cz)) hdr (show (1 : Nat) ≠ 0 by decide) (rOK_snoc hdr.1 hl (Or.inl (show (1 : Nat) ≠ 0 by decide)) (yOK_01 (by decide) (h1.2 rl hr) ha hb hz hw) (fun _ => hr) (t3_72 ha hb hz)), h5, h6⟩
theorem c_item_c : pe_item_c rel := by
  intro nr cw Q E Lt sa nw rc fc th hs ks kn F T QM R ⟨h1, h2, h3, hdr, h5, h6⟩ kd a b cz hk ha hb hz hw hl
  have k0 : kd ≠ 0 := by omega
  have k2 : ¬ kd < 2 := by omega
  have key := dr_snoc1 (x := (kd, 0, a, b, cz)) hdr k0 (rOK_snoc hdr.1 hl (Or.inl k0) (yOK_23 hk ha hb hz hw) (fun z => absurd z k2) (t3_72 ha hb hz))
  have ei : i0 cw (kd, 0, a, b, cz) = ((kd, 0, 2), (a, b, cz), (0, 2, nI 0)) := by
    unfold i0 iW
    rw [if_neg k2]
  rw [ei] at key
  exact ⟨h1, h2, h3, key, h5, h6⟩
theorem c_safe : pe_safe rel := by
  intro nr cw Q E Lt sa nw rc fc th hs ks kn F T QM R ⟨h1, h2, h3, hdr, h5, h6⟩
  exact safe_eq hdr
theorem c_rule : pe_rule rel := by
  intro nr cw Q E Lt sa nw rc fc th hs ks kn F T QM R ⟨h1, ⟨ht, hfc⟩, ⟨hQ, hR⟩, hdr, h5, h6⟩ hs0 hl
  refine ⟨h1, ⟨ht.reset, hfc⟩, ⟨?_, fun R' hm => ?_⟩, trivial, ⟨fun _ => Nat.zero_le _, fun _ => rfl, Nat.zero_le _⟩, fun z => by cases z⟩
  · rw [hQ, stl_rlO hdr, List.map_append]; rfl
  · rcases List.mem_append.mp hm with z | z
    · exact hR R' z
    · rw [List.mem_singleton.mp z]
      exact ⟨hdr.1, by rw [← safe_eq hdr]; exact hs0⟩
theorem c_rule_u : pe_rule_u rel := by
  intro nr cw Q E Lt sa nw rc fc th hs ks kn F T QM R ⟨h1, h2, h3, hdr, h5, h6⟩ hs0
  obtain ⟨d1, d2, d3, d4, d5⟩ := hdr
  refine ⟨h1, h2, h3, ⟨d1, d2, d3, ?_, d5⟩, h5, h6⟩
  show (ks.map (fun t => wR t (rdI (rdO kn t)))).map (fun t => wR t (nI 0)) = _
  rw [List.map_map]
  exact d4
theorem scI_eq {nr : Nat} {cw : Nat → Nat} {QM : List MR} (hR : ∀ R ∈ QM, rOK nr cw R ∧ sfJ R 3 = true) : scI (QM.map (rlO cw)) nr = (if mok QM nr = true then nI (mxS (mfs QM nr).1 nr) else -3) := by
  obtain ⟨a, b⟩ := strata_eq (cw := cw) (rQ hR)
  unfold scI
  rcases mok_or QM nr with z | z
  · rw [if_pos z, a.mpr z, if_neg (by decide), (b z).1]
  · rw [if_neg (show ¬ mok QM nr = true by rw [z]; decide)]
    cases hq : (fst (QM.map (rlO cw)) nr).2 with
    | false => rw [a.mp hq] at z; cases z
    | true => rw [if_pos rfl]
theorem c_strata : pe_strata rel := by
  intro nr cw Q E Lt sa nw rc fc dr F T QM drM ⟨⟨hn, hcw⟩, ⟨ht, hfc⟩, ⟨hQ, hR⟩, hdr, ⟨s1, s2, s3⟩, hsn⟩
  refine ⟨by rw [hQ]; exact scI_eq hR, fun z => ?_⟩
  have := mxS_12 hn hR z
  omega
theorem c_stratum : pe_stratum rel := by
  intro nr cw Q E Lt sa nw rc fc dr F T QM drM ⟨⟨hn, hcw⟩, ⟨ht, hfc⟩, ⟨hQ, hR⟩, hdr, ⟨s1, s2, s3⟩, hsn⟩ hm rl hr
  rw [hQ, ((strata_eq (cw := cw) (rQ hR)).2 hm).1]
theorem c_count : pe_count rel := by
  intro nr cw Q E Lt sa nw rc fc dr F T QM drM ⟨⟨hn, hcw⟩, ⟨ht, hfc⟩, _⟩ rl hr
  exact ht.cnt hn hr
theorem c_has : pe_has rel := by
  intro nr cw Q E Lt sa nw rc fc dr F T QM drM ⟨⟨hn, hcw⟩, ⟨ht, hfc⟩, _⟩ rl a b cz hr ha hb hz hw
  rw [cd_eq]
  exact ht.mem _
theorem c_tuple : pe_tuple rel := by
  intro nr cw Q E Lt sa nw rc fc dr F T QM drM ⟨⟨hn, hcw⟩, ⟨ht, hfc⟩, _⟩ rl hr
  exact ht.tuple hn hr
theorem c_like : pe_like rel := by
  intro nr cw Q E Lt sa nw rc fc dr F T QM drM ⟨⟨hn, hcw⟩, ⟨ht, hfc⟩, _⟩ rl a b cz hr ha hb hz hw v
  exact like_eq ht (hcw rl hr).1 (hcw rl hr).2 (wi3_0 ha hb hz (hcw rl hr).1 hw) v
theorem c_matches : pe_matches rel := by
  intro nr cw Q E Lt sa nw rc fc dr F T QM drM ⟨⟨hn, hcw⟩, ⟨ht, hfc⟩, ⟨hQ, hR⟩, hdr, ⟨s1, s2, s3⟩, hsn⟩ q RC RM v h1 h2
  rw [hQ, List.getElem?_map, h2] at h1
  cases h1
  obtain ⟨r1, r2⟩ := hR RM (List.mem_of_getElem? h2)
  exact matches_eq ht r1 (rSF_of r1 r2) v
