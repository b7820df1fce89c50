/-! PURE: one round and the run -/
theorem clE_perm (rc : Nat) : ∀ (C E : List En), (clE rc E C).Perm (C.map (fun e => ((e.1, rc, e.2.2) : En)) ++ E)
  | [], E => List.Perm.refl _
  | e :: C, E => by
    show (clE rc (insE E (e.1, rc, e.2.2)) C).Perm _
    refine (clE_perm rc C _).trans ?_
    rw [List.map_cons, List.cons_append]
    exact ((insE_perm E (e.1, rc, e.2.2)).append_left _).trans List.perm_middle
theorem clE_lt (rc : Nat) : ∀ (C E : List En), (cds C).Nodup → (∀ c ∈ cds C, c ∉ cds E) → (cds E).Pairwise (· < ·) → (cds (clE rc E C)).Pairwise (· < ·)
  | [], E, _, _, h => h
  | e :: C, E, hn, hd, h => by
    have hn' : e.1 ∉ cds C ∧ (cds C).Nodup := List.nodup_cons.mp hn
    show (cds (clE rc (insE E (e.1, rc, e.2.2)) C)).Pairwise (· < ·)
    refine clE_lt rc C _ hn'.2 (fun c hc z => ?_) (insE_lt h (hd e.1 List.mem_cons_self))
    rcases List.mem_cons.mp ((cds_ins_perm E (e.1, rc, e.2.2)).mem_iff.mp z) with w | w
    · rw [w] at hc; exact hn'.1 hc
    · exact hd c (List.mem_cons_of_mem _ hc) w
theorem clE_mem (rc : Nat) (C E : List En) (c : Nat) : c ∈ cds (clE rc E C) ↔ c ∈ cds C ∨ c ∈ cds E := by
  have h : (cds (clE rc E C)).Perm (cds (C.map (fun e => ((e.1, rc, e.2.2) : En)) ++ E)) := (clE_perm rc C E).map _
  have e : cds (C.map (fun e => ((e.1, rc, e.2.2) : En)) ++ E) = cds C ++ cds E := by
    show List.map _ _ = _
    rw [List.map_append, List.map_map]; rfl
  rw [h.mem_iff, e, List.mem_append]
theorem askX_anti {o : OV} {P P' : List Nat} (h : ∀ c ∈ P, c ∈ P') {y : MI} (hy : askX o P' y = true) : askX o P y = true := by
  unfold askX at hy ⊢
  by_cases e : y.1 = 1
  · rw [if_pos e] at hy ⊢
    rw [Bool.not_eq_true', decide_eq_false_iff_not] at hy ⊢
    exact fun z => hy (h _ z)
  · rw [if_neg e] at hy ⊢
    exact hy
theorem nd_of {α : Type} {f : α → Nat} {l : List α} (h : (l.map f).Nodup) : l.Nodup := (List.pairwise_map.mp h).imp (fun hne he => hne (by rw [he]))
theorem cn_perm {C : List En} {N : List MT} (hC : (cds C).Nodup) (hN : (tcs N).Nodup) (h : ∀ e, e ∈ C ↔ ∃ x ∈ N, e = enC x) : C.Perm (N.map enC) := by
  have n2 : (N.map enC).Nodup := by
    refine nd_of (f := fun e : En => e.1) ?_
    rw [List.map_map]; exact hN
  rw [List.perm_ext_iff_of_nodup (nd_of hC) n2]
  intro e
  rw [h e, List.mem_map]
  exact ⟨fun ⟨x, a, b⟩ => ⟨x, a, b.symm⟩, fun ⟨x, a, b⟩ => ⟨x, a, b.symm⟩⟩
theorem tpR.round {nr : Nat} {cw : Nat → Nat} {E : List En} {F : List (Nat × Nat)} {T : List MT} (h : tpR nr cw E F T) {rc : Nat} {C : List En} {N : List MT} (hC : CI (cds E) C) (hF : FI T N) (h5 : ∀ e, e ∈ C ↔ ∃ x ∈ N, e = enC x) (h6 : ∀ x ∈ N, gdN nr cw rc x) : C.length = N.length ∧ tpR nr cw (clE (rc + 1) E C) F (T ++ N) := by
  obtain ⟨t1, t2, t9, t4, ⟨M, t5, t6⟩, t7⟩ := h
  have hp := cn_perm (lt_nd hC.1) hF.1 h5
  have e1 : (N.map enC).map (fun e => ((e.1, rc + 1, e.2.2) : En)) = N.map enT := by
    rw [List.map_map]
    refine List.map_congr_left (fun x hx => ?_)
    have := (h6 x hx).2.2.1
    show ((262144 * x.1 + x.2.1, rc + 1, x.2.2.2) : En) = (262144 * x.1 + x.2.1, x.2.2.1, x.2.2.2)
    rw [this]
  refine ⟨by rw [hp.length_eq, List.length_map], ?_, clE_lt _ _ _ (lt_nd hC.1) hC.2 t2, ?_, t4, ⟨M ++ N, by rw [t5, List.append_assoc], fun x hx => ?_⟩, fun x hx => ?_⟩
  · refine (clE_perm (rc + 1) C E).trans ?_
    rw [List.map_append, ← e1]
    exact ((hp.map _).append t1).trans List.perm_append_comm
  · rw [List.length_append]; exact hF.2.2
  · rcases List.mem_append.mp hx with z | z
    · exact t6 x z
    · rw [(h6 x z).2.2.1]; omega
  · rcases List.mem_append.mp hx with z | z
    · exact t7 x z
    · obtain ⟨a, b, _, d⟩ := h6 x z
      exact ⟨a, b, d⟩
theorem nI_n3 {n : Nat} (h : n < 2 ^ 30) : ¬ nI n = -3 := fun e => by
  have := nI_pos' (n := n) (by omega)
  rw [e] at this
  exact absurd this (by decide)
theorem snR_next {nr : Nat} {cw : Nat → Nat} {E C : List En} {sa rc : Nat} {QM : List MR} (hC : CI (cds E) C) (h : ∀ R ∈ QM, (mfs QM nr).1 R.1.1 = sa → ∀ c, HD cw R (fun _ => cds E) (cds E) c → c ∈ cds E ∨ c ∈ cds C) : snR nr cw (clE rc E C) (cds C) sa QM := by
  refine ⟨pw_le hC.1, fun c hc => (clE_mem rc C E c).mpr (Or.inl hc), fun R hm hS c hc => ?_⟩
  obtain ⟨o, h1, h2, h3⟩ := hc
  rw [List.all_eq_true] at h2
  refine (clE_mem rc C E c).mpr (Or.symm (h R hm hS c ⟨o, lv_mono (fun _ y hy => ?_) _ _ _ _ h1, List.all_eq_true.mpr (fun y hy => askX_anti (fun w hw => (clE_mem rc C E w).mpr (Or.inr hw)) (h2 y hy)), h3⟩))
  obtain ⟨y1, y2⟩ := List.mem_filter.mp hy
  have y2 : (!decide (y ∈ cds C)) = true := y2
  rw [Bool.not_eq_true', decide_eq_false_iff_not] at y2
  exact ((clE_mem rc C E y).mp y1).resolve_left y2
theorem c_step : pe_step rel := by
  intro nr cw Q E Lt sa nw rc fc dr F T QM drM hrel v r E' Lt' v' sa' nw' rc' hx
  obtain ⟨⟨hn, hcw⟩, ⟨ht, hfc⟩, ⟨hQ, hR⟩, hdr, ⟨s1, s2, s3⟩, hsn⟩ := id hrel
  have hsc : scI Q nr = (if mok QM nr = true then nI (mxS (mfs QM nr).1 nr) else -3) := by rw [hQ]; exact scI_eq hR
  rw [hsc] at hx
  rcases mok_or QM nr with z | z
  · rw [if_pos z] at hx
    have h13 := mxS_12 hn hR z
    have hle := s1 z
    have hst : (fst Q nr).1 = (mfs QM nr).1 := by rw [hQ]; exact ((strata_eq (cw := cw) (rQ hR)).2 z).1
    rw [hst] at hx
    unfold nxt at hx
    rw [if_neg (nI_n3 (by omega))] at hx
    by_cases hlt : sa < mxS (mfs QM nr).1 nr
    · rw [if_pos ((nI_ltI (by omega) (by omega)).mpr hlt)] at hx
      have hne : ¬ ((T, sa, rc) : RS).2.1 = mxS (mfs QM nr).1 nr := Nat.ne_of_lt hlt
      have hT : ∀ x ∈ T, x.2.1 < 262144 := fun x hx => (ht.2.2.2.2.2 x hx).2.1
      have hper : ∀ R ∈ QM, rOK nr cw R ∧ rSF cw R ∧ ((mfs QM nr).1 R.1.1 = sa ↔ (mfs QM nr).1 R.1.1 = sa) ∧ ((mfs QM nr).1 R.1.1 = sa → nw = false → Lt.Pairwise (· ≤ ·) ∧ (∀ c ∈ Lt, c ∈ cds E) ∧ ∀ c, HD cw R (fun _ => (cds E).filter (fun c => !decide (c ∈ Lt))) (cds E) c → c ∈ cds E) :=
        fun R hm => ⟨(hR R hm).1, rSF_of (hR R hm).1 (hR R hm).2, Iff.rfl, fun q1 q2 => ⟨(hsn q2).1, (hsn q2).2.1, (hsn q2).2.2 R hm q1⟩⟩
      have h0 : XR T (cds E) nr cw rc [] ([], false, 0) := by
        refine Or.inl ⟨rfl, ?_, ⟨List.Pairwise.nil, (fun c hc => by cases hc)⟩, ⟨List.nodup_nil, (fun c hc => by cases hc), ?_⟩, (fun e => ⟨(fun h => by cases h), (fun ⟨x, hx, _⟩ => by cases hx)⟩), (fun x hx => by cases hx)⟩
        · unfold tmc
          rw [decide_eq_false_iff_not, ht.len]
          have := ht.2.2.1
          show ¬ 300 < T.length + 0
          omega
        · have := ht.2.2.1
          show T.length + 0 ≤ 300
          omega
      have hrd := XR.round (S := (mfs QM nr).1) (S' := (mfs QM nr).1) (sa := sa) (nw := nw) hT (pw_le ht.2.1) ht.mem ht.len QM 0 v [] ([], false, 0) hper h0
      rw [← hQ] at hrd
      generalize hnr : nrF (cds E) Lt (mfs QM nr).1 sa nw Q 0 (v, []) = P at hx hrd
      generalize hfs : rdF cw T rc sa (mfs QM nr).1 QM 0 ([], false, 0) = s at hrd
      obtain ⟨v1, C⟩ := P
      dsimp only at hx hrd
      obtain ⟨hX, hcl⟩ := hrd
      have hfe : fEq s (rdF cw ((T, sa, rc) : RS).1 ((T, sa, rc) : RS).2.2 ((T, sa, rc) : RS).2.1 (mfs QM nr).1 QM 0 ([], false, 0)) := by
        show fEq s (rdF cw T rc sa (mfs QM nr).1 QM 0 ([], false, 0))
        rw [hfs]; exact ⟨rfl, rfl⟩
      rcases hX with ⟨x1, x2, x3, x4, x5, x6⟩ | ⟨x1, x2⟩
      · rw [if_neg (show ¬ tmc (cds E).length C = true by rw [x2]; decide)] at hx
        rw [oneM_r z hne hfe x1]
        obtain ⟨q1, q2⟩ := ht.round x3 x4 x5 x6
        have hnext := snR_next (nr := nr) (QM := QM) (rc := rc + 1) x3 (hcl x2).2
        have hl1 : (T ++ s.1).length = T.length + C.length := by rw [List.length_append, q1]
        cases hx
        by_cases hC : C = []
        · have hs1 : s.1 = [] := List.length_eq_zero_iff.mp (by rw [← q1, hC]; rfl)
          dsimp only
          rw [if_pos hC, if_pos hs1]
          refine ⟨by rw [q1], rfl, rfl, ⟨hn, hcw⟩, ⟨q2, hfc⟩, ⟨hQ, hR⟩, hdr, ⟨fun _ => hlt, (fun w => by rw [z] at w; cases w), by rw [hl1]; omega⟩, fun w => ?_⟩
          rw [decide_eq_false_iff_not] at w
          exact absurd hC w
        · have hs1 : ¬ s.1 = [] := fun w => hC (List.length_eq_zero_iff.mp (by rw [q1, w]; rfl))
          have hpos := List.length_pos_iff.mpr hC
          dsimp only
          rw [if_neg hC, if_neg hs1]
          exact ⟨by rw [q1], rfl, rfl, ⟨hn, hcw⟩, ⟨q2, hfc⟩, ⟨hQ, hR⟩, hdr, ⟨fun _ => hle, (fun w => by rw [z] at w; cases w), by rw [hl1]; omega⟩, fun w => hnext⟩
      · rw [if_pos x2] at hx
        rw [oneM_f z hne hfe x1]
        cases hx
        exact ⟨rfl, rfl, rfl, hrel⟩
    · rw [if_neg (fun w => hlt ((nI_ltI (by omega) (by omega)).mp w))] at hx
      rw [oneM_d z (show sa = _ by omega)]
      cases hx
      exact ⟨rfl, rfl, rfl, hrel⟩
  · rw [if_neg (show ¬ mok QM nr = true by rw [z]; decide)] at hx
    unfold nxt at hx
    rw [if_pos (show (-3 : Int32) = -3 from rfl)] at hx
    rw [oneM_c z]
    cases hx
    exact ⟨rfl, rfl, rfl, hrel⟩
theorem rel.len {nr : Nat} {cw : Nat → Nat} {Q : List Rl} {E : List En} {Lt : List Nat} {sa : Nat} {nw : Bool} {rc fc : Nat} {dr : Option Dr} {F : List (Nat × Nat)} {T : List MT} {QM : List MR} {drM : Option MR} (h : rel nr cw Q E Lt sa nw rc fc dr F T QM drM) : E.length = T.length := by
  have := h.2.1.1.1.length_eq
  rw [List.length_map] at this
  exact this
theorem run_eq {nr : Nat} {cw : Nat → Nat} {Q : List Rl} {fc : Nat} {dr : Option Dr} {F : List (Nat × Nat)} {QM : List MR} {drM : Option MR} : ∀ (k : Nat) (cm : Int32) (E : List En) (Lt : List Nat) (v : Nat → Nat) (sa : Nat) (nw : Bool) (rc : Nat) (T : List MT), rel nr cw Q E Lt sa nw rc fc dr F T QM drM → ∀ cm9 E' Lt' v' sa' nw' rc', runF Q (fst Q nr).1 (scI Q nr) k cm (E, Lt, v, sa, nw, rc) = (cm9, (E', Lt', v', sa', nw', rc')) → cm9 = (rnM cw nr QM k cm (T, sa, rc)).1 ∧ E'.length = (rnM cw nr QM k cm (T, sa, rc)).2.1.length ∧ sa' = (rnM cw nr QM k cm (T, sa, rc)).2.2.1 ∧ rc' = (rnM cw nr QM k cm (T, sa, rc)).2.2.2 ∧ rel nr cw Q E' Lt' sa' nw' rc' fc dr F (rnM cw nr QM k cm (T, sa, rc)).2.1 QM drM
  | 0, cm, E, Lt, v, sa, nw, rc, T, hrel, cm9, E', Lt', v', sa', nw', rc', h => by
    unfold runF at h
    unfold rnM
    cases h
    exact ⟨rfl, hrel.len, rfl, rfl, hrel⟩
  | k + 1, cm, E, Lt, v, sa, nw, rc, T, hrel, cm9, E', Lt', v', sa', nw', rc', h => by
    unfold runF at h
    unfold rnM
    by_cases hc : cm < 0
    · rw [if_pos hc] at h
      rw [if_pos hc]
      cases h
      exact ⟨rfl, hrel.len, rfl, rfl, hrel⟩
    · rw [if_neg hc] at h
      rw [if_neg hc]
      cases hs : nxtS Q (fst Q nr).1 (scI Q nr) (E, Lt, v, sa, nw, rc) with
      | mk r st =>
        rw [hs] at h
        obtain ⟨E1, Lt1, v1, sa1, nw1, rc1⟩ := st
        obtain ⟨a1, a2, a3, a4⟩ := c_step nr cw Q E Lt sa nw rc fc dr F T QM drM hrel v r E1 Lt1 v1 sa1 nw1 rc1 hs
        generalize oneM cw nr QM (T, sa, rc) = X at a1 a2 a3 a4 ⊢
        obtain ⟨x1, T1, x2, x3⟩ := X
        have a1 : r = x1 := a1
        have a2 : sa1 = x2 := a2
        have a3 : rc1 = x3 := a3
        subst a1; subst a2; subst a3
        exact run_eq k r E1 Lt1 v1 sa1 nw1 rc1 T1 a4 cm9 E' Lt' v' sa' nw' rc' h
theorem c_run : pe_run rel := by
  intro nr cw Q E Lt sa nw rc fc dr F T QM drM hrel v cm9 E' Lt' v' sa' nw' rc' h
  exact run_eq 1000 0 E Lt v sa nw rc T hrel cm9 E' Lt' v' sa' nw' rc' h
theorem pe_rel : PE rel := ⟨c_pe0, c_relation, c_in, c_fact, c_drop, c_head, c_len, c_item_h, c_item_n, c_item_c, c_safe, c_rule, c_rule_u, c_strata, c_stratum, c_step, c_run, c_count, c_has, c_tuple, c_like, c_matches⟩
theorem whole_start {p : Program} {e : Env} {s : State} {m : MethodId} {below : List Frame} {meth : Method} {c : Code} (l : Launch) {sb L : Nat} {xs : Nat → Int32} (htr : l.stackTraces = false) (hL : L ≤ 3072) (C0 : lw_At p s m meth c sb L xs) : W p l e room_1 s m #[Value.ref sb] below meth c s.heap [] 0 0 (lw_Z below #[Value.ref sb] s) (entryFrame m ([Value.ref sb] : List Value).toArray 7) := whole_from pe_rel rel_init l htr hL C0
