/-! PURE: the tuples of both -/
def enT (x : MT) : En := (262144 * x.1 + x.2.1, x.2.2.1, x.2.2.2)
/-- the class's sorted rows against the reference's list -/
def tpR (nr : Nat) (cw : Nat → Nat) (E : List En) (F : List (Nat × Nat)) (T : List MT) : Prop :=
  E.Perm (T.map enT) ∧ (cds E).Pairwise (· < ·) ∧ T.length ≤ 300 ∧ (fcs F).Nodup ∧ (∃ N, T = F.map agT ++ N ∧ ∀ x ∈ N, x.2.2.1 ≠ 0) ∧ (∀ x ∈ T, x.1 < nr ∧ x.2.1 < 262144 ∧ ∀ j, cw x.1 ≤ j → j < 3 → clM x.2.1 j = 0)
theorem cds_enT (T : List MT) : cds (T.map enT) = tcs T := by
  show (T.map enT).map _ = _
  rw [List.map_map]; rfl
section TPR
variable {nr : Nat} {cw : Nat → Nat} {E : List En} {F : List (Nat × Nat)} {T : List MT}
theorem tpR.pm (h : tpR nr cw E F T) : (cds E).Perm (tcs T) := by
  have := h.1.map (fun e => e.1)
  rw [← cds_enT]
  exact this
theorem tpR.len (h : tpR nr cw E F T) : (cds E).length = T.length := by rw [h.pm.length_eq, List.length_map]
theorem tpR.mem (h : tpR nr cw E F T) (c : Nat) : c ∈ cds E ↔ c ∈ tcs T := h.pm.mem_iff
theorem tpR.nd (h : tpR nr cw E F T) : (tcs T).Nodup := h.pm.nodup (lt_nd h.2.1)
theorem tpR.keep (h : tpR nr cw E F T) : (keepE E).Perm ((F.map agT).map enT) := by
  obtain ⟨h1, h2, h3, h4, ⟨N, h5, h6⟩, h7⟩ := h
  unfold keepE
  have e1 := (h1.filter (fun e => e.2.1 == 0)).map (fun e => ((e.1, 0, -1) : En))
  refine e1.trans ?_
  rw [h5, List.map_append, List.filter_append]
  have e2 : (N.map enT).filter (fun e => e.2.1 == 0) = [] := by
    rw [List.filter_eq_nil_iff]
    intro e he
    obtain ⟨x, hx, rfl⟩ := List.mem_map.mp he
    have := h6 x hx
    show ¬ (x.2.2.1 == 0) = true
    rw [beq_iff_eq]; exact this
  have e3 : ((F.map agT).map enT).filter (fun e => e.2.1 == 0) = (F.map agT).map enT := by
    rw [List.filter_eq_self]
    intro e he
    obtain ⟨x, hx, rfl⟩ := List.mem_map.mp he
    obtain ⟨y, hy, rfl⟩ := List.mem_map.mp hx
    rfl
  rw [e2, e3, List.append_nil, List.map_map, List.map_map, List.map_map]
  exact List.Perm.refl _
theorem keepE_sub (E : List En) : (cds (keepE E)).Sublist (cds E) := by
  unfold keepE
  show (List.map _ (List.map _ _)).Sublist _
  rw [List.map_map]
  exact List.filter_sublist.map (fun e : En => e.1)
theorem tpR.fT (h : tpR nr cw E F T) : ∀ x ∈ F, x.1 < nr ∧ x.2 < 262144 ∧ ∀ j, cw x.1 ≤ j → j < 3 → clM x.2 j = 0 := fun x hx => by
  obtain ⟨h1, h2, h3, h4, ⟨N, h5, h6⟩, h7⟩ := h
  exact h7 (agT x) (by rw [h5]; exact List.mem_append_left _ (List.mem_map_of_mem hx))
theorem tpR.fl (h : tpR nr cw E F T) : F.length ≤ T.length := by
  obtain ⟨h1, h2, h3, h4, ⟨N, h5, h6⟩, h7⟩ := h
  rw [h5, List.length_append, List.length_map]; omega
theorem tpR.of (hp : E.Perm ((F.map agT).map enT)) (hs : (cds E).Pairwise (· < ·)) (hl : F.length ≤ 300) (hF : ∀ x ∈ F, x.1 < nr ∧ x.2 < 262144 ∧ ∀ j, cw x.1 ≤ j → j < 3 → clM x.2 j = 0) : tpR nr cw E F (F.map agT) := by
  have hc : (cds E).Perm (fcs F) := by
    have := hp.map (fun e => e.1)
    rw [← tcs_ag, ← cds_enT]
    exact this
  refine ⟨hp, hs, by rw [List.length_map]; exact hl, hc.nodup (lt_nd hs), ⟨[], by rw [List.append_nil], fun x hx => by cases hx⟩, fun x hx => ?_⟩
  obtain ⟨y, hy, rfl⟩ := List.mem_map.mp hx
  exact hF y hy
theorem tpR.reset (h : tpR nr cw E F T) : tpR nr cw (keepE E) F (F.map agT) :=
  tpR.of h.keep (h.2.1.sublist (keepE_sub E)) (Nat.le_trans h.fl h.2.2.1) h.fT
theorem tpR.wk (h : tpR nr cw E F T) {nr' : Nat} {cw' : Nat → Nat} (hn : nr ≤ nr') (hc : ∀ r, r < nr → cw' r = cw r) : tpR nr' cw' E F T := by
  obtain ⟨h1, h2, h3, h4, h5, h7⟩ := h
  refine ⟨h1, h2, h3, h4, h5, fun x hx => ?_⟩
  obtain ⟨a, b, c⟩ := h7 x hx
  exact ⟨Nat.lt_of_lt_of_le a hn, b, by rw [hc _ a]; exact c⟩
theorem fIx_iff : ∀ {F : List (Nat × Nat)} {y : Nat × Nat}, fIx F y < F.length ↔ y ∈ F
  | [], y => by simp [fIx]
  | x :: F, y => by
    unfold fIx
    by_cases e : x = y
    · rw [if_pos e, e]; simp
    · rw [if_neg e, List.length_cons, Nat.add_lt_add_iff_right, fIx_iff, List.mem_cons]
      exact ⟨Or.inr, fun h => h.resolve_left (fun z => e z.symm)⟩
theorem fIx_get : ∀ {F : List (Nat × Nat)} {y : Nat × Nat}, fIx F y < F.length → F[fIx F y]? = some y
  | [], y, h => by simp [fIx] at h
  | x :: F, y, h => by
    unfold fIx at h ⊢
    by_cases e : x = y
    · rw [if_pos e, e]; rfl
    · rw [if_neg e] at h ⊢
      rw [List.length_cons, Nat.add_lt_add_iff_right] at h
      rw [List.getElem?_cons_succ]
      exact fIx_get h
theorem cd_eq {r a b c : Nat} : ((r * 64 + a) * 64 + b) * 64 + c = 262144 * r + (a * 4096 + b * 64 + c) := by omega
theorem tpR.inF (h : tpR nr cw E F T) {rl t : Nat} (ht : t < 262144) : (∃ x ∈ E, x.1 = 262144 * rl + t ∧ x.2.1 = 0) ↔ (rl, t) ∈ F := by
  obtain ⟨h1, h2, h3, h4, ⟨N, h5, h6⟩, h7⟩ := id h
  constructor
  · rintro ⟨x, hx, e1, e2⟩
    obtain ⟨y, hy, rfl⟩ := List.mem_map.mp (h1.mem_iff.mp hx)
    have hb := (h7 y hy).2.1
    rw [h5] at hy
    rcases List.mem_append.mp hy with z | z
    · obtain ⟨w, hw, rfl⟩ := List.mem_map.mp z
      have e1 : 262144 * w.1 + w.2 = 262144 * rl + t := e1
      have hb : w.2 < 262144 := hb
      have : w = (rl, t) := by
        refine Prod.ext ?_ ?_
        · show w.1 = rl; omega
        · show w.2 = t; omega
      rw [← this]; exact hw
    · exact absurd e2 (h6 y z)
  · intro hf
    refine ⟨enT (agT (rl, t)), h1.mem_iff.mpr (List.mem_map_of_mem (by rw [h5]; exact List.mem_append_left _ (List.mem_map_of_mem hf))), rfl, rfl⟩
theorem tpR.fact (h : tpR nr cw E F T) {rl t : Nat} (hr : rl < nr) (ht : t < 262144) (hz : ∀ j, cw rl ≤ j → j < 3 → clM t j = 0) (hn : (rl, t) ∉ F) (hl : F.length < 200) : tpR nr cw (insE (keepE E) (262144 * rl + t, 0, -1)) (F ++ [(rl, t)]) ((F ++ [(rl, t)]).map agT) := by
  have hk := h.keep
  have hkc : (cds (keepE E)).Perm (fcs F) := by
    have := hk.map (fun e => e.1)
    rw [← tcs_ag, ← cds_enT]
    exact this
  have hnc : 262144 * rl + t ∉ cds (keepE E) := fun z => by
    obtain ⟨x, hx, e⟩ := List.mem_map.mp (hkc.mem_iff.mp z)
    have := (h.fT x hx).2.1
    have e : 262144 * x.1 + x.2 = 262144 * rl + t := e
    have : x = (rl, t) := by
      refine Prod.ext ?_ ?_
      · show x.1 = rl; omega
      · show x.2 = t; omega
    exact hn (by rw [← this]; exact hx)
  refine tpR.of ?_ (insE_lt (h.2.1.sublist (keepE_sub E)) hnc) (by rw [List.length_append]; simp; omega) (fun x hx => ?_)
  · refine (insE_perm _ _).trans ?_
    rw [List.map_append, List.map_append]
    refine List.Perm.trans ?_ (List.perm_append_singleton (enT (agT (rl, t))) _).symm
    exact List.Perm.cons _ hk
  · rcases List.mem_append.mp hx with z | z
    · exact h.fT x z
    · rw [List.mem_singleton.mp z]; exact ⟨hr, ht, hz⟩
theorem dlF_perm {F : List (Nat × Nat)} {k : Nat} {y : Nat × Nat} (h : F[k]? = some y) : F.Perm (y :: dlF F k) := by
  unfold dlF
  have e : F = F.take k ++ y :: F.drop (k + 1) := by
    conv => lhs; rw [← List.take_append_drop k F]
    rw [drop_cons9 h]
  conv => lhs; rw [e]
  exact List.perm_middle
theorem delE_perm {E : List En} {k : Nat} {y : En} (h : E[k]? = some y) : E.Perm (y :: delE E k) := by
  unfold delE
  have e : E = E.take k ++ y :: E.drop (k + 1) := by
    conv => lhs; rw [← List.take_append_drop k E]
    rw [drop_cons9 h]
  conv => lhs; rw [e]
  exact List.perm_middle
theorem tpR.drop (h : tpR nr cw E F T) {rl t : Nat} (hf : (rl, t) ∈ F) : tpR nr cw (keepE (delE E (cb (cds E) (262144 * rl + t)))) (dlF F (fIx F (rl, t))) ((dlF F (fIx F (rl, t))).map agT) := by
  obtain ⟨h1, h2, h3, h4, ⟨N, h5, h6⟩, h7⟩ := id h
  have hin : enT (agT (rl, t)) ∈ E := h1.mem_iff.mpr (List.mem_map_of_mem (by rw [h5]; exact List.mem_append_left _ (List.mem_map_of_mem hf)))
  have hc : 262144 * rl + t ∈ cds E := List.mem_map.mpr ⟨_, hin, rfl⟩
  obtain ⟨e, he, hee⟩ := cds_get ((mem_cb (pw_le h2) _).mp hc)
  have hem : e ∈ E := List.mem_of_getElem? he
  have hev : e = enT (agT (rl, t)) := inj_nd (lt_nd h2) hem hin hee
  have hp := delE_perm he
  have hF := dlF_perm (fIx_get (fIx_iff.mpr hf))
  have hk : (keepE E).Perm (enT (agT (rl, t)) :: keepE (delE E (cb (cds E) (262144 * rl + t)))) := by
    have := (hp.filter (fun e => e.2.1 == 0)).map (fun e => ((e.1, 0, -1) : En))
    refine this.trans ?_
    rw [List.filter_cons_of_pos (by rw [hev]; rfl), hev]
    exact List.Perm.refl _
  have hfin : (keepE (delE E (cb (cds E) (262144 * rl + t)))).Perm (((dlF F (fIx F (rl, t))).map agT).map enT) := by
    refine (hk.symm.trans (h.keep.trans ?_)).cons_inv
    exact ((hF.map agT).map enT)
  refine tpR.of hfin ?_ ?_ (fun x hx => ?_)
  · exact h2.sublist ((keepE_sub _).trans ((delE_sub E _).map _))
  · have q1 := hF.length_eq
    have q2 := h.fl
    rw [List.length_cons] at q1
    omega
  · exact h.fT x (hF.mem_iff.mpr (List.mem_cons_of_mem _ hx))
theorem tpR.kl (h : tpR nr cw E F T) : (keepE E).length = F.length := by
  rw [h.keep.length_eq, List.length_map, List.length_map]
end TPR
