set_option maxHeartbeats 4000000 in
set_option maxRecDepth 100000 in
/-- RuleRounds.rule of one that may not be -/
theorem c_RR_rule_u (l : Launch) (X : gs_X) (σ : gs_St) (rr bk tu ma dv co ru sr nr nq fc : Nat) (sc : Int32) (d hd ho ck kf n : Nat) (fC : Nat → Option Nat) (ca : Nat → Nat) (kv : Nat → Int32) (kn : Nat → Nat) (th : It) (ks : List It)
    (x0 : σ rr = some (gs_ob 0 [.ref bk, .ref tu, .ref ma, .ref dv, .int (nI fc), .ref d])) (x1 : σ bk = some (gs_ob 5 [.ref co, .ref ru, .ref sr, .int (nI nr), .int (nI nq), .int sc])) (hnr : nr ≤ 12) (hnq : nq < 24) (r0 : σ d = some (gs_ob 4 [.ref hd, .ref ho, .ref ck, .int (nI n), .int (nI ks.length), .ref kf])) (r2 : σ ck = some (gs_qa X 3 6 fC)) (r3 : σ kf = some (gs_ia X 8 kv)) (hkn : kOK kv kn) (h0 : σ hd = some (itE th)) (hthw : th.1.2.2 ≤ 3) (hthB : ∀ j, tm th j < 72) (hkl : ks.length ≤ 6) (rk : ∀ i t, ks[i]? = some t → fC i = some (ca i) ∧ σ (ca i) = some (itE t) ∧ ca i ≠ hd ∧ t.1.2.2 ≤ 3 ∧ ∀ j, tm t j < 72) (hinj : ∀ i j, i < ks.length → j < ks.length → ca i = ca j → i = j) (hsf : safeB kn th ks = false) : gs_Mi l X y_RR_rule b_RR_rule 1 (some .int) ({ frames := 3, cells := 0, slots := 0, locals := 86 }) σ [.ref rr] (fun r σ' => r = -2 ∧ (σ' hd = some (itE (wR th (rdI (rdO kn th))))) ∧ (∀ i9 t9, i9 < ks.length → ks[i9]? = some t9 → σ' (ca i9) = some (itE (wR t9 (rdI (rdO kn t9))))) ∧ (∀ q9, q9 ≠ hd → (∀ i9, i9 < ks.length → q9 ≠ ca i9) → σ' q9 = σ q9)) := by
  refine Met.ofW (cc := b_RR_rule) (maxL := 1) (ret := (some .int)) (by decide) rfl ?_
  intro p e s m args below meth c s₁ B₀ hml hv
  obtain ⟨rfl, hK, hG, hz, hE⟩ := hv
  have hx := B₀.exec
  have hb := B₀.bytes
  have hr := B₀.returns
  have hts := atoms_spec (ws := gs_ws y_RR_rule b_RR_rule 1 (some .int)) B₀.pre
  have ht : ∀ w ∈ gs_w, w.before _ s = true := fun w h => hts w (List.mem_cons_of_mem _ h)
  have hown : s.vm.findClass R_RR = some m.cls := findClass_of_methodNamed B₀.named
  have hlocks := B₀.notSynchronized
  have hA : ∀ q : Nat, s.heap.size ≤ q → gs_A X q := fun q h => Nat.le_trans hz h
  have hS : va_S (gs_A X) s.heap s.heap [] := va_S.rf
  have hl := lv_entry ([.ref rr]) (n := 1) (Nat.le_of_ble_eq_true rfl)
  rw [lg_entry_eq]
  generalize (lg_sl ([.ref rr]) ++ List.replicate (1 - (lg_sl ([.ref rr])).length) Slot.unset).toArray = ls at hl ⊢
  have hl : lv_has ls 1 [(0, .ref rr)] := hl
  refine lv_aload_n hx hb d_RR_rule_0 rfl (lv_at hl 0 rfl) ?_
  refine gs_get hx hb ht hown hK hG k_RR x0 5 (by decide) w_142 rfl d_RR_rule_1 ?_
  refine lv_ifnonnull (tgt := 17) hx hb d_RR_rule_4 (by decide) ?_
  refine lv_aload_n hx hb d_RR_rule_17 rfl (lv_at hl 0 rfl) ?_
  refine gs_get hx hb ht hown hK hG k_RR x0 0 (by decide) w_137 rfl d_RR_rule_18 ?_
  refine gs_get hx hb ht hown hK hG k_RB x1 4 (by decide) w_44 rfl d_RR_rule_21 ?_
  refine lv_bipush (v := nI 24) hx hb d_RR_rule_24 (by decide) ?_
  refine lv_icmp_lt (tgt := 39) hx hb d_RR_rule_26 (by decide) (fun c_26 => ?_) (fun c_26 => ?_)
  · have c_26 : nq < 24 := (nI_ltI (by omega) (by omega)).mp c_26
    refine lv_aload_n hx hb d_RR_rule_39 rfl (lv_at hl 0 rfl) ?_
    refine gs_get hx hb ht hown hK hG k_RR x0 5 (by decide) w_142 rfl d_RR_rule_40 ?_
    refine gs_callVi (As := []) (rest := []) ⟨hx, hb, hml, hown, hts⟩ hK hE hz hG hS (c_RU_settle l X σ d hd ho ck kf n fC ca kv kn th ks r0 r2 r3 hkn h0 hthw hthB hkl rk hinj) mV_RU_settle w_569 r0 rfl rfl hl.1 rfl (Nat.le_of_ble_eq_true rfl) ⟨(by first | decide | omega | (dsimp only [headSpec]; omega)), (by first | decide | omega | (dsimp only [headSpec]; omega))⟩ ⟨(by first | decide | omega | (dsimp only [headSpec]; omega)), (by first | decide | omega | (dsimp only [headSpec]; omega))⟩ d_RR_rule_43 (fun r_43 σ_43 H locs hp_43 hG hS => ?_)
    refine gs_top hp_43.1 ?_
    refine lv_if_ne (tgt := 52) hx hb d_RR_rule_46 (by decide) (fun c_46 => ?_) (fun c_46 => ?_)
    · exact absurd ((bI_n0 c_46).symm.trans hsf) (by decide)
    · refine lv_bipush (v := -2) hx hb d_RR_rule_49 (by decide) ?_
      exact gs_iret (v := (-2)) hx hb hr rfl hK hE hz hG hS hlocks (by first | decide | omega | (dsimp only [headSpec]; omega)) (by first | decide | omega | (dsimp only [headSpec]; omega)) (⟨rfl, hp_43.2.1, hp_43.2.2.1, hp_43.2.2.2⟩) d_RR_rule_51
  · have c_26 : ¬ nq < 24 := mt (nI_ltI (by omega) (by omega)).mpr c_26
    omega
