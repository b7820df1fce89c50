/-! the law's own words -/
theorem rrA.cell {X : gs_X} {σ : gs_St} {G : List Nat} {rr nr : Nat} {cw : Nat → Nat} {Q : List Rl} {E : List En} {Lt : List Nat} {sa : Nat} {nw : Bool} {rc fc : Nat} {dr : Option Dr} (h : rrA X σ G rr nr cw Q E Lt sa nw rc fc dr) : ∃ gs, σ rr = some (gs_ob 0 gs) := by
  obtain ⟨ρ, dv, bk, tu, ma, la, cm, ac, ai, ab, lc, li, lb, mc, mi, mb, va, co, ru, sr, v, sf, cf, fR, dw, hI, hD⟩ := h
  exact ⟨_, hI.2.2.2.1⟩
theorem moA.cell {X : gs_X} {σ : gs_St} {mo : Nat} {A : Nat → Nat} {cd nr : Nat} {cw : Nat → Nat} {F : List (Nat × Nat)} {T : List MT} {sa rc : Nat} {Q : List MR} {dr : Option MR} (h : moA X σ mo A cd nr cw F T sa rc Q dr) : ∃ Z, σ mo = some (moE A Z) ∧ Z 0 = cd := by
  obtain ⟨_, _, _, _, _, ⟨Z, m0, z0, _⟩, _⟩ := h
  exact ⟨Z, m0, z0⟩
theorem moA.kept {X : gs_X} {σ τ : gs_St} {mo : Nat} {A : Nat → Nat} {cd nr : Nat} {cw : Nat → Nat} {F : List (Nat × Nat)} {T : List MT} {sa rc : Nat} {Q : List MR} {dr : Option MR} (h : moA X σ mo A cd nr cw F T sa rc Q dr) (k : ∀ q ∈ aM mo A, ∀ e, σ q = some e → τ q = some e) : moA X τ mo A cd nr cw F T sa rc Q dr := by
  obtain ⟨hNN, hnr, hFB, hTB, hrc, ⟨Z, m0, z⟩, ⟨f2, m2, hcw⟩, ⟨f5, f6, m5, m6, hF⟩, ⟨f8, f9, f10, f11, m8, m9, m10, m11, hT⟩, ⟨g, m12, hbi⟩, ⟨g3, m13, hb3⟩, ⟨f18, f19, f20, f21, f22, f23, m18, m19, m20, m21, m22, m23, hQ⟩, ⟨f3, f24, f28, f29, f30, m3, m24, m28, m29, m30⟩⟩ := h
  exact ⟨hNN, hnr, hFB, hTB, hrc, ⟨Z, k _ (by simp) _ m0, z⟩, ⟨f2, k _ (by simp) _ m2, hcw⟩, ⟨f5, f6, k _ (by simp) _ m5, k _ (by simp) _ m6, hF⟩, ⟨f8, f9, f10, f11, k _ (by simp) _ m8, k _ (by simp) _ m9, k _ (by simp) _ m10, k _ (by simp) _ m11, hT⟩, ⟨g, k _ (by simp) _ m12, hbi⟩, ⟨g3, k _ (by simp) _ m13, hb3⟩, ⟨f18, f19, f20, f21, f22, f23, k _ (by simp) _ m18, k _ (by simp) _ m19, k _ (by simp) _ m20, k _ (by simp) _ m21, k _ (by simp) _ m22, k _ (by simp) _ m23, hQ⟩, ⟨f3, f24, f28, f29, f30, k _ (by simp) _ m3, k _ (by simp) _ m24, k _ (by simp) _ m28, k _ (by simp) _ m29, k _ (by simp) _ m30⟩⟩
theorem noR_la {X : gs_X} {n : Nat} {f : Nat → Int64} : noR X (gs_la X n f) := ⟨fun c f hc z => by simp at z, fun n f z => by simp at z⟩
theorem moA.gG {X : gs_X} {σ : gs_St} {mo : Nat} {A : Nat → Nat} {cd nr : Nat} {cw : Nat → Nat} {F : List (Nat × Nat)} {T : List MT} {sa rc : Nat} {Q : List MR} {dr : Option MR} (h : moA X σ mo A cd nr cw F T sa rc Q dr) {out : Nat} {f : Nat → Int64} (ho : σ out = some (gs_la X 1 f)) : gG X σ (out :: aM mo A) := by
  obtain ⟨hNN, hnr, hFB, hTB, hrc, ⟨Z, m0, z⟩, ⟨f2, m2, hcw⟩, ⟨f5, f6, m5, m6, hF⟩, ⟨f8, f9, f10, f11, m8, m9, m10, m11, hT⟩, ⟨g, m12, hbi⟩, ⟨g3, m13, hb3⟩, ⟨f18, f19, f20, f21, f22, f23, m18, m19, m20, m21, m22, m23, hQ⟩, ⟨f3, f24, f28, f29, f30, m3, m24, m28, m29, m30⟩⟩ := h
  have i : ∀ {q n f}, σ q = some (gs_ia X n f) → ∃ e, σ q = some e ∧ noR X e := fun h => ⟨_, h, noR_ia⟩
  have j : ∀ {q n f}, σ q = some (gs_la X n f) → ∃ e, σ q = some e ∧ noR X e := fun h => ⟨_, h, noR_la⟩
  intro q hq
  simp only [List.mem_cons, List.not_mem_nil, or_false] at hq
  rcases hq with rfl | rfl | rfl | rfl | rfl | rfl | rfl | rfl | rfl | rfl | rfl | rfl | rfl | rfl | rfl | rfl | rfl | rfl | rfl | rfl | rfl | rfl
  · exact j ho
  · exact ⟨_, m0, noR_ob (by decide) (by decide)⟩
  · exact i m2
  · exact i m3
  · exact i m5
  · exact i m6
  · exact i m8
  · exact i m9
  · exact i m10
  · exact i m11
  · exact j m12
  · exact j m13
  · exact i m18
  · exact i m19
  · exact i m20
  · exact i m21
  · exact i m22
  · exact i m23
  · exact i m24
  · exact i m28
  · exact i m29
  · exact i m30
section GSS
variable {p : Program} {l : Launch} {e : Env} {R : Room} {s : State} {m : MethodId} {args : Array Value} {below : List Frame} {meth : Method} {c : Code} {H : Heap} {locs : List Loc} {cells slots : Nat} {Q : State → Prop}
variable {cc : ByteArray} {pc : Nat} {ls : Array Slot} {rest : List Value} {X : gs_X}
/-- the script's numbers and its length -/
theorem gs_sld (hexec : p.tables.exec = Jvm.exec) (hb : c.code = cc) {b L : Nat} {xs : Nat → Int32} (hX : va_X b L xs s s.heap) (hbl : b < s.heap.size) (hbA : ¬ gs_A X b) (hS : va_S (gs_A X) s.heap H locs) {j : Nat} (hj : j < L) (hL : L < 2 ^ 31) (hdg : decode cc pc = .ok (.iaload, 1))
    (kk : W p l e R s m args below meth c H locs cells slots Q (F0 m (pc + 1) ls (.int (xs j) :: rest))) : W p l e R s m args below meth c H locs cells slots Q (F0 m pc ls (.int (nI j) :: .ref b :: rest)) := by
  refine va_sld hexec hb hX hbl hbA hS (vp_in_nI hj hL) hdg ?_
  rw [nI_clamp (Nat.lt_trans hj hL)]
  exact kk
theorem gs_slen (hexec : p.tables.exec = Jvm.exec) (hb : c.code = cc) {b L : Nat} {xs : Nat → Int32} (hX : va_X b L xs s s.heap) (hbl : b < s.heap.size) (hbA : ¬ gs_A X b) (hS : va_S (gs_A X) s.heap H locs) (hdg : decode cc pc = .ok (.arraylength, 1))
    (kk : W p l e R s m args below meth c H locs cells slots Q (F0 m (pc + 1) ls (.int (nI L) :: rest))) : W p l e R s m args below meth c H locs cells slots Q (F0 m pc ls (.ref b :: rest)) := va_slen hexec hb hX hbl hbA hS hdg kk
end GSS
/-- what ties the class's state to the reference's -/
abbrev RLT : Type := Nat → (Nat → Nat) → List Rl → List En → List Nat → Nat → Bool → Nat → Nat → Option Dr → List (Nat × Nat) → List MT → List MR → Option MR → Prop
/-- the law between two calls -/
def LI (RL : RLT) (X : gs_X) (σ : gs_St) (rr mo out : Nat) (A : Nat → Nat) : Prop := ∃ (nr : Nat) (cw : Nat → Nat) (Q : List Rl) (E : List En) (Lt : List Nat) (sa : Nat) (nw : Bool) (rc fc : Nat) (dr : Option Dr) (F : List (Nat × Nat)) (T : List MT) (QM : List MR) (drM : Option MR) (cd : Nat) (f : Nat → Int64),
  rrA X σ (out :: aM mo A) rr nr cw Q E Lt sa nw rc fc dr ∧ moA X σ mo A cd nr cw F T sa rc QM drM ∧ RL nr cw Q E Lt sa nw rc fc dr F T QM drM ∧ σ out = some (gs_la X 1 f)
/-- a call of the reference, with the class's object beside it -/
theorem rrA.mdl {X : gs_X} {σ τ : gs_St} {rr mo out : Nat} {A : Nat → Nat} {nr : Nat} {cw : Nat → Nat} {Q : List Rl} {E : List En} {Lt : List Nat} {sa : Nat} {nw : Bool} {rc fc : Nat} {dr : Option Dr} (h : rrA X σ (out :: aM mo A) rr nr cw Q E Lt sa nw rc fc dr) (hg : gG X σ (out :: aM mo A)) (hf : frm (aM mo A) σ τ) : rrA X τ (out :: aM mo A) rr nr cw Q E Lt sa nw rc fc dr := h.out hg (hf.wk (fun b hb => List.mem_cons_of_mem _ hb))
theorem out_nin {X : gs_X} {σ : gs_St} {mo out : Nat} {A : Nat → Nat} {cd nr : Nat} {cw : Nat → Nat} {F : List (Nat × Nat)} {T : List MT} {sa rc : Nat} {Q : List MR} {dr : Option MR} (h : moA X σ mo A cd nr cw F T sa rc Q dr) {f : Nat → Int64} (ho : σ out = some (gs_la X 1 f)) : out ∉ aM mo A := by
  obtain ⟨hNN, hnr, hFB, hTB, hrc, ⟨Z, m0, z⟩, ⟨f2, m2, hcw⟩, ⟨f5, f6, m5, m6, hF⟩, ⟨f8, f9, f10, f11, m8, m9, m10, m11, hT⟩, ⟨g, m12, hbi⟩, ⟨g3, m13, hb3⟩, ⟨f18, f19, f20, f21, f22, f23, m18, m19, m20, m21, m22, m23, hQ⟩, ⟨f3, f24, f28, f29, f30, m3, m24, m28, m29, m30⟩⟩ := h
  intro hq
  simp only [List.mem_cons, List.not_mem_nil, or_false] at hq
  rcases hq with rfl | rfl | rfl | rfl | rfl | rfl | rfl | rfl | rfl | rfl | rfl | rfl | rfl | rfl | rfl | rfl | rfl | rfl | rfl | rfl | rfl
  · rw [ho] at m0; cases m0
  · rw [ho] at m2; simp at m2
  · rw [ho] at m3; simp at m3
  · rw [ho] at m5; simp at m5
  · rw [ho] at m6; simp at m6
  · rw [ho] at m8; simp at m8
  · rw [ho] at m9; simp at m9
  · rw [ho] at m10; simp at m10
  · rw [ho] at m11; simp at m11
  · rw [ho] at m12; simp at m12
  · rw [ho] at m13; simp at m13
  · rw [ho] at m18; simp at m18
  · rw [ho] at m19; simp at m19
  · rw [ho] at m20; simp at m20
  · rw [ho] at m21; simp at m21
  · rw [ho] at m22; simp at m22
  · rw [ho] at m23; simp at m23
  · rw [ho] at m24; simp at m24
  · rw [ho] at m28; simp at m28
  · rw [ho] at m29; simp at m29
  · rw [ho] at m30; simp at m30
/-- behind the class's answer: the answer lies in the law's row, object and reference stand -/
theorem ans_put {X : gs_X} {σ σ9 : gs_St} {rr mo out : Nat} {A : Nat → Nat} {nr' nr : Nat} {cw' cw : Nat → Nat} {Q : List Rl} {E : List En} {Lt : List Nat} {sa' sa : Nat} {nw : Bool} {rc' rc fc : Nat} {dr : Option Dr} {cd : Nat} {F : List (Nat × Nat)} {T : List MT} {QM : List MR} {drM : Option MR} {f f' : Nat → Int64} (hR : rrA X σ9 (out :: aM mo A) rr nr' cw' Q E Lt sa' nw rc' fc dr) (hk : kG σ σ9 (out :: aM mo A)) (hM : moA X σ mo A cd nr cw F T sa rc QM drM) (ho : σ out = some (gs_la X 1 f)) :
    rrA X (gs_up σ9 out (gs_la X 1 f')) (out :: aM mo A) rr nr' cw' Q E Lt sa' nw rc' fc dr ∧ moA X (gs_up σ9 out (gs_la X 1 f')) mo A cd nr cw F T sa rc QM drM := by
  have ho9 := hk out List.mem_cons_self _ ho
  have hM9 : moA X σ9 mo A cd nr cw F T sa rc QM drM := hM.kept (fun q hq e he => hk q (List.mem_cons_of_mem _ hq) e he)
  have hn := out_nin hM9 ho9
  refine ⟨hR.out (hM9.gG ho9) (frm.rf.up List.mem_cons_self), hM9.kept (fun q hq e he => gs_ku (fun z => hn (by rw [← z]; exact hq)) he)⟩
