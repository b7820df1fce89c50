/-! calls that throw: nothing of the store changes, and an object of the class comes -/
def gs_MQt (below : List Frame) (Qc : Array Value → State → Addr → State → Prop) (a : Array Value) (s : State) (mc ms : Nat) (free : Addr → Prop) : State → Prop := fun t =>
  ∃ x, t.status = .running ∧ Ended t below (.threw x) ∧ Qc a s x t ∧ ∃ L, s.WarmedH t.vm ∧ s.sameButNew ({ t with vm := s.vm } : State) L mc ms ∧ ∀ q ∈ L, free q.base
def gs_MetT (l : Launch) (y : MethodName) (ws : List Cond) (rm : Room) (Pc : Array Value → State → Prop) (Qc : Array Value → State → Addr → State → Prop) (mc ms : Nat) (free : Addr → Prop) : Prop :=
  MetFree l y (headSpec ws rm) Pc (fun _ _ _ _ _ => True) (fun a st o t => ∃ x, o = .threw x ∧ Qc a st x t ∧ ∃ L, st.WarmedH t.vm ∧ st.sameButNew ({ t with vm := st.vm } : State) L mc ms ∧ ∀ q ∈ L, free q.base)
theorem gs_MetT.ofW {l : Launch} {y : MethodName} {ws ws' : List Cond} {rm : Room} {Pc : Array Value → State → Prop} {Qc : Array Value → State → Addr → State → Prop} {mc ms : Nat} {free : Addr → Prop} {cc : ByteArray} {maxL : Nat} {ret : Option FieldType}
    (hy : plainName y.cls = true) (hw : ws = Cond.code y cc maxL ret :: ws')
    (body : ∀ p e s m args below meth c s₁, BodyLoose p l y (headSpec ws rm) cc maxL ret e s m args below meth c s₁ → c.maxLocals = maxL → Pc args s →
      W p l e (headSpec ws rm).room s m args below meth c s.heap [] 0 0 (gs_MQt below Qc args s mc ms free) (entryFrame m args maxL)) : gs_MetT l y ws rm Pc Qc mc ms free := by
  refine MetFree.of_bodyS (code := cc) (maxLocals := maxL) (ret := ret) hy (fun args s m h hn => ?_) (fun p e s m args below meth c s₁ B hml hP _ => ?_)
  · have hc := atoms_spec (ws := ws) h (Cond.code y cc maxL ret) (by rw [hw]; exact List.mem_cons_self)
    obtain ⟨meth, c, h1, h2, h3, h4, h5, h6, -, -⟩ := Cond.code_spec hn hc
    exact ⟨meth, c, h1, h2, h3, h4, h5, h6⟩
  · obtain ⟨t, a1, x, b1, b2, b3⟩ := body p e s m args below meth c s₁ B hml hP s₁ (by rw [B.state]; rfl) (Stand.of_body B)
    exact ⟨t, .threw x, a1, b1, b2, x, rfl, b3⟩
def gs_Qt (C : String) (X : gs_X) (σ : gs_St) : Array Value → State → Addr → State → Prop := fun _ st x t =>
  (∃ cell : Cell, t.heap[x]? = some cell ∧ st.vm.findClass C = some cell.cls ∧ cell.vm = .none) ∧ gs_U X σ t ∧ va_F (gs_A X) st t
abbrev gs_Mt (l : Launch) (X : gs_X) (y : MethodName) (b : ByteArray) (n : Nat) (r : Option FieldType) (rm : Room) (σ : gs_St) (av : List Value) (C : String) : Prop :=
  gs_MetT l y (gs_ws y b n r) rm (va_Pc av (gs_U X σ)) (gs_Qt C X σ) rm.cells rm.slots (gs_A X)
/-- nothing written: every cell stands -/
theorem gs_same0 {s t : State} {k n : Nat} (h : s.sameButNew ({ t with vm := s.vm } : State) [] k n) : ∀ (a : Nat) (c : Cell), s.heap[a]? = some c → t.heap[a]? = some c := by
  intro a c hc
  obtain ⟨c', h1, h2, h3, h4⟩ := h.2.2.2.2.2 a c hc
  have e : c'.slots = c.slots := by
    apply Array.ext_getElem?
    intro i
    exact h4 i List.not_mem_nil
  rw [e] at h2
  have e2 : c' = c := h2
  rw [← e2]; exact h1
theorem gs_wide {s t : State} {L : List Loc} {k n k' n' : Nat} (h : s.sameButNew t L k n) (hk : k ≤ k') (hn : n ≤ n') : s.sameButNew t L k' n' := by
  obtain ⟨h1, h2, h3, h4, h5, h6⟩ := h
  exact ⟨h1, h2, by omega, h4, by omega, h6⟩
theorem gs_H.grow {X : gs_X} {σ : gs_St} {H H' : Heap} (h : gs_H X σ H) (hq : ∀ (a : Nat) (c : Cell), H[a]? = some c → H'[a]? = some c) : gs_H X σ H' := by
  obtain ⟨ws, hP, hD, hw⟩ := h
  refine ⟨ws, hP.kept (fun k q hk => ?_), hD, hw⟩
  have hlt := (hP k q hk).lt
  rw [hq q.1 _ (Array.getElem?_eq_getElem hlt), Array.getElem?_eq_getElem hlt]
section GST
variable {p : Program} {l : Launch} {e : Env} {R : Room} {s : State} {m : MethodId} {args : Array Value} {below : List Frame} {meth : Method} {c : Code}
variable {cc : ByteArray} {pc nL mc ms : Nat} {ls : Array Slot} {X : gs_X} {σ : gs_St}
theorem gs_ctor {C : String} {ic sa : Nat} {cC : ClassId} {kC : Class} (hexec : p.tables.exec = Jvm.exec) (hb : c.code = cc) (hml : c.maxLocals = nL) (htr : l.stackTraces = false) (hown : s.vm.findClass "RuleRounds" = some m.cls)
    (hK : gs_T X s) (hE : gs_E X s) (hz : X.2.2 ≤ s.heap.size) (hG : gs_H X σ s.heap) (hC : Bundle.fit C = true) (hat : ∀ w ∈ Bundle.ownAtoms "RuleRounds" ic C gx_up, w.before args s = true)
    (hf : s.vm.findClass C = some cC) (hk : s.vm.classes[cC]? = some kC) (hsz : ls.size = nL) (hd3 : decode cc pc = .ok (.invokespecial ic, 3)) (hd4 : decode cc (pc + 3) = .ok (.athrow, 1))
    (hout : ∀ x ∈ c.exceptionTable.toList, covers x (pc + 3) = false) (hR : 6 ≤ R.frames ∧ 90 ≤ R.locals) (hm : 1 ≤ mc ∧ 6 ≤ ms) (hlocks : meth.locks = false) :
    W p l e R s m args below meth c (s.heap.push { cls := cC, slots := kC.instanceTypes.map defaultValue, vm := .none }) [] (0 + 1) (0 + 6) (gs_MQt below (gs_Qt C X σ) args s mc ms (gs_A X)) (F0 m pc ls [.ref sa, .ref s.heap.size, .ref s.heap.size]) := by
  intro T hT X₁
  have htr2 : e.platform.stackTraces = false := by rw [X₁.admits.platform]; exact htr
  have hcell : T.heap[s.heap.size]? = some (freshCell cC kC) := by rw [hT, Array.getElem?_push_size]
  obtain ⟨U, hsteps, hrun, hend, hW, hsame, ce, hce, K⟩ := X₁.ctorThrowS hexec htr2 (own := "RuleRounds") (cls := C) (names := gx_up) (ic := ic) hown hC (by decide +kernel) hat (fun y hy => by cases hy) hf hk hcell (Nat.le_refl _) (msg := .ref sa) rfl
    (g := F0 m pc ls [.ref sa, .ref s.heap.size, .ref s.heap.size]) rfl (by rw [hml]; exact hsz) rfl rfl (rest := []) rfl (by rw [hb]; exact hd3) (by rw [hb]; exact hd4) hout (by simp only [gx_up, List.length_cons, List.length_nil]; omega) (by simp only [gx_up, List.length_cons, List.length_nil, List.map_cons, List.map_nil, List.sum_cons, List.sum_nil, Value.category]; have z : (F0 m pc ls [.ref sa, .ref s.heap.size, .ref s.heap.size]).monitorRoom = 0 := rfl; omega) hlocks
  have hkeep := gs_same0 hsame
  refine ⟨U, hsteps, s.heap.size, hrun, hend, ⟨⟨ce, hce, K.cls, K.vm⟩, ⟨hK.warm hW, hG.grow hkeep, Nat.le_trans hz hsame.2.1, hE.step hW (fun q hq => ?_)⟩, hsame.2.1, fun q hq _ => ?_⟩, [], hW, gs_wide hsame hm.1 hm.2, fun q hq => by cases hq⟩
  · have hlt := Nat.lt_of_lt_of_le hq hz
    rw [hkeep q _ (Array.getElem?_eq_getElem hlt), Array.getElem?_eq_getElem hlt]
  · rw [hkeep q _ (Array.getElem?_eq_getElem hq), Array.getElem?_eq_getElem hq]
end GST
