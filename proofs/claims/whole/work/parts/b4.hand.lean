/-! methods with handlers: their contracts, how they are called, what they catch -/
abbrev gs_wh (y : MethodName) (b : ByteArray) (n : Nat) (r : Option FieldType) (hs : List (Nat × Nat × Nat × Nat)) : List Cond := Cond.codeWith y b n r hs :: gs_w
abbrev gs_MiH (l : Launch) (X : gs_X) (y : MethodName) (b : ByteArray) (n : Nat) (r : Option FieldType) (hs : List (Nat × Nat × Nat × Nat)) (rm : Room) (σ : gs_St) (av : List Value) (post : Int32 → gs_St → Prop) : Prop :=
  Met l y (gs_wh y b n r hs) rm (va_Pc av (gs_U X σ)) (va_Qi post (gs_U X) (gs_A X)) rm.cells rm.slots (gs_A X)
def gs_mSH (y : MethodName) (b : ByteArray) (n : Nat) (r : Option FieldType) (hs : List (Nat × Nat × Nat × Nat)) (k : Nat) : Prop :=
  Cond.static y ∈ gs_w ∧ Cond.initialized y.cls ∈ gs_w ∧ Cond.codeWith y b n r hs ∈ gs_w ∧ (y.cls ≠ "java/lang/invoke/MethodHandle" ∧ y.cls ≠ "java/lang/invoke/VarHandle") ∧ (parseMethodDescriptor y.desc).map (fun d => d.parameters.length) = some k
theorem gs_MetH_ofW {l : Launch} {y : MethodName} {ws ws' : List Cond} {rm : Room} {Pc : Array Value → State → Prop} {Qc : Array Value → State → Outcome → State → Prop} {mc ms : Nat} {free : Addr → Prop} {cc : ByteArray} {maxL : Nat} {ret : Option FieldType} {hs : List (Nat × Nat × Nat × Nat)}
    (hy : plainName y.cls = true) (hw : ws = Cond.codeWith y cc maxL ret hs :: ws')
    (body : ∀ p e s m args below meth c s₁, BodyLoose p l y (headSpec ws rm) cc maxL ret e s m args below meth c s₁ → c.maxLocals = maxL → c.exceptionTable.toList.map (fun h => (h.startPc, h.endPc, h.handlerPc, h.catchType)) = hs → Pc args s →
      W p l e (headSpec ws rm).room s m args below meth c s.heap [] 0 0 (MQ below Qc args s mc ms free) (entryFrame m args maxL)) : Met l y ws rm Pc Qc mc ms free := by
  refine MetFree.of_bodyS (code := cc) (maxLocals := maxL) (ret := ret) hy (fun args s m h hn => ?_) (fun p e s m args below meth c s₁ B hml hP _ => ?_)
  · obtain ⟨m', meth, c, h0, h1, h2, h3, h4, h5, h6, h7, -⟩ := Cond.codeWith_spec (atoms_spec (ws := ws) h _ (by rw [hw]; exact List.mem_cons_self))
    cases h0.symm.trans hn
    exact ⟨meth, c, h1, h2, h3, h4, h6, h7⟩
  · have hh0 : s₁.heap = s.heap := by rw [B.state]; rfl
    have Y : Stand p l e (headSpec ws rm).room s m args below meth c s₁ [] 0 0 := Stand.of_body B
    obtain ⟨m', meth', c', h0, h1, h2, h3, h4, h5, h6, h7, -⟩ := Cond.codeWith_spec (atoms_spec (ws := ws) B.pre _ (by rw [hw]; exact List.mem_cons_self))
    cases h0.symm.trans B.named
    cases h1.symm.trans B.method
    cases h2.symm.trans Y.code
    obtain ⟨t, a1, o, b1, b2, b3⟩ := body p e s m args below meth c s₁ B hml h5 hP s₁ hh0 Y
    exact ⟨t, o, a1, b1, b2, ⟨b3.1, b3.2⟩⟩
section GSH
variable {p : Program} {l : Launch} {e : Env} {R : Room} {s : State} {m : MethodId} {args : Array Value} {below : List Frame} {meth : Method} {c : Code} {H : Heap} {locs : List Loc} {cells slots : Nat} {Q : State → Prop}
variable {cc bytes : ByteArray} {pc nL maxL k index : Nat} {ls : Array Slot} {rest st0 : List Value} {a : Nat} {X : gs_X} {σ : gs_St} {own C : String} {c0 : Cond} {y : MethodName} {ret : Option FieldType} {rm : Room} {As : List Value} {hs : List (Nat × Nat × Nat × Nat)}
theorem gs_callSiH {post : Int32 → gs_St → Prop} (S : CallFix p m c cc nL s args (c0 :: gs_w) own) (hK : gs_T X s) (hE : gs_E X s) (hz : X.2.2 ≤ s.heap.size) (hG : gs_H X σ H) (hS : va_S (gs_A X) s.heap H locs)
    (hM : gs_MiH l X y bytes maxL ret hs rm σ As post) (hV : gs_mSH y bytes maxL ret hs k) (hl : Cond.methodLink own index y ∈ gs_w)
    (hn : As.length = k) (hsize : ls.size = nL) (hst : st0 = As.reverse ++ rest) (hW : (rest.map fun v => v.category).sum ≤ 8) (hR : rm.frames + 1 ≤ R.frames ∧ 8 + (maxL + 11) + rm.locals ≤ R.locals) (hf : cells + rm.cells ≤ R.cells ∧ slots + rm.slots ≤ R.slots) (hdg : decode cc pc = .ok (.invokestatic index, 3))
    (kk : ∀ (r : Int32) (σ' : gs_St) (H : Heap) (locs : List Loc), post r σ' → gs_H X σ' H → va_S (gs_A X) s.heap H locs → W p l e R s m args below meth c H locs (cells + rm.cells) (slots + rm.slots) Q (F0 m (pc + 3) ls (.int r :: rest))) : W p l e R s m args below meth c H locs cells slots Q (F0 m pc ls st0) := by
  obtain ⟨hx, hb, hml, ho, hts⟩ := S
  obtain ⟨v1, v2, v3, hy, hlen⟩ := hV
  have htw : ∀ w ∈ gs_w, w.before args s = true := fun w h => hts w (List.mem_cons_of_mem _ h)
  have hws : ∀ w ∈ gs_wh y bytes maxL ret hs, w ∈ gs_w := fun w h => by
    rcases List.mem_cons.mp h with rfl | h
    · exact v3
    · exact h
  intro T hT Y
  obtain ⟨mk, methM, cM, hnamed, hmM, hcM, hbM, hlM, htM, hrM, hkM, hsigM⟩ := Cond.codeWith_spec (htw _ v3)
  obtain ⟨kP, hkP, -⟩ := className_of_methodNamed hnamed
  obtain ⟨vm₁, X₁, hgo⟩ := Y.invokestatic hx ho (htw _ hl) hnamed hmM (Cond.static_spec hnamed hmM (htw _ v1)) hkP (Cond.initialized_spec (findClass_of_methodNamed hnamed) hkP (htw _ v2)) hy (g := F0 m pc ls st0) rfl (argsL := As) (rest := rest) (by rw [hn]; rw [hsigM] at hlen; exact (Option.some.inj hlen).symm) hst (by rw [hb]; exact hdg)
  have hP : va_Pc As (gs_U X σ) As.toArray (T.setVm vm₁) := ⟨rfl, gs_inU hK hE hz hG hS hT X₁.warmed⟩
  have hwat : ∀ w ∈ gs_wh y bytes maxL ret hs, ∀ a' U, s.WarmedH U.vm → w.before a' U = true := fun w hw a' U hW => word_at hW (gs_good (hws w hw)) (htw _ (hws w hw))
  have hcodeU := hwat _ List.mem_cons_self As.toArray (T.setVm vm₁) X₁.warmed
  obtain ⟨mk', methY, cY, hn', hmY, hcY, -, hlY, -⟩ := Cond.codeWith_spec hcodeU
  have hnU := X₁.named hnamed
  cases hn'.symm.trans hnU
  obtain ⟨kY, hkY, -⟩ := className_of_methodNamed hnU
  have hinitY : kY.init = .initialized := Cond.initialized_spec (findClass_of_methodNamed hnU) hkY (word_at (a' := args) X₁.warmed (gs_good v2) (htw _ v2))
  have hAt : At (T.setVm vm₁) (F0 m pc ls rest).method c below := X₁.here
  have hmr : (F0 m pc ls rest).monitorRoom = 0 := rfl
  have happ : (headSpec (gs_wh y bytes maxL ret hs) rm).appliesLoose y e.platform ((T.setVm vm₁).calling (F0 m pc ls rest) mk As.toArray) = true :=
    Spec.appliesLoose_calling (g := F0 m pc ls rest) hAt (by rw [hb]; exact hdg) hnU hkY hinitY
      (X₁.room_calling (g := F0 m pc ls rest) (R' := (headSpec (gs_wh y bytes maxL ret hs) rm).room) (by rw [hml]; exact hsize) hmY hcY hR.1 (by rw [hlY, hmr]; have := hR.2; show 2 * 0 + (rest.map fun v => v.category).sum + (maxL + 11) + rm.locals ≤ R.locals; omega) hf.1 hf.2)
      (atoms_intro fun w hw => hwat w hw _ _ X₁.warmed)
  obtain ⟨mid, hmid⟩ := hAt.above
  have hfrm : ((T.setVm vm₁).setTop (F0 m pc ls rest)).frames = (.java (F0 m pc ls rest) :: mid) ++ below := by rw [State.frames_setTop' _ hAt.top, hmid]; rfl
  obtain ⟨o, t, hsteps, -, hend, hq⟩ := Steps.callFree hM p X₁.admits X₁.cas X₁.clock (acts := []) hfrm happ (gs_blind _ _ _ _ hP) trivial
  rw [State.frames_setTop' _ hAt.top, hmid] at hend
  obtain ⟨⟨⟨r, σ', hor, hp, hU⟩, hF⟩, L, ⟨-, hWt, hsame⟩, hL⟩ := hq
  subst hor
  obtain ⟨T', X', h1, h2, h3⟩ := X₁.outOf (g := F0 m pc ls rest) rfl (ig := .invokestatic index) (len := 3) (by rw [hb]; exact hdg) (mk := mk) (a := As.toArray) (t := t) (v := some (.int r)) (L := L) (k := rm.cells) (n := rm.slots) (by first | exact hend | (rw [← hmid, X₁.tail] at hend; exact hend)) hWt hsame
  have eh : T'.heap = t.heap := by rw [h3]; rfl
  have hF1 : H.size ≤ t.heap.size := by have := hF.1; rw [show (((T.setVm vm₁).setTop (F0 m pc ls rest)).pushFrame (Frame.invoking mk As.toArray)).heap = H from hT] at this; exact this
  have hF2 : ∀ q : Nat, q < H.size → ¬ gs_A X q → t.heap[q]? = H[q]? := fun q z1 z2 => by have := hF.2 q (by rw [show (((T.setVm vm₁).setTop (F0 m pc ls rest)).pushFrame (Frame.invoking mk As.toArray)).heap = H from hT]; exact z1) z2; rw [show (((T.setVm vm₁).setTop (F0 m pc ls rest)).pushFrame (Frame.invoking mk As.toArray)).heap = H from hT] at this; exact this
  obtain ⟨t2, a1, b1⟩ := kk r σ' T'.heap (locs ++ L) hp (by rw [eh]; exact hU.2.1) ⟨Nat.le_trans hS.1 (by rw [eh]; exact hF1), fun q z1 z2 => by rw [eh, hF2 q (Nat.lt_of_lt_of_le z1 hS.1) z2]; exact hS.2.1 q z1 z2, fun q hq => by
    rcases List.mem_append.mp hq with z | z
    · exact hS.2.2 q z
    · exact hL q z⟩ T' rfl X'
  refine ⟨t2, ?_, b1⟩
  refine hgo _ fun acts => ?_
  rw [doInvoke_state]
  refine hsteps.trans ?_
  rw [h3]
  exact a1
/-- what a call throws is caught -/
theorem gs_callVc {E : String} (S : CallFix p m c cc nL s args (c0 :: gs_w) own) (hK : gs_T X s) (hE : gs_E X s) (hz : X.2.2 ≤ s.heap.size) (hG : gs_H X σ s.heap)
    (hM : gs_Mt l X y bytes maxL ret rm σ (.ref a :: As) E) (hV : gs_mV y C bytes maxL ret k) (hl : Cond.methodLink own index y ∈ gs_w) {ci : Nat} {fs : List Value} (he : σ a = some (gs_ob ci fs)) {Tb : u_T} {N : Nat} (hc : gs_cl[ci]? = some (C, Tb, N))
    (hn : As.length = k) (hsize : ls.size = nL) (hst : st0 = As.reverse ++ .ref a :: rest) (hW : (rest.map fun v => v.category).sum ≤ 8) (hR : rm.frames + 1 ≤ R.frames ∧ 8 + (maxL + 11) + rm.locals ≤ R.locals) (hf : 0 + rm.cells ≤ R.cells ∧ 0 + rm.slots ≤ R.slots) (hdg : decode cc pc = .ok (.invokevirtual index, 3))
    (pre : List ExceptionTableEntry) (x : ExceptionTableEntry) (post : List ExceptionTableEntry) (hsplit : c.exceptionTable.toList = pre ++ x :: post) (hcl : (Cond.castable E E).before #[] s = true) (hx0 : x.catchType ≠ 0) (hxl : Cond.classLink own x.catchType E ∈ gs_w) (hxc : covers x pc = true)
    (hpass : ∀ y ∈ pre, y.catchType ≠ 0 ∧ ∃ nm, Cond.classLink own y.catchType nm ∈ gs_w ∧ (Cond.castable E nm).before #[] s = false)
    (kk : ∀ (q : Nat) (H : Heap) (locs : List Loc), gs_H X σ H → va_S (gs_A X) s.heap H locs → W p l e R s m args below meth c H locs (0 + rm.cells) (0 + rm.slots) Q (F0 m x.handlerPc ls [.ref q])) : W p l e R s m args below meth c s.heap [] 0 0 Q (F0 m pc ls st0) := by
  have hr := gs_runVt (l := l) (e := e) (below := below) (meth := meth) (H := s.heap) (locs := []) (cells := 0) (slots := 0) (g := F0 m pc ls st0) (As := As) (rest := rest) S hM (gs_cwV S.2.2.2.2 hV hl hR) ⟨gs_blind, gs_recv hK hG he hc, fun U hU hW => ⟨rfl, gs_inU hK hE hz hG va_S.rf hU hW⟩⟩ rfl hn hsize hst (lv_room hW) hdg hf
  obtain ⟨hx, hb, hml, ho, hts⟩ := S
  have htw : ∀ w ∈ gs_w, w.before args s = true := fun w h => hts w (List.mem_cons_of_mem _ h)
  intro T hT Y
  obtain ⟨q, st₀, t, T', L, h0, hal, Y', hL, e1, e2, ⟨⟨cell, q1, q2, q3⟩, hU, hF⟩, st⟩ := hr T hT Y
  have hpl : e.platform.magicAccessors = ({} : Platform).magicAccessors := by rw [Y'.admits.platform]
  have hfc : s.vm.findClass E = some cell.cls := by rw [← hal.findClass]; exact q2
  obtain ⟨cE, tE, g1, g2, g3⟩ := Cond.castable_spec hcl
  cases hfc.symm.trans g1
  cases hfc.symm.trans g2
  obtain ⟨c', hc', hcl'⟩ := Cond.classLink_spec ho (htw _ hxl) e.platform hpl
  cases hfc.symm.trans hc'
  obtain ⟨dk, _, _, kt, hd, _, _, _, _, hkt, _, hopen⟩ := hcl'.here
  obtain ⟨vm', Y2, st2⟩ := Y'.caughtThrough q (g := { F0 m pc ls st0 with stack := rest }) rfl (cell := cell) (by rw [e1]; exact q1) (by rw [q3]; rfl) ⟨kt, hkt⟩ pre x post hsplit (fun y hy => by
    obtain ⟨y0, nm, y1, y2⟩ := hpass y hy
    exact RowPassed.of_words (args := args) hpl ho y0 (htw _ y1) hfc (Cond.holds_not_iff.mpr (by
      simp only [Cond.before, Cond.holds] at y2 ⊢
      obtain ⟨cn, hcn, -⟩ := Cond.classLink_spec ho (htw _ y1) e.platform hpl
      simp only [Cond.value, hfc, hcn] at y2 ⊢
      simpa using y2))) hxc (Or.inr ⟨hx0, cell.cls, hcl', g3⟩)
  obtain ⟨t2, a1, b1⟩ := kk q T'.heap ([] ++ L) (by rw [e1]; exact hU.2.1) ⟨by rw [e1]; have := hF.1; rw [h0] at this; exact this, fun z z1 z2 => by rw [e1]; have := hF.2 z (by rw [h0]; exact z1) z2; rw [h0] at this; exact this, fun z hz => hL z (by simpa using hz)⟩ (T'.setVm vm') rfl Y2
  refine ⟨t2, st t2 ?_, b1⟩
  rw [Y'.pushThrowing_eq]
  exact st2 t2 a1
end GSH
