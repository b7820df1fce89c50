/-! calls that write nothing and make nothing: the heap stays as it is -/
def gs_Qp (post : Int32 → Prop) : Array Value → State → Outcome → State → Prop := fun _ st o t => (∃ r : Int32, o = .returned (some (.int r)) ∧ post r) ∧ t.heap = st.heap
def gs_Qpv : Array Value → State → Outcome → State → Prop := fun _ st o t => o = .returned none ∧ t.heap = st.heap
abbrev gs_Mp (l : Launch) (X : gs_X) (y : MethodName) (b : ByteArray) (n : Nat) (r : Option FieldType) (rm : Room) (σ : gs_St) (av : List Value) (post : Int32 → Prop) : Prop :=
  Met l y (gs_ws y b n r) rm (va_Pc av (gs_U X σ)) (gs_Qp post) rm.cells rm.slots (fun _ => False)
abbrev gs_Mpv (l : Launch) (X : gs_X) (y : MethodName) (b : ByteArray) (n : Nat) (rm : Room) (σ : gs_St) (av : List Value) : Prop :=
  Met l y (gs_ws y b n none) rm (va_Pc av (gs_U X σ)) gs_Qpv rm.cells rm.slots (fun _ => False)
section GSP
variable {p : Program} {l : Launch} {e : Env} {R : Room} {s : State} {m : MethodId} {args : Array Value} {below : List Frame} {meth : Method} {c : Code} {H : Heap} {locs : List Loc} {cells slots : Nat} {Q : State → Prop}
variable {cc bytes : ByteArray} {pc nL maxL k index : Nat} {ls : Array Slot} {rest st0 : List Value} {a : Nat} {X : gs_X} {σ : gs_St} {own C : String} {c0 : Cond} {y : MethodName} {ret : Option FieldType} {rm : Room} {As : List Value}
theorem gs_nil {L : List Loc} (h : ∀ q ∈ L, False) : L = [] := by
  cases L with
  | nil => rfl
  | cons q L => exact (h q List.mem_cons_self).elim
theorem gs_pcall {post : Int32 → Prop} {av : Array Value} (hr : va_Run p l e R s m args below meth c H locs cells slots rm.cells rm.slots (F0 m pc ls st0) rest (gs_Qp post av) (fun _ => False)) (h0 : rm.cells = 0 ∧ rm.slots = 0)
    (kk : ∀ r : Int32, post r → W p l e R s m args below meth c H locs cells slots Q (F0 m (pc + 3) ls (.int r :: rest))) : W p l e R s m args below meth c H locs cells slots Q (F0 m pc ls st0) := by
  intro T hT Y
  obtain ⟨v, st₀, t, T', L, e0, Y', hL, e1, e2, ⟨⟨r, hv, hp⟩, hh⟩, st⟩ := hr T hT Y
  cases hv
  have hLn := gs_nil hL
  subst hLn
  rw [h0.1, h0.2, List.append_nil] at Y'
  obtain ⟨t2, a1, b1⟩ := kk r hp T' (by rw [e1, hh, e0]) Y'
  exact ⟨t2, st t2 a1, b1⟩
theorem gs_pcallv {av : Array Value} (hr : va_Run p l e R s m args below meth c H locs cells slots rm.cells rm.slots (F0 m pc ls st0) rest (gs_Qpv av) (fun _ => False)) (h0 : rm.cells = 0 ∧ rm.slots = 0)
    (kk : W p l e R s m args below meth c H locs cells slots Q (F0 m (pc + 3) ls rest)) : W p l e R s m args below meth c H locs cells slots Q (F0 m pc ls st0) := by
  intro T hT Y
  obtain ⟨v, st₀, t, T', L, e0, Y', hL, e1, e2, ⟨hv, hh⟩, st⟩ := hr T hT Y
  cases hv
  have hLn := gs_nil hL
  subst hLn
  rw [h0.1, h0.2, List.append_nil] at Y'
  obtain ⟨t2, a1, b1⟩ := kk T' (by rw [e1, hh, e0]) Y'
  exact ⟨t2, st t2 a1, b1⟩
theorem gs_callVp {post : Int32 → Prop} (S : CallFix p m c cc nL s args (c0 :: gs_w) own) (hK : gs_T X s) (hE : gs_E X s) (hz : X.2.2 ≤ s.heap.size) (hG : gs_H X σ H) (hS : va_S (gs_A X) s.heap H locs)
    (hM : gs_Mp l X y bytes maxL ret rm σ (.ref a :: As) post) (h0 : rm.cells = 0 ∧ rm.slots = 0) (hV : gs_mV y C bytes maxL ret k) (hl : Cond.methodLink own index y ∈ gs_w) {ci : Nat} {fs : List Value} (he : σ a = some (gs_ob ci fs)) {T : u_T} {N : Nat} (hc : gs_cl[ci]? = some (C, T, N))
    (hn : As.length = k) (hsize : ls.size = nL) (hst : st0 = As.reverse ++ .ref a :: rest) (hW : (rest.map fun v => v.category).sum ≤ 8) (hR : rm.frames + 1 ≤ R.frames ∧ 8 + (maxL + 11) + rm.locals ≤ R.locals) (hf : cells ≤ R.cells ∧ slots ≤ R.slots) (hdg : decode cc pc = .ok (.invokevirtual index, 3))
    (kk : ∀ r : Int32, post r → W p l e R s m args below meth c H locs cells slots Q (F0 m (pc + 3) ls (.int r :: rest))) : W p l e R s m args below meth c H locs cells slots Q (F0 m pc ls st0) :=
  gs_pcall (va_runV (As := As) (rest := rest) S hM (gs_cwV S.2.2.2.2 hV hl hR) ⟨gs_blind, gs_recv hK hG he hc, fun U hU hW => ⟨rfl, gs_inU hK hE hz hG hS hU hW⟩⟩ rfl hn hsize hst (lv_room hW) hdg (by rw [h0.1, h0.2]; exact hf)) h0 kk
theorem gs_callVpv (S : CallFix p m c cc nL s args (c0 :: gs_w) own) (hK : gs_T X s) (hE : gs_E X s) (hz : X.2.2 ≤ s.heap.size) (hG : gs_H X σ H) (hS : va_S (gs_A X) s.heap H locs)
    (hM : gs_Mpv l X y bytes maxL rm σ (.ref a :: As)) (h0 : rm.cells = 0 ∧ rm.slots = 0) (hV : gs_mV y C bytes maxL none k) (hl : Cond.methodLink own index y ∈ gs_w) {ci : Nat} {fs : List Value} (he : σ a = some (gs_ob ci fs)) {T : u_T} {N : Nat} (hc : gs_cl[ci]? = some (C, T, N))
    (hn : As.length = k) (hsize : ls.size = nL) (hst : st0 = As.reverse ++ .ref a :: rest) (hW : (rest.map fun v => v.category).sum ≤ 8) (hR : rm.frames + 1 ≤ R.frames ∧ 8 + (maxL + 11) + rm.locals ≤ R.locals) (hf : cells ≤ R.cells ∧ slots ≤ R.slots) (hdg : decode cc pc = .ok (.invokevirtual index, 3))
    (kk : W p l e R s m args below meth c H locs cells slots Q (F0 m (pc + 3) ls rest)) : W p l e R s m args below meth c H locs cells slots Q (F0 m pc ls st0) :=
  gs_pcallv (va_runV (As := As) (rest := rest) S hM (gs_cwV S.2.2.2.2 hV hl hR) ⟨gs_blind, gs_recv hK hG he hc, fun U hU hW => ⟨rfl, gs_inU hK hE hz hG hS hU hW⟩⟩ rfl hn hsize hst (lv_room hW) hdg (by rw [h0.1, h0.2]; exact hf)) h0 kk
theorem gs_callSp {post : Int32 → Prop} (S : CallFix p m c cc nL s args (c0 :: gs_w) own) (hK : gs_T X s) (hE : gs_E X s) (hz : X.2.2 ≤ s.heap.size) (hG : gs_H X σ H) (hS : va_S (gs_A X) s.heap H locs)
    (hM : gs_Mp l X y bytes maxL ret rm σ As post) (h0 : rm.cells = 0 ∧ rm.slots = 0) (hV : gs_mS y bytes maxL ret k) (hl : Cond.methodLink own index y ∈ gs_w)
    (hn : As.length = k) (hsize : ls.size = nL) (hst : st0 = As.reverse ++ rest) (hW : (rest.map fun v => v.category).sum ≤ 8) (hR : rm.frames + 1 ≤ R.frames ∧ 8 + (maxL + 11) + rm.locals ≤ R.locals) (hf : cells ≤ R.cells ∧ slots ≤ R.slots) (hdg : decode cc pc = .ok (.invokestatic index, 3))
    (kk : ∀ r : Int32, post r → W p l e R s m args below meth c H locs cells slots Q (F0 m (pc + 3) ls (.int r :: rest))) : W p l e R s m args below meth c H locs cells slots Q (F0 m pc ls st0) :=
  gs_pcall (va_runS (As := As) (rest := rest) S hM (gs_cwS S.2.2.2.2 hV hl hR) ⟨gs_blind, fun U hU hW => ⟨rfl, gs_inU hK hE hz hG hS hU hW⟩⟩ rfl hn hsize hst (lv_room hW) hdg (by rw [h0.1, h0.2]; exact hf)) h0 kk
theorem gs_callSpv (S : CallFix p m c cc nL s args (c0 :: gs_w) own) (hK : gs_T X s) (hE : gs_E X s) (hz : X.2.2 ≤ s.heap.size) (hG : gs_H X σ H) (hS : va_S (gs_A X) s.heap H locs)
    (hM : gs_Mpv l X y bytes maxL rm σ As) (h0 : rm.cells = 0 ∧ rm.slots = 0) (hV : gs_mS y bytes maxL none k) (hl : Cond.methodLink own index y ∈ gs_w)
    (hn : As.length = k) (hsize : ls.size = nL) (hst : st0 = As.reverse ++ rest) (hW : (rest.map fun v => v.category).sum ≤ 8) (hR : rm.frames + 1 ≤ R.frames ∧ 8 + (maxL + 11) + rm.locals ≤ R.locals) (hf : cells ≤ R.cells ∧ slots ≤ R.slots) (hdg : decode cc pc = .ok (.invokestatic index, 3))
    (kk : W p l e R s m args below meth c H locs cells slots Q (F0 m (pc + 3) ls rest)) : W p l e R s m args below meth c H locs cells slots Q (F0 m pc ls st0) :=
  gs_pcallv (va_runS (As := As) (rest := rest) S hM (gs_cwS S.2.2.2.2 hV hl hR) ⟨gs_blind, fun U hU hW => ⟨rfl, gs_inU hK hE hz hG hS hU hW⟩⟩ rfl hn hsize hst (lv_room hW) hdg (by rw [h0.1, h0.2]; exact hf)) h0 kk
theorem gs_iretp {post : Int32 → Prop} {ty : FieldType} {v : Int32} (hexec : p.tables.exec = Jvm.exec) (hb : c.code = cc) (hr : meth.sig.returnType = some ty) (hn : narrow ty (.int v) = .int v) (hlocks : meth.locks = false) {mc ms : Nat} (hc : 0 ≤ mc) (hs : 0 ≤ ms) (hp : post v) (hdg : decode cc pc = .ok (.ireturn, 1)) :
    W p l e R s m args below meth c s.heap [] 0 0 (MQ below (gs_Qp post) args s mc ms (fun _ => False)) (F0 m pc ls [.int v]) := by
  refine W.widen hc hs ?_
  exact W.zret hexec hb hr hn (fun t ht hW => ⟨⟨v, rfl, hp⟩, ht⟩) (fun q hq => by cases hq) hdg hlocks
theorem gs_vretp (hexec : p.tables.exec = Jvm.exec) (hb : c.code = cc) (hr : meth.sig.returnType = none) (hlocks : meth.locks = false) {mc ms : Nat} (hc : 0 ≤ mc) (hs : 0 ≤ ms) (hdg : decode cc pc = .ok (.return_, 1)) :
    W p l e R s m args below meth c s.heap [] 0 0 (MQ below gs_Qpv args s mc ms (fun _ => False)) (F0 m pc ls []) := by
  refine W.widen hc hs ?_
  exact W.vret hexec hb hr (fun t ht hW => ⟨rfl, ht⟩) (fun q hq => by cases hq) hdg hlocks
end GSP
