section GSW
variable {p : Program} {l : Launch} {e : Env} {R : Room} {s : State} {m : MethodId} {args : Array Value} {below : List Frame} {meth : Method} {c : Code}
variable {cc bytes : ByteArray} {pc nL mc ms maxL k index : Nat} {ls : Array Slot} {X : gs_X} {σ : gs_St} {y : MethodName} {own C : String} {c0 : Cond} {ret : Option FieldType} {rm : Room} {As rest st0 : List Value} {a : Nat}
/-- throw new C("..") before anything is written -/
theorem gs_thr {E : String} {ix ic kx : Nat} {tx : String} (hexec : p.tables.exec = Jvm.exec) (hb : c.code = cc) (hml : c.maxLocals = nL) (htr : l.stackTraces = false) (hown : s.vm.findClass "RuleRounds" = some m.cls) (ht : ∀ w ∈ gs_w, w.before args s = true)
    (hK : gs_T X s) (hE : gs_E X s) (hz : X.2.2 ≤ s.heap.size) (hG : gs_H X σ s.heap) (hC : Bundle.fit E = true) (hat : ∀ w ∈ Bundle.ownAtoms "RuleRounds" ic E gx_up, w.before args s = true) (hlk : Cond.classLink "RuleRounds" ix E ∈ gs_w) (hins : Cond.instantiable E 6 ∈ gs_w) (hini : Cond.initialized E ∈ gs_w) (hstr : (kx, tx) ∈ gx_str)
    (hsz : ls.size = nL) (hd0 : decode cc pc = .ok (.new ix, 3)) (hd1 : decode cc (pc + 3) = .ok (.dup, 1)) (hd2 : decode cc (pc + 4) = .ok (.ldc kx, 2)) (hd3 : decode cc (pc + 6) = .ok (.invokespecial ic, 3)) (hd4 : decode cc (pc + 9) = .ok (.athrow, 1))
    (hout : ∀ x ∈ c.exceptionTable.toList, covers x (pc + 9) = false) (hR : 6 ≤ R.frames ∧ 90 ≤ R.locals ∧ 1 ≤ R.cells ∧ 6 ≤ R.slots) (hm : 1 ≤ mc ∧ 6 ≤ ms) (hlocks : meth.locks = false) :
    W p l e R s m args below meth c s.heap [] 0 0 (gs_MQt below (gs_Qt E X σ) args s mc ms (gs_A X)) (F0 m pc ls []) := by
  obtain ⟨sa, hsa⟩ := hE.2.2.2.2.2.2 _ hstr
  refine W.newc hexec hb hown (ht _ hlk) (ht _ hins) (ht _ hini) (g := F0 m pc ls []) rfl hd0 (by omega) (by omega) (fun cC kC h1 h2 _ _ => ?_)
  refine W.eq (g2 := F0 m (pc + 3) ls [.ref s.heap.size]) rfl ?_
  refine lv_dup hexec hb hd1 rfl ?_
  refine va_ldcS hexec hb hown hsa hd2 ?_
  exact gs_ctor hexec hb hml htr hown hK hE hz hG hC hat h1 h2 hsz hd3 hd4 hout ⟨hR.1, hR.2.1⟩ hm hlocks
theorem gs_thrI {kx : Nat} {tx : String} (hexec : p.tables.exec = Jvm.exec) (hb : c.code = cc) (hml : c.maxLocals = nL) (htr : l.stackTraces = false) (hown : s.vm.findClass "RuleRounds" = some m.cls) (ht : ∀ w ∈ gs_w, w.before args s = true)
    (hK : gs_T X s) (hE : gs_E X s) (hz : X.2.2 ≤ s.heap.size) (hG : gs_H X σ s.heap) (hstr : (kx, tx) ∈ gx_str)
    (hsz : ls.size = nL) (hd0 : decode cc pc = .ok (.new 49, 3)) (hd1 : decode cc (pc + 3) = .ok (.dup, 1)) (hd2 : decode cc (pc + 4) = .ok (.ldc kx, 2)) (hd3 : decode cc (pc + 6) = .ok (.invokespecial 53, 3)) (hd4 : decode cc (pc + 9) = .ok (.athrow, 1))
    (hout : ∀ x ∈ c.exceptionTable.toList, covers x (pc + 9) = false) (hR : 6 ≤ R.frames ∧ 90 ≤ R.locals ∧ 1 ≤ R.cells ∧ 6 ≤ R.slots) (hm : 1 ≤ mc ∧ 6 ≤ ms) (hlocks : meth.locks = false) :
    W p l e R s m args below meth c s.heap [] 0 0 (gs_MQt below (gs_Qt xI X σ) args s mc ms (gs_A X)) (F0 m pc ls []) :=
  gs_thr hexec hb hml htr hown ht hK hE hz hG (by decide +kernel) (gx_ownI ht hE) w_266 w_267 w_10 hstr hsz hd0 hd1 hd2 hd3 hd4 hout hR hm hlocks
theorem gs_thrS {kx : Nat} {tx : String} (hexec : p.tables.exec = Jvm.exec) (hb : c.code = cc) (hml : c.maxLocals = nL) (htr : l.stackTraces = false) (hown : s.vm.findClass "RuleRounds" = some m.cls) (ht : ∀ w ∈ gs_w, w.before args s = true)
    (hK : gs_T X s) (hE : gs_E X s) (hz : X.2.2 ≤ s.heap.size) (hG : gs_H X σ s.heap) (hstr : (kx, tx) ∈ gx_str)
    (hsz : ls.size = nL) (hd0 : decode cc pc = .ok (.new 59, 3)) (hd1 : decode cc (pc + 3) = .ok (.dup, 1)) (hd2 : decode cc (pc + 4) = .ok (.ldc kx, 2)) (hd3 : decode cc (pc + 6) = .ok (.invokespecial 63, 3)) (hd4 : decode cc (pc + 9) = .ok (.athrow, 1))
    (hout : ∀ x ∈ c.exceptionTable.toList, covers x (pc + 9) = false) (hR : 6 ≤ R.frames ∧ 90 ≤ R.locals ∧ 1 ≤ R.cells ∧ 6 ≤ R.slots) (hm : 1 ≤ mc ∧ 6 ≤ ms) (hlocks : meth.locks = false) :
    W p l e R s m args below meth c s.heap [] 0 0 (gs_MQt below (gs_Qt xS X σ) args s mc ms (gs_A X)) (F0 m pc ls []) :=
  gs_thr hexec hb hml htr hown ht hK hE hz hG (by decide +kernel) (gx_ownS ht hE) w_333 w_334 w_11 hstr hsz hd0 hd1 hd2 hd3 hd4 hout hR hm hlocks
theorem gs_callVt {E : String} {mc' ms' : Nat} (S : CallFix p m c cc nL s args (c0 :: gs_w) own) (hK : gs_T X s) (hE : gs_E X s) (hz : X.2.2 ≤ s.heap.size) (hG : gs_H X σ s.heap)
    (hM : gs_Mt l X y bytes maxL ret rm σ (.ref a :: As) E) (hV : gs_mV y C bytes maxL ret k) (hl : Cond.methodLink own index y ∈ gs_w) {ci : Nat} {fs : List Value} (he : σ a = some (gs_ob ci fs)) {T : u_T} {N : Nat} (hc : gs_cl[ci]? = some (C, T, N))
    (hn : As.length = k) (hsize : ls.size = nL) (hst : st0 = As.reverse ++ .ref a :: rest) (hW : (rest.map fun v => v.category).sum ≤ 8) (hR : rm.frames + 1 ≤ R.frames ∧ 8 + (maxL + 11) + rm.locals ≤ R.locals) (hf : 0 + rm.cells ≤ R.cells ∧ 0 + rm.slots ≤ R.slots) (hdg : decode cc pc = .ok (.invokevirtual index, 3))
    (hm : rm.cells ≤ mc' ∧ rm.slots ≤ ms') (hout : ∀ x ∈ c.exceptionTable.toList, covers x pc = false) (hlocks : meth.locks = false) : W p l e R s m args below meth c s.heap [] 0 0 (gs_MQt below (gs_Qt E X σ) args s mc' ms' (gs_A X)) (F0 m pc ls st0) :=
  gs_outT (gs_runVt (As := As) (rest := rest) S hM (gs_cwV S.2.2.2.2 hV hl hR) ⟨gs_blind, gs_recv hK hG he hc, fun U hU hW => ⟨rfl, gs_inU hK hE hz hG va_S.rf hU hW⟩⟩ rfl hn hsize hst (lv_room hW) hdg hf) hm hout hlocks
theorem gs_callSt {E : String} {mc' ms' : Nat} (S : CallFix p m c cc nL s args (c0 :: gs_w) own) (hK : gs_T X s) (hE : gs_E X s) (hz : X.2.2 ≤ s.heap.size) (hG : gs_H X σ s.heap)
    (hM : gs_Mt l X y bytes maxL ret rm σ As E) (hV : gs_mS y bytes maxL ret k) (hl : Cond.methodLink own index y ∈ gs_w)
    (hn : As.length = k) (hsize : ls.size = nL) (hst : st0 = As.reverse ++ rest) (hW : (rest.map fun v => v.category).sum ≤ 8) (hR : rm.frames + 1 ≤ R.frames ∧ 8 + (maxL + 11) + rm.locals ≤ R.locals) (hf : 0 + rm.cells ≤ R.cells ∧ 0 + rm.slots ≤ R.slots) (hdg : decode cc pc = .ok (.invokestatic index, 3))
    (hm : rm.cells ≤ mc' ∧ rm.slots ≤ ms') (hout : ∀ x ∈ c.exceptionTable.toList, covers x pc = false) (hlocks : meth.locks = false) : W p l e R s m args below meth c s.heap [] 0 0 (gs_MQt below (gs_Qt E X σ) args s mc' ms' (gs_A X)) (F0 m pc ls st0) :=
  gs_outT (gs_runSt (As := As) (rest := rest) S hM (gs_cwS S.2.2.2.2 hV hl hR) ⟨gs_blind, fun U hU hW => ⟨rfl, gs_inU hK hE hz hG va_S.rf hU hW⟩⟩ rfl hn hsize hst (lv_room hW) hdg hf) hm hout hlocks
end GSW
