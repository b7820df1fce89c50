/-! CALLS over the store: a contract turns one store into another -/
abbrev gs_ws (y : MethodName) (b : ByteArray) (n : Nat) (r : Option FieldType) : List Cond := Cond.code y b n r :: gs_w
/-- contracts: an int (or boolean) comes back; nothing comes back -/
abbrev gs_Mi (l : Launch) (X : gs_X) (y : MethodName) (b : ByteArray) (n : Nat) (r : Option FieldType) (rm : Room) (σ : gs_St) (av : List Value) (post : Int32 → gs_St → Prop) : Prop :=
  Met l y (gs_ws y b n r) rm (va_Pc av (gs_U X σ)) (va_Qi post (gs_U X) (gs_A X)) rm.cells rm.slots (gs_A X)
abbrev gs_Mv (l : Launch) (X : gs_X) (y : MethodName) (b : ByteArray) (n : Nat) (rm : Room) (σ : gs_St) (av : List Value) (post : gs_St → Prop) : Prop :=
  Met l y (gs_ws y b n none) rm (va_Pc av (gs_U X σ)) (va_Qv post (gs_U X) (gs_A X)) rm.cells rm.slots (gs_A X)
theorem gs_good {w : Cond} (h : w ∈ gs_w) : (w.onTables && w.keeps) = true ∨ ∃ ty, w = .arrayClass ty := good_of_word (List.mem_filter.mp h).2
theorem gs_goodL {c0 : Cond} {ws : List Cond} (h : ∀ w ∈ ws, w ∈ gs_w) : GoodIn (c0 :: gs_w) ws := fun w hw => ⟨List.mem_cons_of_mem _ (h w hw), gs_good (h w hw)⟩
theorem gs_inU {X : gs_X} {s U : State} {H : Heap} {σ : gs_St} {locs : List Loc} (hK : gs_T X s) (hE : gs_E X s) (hz : X.2.2 ≤ s.heap.size) (hG : gs_H X σ H) (hS : va_S (gs_A X) s.heap H locs) (hU : U.heap = H) (hW : s.WarmedH U.vm) : gs_U X σ U :=
  ⟨hK.warm hW, by rw [hU]; exact hG, by rw [hU]; exact Nat.le_trans hz hS.1, hE.step hW (fun q hq => by rw [hU]; exact hS.2.1 q (Nat.lt_of_lt_of_le hq hz) (Nat.not_le.mpr hq))⟩
theorem gs_blind {X : gs_X} {σ : gs_St} {av : List Value} : FrameBlind (va_Pc av (gs_U X σ)) := fun a U g mk q =>
  ⟨q.1, q.2.1.warm (U := U.calling g mk a) (State.WarmedH.refl U), q.2.2.1, q.2.2.2.1, q.2.2.2.2.step (U := U.calling g mk a) (State.WarmedH.refl U) (fun _ _ => rfl)⟩
/-- what is told of a method: of an object; static; a constructor -/
def gs_mV (y : MethodName) (C : String) (b : ByteArray) (n : Nat) (r : Option FieldType) (k : Nat) : Prop :=
  Cond.instanceMethod y ∈ gs_w ∧ Cond.selects C y y ∈ gs_w ∧ Cond.initialized C ∈ gs_w ∧ Cond.code y b n r ∈ gs_w ∧ y.cls = C ∧ y.cls ≠ "java/lang/invoke/MethodHandle" ∧ y.cls ≠ "java/lang/invoke/VarHandle" ∧ (parseMethodDescriptor y.desc).map (fun d => d.parameters.length) = some k
def gs_mS (y : MethodName) (b : ByteArray) (n : Nat) (r : Option FieldType) (k : Nat) : Prop :=
  Cond.static y ∈ gs_w ∧ Cond.initialized y.cls ∈ gs_w ∧ Cond.code y b n r ∈ gs_w ∧ y.cls ≠ "java/lang/invoke/MethodHandle" ∧ y.cls ≠ "java/lang/invoke/VarHandle" ∧ (parseMethodDescriptor y.desc).map (fun d => d.parameters.length) = some k
def gs_mI (y : MethodName) (b : ByteArray) (n : Nat) (k : Nat) : Prop :=
  Cond.instanceMethod y ∈ gs_w ∧ Cond.initialized y.cls ∈ gs_w ∧ Cond.code y b n none ∈ gs_w ∧ y.name = "<init>" ∧ y.cls ≠ "java/lang/invoke/MethodHandle" ∧ y.cls ≠ "java/lang/invoke/VarHandle" ∧ (parseMethodDescriptor y.desc).map (fun d => d.parameters.length) = some k
section GSC
variable {p : Program} {l : Launch} {e : Env} {R : Room} {s : State} {m : MethodId} {args : Array Value} {below : List Frame} {meth : Method} {c : Code} {H : Heap} {locs : List Loc} {cells slots : Nat} {Q : State → Prop}
variable {cc bytes : ByteArray} {pc nL maxL k index : Nat} {ls : Array Slot} {rest st0 : List Value} {a : Nat} {X : gs_X} {σ : gs_St} {own C : String} {c0 : Cond} {y : MethodName} {ret : Option FieldType} {rm : Room} {As : List Value}
theorem gs_cwV (hts : ∀ w ∈ c0 :: gs_w, w.before args s = true) (hV : gs_mV y C bytes maxL ret k) (hl : Cond.methodLink own index y ∈ gs_w) (hR : rm.frames + 1 ≤ R.frames ∧ 8 + (maxL + 11) + rm.locals ≤ R.locals) : CallW R s args own C index y bytes maxL ret (gs_ws y bytes maxL ret) rm rm.cells rm.slots k := by
  obtain ⟨h1, h2, h3, h4, h5⟩ := hV
  refine cwV k hts (gs_goodL (fun w hw => ?_)) rfl rfl rfl h5 hR
  rcases List.mem_append.mp hw with h | h
  · simp only [List.mem_cons, List.not_mem_nil, or_false] at h
    rcases h with rfl | rfl | rfl | rfl <;> assumption
  · rcases List.mem_cons.mp h with rfl | h
    · exact h4
    · exact h
theorem gs_cwS (hts : ∀ w ∈ c0 :: gs_w, w.before args s = true) (hV : gs_mS y bytes maxL ret k) (hl : Cond.methodLink own index y ∈ gs_w) (hR : rm.frames + 1 ≤ R.frames ∧ 8 + (maxL + 11) + rm.locals ≤ R.locals) : CallB R s args own index y bytes maxL ret (gs_ws y bytes maxL ret) rm rm.cells rm.slots k ∧ (Cond.static y).before args s = true := by
  obtain ⟨h1, h2, h3, h5⟩ := hV
  refine ⟨callB_of k hts (gs_goodL (fun w hw => ?_)) rfl rfl rfl (hts _ (List.mem_cons_of_mem _ h2)) (hts _ (List.mem_cons_of_mem _ hl)) h5 hR, hts _ (List.mem_cons_of_mem _ h1)⟩
  rcases List.mem_cons.mp hw with rfl | h
  · exact h3
  · exact h
theorem gs_cwI (hts : ∀ w ∈ c0 :: gs_w, w.before args s = true) (hV : gs_mI y bytes maxL k) (hl : Cond.methodLink own index y ∈ gs_w) (hR : rm.frames + 1 ≤ R.frames ∧ 8 + (maxL + 11) + rm.locals ≤ R.locals) : CallB R s args own index y bytes maxL none (gs_ws y bytes maxL none) rm rm.cells rm.slots k ∧ y.name = "<init>" ∧ (Cond.instanceMethod y).before args s = true := by
  obtain ⟨h1, h2, h3, h4, h5⟩ := hV
  refine cwI k hts (gs_goodL (fun w hw => ?_)) rfl rfl rfl (hts _ (List.mem_cons_of_mem _ h2)) (hts _ (List.mem_cons_of_mem _ hl)) (hts _ (List.mem_cons_of_mem _ h1)) h4 h5 hR
  rcases List.mem_cons.mp hw with rfl | h
  · exact h3
  · exact h
theorem gs_recv (hK : gs_T X s) (hG : gs_H X σ H) {ci : Nat} {fs : List Value} (he : σ a = some (gs_ob ci fs)) {q : vw_C} (hc : gs_cl[ci]? = some q) : ∃ cell : Cell, H[a]? = some cell ∧ cell.vm.isStatics = false ∧ s.vm.findClass q.1 = some cell.cls := by
  obtain ⟨ws, hP, hD, hw⟩ := hG
  obtain ⟨q0, hq⟩ := List.getElem?_of_mem (hw a _ he)
  exact va_recv hK.1 hP hc hq
/-- an int or a boolean comes back -/
theorem gs_callVi {post : Int32 → gs_St → Prop} (S : CallFix p m c cc nL s args (c0 :: gs_w) own) (hK : gs_T X s) (hE : gs_E X s) (hz : X.2.2 ≤ s.heap.size) (hG : gs_H X σ H) (hS : va_S (gs_A X) s.heap H locs)
    (hM : gs_Mi l X y bytes maxL ret rm σ (.ref a :: As) post) (hV : gs_mV y C bytes maxL ret k) (hl : Cond.methodLink own index y ∈ gs_w) {ci : Nat} {fs : List Value} (he : σ a = some (gs_ob ci fs)) {T : u_T} {N : Nat} (hc : gs_cl[ci]? = some (C, T, N))
    (hn : As.length = k) (hsize : ls.size = nL) (hst : st0 = As.reverse ++ .ref a :: rest) (hW : (rest.map fun v => v.category).sum ≤ 8) (hR : rm.frames + 1 ≤ R.frames ∧ 8 + (maxL + 11) + rm.locals ≤ R.locals) (hf : cells + rm.cells ≤ R.cells ∧ slots + rm.slots ≤ R.slots) (hdg : decode cc pc = .ok (.invokevirtual index, 3))
    (kk : ∀ (r : Int32) (σ' : gs_St) (H : Heap) (locs : List Loc), post r σ' → gs_H X σ' H → va_S (gs_A X) s.heap H locs → W p l e R s m args below meth c H locs (cells + rm.cells) (slots + rm.slots) Q (F0 m (pc + 3) ls (.int r :: rest))) : W p l e R s m args below meth c H locs cells slots Q (F0 m pc ls st0) := by
  refine va_calli (va_runV (As := As) (rest := rest) S hM (gs_cwV S.2.2.2.2 hV hl hR) ⟨gs_blind, gs_recv hK hG he hc, fun U hU hW => ⟨rfl, gs_inU hK hE hz hG hS hU hW⟩⟩ rfl hn hsize hst (lv_room hW) hdg hf) hS (fun q _ h => h) (fun q h => h) (fun r σ' t H1 locs1 ht hvm hp hB _ _ hS1 => ?_)
  have hG1 := hB.2.1
  rw [ht] at hG1
  exact kk r σ' H1 locs1 hp hG1 hS1
theorem gs_callVv {post : gs_St → Prop} (S : CallFix p m c cc nL s args (c0 :: gs_w) own) (hK : gs_T X s) (hE : gs_E X s) (hz : X.2.2 ≤ s.heap.size) (hG : gs_H X σ H) (hS : va_S (gs_A X) s.heap H locs)
    (hM : gs_Mv l X y bytes maxL rm σ (.ref a :: As) post) (hV : gs_mV y C bytes maxL none k) (hl : Cond.methodLink own index y ∈ gs_w) {ci : Nat} {fs : List Value} (he : σ a = some (gs_ob ci fs)) {T : u_T} {N : Nat} (hc : gs_cl[ci]? = some (C, T, N))
    (hn : As.length = k) (hsize : ls.size = nL) (hst : st0 = As.reverse ++ .ref a :: rest) (hW : (rest.map fun v => v.category).sum ≤ 8) (hR : rm.frames + 1 ≤ R.frames ∧ 8 + (maxL + 11) + rm.locals ≤ R.locals) (hf : cells + rm.cells ≤ R.cells ∧ slots + rm.slots ≤ R.slots) (hdg : decode cc pc = .ok (.invokevirtual index, 3))
    (kk : ∀ (σ' : gs_St) (H : Heap) (locs : List Loc), post σ' → gs_H X σ' H → va_S (gs_A X) s.heap H locs → W p l e R s m args below meth c H locs (cells + rm.cells) (slots + rm.slots) Q (F0 m (pc + 3) ls rest)) : W p l e R s m args below meth c H locs cells slots Q (F0 m pc ls st0) := by
  refine va_callv (va_runV (As := As) (rest := rest) S hM (gs_cwV S.2.2.2.2 hV hl hR) ⟨gs_blind, gs_recv hK hG he hc, fun U hU hW => ⟨rfl, gs_inU hK hE hz hG hS hU hW⟩⟩ rfl hn hsize hst (lv_room hW) hdg hf) hS (fun q _ h => h) (fun q h => h) (fun σ' t H1 locs1 ht hvm hp hB _ _ hS1 => ?_)
  have hG1 := hB.2.1
  rw [ht] at hG1
  exact kk σ' H1 locs1 hp hG1 hS1
theorem gs_callSi {post : Int32 → gs_St → Prop} (S : CallFix p m c cc nL s args (c0 :: gs_w) own) (hK : gs_T X s) (hE : gs_E X s) (hz : X.2.2 ≤ s.heap.size) (hG : gs_H X σ H) (hS : va_S (gs_A X) s.heap H locs)
    (hM : gs_Mi l X y bytes maxL ret rm σ As post) (hV : gs_mS y bytes maxL ret k) (hl : Cond.methodLink own index y ∈ gs_w)
    (hn : As.length = k) (hsize : ls.size = nL) (hst : st0 = As.reverse ++ rest) (hW : (rest.map fun v => v.category).sum ≤ 8) (hR : rm.frames + 1 ≤ R.frames ∧ 8 + (maxL + 11) + rm.locals ≤ R.locals) (hf : cells + rm.cells ≤ R.cells ∧ slots + rm.slots ≤ R.slots) (hdg : decode cc pc = .ok (.invokestatic index, 3))
    (kk : ∀ (r : Int32) (σ' : gs_St) (H : Heap) (locs : List Loc), post r σ' → gs_H X σ' H → va_S (gs_A X) s.heap H locs → W p l e R s m args below meth c H locs (cells + rm.cells) (slots + rm.slots) Q (F0 m (pc + 3) ls (.int r :: rest))) : W p l e R s m args below meth c H locs cells slots Q (F0 m pc ls st0) := by
  refine va_calli (va_runS (As := As) (rest := rest) S hM (gs_cwS S.2.2.2.2 hV hl hR) ⟨gs_blind, fun U hU hW => ⟨rfl, gs_inU hK hE hz hG hS hU hW⟩⟩ rfl hn hsize hst (lv_room hW) hdg hf) hS (fun q _ h => h) (fun q h => h) (fun r σ' t H1 locs1 ht hvm hp hB _ _ hS1 => ?_)
  have hG1 := hB.2.1
  rw [ht] at hG1
  exact kk r σ' H1 locs1 hp hG1 hS1
theorem gs_callSv {post : gs_St → Prop} (S : CallFix p m c cc nL s args (c0 :: gs_w) own) (hK : gs_T X s) (hE : gs_E X s) (hz : X.2.2 ≤ s.heap.size) (hG : gs_H X σ H) (hS : va_S (gs_A X) s.heap H locs)
    (hM : gs_Mv l X y bytes maxL rm σ As post) (hV : gs_mS y bytes maxL none k) (hl : Cond.methodLink own index y ∈ gs_w)
    (hn : As.length = k) (hsize : ls.size = nL) (hst : st0 = As.reverse ++ rest) (hW : (rest.map fun v => v.category).sum ≤ 8) (hR : rm.frames + 1 ≤ R.frames ∧ 8 + (maxL + 11) + rm.locals ≤ R.locals) (hf : cells + rm.cells ≤ R.cells ∧ slots + rm.slots ≤ R.slots) (hdg : decode cc pc = .ok (.invokestatic index, 3))
    (kk : ∀ (σ' : gs_St) (H : Heap) (locs : List Loc), post σ' → gs_H X σ' H → va_S (gs_A X) s.heap H locs → W p l e R s m args below meth c H locs (cells + rm.cells) (slots + rm.slots) Q (F0 m (pc + 3) ls rest)) : W p l e R s m args below meth c H locs cells slots Q (F0 m pc ls st0) := by
  refine va_callv (va_runS (As := As) (rest := rest) S hM (gs_cwS S.2.2.2.2 hV hl hR) ⟨gs_blind, fun U hU hW => ⟨rfl, gs_inU hK hE hz hG hS hU hW⟩⟩ rfl hn hsize hst (lv_room hW) hdg hf) hS (fun q _ h => h) (fun q h => h) (fun σ' t H1 locs1 ht hvm hp hB _ _ hS1 => ?_)
  have hG1 := hB.2.1
  rw [ht] at hG1
  exact kk σ' H1 locs1 hp hG1 hS1
theorem gs_callIv {post : gs_St → Prop} (S : CallFix p m c cc nL s args (c0 :: gs_w) own) (hK : gs_T X s) (hE : gs_E X s) (hz : X.2.2 ≤ s.heap.size) (hG : gs_H X σ H) (hS : va_S (gs_A X) s.heap H locs)
    (hM : gs_Mv l X y bytes maxL rm σ (.ref a :: As) post) (hV : gs_mI y bytes maxL k) (hl : Cond.methodLink own index y ∈ gs_w)
    (hn : As.length = k) (hsize : ls.size = nL) (hst : st0 = As.reverse ++ .ref a :: rest) (hW : (rest.map fun v => v.category).sum ≤ 8) (hR : rm.frames + 1 ≤ R.frames ∧ 8 + (maxL + 11) + rm.locals ≤ R.locals) (hf : cells + rm.cells ≤ R.cells ∧ slots + rm.slots ≤ R.slots) (hdg : decode cc pc = .ok (.invokespecial index, 3))
    (kk : ∀ (σ' : gs_St) (H : Heap) (locs : List Loc), post σ' → gs_H X σ' H → va_S (gs_A X) s.heap H locs → W p l e R s m args below meth c H locs (cells + rm.cells) (slots + rm.slots) Q (F0 m (pc + 3) ls rest)) : W p l e R s m args below meth c H locs cells slots Q (F0 m pc ls st0) := by
  refine va_callv (va_runI (As := As) (rest := rest) S hM (gs_cwI S.2.2.2.2 hV hl hR) ⟨gs_blind, fun U hU hW => ⟨rfl, gs_inU hK hE hz hG hS hU hW⟩⟩ rfl hn hsize hst (lv_room hW) hdg hf) hS (fun q _ h => h) (fun q h => h) (fun σ' t H1 locs1 ht hvm hp hB _ _ hS1 => ?_)
  have hG1 := hB.2.1
  rw [ht] at hG1
  exact kk σ' H1 locs1 hp hG1 hS1
/-- ends -/
theorem gs_iret {post : Int32 → gs_St → Prop} {ty : FieldType} {v : Int32} (hexec : p.tables.exec = Jvm.exec) (hb : c.code = cc) (hr : meth.sig.returnType = some ty) (hn : narrow ty (.int v) = .int v) (hK : gs_T X s) (hE : gs_E X s) (hz : X.2.2 ≤ s.heap.size) (hG : gs_H X σ H) (hS : va_S (gs_A X) s.heap H locs) (hlocks : meth.locks = false) {mc ms : Nat} (hc : cells ≤ mc) (hs : slots ≤ ms) (hp : post v σ) (hdg : decode cc pc = .ok (.ireturn, 1)) :
    W p l e R s m args below meth c H locs cells slots (MQ below (va_Qi post (gs_U X) (gs_A X)) args s mc ms (gs_A X)) (F0 m pc ls [.int v]) := by
  refine W.widen hc hs ?_
  exact W.zret hexec hb hr hn (fun t ht hW => ⟨⟨v, σ, rfl, hp, gs_inU hK hE hz hG hS ht hW⟩, hS.F ht⟩) hS.2.2 hdg hlocks
theorem gs_vret {post : gs_St → Prop} (hexec : p.tables.exec = Jvm.exec) (hb : c.code = cc) (hr : meth.sig.returnType = none) (hK : gs_T X s) (hE : gs_E X s) (hz : X.2.2 ≤ s.heap.size) (hG : gs_H X σ H) (hS : va_S (gs_A X) s.heap H locs) (hlocks : meth.locks = false) {mc ms : Nat} (hc : cells ≤ mc) (hs : slots ≤ ms) (hp : post σ) (hdg : decode cc pc = .ok (.return_, 1)) :
    W p l e R s m args below meth c H locs cells slots (MQ below (va_Qv post (gs_U X) (gs_A X)) args s mc ms (gs_A X)) (F0 m pc ls []) := by
  refine W.widen hc hs ?_
  exact W.vret hexec hb hr (fun t ht hW => ⟨⟨σ, rfl, hp, gs_inU hK hE hz hG hS ht hW⟩, hS.F ht⟩) hS.2.2 hdg hlocks
end GSC
