section GSN
variable {p : Program} {l : Launch} {e : Env} {R : Room} {s : State} {m : MethodId} {args : Array Value} {below : List Frame} {meth : Method} {c : Code} {H : Heap} {locs : List Loc} {cells slots : Nat} {Q : State → Prop}
variable {cc bytes : ByteArray} {pc nL maxL k index : Nat} {ls : Array Slot} {rest st0 : List Value} {a : Nat} {X : gs_X} {σ : gs_St} {own host : String} {c0 : Cond} {y : MethodName} {ret : Option FieldType} {rm : Room} {As : List Value}
/-- a static method of a nest mate -/
theorem gs_callSiN {post : Int32 → gs_St → Prop} (S : CallFix p m c cc nL s args (c0 :: gs_w) own) (hK : gs_T X s) (hE : gs_E X s) (hz : X.2.2 ≤ s.heap.size) (hG : gs_H X σ H) (hS : va_S (gs_A X) s.heap H locs)
    (hM : gs_Mi l X y bytes maxL ret rm σ As post) (hV : gs_mS y bytes maxL ret k) (hl : va_Nw (.methodLinkNest own index y host) s)
    (hn : As.length = k) (hsize : ls.size = nL) (hst : st0 = As.reverse ++ rest) (hW : (rest.map fun v => v.category).sum ≤ 8) (hR : rm.frames + 1 ≤ R.frames ∧ 8 + (maxL + 11) + rm.locals ≤ R.locals) (hf : cells + rm.cells ≤ R.cells ∧ slots + rm.slots ≤ R.slots) (hdg : decode cc pc = .ok (.invokestatic index, 3))
    (kk : ∀ (r : Int32) (σ' : gs_St) (H : Heap) (locs : List Loc), post r σ' → gs_H X σ' H → va_S (gs_A X) s.heap H locs → W p l e R s m args below meth c H locs (cells + rm.cells) (slots + rm.slots) Q (F0 m (pc + 3) ls (.int r :: rest))) : W p l e R s m args below meth c H locs cells slots Q (F0 m pc ls st0) := by
  have hts := S.2.2.2.2
  obtain ⟨h1, h2, h3, h5⟩ := hV
  refine va_calli (va_runSN (As := As) (rest := rest) S hM ⟨va_cnB (bytes := bytes) (maxL := maxL) (ret := ret) k hts (gs_goodL (fun w hw => ?_)) rfl rfl rfl hl (hts _ (List.mem_cons_of_mem _ h2)) h5 hR, hts _ (List.mem_cons_of_mem _ h1), trivial⟩ ⟨gs_blind, fun U hU hW => ⟨rfl, gs_inU hK hE hz hG hS hU hW⟩⟩ rfl hn hsize hst (lv_room hW) hdg hf) hS (fun q _ h => h) (fun q h => h) (fun r σ' t H1 locs1 ht hvm hp hB _ _ hS1 => ?_)
  · rcases List.mem_cons.mp hw with rfl | h
    · exact h3
    · exact h
  · have hG1 := hB.2.1
    rw [ht] at hG1
    exact kk r σ' H1 locs1 hp hG1 hS1
end GSN
