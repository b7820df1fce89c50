/-! ROWS OF THE STORE, an instruction each, out of the kit's rows of moving worlds -/
section GSR
variable {p : Program} {l : Launch} {e : Env} {R : Room} {s : State} {m : MethodId} {args : Array Value} {below : List Frame} {meth : Method} {c : Code} {H : Heap} {locs : List Loc} {cells slots : Nat} {Q : State → Prop}
variable {cc : ByteArray} {pc : Nat} {ls : Array Slot} {rest : List Value} {a : Nat} {X : gs_X} {σ : gs_St} {H0 : Heap}
/-- what is told of a class: its words among Ts, its place, its fields' types and names -/
def gs_cls (Ts : List Cond) (ci : Nat) (C : String) (T : u_T) (N : Nat) (ty : Nat → FieldType) : Prop :=
  (∀ w ∈ u_ws C T N, w ∈ Ts) ∧ gs_cl[ci]? = some (C, T, N) ∧ (∀ k, k < N → parseFieldDescriptor (T k).2.2.1 = some (ty k)) ∧ ∀ a, a < N → ∀ b, b < N → a ≠ b → (T a).2.1 ≠ (T b).2.1
theorem gs_top {x y : Int32} (h : x = y) (k : W p l e R s m args below meth c H locs cells slots Q (F0 m pc ls (.int y :: rest))) : W p l e R s m args below meth c H locs cells slots Q (F0 m pc ls (.int x :: rest)) := by
  subst h; exact k
theorem gs_topr {x y : Value} (h : x = y) (k : W p l e R s m args below meth c H locs cells slots Q (F0 m pc ls (y :: rest))) : W p l e R s m args below meth c H locs cells slots Q (F0 m pc ls (x :: rest)) := by
  subst h; exact k
theorem gs_get (hexec : p.tables.exec = Jvm.exec) (hb : c.code = cc) {own C : String} {T : u_T} {N ci index : Nat} {ty : Nat → FieldType} {Ts : List Cond} (hts : ∀ w ∈ Ts, w.before args s = true) (hown : s.vm.findClass own = some m.cls) (hK : gs_T X s) (hG : gs_H X σ H)
    (hC : gs_cls Ts ci C T N ty) {fs : List Value} (he : σ a = some (gs_ob ci fs)) (k : Nat) (hk : k < N) (hlink : Cond.fieldLink own index (T k).1 (T k).2.1 (T k).2.2.1 ∈ Ts) {v : Value} (hv : fs[k]? = some v) (hdg : decode cc pc = .ok (.getfield index, 3))
    (kk : W p l e R s m args below meth c H locs cells slots Q (F0 m (pc + 3) ls (v :: rest))) : W p l e R s m args below meth c H locs cells slots Q (F0 m pc ls (.ref a :: rest)) := by
  obtain ⟨ws, hP, hD, hw⟩ := hG
  obtain ⟨q0, hq⟩ := List.getElem?_of_mem (hw a _ he)
  exact va_get hexec hb hts hC.1 hown hK.1 hP q0 hq hC.2.1 k hk (hts _ hlink) (fun _ h => h) hv hdg kk
theorem gs_put (hexec : p.tables.exec = Jvm.exec) (hb : c.code = cc) {own C : String} {T : u_T} {N ci index : Nat} {ty : Nat → FieldType} {Ts : List Cond} (hts : ∀ w ∈ Ts, w.before args s = true) (hown : s.vm.findClass own = some m.cls) (hK : gs_T X s) (hG : gs_H X σ H) (hS : va_S (gs_A X) H0 H locs)
    (hC : gs_cls Ts ci C T N ty) {fs : List Value} (he : σ a = some (gs_ob ci fs)) (k : Nat) (hk : k < N) (hlink : Cond.fieldLink own index (T k).1 (T k).2.1 (T k).2.2.1 ∈ Ts) (hfin : (T k).2.2.2 = false) {v : Value} (hn : narrow (ty k) v = v) (hfit : fits (ty k) v = true) (hl : k < fs.length) (hdg : decode cc pc = .ok (.putfield index, 3))
    (kk : ∀ (H : Heap) (locs : List Loc), gs_H X (gs_up σ a (gs_ob ci (fs.set k v))) H → va_S (gs_A X) H0 H locs → W p l e R s m args below meth c H locs cells slots Q (F0 m (pc + 3) ls rest)) : W p l e R s m args below meth c H locs cells slots Q (F0 m pc ls (v :: .ref a :: rest)) := by
  obtain ⟨ws, hP, hD, hw⟩ := hG
  obtain ⟨q0, hq⟩ := List.getElem?_of_mem (hw a _ he)
  exact va_put hexec hb hts hC.1 ty hC.2.2.1 hC.2.2.2 hown hK.1 hP hD hS q0 hq hC.2.1 k hk (hts _ hlink) (fun _ h => h) hfin (hC.2.2.1 k hk) hn hfit hl hdg (fun H1 locs1 hP1 hD1 hS1 => kk H1 locs1 ⟨_, hP1, hD1, gs_set hD hw hq⟩ hS1)
theorem gs_putF (hexec : p.tables.exec = Jvm.exec) (hb : c.code = cc) {own C : String} {T : u_T} {N ci index : Nat} {ty : Nat → FieldType} {Ts : List Cond} (hts : ∀ w ∈ Ts, w.before args s = true) (hown : s.vm.findClass own = some m.cls) (hK : gs_T X s) (hG : gs_H X σ H) (hS : va_S (gs_A X) H0 H locs)
    (hC : gs_cls Ts ci C T N ty) {fs : List Value} (he : σ a = some (gs_ob ci fs)) (k : Nat) (hk : k < N) (hlink : Cond.fieldLink own index (T k).1 (T k).2.1 (T k).2.2.1 ∈ Ts) (hfin : (T k).2.2.2 = true) (hin : meth.name = "<init>") (hdecl : (T k).1 = own) {v : Value} (hn : narrow (ty k) v = v) (hfit : fits (ty k) v = true) (hl : k < fs.length) (hdg : decode cc pc = .ok (.putfield index, 3))
    (kk : ∀ (H : Heap) (locs : List Loc), gs_H X (gs_up σ a (gs_ob ci (fs.set k v))) H → va_S (gs_A X) H0 H locs → W p l e R s m args below meth c H locs cells slots Q (F0 m (pc + 3) ls rest)) : W p l e R s m args below meth c H locs cells slots Q (F0 m pc ls (v :: .ref a :: rest)) := by
  obtain ⟨ws, hP, hD, hw⟩ := hG
  obtain ⟨q0, hq⟩ := List.getElem?_of_mem (hw a _ he)
  exact va_putF hexec hb hts hC.1 ty hC.2.2.1 hC.2.2.2 hown hK.1 hP hD hS q0 hq hC.2.1 k hk (hts _ hlink) (fun _ h => h) hfin hin hdecl (hC.2.2.1 k hk) hn hfit hl hdg (fun H1 locs1 hP1 hD1 hS1 => kk H1 locs1 ⟨_, hP1, hD1, gs_set hD hw hq⟩ hS1)
theorem gs_new (hexec : p.tables.exec = Jvm.exec) (hb : c.code = cc) {own C : String} {T : u_T} {N ci index : Nat} {ty : Nat → FieldType} {Ts : List Cond} (hts : ∀ w ∈ Ts, w.before args s = true) (hown : s.vm.findClass own = some m.cls) (hK : gs_T X s) (hG : gs_H X σ H) (hS : va_S (gs_A X) H0 H locs) (hA : ∀ q, H0.size ≤ q → gs_A X q)
    (hC : gs_cls Ts ci C T N ty) (hlink : Cond.classLink own index C ∈ Ts) (hinst : Cond.instantiable C N ∈ Ts) (hini : Cond.initialized C ∈ Ts) {fs : List Value} (hfs : ∀ j, j < N → defaultValue (ty j) = vp_V fs j) (hcells : cells + 1 ≤ R.cells) (hslots : slots + N ≤ R.slots) (hdg : decode cc pc = .ok (.new index, 3))
    (kk : ∀ (q : Nat) (H : Heap), σ q = none → gs_H X (gs_up σ q (gs_ob ci fs)) H → va_S (gs_A X) H0 H locs → W p l e R s m args below meth c H locs (cells + 1) (slots + N) Q (F0 m (pc + 3) ls (.ref q :: rest))) : W p l e R s m args below meth c H locs cells slots Q (F0 m pc ls rest) := by
  obtain ⟨ws, hP, hD, hw⟩ := hG
  exact va_new hexec hb hts hC.1 ty hC.2.2.1 hown (hts _ hlink) (hts _ hinst) (hts _ hini) hK.1 hP hD hS hA hC.2.1 hfs hcells hslots hdg (fun q H1 hP1 hD1 hS1 => kk q H1 (gs_push hD1 hw).1 ⟨_, hP1, hD1, (gs_push hD1 hw).2⟩ hS1)
theorem gs_iald (hexec : p.tables.exec = Jvm.exec) (hb : c.code = cc) (hK : gs_T X s) (hG : gs_H X σ H) {n : Nat} {f : Nat → Int32} (ha : σ a = some (gs_ia X n f)) {j : Nat} (hj : j < n) (hn : n < 2 ^ 31) (hdg : decode cc pc = .ok (.iaload, 1))
    (kk : W p l e R s m args below meth c H locs cells slots Q (F0 m (pc + 1) ls (.int (f j) :: rest))) : W p l e R s m args below meth c H locs cells slots Q (F0 m pc ls (.int (nI j) :: .ref a :: rest)) := by
  obtain ⟨ws, hP, hD, hw⟩ := hG
  obtain ⟨q0, hq⟩ := List.getElem?_of_mem (hw a _ ha)
  refine va_iald hexec hb hK.1 hP q0 0 hq rfl (vp_in_nI hj hn) hdg ?_
  rw [nI_clamp (Nat.lt_trans hj hn)]
  exact kk
theorem gs_iast (hexec : p.tables.exec = Jvm.exec) (hb : c.code = cc) (hK : gs_T X s) (hG : gs_H X σ H) (hS : va_S (gs_A X) H0 H locs) {n : Nat} {f : Nat → Int32} (ha : σ a = some (gs_ia X n f)) {j : Nat} {x : Int32} (hj : j < n) (hn : n < 2 ^ 31) (hdg : decode cc pc = .ok (.iastore, 1))
    (kk : ∀ (H : Heap) (locs : List Loc), gs_H X (gs_up σ a (gs_ia X n (upd f j x))) H → va_S (gs_A X) H0 H locs → W p l e R s m args below meth c H locs cells slots Q (F0 m (pc + 1) ls rest)) : W p l e R s m args below meth c H locs cells slots Q (F0 m pc ls (.int x :: .int (nI j) :: .ref a :: rest)) := by
  obtain ⟨ws, hP, hD, hw⟩ := hG
  obtain ⟨q0, hq⟩ := List.getElem?_of_mem (hw a _ ha)
  refine va_iast hexec hb hK.1 hP hD hS q0 0 hq rfl (vp_in_nI hj hn) hdg ?_
  rw [nI_clamp (Nat.lt_trans hj hn)]
  exact fun H1 locs1 hP1 hD1 hS1 => kk H1 locs1 ⟨_, hP1, hD1, gs_set hD hw hq⟩ hS1
theorem gs_lald (hexec : p.tables.exec = Jvm.exec) (hb : c.code = cc) (hK : gs_T X s) (hG : gs_H X σ H) {n : Nat} {f : Nat → Int64} (ha : σ a = some (gs_la X n f)) {j : Nat} (hj : j < n) (hn : n < 2 ^ 31) (hdg : decode cc pc = .ok (.laload, 1))
    (kk : W p l e R s m args below meth c H locs cells slots Q (F0 m (pc + 1) ls (.long (f j) :: rest))) : W p l e R s m args below meth c H locs cells slots Q (F0 m pc ls (.int (nI j) :: .ref a :: rest)) := by
  obtain ⟨ws, hP, hD, hw⟩ := hG
  obtain ⟨q0, hq⟩ := List.getElem?_of_mem (hw a _ ha)
  refine va_lald hexec hb hK.1 hP q0 1 hq rfl (vp_in_nI hj hn) hdg ?_
  rw [nI_clamp (Nat.lt_trans hj hn)]
  exact kk
theorem gs_last (hexec : p.tables.exec = Jvm.exec) (hb : c.code = cc) (hK : gs_T X s) (hG : gs_H X σ H) (hS : va_S (gs_A X) H0 H locs) {n : Nat} {f : Nat → Int64} (ha : σ a = some (gs_la X n f)) {j : Nat} {x : Int64} (hj : j < n) (hn : n < 2 ^ 31) (hdg : decode cc pc = .ok (.lastore, 1))
    (kk : ∀ (H : Heap) (locs : List Loc), gs_H X (gs_up σ a (gs_la X n (vp_updL f j x))) H → va_S (gs_A X) H0 H locs → W p l e R s m args below meth c H locs cells slots Q (F0 m (pc + 1) ls rest)) : W p l e R s m args below meth c H locs cells slots Q (F0 m pc ls (.long x :: .int (nI j) :: .ref a :: rest)) := by
  obtain ⟨ws, hP, hD, hw⟩ := hG
  obtain ⟨q0, hq⟩ := List.getElem?_of_mem (hw a _ ha)
  refine va_last hexec hb hK.1 hP hD hS q0 1 hq rfl (vp_in_nI hj hn) hdg ?_
  rw [nI_clamp (Nat.lt_trans hj hn)]
  exact fun H1 locs1 hP1 hD1 hS1 => kk H1 locs1 ⟨_, hP1, hD1, gs_set hD hw hq⟩ hS1
theorem gs_aald (hexec : p.tables.exec = Jvm.exec) (hb : c.code = cc) (hK : gs_T X s) (hG : gs_H X σ H) (t0 : Nat) {C : String} {n : Nat} {f : Nat → Option Nat} (ha : σ a = some (gs_qa X t0 n f)) (ht : (gs_ty X)[t0]? = some (X.2.1 t0, .object C)) {j : Nat} (hj : j < n) (hn : n < 2 ^ 31) (hdg : decode cc pc = .ok (.aaload, 1))
    (kk : W p l e R s m args below meth c H locs cells slots Q (F0 m (pc + 1) ls (va_rf (f j) :: rest))) : W p l e R s m args below meth c H locs cells slots Q (F0 m pc ls (.int (nI j) :: .ref a :: rest)) := by
  obtain ⟨ws, hP, hD, hw⟩ := hG
  obtain ⟨q0, hq⟩ := List.getElem?_of_mem (hw a _ ha)
  refine va_aldq hexec hb hK.1 hP q0 t0 hq ht (vp_in_nI hj hn) hdg ?_
  rw [nI_clamp (Nat.lt_trans hj hn)]
  exact kk
theorem gs_aast (hexec : p.tables.exec = Jvm.exec) (hb : c.code = cc) (hK : gs_T X s) (hG : gs_H X σ H) (hS : va_S (gs_A X) H0 H locs) (t0 ci : Nat) {r : vw_C} {n v : Nat} {vs : List Value} {f : Nat → Option Nat} (ha : σ a = some (gs_qa X t0 n f)) (ht : (gs_ty X)[t0]? = some (X.2.1 t0, .object r.1)) (hv : σ v = some (gs_ob ci vs)) (hc : gs_cl[ci]? = some r) {j : Nat} (hj : j < n) (hn : n < 2 ^ 31) (hdg : decode cc pc = .ok (.aastore, 1))
    (kk : ∀ (H : Heap) (locs : List Loc), gs_H X (gs_up σ a (gs_qa X t0 n (va_up f j (some v)))) H → va_S (gs_A X) H0 H locs → W p l e R s m args below meth c H locs cells slots Q (F0 m (pc + 1) ls rest)) : W p l e R s m args below meth c H locs cells slots Q (F0 m pc ls (.ref v :: .int (nI j) :: .ref a :: rest)) := by
  obtain ⟨ws, hP, hD, hw⟩ := hG
  obtain ⟨q0, hq⟩ := List.getElem?_of_mem (hw a _ ha)
  obtain ⟨qk, hqk⟩ := List.getElem?_of_mem (hw v _ hv)
  refine va_astq hexec hb hK.1 hP hD hS q0 t0 qk ci hq ht hqk hc (vp_in_nI hj hn) hdg ?_
  rw [nI_clamp (Nat.lt_trans hj hn)]
  exact fun H1 locs1 hP1 hD1 hS1 => kk H1 locs1 ⟨_, hP1, hD1, gs_set hD hw hq⟩ hS1
theorem gs_alen (hexec : p.tables.exec = Jvm.exec) (hb : c.code = cc) (hK : gs_T X s) (hG : gs_H X σ H) {n : Nat} {f : Nat → Int32} (ha : σ a = some (gs_ia X n f)) (hdg : decode cc pc = .ok (.arraylength, 1))
    (kk : W p l e R s m args below meth c H locs cells slots Q (F0 m (pc + 1) ls (.int (nI n) :: rest))) : W p l e R s m args below meth c H locs cells slots Q (F0 m pc ls (.ref a :: rest)) := by
  obtain ⟨ws, hP, hD, hw⟩ := hG
  obtain ⟨q0, hq⟩ := List.getElem?_of_mem (hw a _ ha)
  exact va_alen hexec hb hK.1 hP q0 0 hq (ty := .int) rfl rfl hdg kk
theorem gs_newi (hexec : p.tables.exec = Jvm.exec) (hb : c.code = cc) {Ts : List Cond} (hts : ∀ w ∈ Ts, w.before args s = true) (hK : gs_T X s) (hG : gs_H X σ H) (hS : va_S (gs_A X) H0 H locs) (hA : ∀ q, H0.size ≤ q → gs_A X q)
    (harr : Cond.arrayClass .int ∈ Ts) {n : Nat} (hn : n * 4 ≤ 536870912) (hcells : cells + 1 ≤ R.cells) (hslots : slots + n ≤ R.slots) (hdg : decode cc pc = .ok (.newarray .int, 2))
    (kk : ∀ (q : Nat) (H : Heap), σ q = none → gs_H X (gs_up σ q (gs_ia X n (fun _ => 0))) H → va_S (gs_A X) H0 H locs → W p l e R s m args below meth c H locs (cells + 1) (slots + n) Q (F0 m (pc + 2) ls (.ref q :: rest))) : W p l e R s m args below meth c H locs cells slots Q (F0 m pc ls (.int (nI n) :: rest)) := by
  obtain ⟨ws, hP, hD, hw⟩ := hG
  refine va_newa hexec hb (atype := .int) (hts _ harr) (ty := .int) rfl hK.1 hP hD hS hA (n := nI n) (N' := n) (a0 := (n, .inl (fun _ => 0))) (fun cA => by rw [vp_cell_i]; rfl) (nI_pos (by omega)) (nI_clamp (by omega)) (by show n * 4 ≤ _; exact hn) hcells hslots hdg (fun q cA H1 hK1 hP1 hD1 hS1 => ?_)
  have e1 : s.vm.findClass ("[" ++ FieldType.int.toString) = some cA := (hK1.2 (gs_ty X).length (cA, .int) (by simp)).2
  have e2 : s.vm.findClass ("[" ++ FieldType.int.toString) = some (X.2.1 0) := (hK.1.2 0 (X.2.1 0, .int) rfl).2
  have e3 : cA = X.2.1 0 := Option.some.inj (e1.symm.trans e2)
  subst e3
  exact kk q H1 (gs_push hD1 hw).1 ⟨_, hP1, hD1, (gs_push hD1 hw).2⟩ hS1
theorem gs_newl (hexec : p.tables.exec = Jvm.exec) (hb : c.code = cc) {Ts : List Cond} (hts : ∀ w ∈ Ts, w.before args s = true) (hK : gs_T X s) (hG : gs_H X σ H) (hS : va_S (gs_A X) H0 H locs) (hA : ∀ q, H0.size ≤ q → gs_A X q)
    (harr : Cond.arrayClass .long ∈ Ts) {n : Nat} (hn : n * 8 ≤ 536870912) (hcells : cells + 1 ≤ R.cells) (hslots : slots + n ≤ R.slots) (hdg : decode cc pc = .ok (.newarray .long, 2))
    (kk : ∀ (q : Nat) (H : Heap), σ q = none → gs_H X (gs_up σ q (gs_la X n (fun _ => 0))) H → va_S (gs_A X) H0 H locs → W p l e R s m args below meth c H locs (cells + 1) (slots + n) Q (F0 m (pc + 2) ls (.ref q :: rest))) : W p l e R s m args below meth c H locs cells slots Q (F0 m pc ls (.int (nI n) :: rest)) := by
  obtain ⟨ws, hP, hD, hw⟩ := hG
  refine va_newa hexec hb (atype := .long) (hts _ harr) (ty := .long) rfl hK.1 hP hD hS hA (n := nI n) (N' := n) (a0 := (n, .inr (.inl (fun _ => 0)))) (fun cA => by rw [vp_cell_l]; rfl) (nI_pos (by omega)) (nI_clamp (by omega)) (by show n * 8 ≤ _; exact hn) hcells hslots hdg (fun q cA H1 hK1 hP1 hD1 hS1 => ?_)
  have e1 : s.vm.findClass ("[" ++ FieldType.long.toString) = some cA := (hK1.2 (gs_ty X).length (cA, .long) (by simp)).2
  have e2 : s.vm.findClass ("[" ++ FieldType.long.toString) = some (X.2.1 1) := (hK.1.2 1 (X.2.1 1, .long) rfl).2
  have e3 : cA = X.2.1 1 := Option.some.inj (e1.symm.trans e2)
  subst e3
  exact kk q H1 (gs_push hD1 hw).1 ⟨_, hP1, hD1, (gs_push hD1 hw).2⟩ hS1
theorem gs_newq (hexec : p.tables.exec = Jvm.exec) (hb : c.code = cc) {Ts : List Cond} (hts : ∀ w ∈ Ts, w.before args s = true) {own C : String} {index : Nat} (t0 : Nat) (hown : s.vm.findClass own = some m.cls) (hK : gs_T X s) (hG : gs_H X σ H) (hS : va_S (gs_A X) H0 H locs) (hA : ∀ q, H0.size ≤ q → gs_A X q)
    (hlink : Cond.classLink own index C ∈ Ts) (ho : va_AO C s) (ht : (gs_ty X)[t0]? = some (X.2.1 t0, .object C)) {n : Nat} (hn : n * 4 ≤ 536870912) (hcells : cells + 1 ≤ R.cells) (hslots : slots + n ≤ R.slots) (hdg : decode cc pc = .ok (.anewarray index, 3))
    (kk : ∀ (q : Nat) (H : Heap), σ q = none → gs_H X (gs_up σ q (gs_qa X t0 n (fun _ => none))) H → va_S (gs_A X) H0 H locs → W p l e R s m args below meth c H locs (cells + 1) (slots + n) Q (F0 m (pc + 3) ls (.ref q :: rest))) : W p l e R s m args below meth c H locs cells slots Q (F0 m pc ls (.int (nI n) :: rest)) := by
  obtain ⟨ws, hP, hD, hw⟩ := hG
  refine va_newq hexec hb hown (hts _ hlink) ho hK.1 hP hD hS hA (n := nI n) (N' := n) (nI_pos (by omega)) (nI_clamp (by omega)) hn hcells hslots hdg (fun q cA H1 hK1 hP1 hD1 hS1 => ?_)
  obtain ⟨-, -, -, -, -, e1⟩ := (hK1.2 (gs_ty X).length (cA, .object C) (by simp)).2
  obtain ⟨-, -, -, -, -, e2⟩ := (hK.1.2 t0 (X.2.1 t0, .object C) ht).2
  have e3 : cA = X.2.1 t0 := Option.some.inj (e1.symm.trans e2)
  subst e3
  exact kk q H1 (gs_push hD1 hw).1 ⟨_, hP1, hD1, (gs_push hD1 hw).2⟩ hS1
theorem gs_copyi (hexec : p.tables.exec = Jvm.exec) (hb : c.code = cc) (hml : c.maxLocals = ls.size) {Ts : List Cond} (hts : ∀ w ∈ Ts, w.before args s = true) {own : String} {index : Nat} (hown : s.vm.findClass own = some m.cls) (hlink : Cond.methodLink own index arraycopyName ∈ Ts) (hnat : Cond.native arraycopyName ∈ Ts) (hstat : Cond.static arraycopyName ∈ Ts) (hini : Cond.initialized "java/lang/System" ∈ Ts)
    (hK : gs_T X s) (hG : gs_H X σ H) (hS : va_S (gs_A X) H0 H locs) {a0 n0 n1 : Nat} {f g : Nat → Int32} (ha0 : σ a0 = some (gs_ia X n0 f)) (ha1 : σ a = some (gs_ia X n1 g)) {sp dp n : Nat} (h4 : sp + n ≤ n0) (h5 : dp + n ≤ n1) (hn0 : n0 < 2 ^ 31) (hn1 : n1 < 2 ^ 31)
    (hframes : 1 ≤ R.frames) (hlocals : (rest.map fun v => v.category).sum + (nativeFrameWords "java/lang/System" "arraycopy" 5 + 11) ≤ R.locals) (hdg : decode cc pc = .ok (.invokestatic index, 3))
    (kk : ∀ (H : Heap) (locs : List Loc), gs_H X (gs_up σ a (gs_ia X n1 (va_cpy f g sp dp n))) H → va_S (gs_A X) H0 H locs → W p l e R s m args below meth c H locs cells slots Q (F0 m (pc + 3) ls rest)) : W p l e R s m args below meth c H locs cells slots Q (F0 m pc ls (.int (nI n) :: .int (nI dp) :: .ref a :: .int (nI sp) :: .ref a0 :: rest)) := by
  obtain ⟨ws, hP, hD, hw⟩ := hG
  obtain ⟨q0, hq0⟩ := List.getElem?_of_mem (hw a0 _ ha0)
  obtain ⟨q1, hq1⟩ := List.getElem?_of_mem (hw a _ ha1)
  have c1 : (nI sp).toNatClampNeg = sp := nI_clamp (by omega)
  have c2 : (nI dp).toNatClampNeg = dp := nI_clamp (by omega)
  have c3 : (nI n).toNatClampNeg = n := nI_clamp (by omega)
  refine va_copyi hexec hb hml hown (hts _ hlink) (hts _ hnat) (hts _ hstat) (hts _ hini) hK.1 hP hD hS q0 q1 0 0 hq0 hq1 (ty := .int) rfl rfl rfl (nI_pos (by omega)) (nI_pos (by omega)) (nI_pos (by omega)) (by rw [c1, c3]; exact h4) (by rw [c2, c3]; exact h5) (fun _ _ => rfl) hframes hlocals hdg ?_
  rw [c1, c2, c3]
  exact fun H1 locs1 hP1 hD1 hS1 => kk H1 locs1 ⟨_, hP1, hD1, gs_set hD hw hq1⟩ hS1
end GSR
