/-! the machine at the law's entry -/
theorem ff_vm {V s : State} (h : V.vm = s.vm) (o n d : String) : V.fieldFound? o n d = s.fieldFound? o n d := by
  unfold State.fieldFound?
  rw [h]
theorem gx_lays {s : State} {o n d : String} {args : Array Value} (h : (Cond.laysStatic o n d).before args s = true) : gx_W s.heap.size (.laysStatic o n d) s := by
  obtain ⟨c, k, i, f, a, cell, h1, h2, h3, h4, h5, h6, h7, h8, h9⟩ := Cond.laysStatic_spec h
  intro V hv hq args'
  have ha : a < s.heap.size := (Array.getElem?_eq_some_iff.mp h5).1
  have h5' : V.heap[a]? = some cell := by rw [hq a ha]; exact h5
  have h2' := (ff_vm hv o n d).trans h2
  have h1' : V.vm.findClass o = some c := by rw [hv]; exact h1
  simp [Cond.before, Cond.holds, Cond.value, h1', h2', h4, h5', h3, h6, h7, h8, h9]
theorem gx_ref {s : State} {o n d : String} {args : Array Value} (h : (Cond.isRef (.static o n d)).before args s = true) : gx_W s.heap.size (.isRef (.static o n d)) s := by
  intro V hv hq args'
  cases he : (Term.static o n d).eval args s none [] s with
  | none => simp [Cond.before, Cond.holds, Cond.value, he] at h
  | some v =>
    cases hi : s.fieldFound? o n d with
    | none => simp [Term.eval, State.fieldNamed?, hi] at he
    | some w =>
      obtain ⟨c, k, i, f⟩ := w
      obtain ⟨hst, a, cell, ha, hcell, -, hslot⟩ := Term.static_spec hi he
      have hs : cell.vm.isStatics = true := by
        simp only [Term.eval, State.fieldNamed?, hi, Option.bind_eq_bind, Option.bind_some, hst, beq_self_eq_true, if_true, Option.pure_def, ha, hcell] at he
        split at he
        · assumption
        · cases he
      have hlt : a < s.heap.size := (Array.getElem?_eq_some_iff.mp hcell).1
      have hc' : V.heap[a]? = some cell := by rw [hq a hlt]; exact hcell
      have e' : (Term.static o n d).eval args' V none [] V = some v := Term.static_eval ((ff_vm hv o n d).trans hi) hst ha hc' hs hslot
      simp only [Cond.before, Cond.holds, Cond.value, he] at h
      simp only [Cond.before, Cond.holds, Cond.value, e']
      exact h
theorem vk_ex {own tx : String} {k : Nat} {s : State} {A : Array Value} (h1 : (Cond.stringRef own k tx).before A s = true) (h2 : (Cond.exactly (.string own k) "java/lang/String").before A s = true) : ∃ a, vk_R own k tx a s := by
  cases he : (Term.string own k).eval A s none [] s with
  | none => simp [Cond.before, Cond.holds, Cond.value, he] at h2
  | some v =>
    have : ∃ a, v = .ref a := by
      simp only [Term.eval, Option.bind_eq_bind, Option.bind_eq_some_iff] at he
      obtain ⟨x, -, y, -, z, hz, hw⟩ := he
      cases z <;> first | (simp at hw; exact ⟨_, hw.symm⟩) | (simp at hw)
    obtain ⟨a, rfl⟩ := this
    exact ⟨a, vk_R.of (A := A) h1 he⟩
