/-! what a throw needs of the machine -/
def xI : String := "java/lang/IllegalArgumentException"
def xS : String := "java/lang/IllegalStateException"
def gx_up : List String := ["java/lang/RuntimeException", "java/lang/Exception"]
def gx_str : List (Nat × String) := [(51, "a relation has 1 to 3 columns"), (61, "there are 12 relations"), (198, "no such relation"), (204, "not a tuple of the relation"), (83, "there are 200 facts"), (206, "not terms for the relation"), (109, "no such kind of item"), (208, "not two terms"), (114, "no head was told"), (119, "the rule would have too many items"), (131, "there are 24 rules"), (147, "there is a cycle"), (168, "no such tuple"), (186, "no such part of a tuple"), (192, "no such rule")]
def gx_dec : List MethodName := [⟨"java/lang/RuntimeException", "<init>", "(Ljava/lang/String;)V"⟩, ⟨"java/lang/Exception", "<init>", "(Ljava/lang/String;)V"⟩, ⟨"java/lang/Throwable", "<init>", "(Ljava/lang/String;)V"⟩]
def gx_sw : List Cond := [.laysStatic "java/lang/Throwable" "UNASSIGNED_STACK" "[Ljava/lang/StackTraceElement;", .laysStatic "java/lang/Throwable" "SUPPRESSED_SENTINEL" "Ljava/util/List;", .isRef (.static "java/lang/Throwable" "UNASSIGNED_STACK" "[Ljava/lang/StackTraceElement;"), .isRef (.static "java/lang/Throwable" "SUPPRESSED_SENTINEL" "Ljava/util/List;")]
/-- a word that the tables and the cells below B decide -/
def gx_W (B : Nat) (w : Cond) (U : State) : Prop := ∀ V : State, V.vm = U.vm → (∀ q : Nat, q < B → V.heap[q]? = U.heap[q]?) → ∀ args, w.before args V = true
theorem gx_W.step {B : Nat} {w : Cond} {s U : State} (hk : w.keeps = true) (h : gx_W B w s) (hW : s.WarmedH U.vm) (hq : ∀ q : Nat, q < B → U.heap[q]? = s.heap[q]?) : gx_W B w U := by
  intro V hv hh args
  have h0 : w.before args (V.setVm s.vm) = true := h (V.setVm s.vm) rfl (fun q z => (hh q z).trans (hq q z)) args
  have hW2 : (V.setVm s.vm).WarmedH V.vm := by
    rw [hv]
    refine ⟨hW.1, hW.2.1, fun d k hk => ?_⟩
    obtain ⟨k', a1, a2, a3, a4, a5⟩ := hW.2.2 d k hk
    refine ⟨k', a1, a2, a3, fun i => ?_, a5⟩
    rcases a4 i with z | ⟨z1, r, z2, z3⟩
    · exact Or.inl z
    · exact Or.inr ⟨z1, r, z2, z3⟩
  have h1 := Cond.holds_shifted (State.Shifted.of_warmed hW2) w [] hk h0
  have e : (V.setVm s.vm).setVm V.vm = V := rfl
  rw [e] at h1
  exact h1
def gx_E (B : Nat) (U : State) : Prop :=
  va_Nw (.castable xI xI) U ∧ va_Nw (.castable xS xS) U ∧ (Cond.castable xI xS).before #[] U = false ∧ (Cond.castable xS xI).before #[] U = false ∧
    (∀ x ∈ gx_dec, va_Nw (.declares x) U) ∧ (∀ w ∈ gx_sw, gx_W B w U) ∧ ∀ q ∈ gx_str, ∃ a, vk_R "RuleRounds" q.1 q.2 a U
theorem gx_nc {C T : String} {s U : State} (hW : s.WarmedH U.vm) (h : (Cond.castable C T).before #[] s = false) : (Cond.castable C T).before #[] U = false := by
  have e := Cond.onTables_vm (A := #[]) (A' := #[]) (U := s) (U' := U) U.vm (Cond.castable C T) rfl
  have h2 : U.setVm U.vm = U := rfl
  rw [h2, Cond.castable_setVm hW.alike] at e
  rw [← e]; exact h
theorem gx_E.step {B : Nat} {s U : State} (h : gx_E B s) (hW : s.WarmedH U.vm) (hq : ∀ q : Nat, q < B → U.heap[q]? = s.heap[q]?) : gx_E B U := by
  obtain ⟨h1, h2, h3, h4, h5, h6, h7⟩ := h
  refine ⟨va_Nw.warmC hW h1, va_Nw.warmC hW h2, gx_nc hW h3, gx_nc hW h4, fun x hx => va_Nw.warmD hW (h5 x hx), fun w hw => ?_, fun q hq => ?_⟩
  · refine gx_W.step ?_ (h6 w hw) hW hq
    simp only [gx_sw, List.mem_cons, List.not_mem_nil, or_false] at hw
    rcases hw with rfl | rfl | rfl | rfl <;> rfl
  · obtain ⟨a, ha⟩ := h7 q hq
    exact ⟨a, ha.warm hW⟩
