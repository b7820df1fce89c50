theorem gs_Mp_Mi {l : Launch} {X : gs_X} {y : MethodName} {b : ByteArray} {n : Nat} {r : Option FieldType} {rm : Room} {σ : gs_St} {av : List Value} {P : Int32 → Prop} (h : gs_Mp l X y b n r rm σ av P) : gs_Mi l X y b n r rm σ av (fun z u => P z ∧ u = σ) := fun p e a b c s m args below hf hap hp ht => by
  obtain ⟨n, o, h1, h2, h3, ⟨⟨z, q1, q2⟩, q3⟩, L, q4, q5⟩ := h p e a b c s m args below hf hap hp ht
  have hU := hp.2
  have hW : s.WarmedH _ := q4.2.1
  have hLn := gs_nil q5
  subst hLn
  exact ⟨n, o, h1, h2, h3, ⟨⟨z, σ, q1, ⟨q2, rfl⟩, ⟨hU.1.warm hW, by rw [q3]; exact hU.2.1, by rw [q3]; exact hU.2.2.1, hU.2.2.2.step hW (fun q _ => by rw [q3])⟩⟩, ⟨by rw [q3]; exact Nat.le_refl _, fun q _ _ => by rw [q3]⟩⟩, [], q4, fun q hq => by cases hq⟩
theorem tab1 {α β : Type} {L : List α} {f : α → β} {a : β} (h : L.map f = [a]) : ∃ x, L = [x] ∧ f x = a := by
  match L, h with
  | [x], h => exact ⟨x, rfl, by simpa using h⟩
theorem tab2 {α β : Type} {L : List α} {f : α → β} {a b : β} (h : L.map f = [a, b]) : ∃ x y, L = [x, y] ∧ f x = a ∧ f y = b := by
  match L, h with
  | [x, y], h =>
    have := List.cons.inj h
    exact ⟨x, y, rfl, this.1, by simpa using this.2⟩
theorem cov {x : ExceptionTableEntry} {a b h t pc : Nat} (hx : (x.startPc, x.endPc, x.handlerPc, x.catchType) = (a, b, h, t)) (h1 : a ≤ pc) (h2 : pc < b) : covers x pc = true := by
  simp only [Prod.mk.injEq] at hx
  unfold covers
  rw [hx.1, hx.2.1]
  simp [h1, h2]
theorem hpc {x : ExceptionTableEntry} {a b h t : Nat} (hx : (x.startPc, x.endPc, x.handlerPc, x.catchType) = (a, b, h, t)) : x.handlerPc = h ∧ x.catchType = t := by
  simp only [Prod.mk.injEq] at hx
  exact ⟨hx.2.2.1, hx.2.2.2⟩
def rmA : Room := { frames := 13, cells := 6, slots := 64, locals := 700 }
/-- room for a call of the class out of the law -/
def rmC (rm : Room) : Prop := rm.frames ≤ 12 ∧ rm.cells ≤ 6 ∧ rm.slots ≤ 64 ∧ rm.locals ≤ 650
