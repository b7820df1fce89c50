theorem delE_len {E : List En} {p : Nat} (hp : p < E.length) : (delE E p).length = E.length - 1 := by
  unfold delE
  rw [List.length_append, List.length_take, List.length_drop]; omega
theorem delE_sub (E : List En) (p : Nat) : (delE E p).Sublist E := by
  have h : (E.take p ++ E.drop (p + 1)).Sublist (E.take p ++ E.drop p) := List.Sublist.append (List.Sublist.refl _) (by
    have e : E.drop (p + 1) = (E.drop p).drop 1 := by rw [List.drop_drop]
    rw [e]; exact List.drop_sublist _ _)
  rw [List.take_append_drop] at h
  exact h
theorem tuB_del {E : List En} (h : tuB E) (p : Nat) : tuB (delE E p) :=
  ⟨h.1.sublist ((delE_sub E p).map _), Nat.le_trans (delE_sub E p).length_le h.2.1, fun x hx => h.2.2 x ((delE_sub E p).subset hx)⟩
