theorem bl_le {kn : Nat → Nat} {t : It} (h : t.2.2.2.1 ≤ t.1.2.2) : ∀ k, (bl kn t k).2 ≤ t.1.2.2
  | 0 => h
  | k + 1 => by
    have := bl_le (kn := kn) h k
    simp only [bl]
    split
    · exact Nat.sub_le _ _
    · exact this
/-- a new item, once its variables are bound -/
theorem bindI_B {kn : Nat → Nat} {kd rl w a b z : Nat} {r : Int32} (h1 : kd ≤ 3) (h2 : rl < 12) (h3 : w ≤ 3) (ha : a < 72) (hb : b < 72) (hz : z < 72) : itB (bindI kn ((kd, rl, w), (a, b, z), (0, w, r))) := by
  have htm : ∀ j, tm (((kd, rl, w), (a, b, z), (0, w, r)) : It) j < 72 := fun j => by unfold tm; dsimp only; split; exact ha; split; exact hb; exact hz
  exact ⟨h1, h2, h3, htm, bl_lt (show (0 : Nat) < 8 by decide) h3 _ (Nat.le_refl _), bl_le (Nat.le_refl _) _, fun j hj h => bindI_64 (kn := kn) (t := ((kd, rl, w), (a, b, z), (0, w, r))) rfl j hj h⟩
theorem itB_new {kd rl w a b z : Nat} {r : Int32} (h1 : kd ≤ 3) (h2 : rl < 12) (h3 : w ≤ 3) (ha : a < 72) (hb : b < 72) (hz : z < 72) : itB ((kd, rl, w), (a, b, z), (0, w, r)) := by
  have htm : ∀ j, tm (((kd, rl, w), (a, b, z), (0, w, r)) : It) j < 72 := fun j => by unfold tm; dsimp only; split; exact ha; split; exact hb; exact hz
  refine ⟨h1, h2, h3, htm, (show (0 : Nat) < 8 by decide), Nat.le_refl _, fun j _ h => ?_⟩
  have := of_decide_eq_true h
  simp at this
/-- where the values' row alone changes the deriving stands -/
theorem dvA.frva {X : gs_X} {σ τ : gs_St} {dv bk tu ma la cm ac ai ab lc li lb mc mi mb va : Nat} {E : List En} {Lt : List Nat} {v v' : Nat → Nat} {sa : Nat} {nw : Bool} {rc : Nat} {vs : Nat → Int32} (h : dvA X σ dv bk tu ma la cm ac ai ab lc li lb mc mi mb va E Lt v sa nw rc) (hf : frm [va] σ τ) (h1 : τ va = some (gs_ia X 8 vs)) (h2 : vOK vs v') : dvA X τ dv bk tu ma la cm ac ai ab lc li lb mc mi mb va E Lt v' sa nw rc := by
  obtain ⟨cs, ci, cr, ds, vs0, a9, b9, c9, z9, d0, t0, t1, t2, t3, l0, l1, m0, m1, m2, m3, q0, q1, r1, r2, r3, r4, r5, r6, r7⟩ := h
  have k : ∀ q e, σ q = some e → (∀ f, e ≠ gs_ia X 8 f) → τ q = some e := fun q e z hn => hf q e (fun w => by rw [List.mem_singleton.mp w, q1] at z; exact hn _ (Option.some.inj z).symm) z
  exact ⟨cs, ci, cr, ds, vs, a9, b9, c9, z9, k _ _ d0 (by simp), k _ _ t0 (by simp), k _ _ t1 (by simp), k _ _ t2 (by simp), k _ _ t3 (by simp), k _ _ l0 (by simp), k _ _ l1 (by simp), k _ _ m0 (by simp), k _ _ m1 (by simp), k _ _ m2 (by simp), k _ _ m3 (by simp), k _ _ q0 (by simp), h1, r1, r2, r3, r4, r5, r6, h2⟩
/-- the pattern of like, and what it counts -/
def lkI (rl w a b z : Nat) : It := bindI (fun _ => 0) ((0, rl, w), (a, b, z), (0, w, nI 0))
def lkK (rl w a b z : Nat) : Nat → Nat := knP (fun _ => 0) (lkI rl w a b z) (0 + 1) w
def lkT (rl w a b z : Nat) : It := wR (lkI rl w a b z) (rdI (rdO (lkK rl w a b z) (lkI rl w a b z)))
