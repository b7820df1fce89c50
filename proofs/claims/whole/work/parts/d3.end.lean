/-- the law's end -/
theorem law_end {p : Program} {l : Launch} {e : Env} {s : State} {m : MethodId} {below : List Frame} {meth : Method} {c : Code} {sb L : Nat} {xs : Nat → Int32} {X : gs_X} (C0 : lw_At p s m meth c sb L xs) {H : Heap} {locs : List Loc} (hS : va_S (gs_A X) s.heap H locs) (hz : X.2.2 = s.heap.size) {cells slots : Nat} (hce : cells ≤ 601024) (hsl : slots ≤ 7293034) {ls : Array Slot} : W p l e room_1 s m #[Value.ref sb] below meth c H locs cells slots (lw_Z below #[Value.ref sb] s) (F0 m 1091 ls []) := by
  obtain ⟨hx, hb, hr, hml, hown, hts0, hX, hbl, hlocks, hgv⟩ := id C0
  refine va_forget (fun q hq => by have := hS.2.2 q hq; show s.heap.size ≤ q.base; rw [← hz]; exact this) ?_
  refine W.widen (k := 601024) (n := 7293034) hce hsl ?_
  refine lv_iconst (v := 1) hx hb d_LA_law_1091 (by decide) ?_
  exact lw_ret hx hb hr hlocks d_LA_law_1092
