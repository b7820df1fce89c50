section RRT
variable {X : gs_X} {σ : gs_St} {G : List Nat} {rr nr : Nat} {cw : Nat → Nat} {Q : List Rl} {E : List En} {Lt : List Nat} {sa : Nat} {nw : Bool} {rc fc : Nat} {dr : Option Dr}
theorem c_rr_relation_t (l : Launch) {x : Int32} (hA : rrA X σ G rr nr cw Q E Lt sa nw rc fc dr) (htr : l.stackTraces = false) (hok : ¬ (¬ x < nI 1 ∧ x ≤ nI 3)) : gs_Mt l X y_RR_relation b_RR_relation 2 (some .int) ({ frames := 6, cells := 1, slots := 6, locals := 90 }) σ [.ref rr, .int x] xI := by
  obtain ⟨ρ, dv, bk, tu, ma, la, cm, ac, ai, ab, lc, li, lb, mc, mi, mb, va, co, ru, sr, v, sf, cf, fR, dw, hI, hD⟩ := hA
  obtain ⟨r1, r2, r3, x0, hdv, k0, k2, k3, x2, r9, r10, r11, r12, r13, r14, r15⟩ := id hI
  obtain ⟨cs, ci, cr, ds, vs, a9, b9, c9, z9, d0, t0, t1, t2, t3, l0, l1, m0, m1, m2, m3, q0, q1, hB, hR, hl3, hs2, hn2, hds, hv⟩ := id hdv
  exact c_RR_relation_t l X σ rr bk tu ma dv co ru sr nr Q.length fc (scI Q nr) dw x htr x0 k0 r12 hok
theorem c_rr_relation_s (l : Launch) {wd : Nat} (hA : rrA X σ G rr nr cw Q E Lt sa nw rc fc dr) (htr : l.stackTraces = false) (hw1 : 1 ≤ wd) (hw3 : wd ≤ 3) (hok : nr = 12) : gs_Mt l X y_RR_relation b_RR_relation 2 (some .int) ({ frames := 6, cells := 1, slots := 6, locals := 90 }) σ [.ref rr, .int (nI wd)] xS := by
  obtain ⟨ρ, dv, bk, tu, ma, la, cm, ac, ai, ab, lc, li, lb, mc, mi, mb, va, co, ru, sr, v, sf, cf, fR, dw, hI, hD⟩ := hA
  obtain ⟨r1, r2, r3, x0, hdv, k0, k2, k3, x2, r9, r10, r11, r12, r13, r14, r15⟩ := id hI
  obtain ⟨cs, ci, cr, ds, vs, a9, b9, c9, z9, d0, t0, t1, t2, t3, l0, l1, m0, m1, m2, m3, q0, q1, hB, hR, hl3, hs2, hn2, hds, hv⟩ := id hdv
  exact c_RR_relation_s l X σ rr bk tu ma dv co ru sr nr Q.length fc (scI Q nr) dw wd htr x0 k0 r12 hw1 hw3 hok
theorem c_rr_fact_t (l : Launch) {rl : Nat} {x y z : Int32} (hA : rrA X σ G rr nr cw Q E Lt sa nw rc fc dr) (htr : l.stackTraces = false) (hrl : rl < nr) (hok : wi3 64 (cw rl) x y z = false) : gs_Mt l X y_RR_fact b_RR_fact 6 (some .boolean) ({ frames := 7, cells := 1, slots := 6, locals := 114 }) σ [.ref rr, .int (nI rl), .int x, .int y, .int z] xI := by
  obtain ⟨ρ, dv, bk, tu, ma, la, cm, ac, ai, ab, lc, li, lb, mc, mi, mb, va, co, ru, sr, v, sf, cf, fR, dw, hI, hD⟩ := hA
  obtain ⟨r1, r2, r3, x0, hdv, k0, k2, k3, x2, r9, r10, r11, r12, r13, r14, r15⟩ := id hI
  obtain ⟨cs, ci, cr, ds, vs, a9, b9, c9, z9, d0, t0, t1, t2, t3, l0, l1, m0, m1, m2, m3, q0, q1, hB, hR, hl3, hs2, hn2, hds, hv⟩ := id hdv
  exact c_RR_fact_t l X σ rr bk tu ma dv co ru sr nr Q.length fc (scI Q nr) dw cf cw rl x y z htr x0 k0 r12 x2 hrl (r11 rl hrl).1 (r11 rl hrl).2.2 hok
theorem c_rr_fact_r (l : Launch) {x x2' y z : Int32} (hA : rrA X σ G rr nr cw Q E Lt sa nw rc fc dr) (htr : l.stackTraces = false) (hok : wi nr x = false) : gs_Mt l X y_RR_fact b_RR_fact 6 (some .boolean) ({ frames := 8, cells := 1, slots := 6, locals := 135 }) σ [.ref rr, .int x, .int x2', .int y, .int z] xI := by
  obtain ⟨ρ, dv, bk, tu, ma, la, cm, ac, ai, ab, lc, li, lb, mc, mi, mb, va, co, ru, sr, v, sf, cf, fR, dw, hI, hD⟩ := hA
  obtain ⟨r1, r2, r3, x0, hdv, k0, k2, k3, x2, r9, r10, r11, r12, r13, r14, r15⟩ := id hI
  obtain ⟨cs, ci, cr, ds, vs, a9, b9, c9, z9, d0, t0, t1, t2, t3, l0, l1, m0, m1, m2, m3, q0, q1, hB, hR, hl3, hs2, hn2, hds, hv⟩ := id hdv
  exact c_RR_fact_r l X σ rr bk tu ma dv co ru sr nr Q.length fc (scI Q nr) dw x x2' y z htr x0 k0 r12 hok
theorem c_rr_drop_t (l : Launch) {rl : Nat} {x y z : Int32} (hA : rrA X σ G rr nr cw Q E Lt sa nw rc fc dr) (htr : l.stackTraces = false) (hrl : rl < nr) (hok : wi3 64 (cw rl) x y z = false) : gs_Mt l X y_RR_drop b_RR_drop 6 (some .boolean) ({ frames := 7, cells := 1, slots := 6, locals := 114 }) σ [.ref rr, .int (nI rl), .int x, .int y, .int z] xI := by
  obtain ⟨ρ, dv, bk, tu, ma, la, cm, ac, ai, ab, lc, li, lb, mc, mi, mb, va, co, ru, sr, v, sf, cf, fR, dw, hI, hD⟩ := hA
  obtain ⟨r1, r2, r3, x0, hdv, k0, k2, k3, x2, r9, r10, r11, r12, r13, r14, r15⟩ := id hI
  obtain ⟨cs, ci, cr, ds, vs, a9, b9, c9, z9, d0, t0, t1, t2, t3, l0, l1, m0, m1, m2, m3, q0, q1, hB, hR, hl3, hs2, hn2, hds, hv⟩ := id hdv
  exact c_RR_drop_t l X σ rr bk tu ma dv co ru sr nr Q.length fc (scI Q nr) dw cf cw rl x y z htr x0 k0 r12 x2 hrl (r11 rl hrl).1 (r11 rl hrl).2.2 hok
theorem c_rr_drop_r (l : Launch) {x x2' y z : Int32} (hA : rrA X σ G rr nr cw Q E Lt sa nw rc fc dr) (htr : l.stackTraces = false) (hok : wi nr x = false) : gs_Mt l X y_RR_drop b_RR_drop 6 (some .boolean) ({ frames := 8, cells := 1, slots := 6, locals := 135 }) σ [.ref rr, .int x, .int x2', .int y, .int z] xI := by
  obtain ⟨ρ, dv, bk, tu, ma, la, cm, ac, ai, ab, lc, li, lb, mc, mi, mb, va, co, ru, sr, v, sf, cf, fR, dw, hI, hD⟩ := hA
  obtain ⟨r1, r2, r3, x0, hdv, k0, k2, k3, x2, r9, r10, r11, r12, r13, r14, r15⟩ := id hI
  obtain ⟨cs, ci, cr, ds, vs, a9, b9, c9, z9, d0, t0, t1, t2, t3, l0, l1, m0, m1, m2, m3, q0, q1, hB, hR, hl3, hs2, hn2, hds, hv⟩ := id hdv
  exact c_RR_drop_r l X σ rr bk tu ma dv co ru sr nr Q.length fc (scI Q nr) dw x x2' y z htr x0 k0 r12 hok
theorem c_rr_has_t (l : Launch) {rl : Nat} {x y z : Int32} (hA : rrA X σ G rr nr cw Q E Lt sa nw rc fc dr) (htr : l.stackTraces = false) (hrl : rl < nr) (hok : wi3 64 (cw rl) x y z = false) : gs_Mt l X y_RR_has b_RR_has 5 (some .boolean) ({ frames := 7, cells := 1, slots := 6, locals := 114 }) σ [.ref rr, .int (nI rl), .int x, .int y, .int z] xI := by
  obtain ⟨ρ, dv, bk, tu, ma, la, cm, ac, ai, ab, lc, li, lb, mc, mi, mb, va, co, ru, sr, v, sf, cf, fR, dw, hI, hD⟩ := hA
  obtain ⟨r1, r2, r3, x0, hdv, k0, k2, k3, x2, r9, r10, r11, r12, r13, r14, r15⟩ := id hI
  obtain ⟨cs, ci, cr, ds, vs, a9, b9, c9, z9, d0, t0, t1, t2, t3, l0, l1, m0, m1, m2, m3, q0, q1, hB, hR, hl3, hs2, hn2, hds, hv⟩ := id hdv
  exact c_RR_has_t l X σ rr bk tu ma dv co ru sr nr Q.length fc (scI Q nr) dw cf cw rl x y z htr x0 k0 r12 x2 hrl (r11 rl hrl).1 (r11 rl hrl).2.2 hok
theorem c_rr_has_r (l : Launch) {x x2' y z : Int32} (hA : rrA X σ G rr nr cw Q E Lt sa nw rc fc dr) (htr : l.stackTraces = false) (hok : wi nr x = false) : gs_Mt l X y_RR_has b_RR_has 5 (some .boolean) ({ frames := 8, cells := 1, slots := 6, locals := 135 }) σ [.ref rr, .int x, .int x2', .int y, .int z] xI := by
  obtain ⟨ρ, dv, bk, tu, ma, la, cm, ac, ai, ab, lc, li, lb, mc, mi, mb, va, co, ru, sr, v, sf, cf, fR, dw, hI, hD⟩ := hA
  obtain ⟨r1, r2, r3, x0, hdv, k0, k2, k3, x2, r9, r10, r11, r12, r13, r14, r15⟩ := id hI
  obtain ⟨cs, ci, cr, ds, vs, a9, b9, c9, z9, d0, t0, t1, t2, t3, l0, l1, m0, m1, m2, m3, q0, q1, hB, hR, hl3, hs2, hn2, hds, hv⟩ := id hdv
  exact c_RR_has_r l X σ rr bk tu ma dv co ru sr nr Q.length fc (scI Q nr) dw x x2' y z htr x0 k0 r12 hok
theorem c_rr_head_t (l : Launch) {rl : Nat} {x y z : Int32} (hA : rrA X σ G rr nr cw Q E Lt sa nw rc fc dr) (htr : l.stackTraces = false) (hrl : rl < nr) (hok : wi3 72 (cw rl) x y z = false) : gs_Mt l X y_RR_head b_RR_head 5 none ({ frames := 7, cells := 1, slots := 6, locals := 114 }) σ [.ref rr, .int (nI rl), .int x, .int y, .int z] xI := by
  obtain ⟨ρ, dv, bk, tu, ma, la, cm, ac, ai, ab, lc, li, lb, mc, mi, mb, va, co, ru, sr, v, sf, cf, fR, dw, hI, hD⟩ := hA
  obtain ⟨r1, r2, r3, x0, hdv, k0, k2, k3, x2, r9, r10, r11, r12, r13, r14, r15⟩ := id hI
  obtain ⟨cs, ci, cr, ds, vs, a9, b9, c9, z9, d0, t0, t1, t2, t3, l0, l1, m0, m1, m2, m3, q0, q1, hB, hR, hl3, hs2, hn2, hds, hv⟩ := id hdv
  exact c_RR_head_t l X σ rr bk tu ma dv co ru sr nr Q.length fc (scI Q nr) dw cf cw rl x y z htr x0 k0 r12 x2 hrl (r11 rl hrl).1 (r11 rl hrl).2.2 hok
theorem c_rr_head_r (l : Launch) {x x2' y z : Int32} (hA : rrA X σ G rr nr cw Q E Lt sa nw rc fc dr) (htr : l.stackTraces = false) (hok : wi nr x = false) : gs_Mt l X y_RR_head b_RR_head 5 none ({ frames := 8, cells := 1, slots := 6, locals := 135 }) σ [.ref rr, .int x, .int x2', .int y, .int z] xI := by
  obtain ⟨ρ, dv, bk, tu, ma, la, cm, ac, ai, ab, lc, li, lb, mc, mi, mb, va, co, ru, sr, v, sf, cf, fR, dw, hI, hD⟩ := hA
  obtain ⟨r1, r2, r3, x0, hdv, k0, k2, k3, x2, r9, r10, r11, r12, r13, r14, r15⟩ := id hI
  obtain ⟨cs, ci, cr, ds, vs, a9, b9, c9, z9, d0, t0, t1, t2, t3, l0, l1, m0, m1, m2, m3, q0, q1, hB, hR, hl3, hs2, hn2, hds, hv⟩ := id hdv
  exact c_RR_head_r l X σ rr bk tu ma dv co ru sr nr Q.length fc (scI Q nr) dw x x2' y z htr x0 k0 r12 hok
theorem c_rr_like_t (l : Launch) {rl : Nat} {x y z : Int32} (hA : rrA X σ G rr nr cw Q E Lt sa nw rc fc dr) (htr : l.stackTraces = false) (hrl : rl < nr) (hok : wi3 72 (cw rl) x y z = false) : gs_Mt l X y_RR_like b_RR_like 7 (some .int) ({ frames := 7, cells := 1, slots := 6, locals := 114 }) σ [.ref rr, .int (nI rl), .int x, .int y, .int z] xI := by
  obtain ⟨ρ, dv, bk, tu, ma, la, cm, ac, ai, ab, lc, li, lb, mc, mi, mb, va, co, ru, sr, v, sf, cf, fR, dw, hI, hD⟩ := hA
  obtain ⟨r1, r2, r3, x0, hdv, k0, k2, k3, x2, r9, r10, r11, r12, r13, r14, r15⟩ := id hI
  obtain ⟨cs, ci, cr, ds, vs, a9, b9, c9, z9, d0, t0, t1, t2, t3, l0, l1, m0, m1, m2, m3, q0, q1, hB, hR, hl3, hs2, hn2, hds, hv⟩ := id hdv
  exact c_RR_like_t l X σ rr bk tu ma dv co ru sr nr Q.length fc (scI Q nr) dw cf cw rl x y z htr x0 k0 r12 x2 hrl (r11 rl hrl).1 (r11 rl hrl).2.2 hok
theorem c_rr_like_r (l : Launch) {x x2' y z : Int32} (hA : rrA X σ G rr nr cw Q E Lt sa nw rc fc dr) (htr : l.stackTraces = false) (hok : wi nr x = false) : gs_Mt l X y_RR_like b_RR_like 7 (some .int) ({ frames := 8, cells := 1, slots := 6, locals := 135 }) σ [.ref rr, .int x, .int x2', .int y, .int z] xI := by
  obtain ⟨ρ, dv, bk, tu, ma, la, cm, ac, ai, ab, lc, li, lb, mc, mi, mb, va, co, ru, sr, v, sf, cf, fR, dw, hI, hD⟩ := hA
  obtain ⟨r1, r2, r3, x0, hdv, k0, k2, k3, x2, r9, r10, r11, r12, r13, r14, r15⟩ := id hI
  obtain ⟨cs, ci, cr, ds, vs, a9, b9, c9, z9, d0, t0, t1, t2, t3, l0, l1, m0, m1, m2, m3, q0, q1, hB, hR, hl3, hs2, hn2, hds, hv⟩ := id hdv
  exact c_RR_like_r l X σ rr bk tu ma dv co ru sr nr Q.length fc (scI Q nr) dw x x2' y z htr x0 k0 r12 hok
theorem c_rr_fact_o (l : Launch) {rl a b cz : Nat} (hA : rrA X σ G rr nr cw Q E Lt sa nw rc fc dr) (hrl : rl < nr) (ha : a < 64) (hb9 : b < 64) (hc9 : cz < 64) (hok : wi3 64 (cw rl) (nI a) (nI b) (nI cz) = true) (hst9 : (cds E).Pairwise (· < ·)) (hin : (∃ x ∈ E, x.1 = ((rl * 64 + a) * 64 + b) * 64 + cz ∧ x.2.1 = 0)) : gs_Mi l X y_RR_fact b_RR_fact 6 (some .boolean) ({ frames := 3, cells := 0, slots := 0, locals := 69 }) σ [.ref rr, .int (nI rl), .int (nI a), .int (nI b), .int (nI cz)] (fun r u9 => (r = nI 0) ∧ u9 = σ) := by
  obtain ⟨ρ, dv, bk, tu, ma, la, cm, ac, ai, ab, lc, li, lb, mc, mi, mb, va, co, ru, sr, v, sf, cf, fR, dw, hI, hD⟩ := hA
  obtain ⟨r1, r2, r3, x0, hdv, k0, k2, k3, x2, r9, r10, r11, r12, r13, r14, r15⟩ := id hI
  obtain ⟨cs, ci, cr, ds, vs, a9, b9, c9, z9, d0, t0, t1, t2, t3, l0, l1, m0, m1, m2, m3, q0, q1, hB, hR, hl3, hs2, hn2, hds, hv⟩ := id hdv
  exact gs_Mp_Mi (c_RR_fact_o l X σ rr dv bk tu ma la cm ac ai ab lc li lb mc mi mb va co ru sr nr sa rc fc dw nw (scI Q nr) E Lt v (fst Q nr).1 Q cf cw rl a b cz r1 r2 x0 hdv hI.bks x2 r12 hrl (r11 rl hrl).1 (r11 rl hrl).2.2 ha hb9 hc9 hok hst9 hin)
theorem c_rr_fact_s (l : Launch) {rl a b cz : Nat} (hA : rrA X σ G rr nr cw Q E Lt sa nw rc fc dr) (htr : l.stackTraces = false) (hrl : rl < nr) (ha : a < 64) (hb9 : b < 64) (hc9 : cz < 64) (hok : wi3 64 (cw rl) (nI a) (nI b) (nI cz) = true) (hst9 : (cds E).Pairwise (· < ·)) (hin : ¬ (∃ x ∈ E, x.1 = ((rl * 64 + a) * 64 + b) * 64 + cz ∧ x.2.1 = 0)) (hfc : 200 ≤ fc) (hfc2 : fc < 2 ^ 20) : gs_Mt l X y_RR_fact b_RR_fact 6 (some .boolean) ({ frames := 6, cells := 1, slots := 6, locals := 90 }) σ [.ref rr, .int (nI rl), .int (nI a), .int (nI b), .int (nI cz)] xS := by
  obtain ⟨ρ, dv, bk, tu, ma, la, cm, ac, ai, ab, lc, li, lb, mc, mi, mb, va, co, ru, sr, v, sf, cf, fR, dw, hI, hD⟩ := hA
  obtain ⟨r1, r2, r3, x0, hdv, k0, k2, k3, x2, r9, r10, r11, r12, r13, r14, r15⟩ := id hI
  obtain ⟨cs, ci, cr, ds, vs, a9, b9, c9, z9, d0, t0, t1, t2, t3, l0, l1, m0, m1, m2, m3, q0, q1, hB, hR, hl3, hs2, hn2, hds, hv⟩ := id hdv
  exact c_RR_fact_s l X σ rr dv bk tu ma la cm ac ai ab lc li lb mc mi mb va co ru sr nr sa rc fc dw nw (scI Q nr) E Lt v (fst Q nr).1 Q cf cw rl a b cz htr r1 r2 x0 hdv hI.bks x2 r12 hrl (r11 rl hrl).1 (r11 rl hrl).2.2 ha hb9 hc9 hok hst9 hin hfc hfc2
theorem c_rr_drop_o (l : Launch) {rl a b cz : Nat} (hA : rrA X σ G rr nr cw Q E Lt sa nw rc fc dr) (hrl : rl < nr) (ha : a < 64) (hb9 : b < 64) (hc9 : cz < 64) (hok : wi3 64 (cw rl) (nI a) (nI b) (nI cz) = true) (hst9 : (cds E).Pairwise (· < ·)) (hin : ¬ (∃ x ∈ E, x.1 = ((rl * 64 + a) * 64 + b) * 64 + cz ∧ x.2.1 = 0)) : gs_Mi l X y_RR_drop b_RR_drop 6 (some .boolean) ({ frames := 3, cells := 0, slots := 0, locals := 69 }) σ [.ref rr, .int (nI rl), .int (nI a), .int (nI b), .int (nI cz)] (fun r u9 => (r = nI 0) ∧ u9 = σ) := by
  obtain ⟨ρ, dv, bk, tu, ma, la, cm, ac, ai, ab, lc, li, lb, mc, mi, mb, va, co, ru, sr, v, sf, cf, fR, dw, hI, hD⟩ := hA
  obtain ⟨r1, r2, r3, x0, hdv, k0, k2, k3, x2, r9, r10, r11, r12, r13, r14, r15⟩ := id hI
  obtain ⟨cs, ci, cr, ds, vs, a9, b9, c9, z9, d0, t0, t1, t2, t3, l0, l1, m0, m1, m2, m3, q0, q1, hB, hR, hl3, hs2, hn2, hds, hv⟩ := id hdv
  exact gs_Mp_Mi (c_RR_drop_o l X σ rr dv bk tu ma la cm ac ai ab lc li lb mc mi mb va co ru sr nr sa rc fc dw nw (scI Q nr) E Lt v (fst Q nr).1 Q cf cw rl a b cz r1 r2 x0 hdv hI.bks x2 r12 hrl (r11 rl hrl).1 (r11 rl hrl).2.2 ha hb9 hc9 hok hst9 hin)
theorem c_rr_item_k (l : Launch) {x r y z u : Int32} (hA : rrA X σ G rr nr cw Q E Lt sa nw rc fc dr) (htr : l.stackTraces = false) (hok : ¬ (¬ x < 0 ∧ x ≤ nI 3)) : gs_Mt l X y_RR_item b_RR_item 7 (some .int) ({ frames := 6, cells := 1, slots := 6, locals := 90 }) σ [.ref rr, .int x, .int r, .int y, .int z, .int u] xI := by
  obtain ⟨ρ, dv, bk, tu, ma, la, cm, ac, ai, ab, lc, li, lb, mc, mi, mb, va, co, ru, sr, v, sf, cf, fR, dw, hI, hD⟩ := hA
  obtain ⟨r1, r2, r3, x0, hdv, k0, k2, k3, x2, r9, r10, r11, r12, r13, r14, r15⟩ := id hI
  obtain ⟨cs, ci, cr, ds, vs, a9, b9, c9, z9, d0, t0, t1, t2, t3, l0, l1, m0, m1, m2, m3, q0, q1, hB, hR, hl3, hs2, hn2, hds, hv⟩ := id hdv
  exact c_RR_item_k l X σ rr bk tu ma dv co ru sr nr Q.length fc (scI Q nr) dw x r y z u htr x0 k0 r12 hok
theorem c_rr_item_c' (l : Launch) {kd : Nat} {r y z u : Int32} (hA : rrA X σ G rr nr cw Q E Lt sa nw rc fc dr) (htr : l.stackTraces = false) (hkd : kd = 2 ∨ kd = 3) (hok : ¬ (r = 0 ∧ wi3 72 2 y z u = true)) : gs_Mt l X y_RR_item b_RR_item 7 (some .int) ({ frames := 7, cells := 1, slots := 6, locals := 113 }) σ [.ref rr, .int (nI kd), .int r, .int y, .int z, .int u] xI := by
  obtain ⟨ρ, dv, bk, tu, ma, la, cm, ac, ai, ab, lc, li, lb, mc, mi, mb, va, co, ru, sr, v, sf, cf, fR, dw, hI, hD⟩ := hA
  obtain ⟨r1, r2, r3, x0, hdv, k0, k2, k3, x2, r9, r10, r11, r12, r13, r14, r15⟩ := id hI
  obtain ⟨cs, ci, cr, ds, vs, a9, b9, c9, z9, d0, t0, t1, t2, t3, l0, l1, m0, m1, m2, m3, q0, q1, hB, hR, hl3, hs2, hn2, hds, hv⟩ := id hdv
  exact c_RR_item_c l X σ rr bk tu ma dv co ru sr nr Q.length fc (scI Q nr) dw kd r y z u htr x0 k0 r12 hkd hok
theorem c_rr_item_t (l : Launch) {rl kd : Nat} {y z u : Int32} (hA : rrA X σ G rr nr cw Q E Lt sa nw rc fc dr) (htr : l.stackTraces = false) (hrl : rl < nr) (hkd : kd ≤ 1) (hok : wi3 72 (cw rl) y z u = false) : gs_Mt l X y_RR_item b_RR_item 7 (some .int) ({ frames := 7, cells := 1, slots := 6, locals := 114 }) σ [.ref rr, .int (nI kd), .int (nI rl), .int y, .int z, .int u] xI := by
  obtain ⟨ρ, dv, bk, tu, ma, la, cm, ac, ai, ab, lc, li, lb, mc, mi, mb, va, co, ru, sr, v, sf, cf, fR, dw, hI, hD⟩ := hA
  obtain ⟨r1, r2, r3, x0, hdv, k0, k2, k3, x2, r9, r10, r11, r12, r13, r14, r15⟩ := id hI
  obtain ⟨cs, ci, cr, ds, vs, a9, b9, c9, z9, d0, t0, t1, t2, t3, l0, l1, m0, m1, m2, m3, q0, q1, hB, hR, hl3, hs2, hn2, hds, hv⟩ := id hdv
  exact c_RR_item_t l X σ rr bk tu ma dv co ru sr nr Q.length fc (scI Q nr) dw cf cw rl kd y z u htr x0 k0 r12 x2 hrl (r11 rl hrl).1 (r11 rl hrl).2.2 hkd hok
theorem c_rr_item_r (l : Launch) {kd : Nat} {x y z u : Int32} (hA : rrA X σ G rr nr cw Q E Lt sa nw rc fc dr) (htr : l.stackTraces = false) (hkd : kd ≤ 1) (hok : wi nr x = false) : gs_Mt l X y_RR_item b_RR_item 7 (some .int) ({ frames := 8, cells := 1, slots := 6, locals := 135 }) σ [.ref rr, .int (nI kd), .int x, .int y, .int z, .int u] xI := by
  obtain ⟨ρ, dv, bk, tu, ma, la, cm, ac, ai, ab, lc, li, lb, mc, mi, mb, va, co, ru, sr, v, sf, cf, fR, dw, hI, hD⟩ := hA
  obtain ⟨r1, r2, r3, x0, hdv, k0, k2, k3, x2, r9, r10, r11, r12, r13, r14, r15⟩ := id hI
  obtain ⟨cs, ci, cr, ds, vs, a9, b9, c9, z9, d0, t0, t1, t2, t3, l0, l1, m0, m1, m2, m3, q0, q1, hB, hR, hl3, hs2, hn2, hds, hv⟩ := id hdv
  exact c_RR_item_r l X σ rr bk tu ma dv co ru sr nr Q.length fc (scI Q nr) dw kd x y z u htr x0 k0 r12 hkd hok
theorem c_rr_item_cn (l : Launch) {kd : Nat} {y z u : Int32} (hA : rrA X σ G rr nr cw Q E Lt sa nw rc fc none) (htr : l.stackTraces = false) (hkd : kd = 2 ∨ kd = 3) (hok : wi3 72 2 y z u = true) : gs_Mt l X y_RR_item b_RR_item 7 (some .int) ({ frames := 6, cells := 1, slots := 6, locals := 90 }) σ [.ref rr, .int (nI kd), .int (nI 0), .int y, .int z, .int u] xS := by
  obtain ⟨ρ, dv, bk, tu, ma, la, cm, ac, ai, ab, lc, li, lb, mc, mi, mb, va, co, ru, sr, v, sf, cf, fR, dw, hI, hD⟩ := hA
  obtain ⟨r1, r2, r3, x0, hdv, k0, k2, k3, x2, r9, r10, r11, r12, r13, r14, r15⟩ := id hI
  obtain ⟨cs, ci, cr, ds, vs, a9, b9, c9, z9, d0, t0, t1, t2, t3, l0, l1, m0, m1, m2, m3, q0, q1, hB, hR, hl3, hs2, hn2, hds, hv⟩ := id hdv
  have hD : dw = .null := hD
  subst hD
  exact c_RR_item_cn l X σ rr bk tu ma dv co ru sr nr Q.length fc (scI Q nr) kd y z u htr x0 k0 r12 hkd hok
theorem c_rr_item_tn (l : Launch) {rl kd : Nat} {y z u : Int32} (hA : rrA X σ G rr nr cw Q E Lt sa nw rc fc none) (htr : l.stackTraces = false) (hrl : rl < nr) (hkd : kd ≤ 1) (hok : wi3 72 (cw rl) y z u = true) : gs_Mt l X y_RR_item b_RR_item 7 (some .int) ({ frames := 6, cells := 1, slots := 6, locals := 90 }) σ [.ref rr, .int (nI kd), .int (nI rl), .int y, .int z, .int u] xS := by
  obtain ⟨ρ, dv, bk, tu, ma, la, cm, ac, ai, ab, lc, li, lb, mc, mi, mb, va, co, ru, sr, v, sf, cf, fR, dw, hI, hD⟩ := hA
  obtain ⟨r1, r2, r3, x0, hdv, k0, k2, k3, x2, r9, r10, r11, r12, r13, r14, r15⟩ := id hI
  obtain ⟨cs, ci, cr, ds, vs, a9, b9, c9, z9, d0, t0, t1, t2, t3, l0, l1, m0, m1, m2, m3, q0, q1, hB, hR, hl3, hs2, hn2, hds, hv⟩ := id hdv
  have hD : dw = .null := hD
  subst hD
  exact c_RR_item_tn l X σ rr bk tu ma dv co ru sr nr Q.length fc (scI Q nr) cf cw rl kd y z u htr x0 k0 r12 x2 hrl (r11 rl hrl).1 (r11 rl hrl).2.2 hkd hok
theorem c_rr_item_cf (l : Launch) {th : It} {hs ks : List It} {kn : Nat → Nat} {kd : Nat} {y z u : Int32} (hA : rrA X σ G rr nr cw Q E Lt sa nw rc fc (some (th, hs, ks, kn))) (htr : l.stackTraces = false) (hkd : kd = 2 ∨ kd = 3) (hok : wi3 72 2 y z u = true) (hfu : ¬ (hs.length + ks.length < 6 ∧ (kd ≠ 0 ∨ hs.length < 3))) : gs_Mt l X y_RR_item b_RR_item 7 (some .int) ({ frames := 6, cells := 1, slots := 6, locals := 90 }) σ [.ref rr, .int (nI kd), .int (nI 0), .int y, .int z, .int u] xS := by
  obtain ⟨ρ, dv, bk, tu, ma, la, cm, ac, ai, ab, lc, li, lb, mc, mi, mb, va, co, ru, sr, v, sf, cf, fR, dw, hI, hD⟩ := hA
  obtain ⟨r1, r2, r3, x0, hdv, k0, k2, k3, x2, r9, r10, r11, r12, r13, r14, r15⟩ := id hI
  obtain ⟨cs, ci, cr, ds, vs, a9, b9, c9, z9, d0, t0, t1, t2, t3, l0, l1, m0, m1, m2, m3, q0, q1, hB, hR, hl3, hs2, hn2, hds, hv⟩ := id hdv
  obtain ⟨d, hd, ho, ck, kf, fH, fC, hp, ca, kv, g0, g1, g2, g3, g4, g5, g6, g7, g8, g9, g10, g11, g12⟩ := id hD
  subst g0
  exact c_RR_item_cf l X σ rr bk tu ma dv co ru sr nr Q.length fc (scI Q nr) d hd ho ck kf hs.length ks.length kd y z u htr x0 k0 r12 g1 g10.2.1 g10.2.2.1 hkd hok hfu
theorem c_rr_item_tf (l : Launch) {th : It} {hs ks : List It} {kn : Nat → Nat} {rl kd : Nat} {y z u : Int32} (hA : rrA X σ G rr nr cw Q E Lt sa nw rc fc (some (th, hs, ks, kn))) (htr : l.stackTraces = false) (hrl : rl < nr) (hkd : kd ≤ 1) (hok : wi3 72 (cw rl) y z u = true) (hfu : ¬ (hs.length + ks.length < 6 ∧ (kd ≠ 0 ∨ hs.length < 3))) : gs_Mt l X y_RR_item b_RR_item 7 (some .int) ({ frames := 6, cells := 1, slots := 6, locals := 90 }) σ [.ref rr, .int (nI kd), .int (nI rl), .int y, .int z, .int u] xS := by
  obtain ⟨ρ, dv, bk, tu, ma, la, cm, ac, ai, ab, lc, li, lb, mc, mi, mb, va, co, ru, sr, v, sf, cf, fR, dw, hI, hD⟩ := hA
  obtain ⟨r1, r2, r3, x0, hdv, k0, k2, k3, x2, r9, r10, r11, r12, r13, r14, r15⟩ := id hI
  obtain ⟨cs, ci, cr, ds, vs, a9, b9, c9, z9, d0, t0, t1, t2, t3, l0, l1, m0, m1, m2, m3, q0, q1, hB, hR, hl3, hs2, hn2, hds, hv⟩ := id hdv
  obtain ⟨d, hd, ho, ck, kf, fH, fC, hp, ca, kv, g0, g1, g2, g3, g4, g5, g6, g7, g8, g9, g10, g11, g12⟩ := id hD
  subst g0
  exact c_RR_item_tf l X σ rr bk tu ma dv co ru sr nr Q.length fc (scI Q nr) cf cw rl d hd ho ck kf hs.length ks.length kd y z u htr x0 k0 r12 x2 hrl (r11 rl hrl).1 (r11 rl hrl).2.2 g1 g10.2.1 g10.2.2.1 hkd hok hfu
theorem c_rr_rule_n (l : Launch)  (hA : rrA X σ G rr nr cw Q E Lt sa nw rc fc none) (htr : l.stackTraces = false) : gs_Mt l X y_RR_rule b_RR_rule 1 (some .int) ({ frames := 6, cells := 1, slots := 6, locals := 90 }) σ [.ref rr] xS := by
  obtain ⟨ρ, dv, bk, tu, ma, la, cm, ac, ai, ab, lc, li, lb, mc, mi, mb, va, co, ru, sr, v, sf, cf, fR, dw, hI, hD⟩ := hA
  obtain ⟨r1, r2, r3, x0, hdv, k0, k2, k3, x2, r9, r10, r11, r12, r13, r14, r15⟩ := id hI
  obtain ⟨cs, ci, cr, ds, vs, a9, b9, c9, z9, d0, t0, t1, t2, t3, l0, l1, m0, m1, m2, m3, q0, q1, hB, hR, hl3, hs2, hn2, hds, hv⟩ := id hdv
  have hD : dw = .null := hD
  subst hD
  exact c_RR_rule_n l X σ rr bk tu ma dv co ru sr nr Q.length fc (scI Q nr) htr x0 k0 r12
theorem c_rr_rule_f (l : Launch) {th : It} {hs ks : List It} {kn : Nat → Nat}  (hA : rrA X σ G rr nr cw Q E Lt sa nw rc fc (some (th, hs, ks, kn))) (htr : l.stackTraces = false) (hfu : Q.length = 24) : gs_Mt l X y_RR_rule b_RR_rule 1 (some .int) ({ frames := 6, cells := 1, slots := 6, locals := 90 }) σ [.ref rr] xS := by
  obtain ⟨ρ, dv, bk, tu, ma, la, cm, ac, ai, ab, lc, li, lb, mc, mi, mb, va, co, ru, sr, v, sf, cf, fR, dw, hI, hD⟩ := hA
  obtain ⟨r1, r2, r3, x0, hdv, k0, k2, k3, x2, r9, r10, r11, r12, r13, r14, r15⟩ := id hI
  obtain ⟨cs, ci, cr, ds, vs, a9, b9, c9, z9, d0, t0, t1, t2, t3, l0, l1, m0, m1, m2, m3, q0, q1, hB, hR, hl3, hs2, hn2, hds, hv⟩ := id hdv
  obtain ⟨d, hd, ho, ck, kf, fH, fC, hp, ca, kv, g0, g1, g2, g3, g4, g5, g6, g7, g8, g9, g10, g11, g12⟩ := id hD
  subst g0
  exact c_RR_rule_f l X σ rr bk tu ma dv co ru sr nr Q.length fc (scI Q nr) d hd ho ck kf hs.length ks.length htr x0 k0 r12 g1 g10.2.1 g10.2.2.1 hfu
theorem c_rr_strata (l : Launch)  (hA : rrA X σ G rr nr cw Q E Lt sa nw rc fc dr)  : gs_Mi l X y_RR_strata b_RR_strata 1 (some .int) ({ frames := 0, cells := 0, slots := 0, locals := 0 }) σ [.ref rr] (fun r u9 => (r = scI Q nr) ∧ u9 = σ) := by
  obtain ⟨ρ, dv, bk, tu, ma, la, cm, ac, ai, ab, lc, li, lb, mc, mi, mb, va, co, ru, sr, v, sf, cf, fR, dw, hI, hD⟩ := hA
  obtain ⟨r1, r2, r3, x0, hdv, k0, k2, k3, x2, r9, r10, r11, r12, r13, r14, r15⟩ := id hI
  obtain ⟨cs, ci, cr, ds, vs, a9, b9, c9, z9, d0, t0, t1, t2, t3, l0, l1, m0, m1, m2, m3, q0, q1, hB, hR, hl3, hs2, hn2, hds, hv⟩ := id hdv
  exact gs_Mp_Mi (c_RR_strata l X σ rr bk tu ma dv co ru sr nr Q.length fc (scI Q nr) dw x0 k0 r12)
theorem c_rr_rounds (l : Launch)  (hA : rrA X σ G rr nr cw Q E Lt sa nw rc fc dr)  : gs_Mi l X y_RR_rounds b_RR_rounds 1 (some .int) ({ frames := 0, cells := 0, slots := 0, locals := 0 }) σ [.ref rr] (fun r u9 => (r = nI rc) ∧ u9 = σ) := by
  obtain ⟨ρ, dv, bk, tu, ma, la, cm, ac, ai, ab, lc, li, lb, mc, mi, mb, va, co, ru, sr, v, sf, cf, fR, dw, hI, hD⟩ := hA
  obtain ⟨r1, r2, r3, x0, hdv, k0, k2, k3, x2, r9, r10, r11, r12, r13, r14, r15⟩ := id hI
  obtain ⟨cs, ci, cr, ds, vs, a9, b9, c9, z9, d0, t0, t1, t2, t3, l0, l1, m0, m1, m2, m3, q0, q1, hB, hR, hl3, hs2, hn2, hds, hv⟩ := id hdv
  exact gs_Mp_Mi (c_RR_rounds l X σ rr bk tu ma dv co ru sr nr Q.length fc (scI Q nr) dw la cm rc _ _ x0 k0 r12 d0)
theorem c_rr_stratum (l : Launch) {rl : Nat} (hA : rrA X σ G rr nr cw Q E Lt sa nw rc fc dr) (hrl : rl < nr) (hok : ¬ scI Q nr = -3) : gs_Mi l X y_RR_stratum b_RR_stratum 2 (some .int) ({ frames := 1, cells := 0, slots := 0, locals := 21 }) σ [.ref rr, .int (nI rl)] (fun r u9 => (r = nI ((fst Q nr).1 rl)) ∧ u9 = σ) := by
  obtain ⟨ρ, dv, bk, tu, ma, la, cm, ac, ai, ab, lc, li, lb, mc, mi, mb, va, co, ru, sr, v, sf, cf, fR, dw, hI, hD⟩ := hA
  obtain ⟨r1, r2, r3, x0, hdv, k0, k2, k3, x2, r9, r10, r11, r12, r13, r14, r15⟩ := id hI
  obtain ⟨cs, ci, cr, ds, vs, a9, b9, c9, z9, d0, t0, t1, t2, t3, l0, l1, m0, m1, m2, m3, q0, q1, hB, hR, hl3, hs2, hn2, hds, hv⟩ := id hdv
  exact gs_Mp_Mi (c_RR_stratum l X σ rr bk tu ma dv co ru sr nr Q.length fc (scI Q nr) dw rl sf (fst Q nr).1 x0 k0 r12 hrl k3 (r9 rl (by omega)).1 hok)
theorem c_rr_stratum_t (l : Launch) {rl : Nat} (hA : rrA X σ G rr nr cw Q E Lt sa nw rc fc dr) (htr : l.stackTraces = false) (hrl : rl < nr) (hok : scI Q nr = -3) : gs_Mt l X y_RR_stratum b_RR_stratum 2 (some .int) ({ frames := 6, cells := 1, slots := 6, locals := 90 }) σ [.ref rr, .int (nI rl)] xS := by
  obtain ⟨ρ, dv, bk, tu, ma, la, cm, ac, ai, ab, lc, li, lb, mc, mi, mb, va, co, ru, sr, v, sf, cf, fR, dw, hI, hD⟩ := hA
  obtain ⟨r1, r2, r3, x0, hdv, k0, k2, k3, x2, r9, r10, r11, r12, r13, r14, r15⟩ := id hI
  obtain ⟨cs, ci, cr, ds, vs, a9, b9, c9, z9, d0, t0, t1, t2, t3, l0, l1, m0, m1, m2, m3, q0, q1, hB, hR, hl3, hs2, hn2, hds, hv⟩ := id hdv
  exact c_RR_stratum_t l X σ rr bk tu ma dv co ru sr nr Q.length fc (scI Q nr) dw rl htr x0 k0 r12 hrl hok
theorem c_rr_stratum_r (l : Launch) {x : Int32} (hA : rrA X σ G rr nr cw Q E Lt sa nw rc fc dr) (htr : l.stackTraces = false) (hok : wi nr x = false) : gs_Mt l X y_RR_stratum b_RR_stratum 2 (some .int) ({ frames := 7, cells := 1, slots := 6, locals := 111 }) σ [.ref rr, .int x] xI := by
  obtain ⟨ρ, dv, bk, tu, ma, la, cm, ac, ai, ab, lc, li, lb, mc, mi, mb, va, co, ru, sr, v, sf, cf, fR, dw, hI, hD⟩ := hA
  obtain ⟨r1, r2, r3, x0, hdv, k0, k2, k3, x2, r9, r10, r11, r12, r13, r14, r15⟩ := id hI
  obtain ⟨cs, ci, cr, ds, vs, a9, b9, c9, z9, d0, t0, t1, t2, t3, l0, l1, m0, m1, m2, m3, q0, q1, hB, hR, hl3, hs2, hn2, hds, hv⟩ := id hdv
  exact c_RR_stratum_r l X σ rr bk tu ma dv co ru sr nr Q.length fc (scI Q nr) dw x htr x0 k0 r12 hok
theorem c_rr_count (l : Launch) {rl : Nat} (hA : rrA X σ G rr nr cw Q E Lt sa nw rc fc dr) (hrl : rl < nr) : gs_Mi l X y_RR_count b_RR_count 2 (some .int) ({ frames := 2, cells := 0, slots := 0, locals := 45 }) σ [.ref rr, .int (nI rl)] (fun r u9 => (r = nI (cb (cds E) ((rl + 1) * 262144) - cb (cds E) (rl * 262144))) ∧ u9 = σ) := by
  obtain ⟨ρ, dv, bk, tu, ma, la, cm, ac, ai, ab, lc, li, lb, mc, mi, mb, va, co, ru, sr, v, sf, cf, fR, dw, hI, hD⟩ := hA
  obtain ⟨r1, r2, r3, x0, hdv, k0, k2, k3, x2, r9, r10, r11, r12, r13, r14, r15⟩ := id hI
  obtain ⟨cs, ci, cr, ds, vs, a9, b9, c9, z9, d0, t0, t1, t2, t3, l0, l1, m0, m1, m2, m3, q0, q1, hB, hR, hl3, hs2, hn2, hds, hv⟩ := id hdv
  exact gs_Mp_Mi (c_RR_count l X σ rr bk tu ma dv co ru sr nr Q.length fc (scI Q nr) dw ac ai ab (cds E) cs rl x0 k0 r12 hB.1 (by rw [cds_len]; exact hB.2.1) (hR.cds hB.2.2) (by rw [cds_len]; exact t0) t1 hrl)
theorem c_rr_count_r (l : Launch) {x : Int32} (hA : rrA X σ G rr nr cw Q E Lt sa nw rc fc dr) (htr : l.stackTraces = false) (hok : wi nr x = false) : gs_Mt l X y_RR_count b_RR_count 2 (some .int) ({ frames := 7, cells := 1, slots := 6, locals := 111 }) σ [.ref rr, .int x] xI := by
  obtain ⟨ρ, dv, bk, tu, ma, la, cm, ac, ai, ab, lc, li, lb, mc, mi, mb, va, co, ru, sr, v, sf, cf, fR, dw, hI, hD⟩ := hA
  obtain ⟨r1, r2, r3, x0, hdv, k0, k2, k3, x2, r9, r10, r11, r12, r13, r14, r15⟩ := id hI
  obtain ⟨cs, ci, cr, ds, vs, a9, b9, c9, z9, d0, t0, t1, t2, t3, l0, l1, m0, m1, m2, m3, q0, q1, hB, hR, hl3, hs2, hn2, hds, hv⟩ := id hdv
  exact c_RR_count_r l X σ rr bk tu ma dv co ru sr nr Q.length fc (scI Q nr) dw x htr x0 k0 r12 hok
theorem c_rr_has (l : Launch) {rl a b cz : Nat} (hA : rrA X σ G rr nr cw Q E Lt sa nw rc fc dr) (hrl : rl < nr) (ha : a < 64) (hb9 : b < 64) (hc9 : cz < 64) (hok : wi3 64 (cw rl) (nI a) (nI b) (nI cz) = true) : gs_Mi l X y_RR_has b_RR_has 5 (some .boolean) ({ frames := 3, cells := 0, slots := 0, locals := 69 }) σ [.ref rr, .int (nI rl), .int (nI a), .int (nI b), .int (nI cz)] (fun r u9 => (r = bI (decide ((((rl * 64 + a) * 64 + b) * 64 + cz) ∈ cds E))) ∧ u9 = σ) := by
  obtain ⟨ρ, dv, bk, tu, ma, la, cm, ac, ai, ab, lc, li, lb, mc, mi, mb, va, co, ru, sr, v, sf, cf, fR, dw, hI, hD⟩ := hA
  obtain ⟨r1, r2, r3, x0, hdv, k0, k2, k3, x2, r9, r10, r11, r12, r13, r14, r15⟩ := id hI
  obtain ⟨cs, ci, cr, ds, vs, a9, b9, c9, z9, d0, t0, t1, t2, t3, l0, l1, m0, m1, m2, m3, q0, q1, hB, hR, hl3, hs2, hn2, hds, hv⟩ := id hdv
  exact gs_Mp_Mi (c_RR_has l X σ rr bk tu ma dv co ru sr nr Q.length fc (scI Q nr) dw cf cw rl ac ai ab (cds E) cs a b cz x0 k0 r12 x2 hrl (r11 rl hrl).1 (r11 rl hrl).2.2 hB.1 (by rw [cds_len]; exact hB.2.1) (hR.cds hB.2.2) (by rw [cds_len]; exact t0) t1 ha hb9 hc9 hok)
theorem c_rr_tuple (l : Launch) {rl pl wh : Nat} (hA : rrA X σ G rr nr cw Q E Lt sa nw rc fc dr) (hrl : rl < nr) (hpl : pl < cb (cds E) ((rl + 1) * 262144) - cb (cds E) (rl * 262144)) (hwh : wh < 5) : gs_Mi l X y_RR_tuple b_RR_tuple 5 (some .int) ({ frames := 2, cells := 0, slots := 0, locals := 45 }) σ [.ref rr, .int (nI rl), .int (nI pl), .int (nI wh)] (fun r u9 => (∃ x, E[cb (cds E) (rl * 262144) + pl]? = some x ∧ r = tupR x wh) ∧ u9 = σ) := by
  obtain ⟨ρ, dv, bk, tu, ma, la, cm, ac, ai, ab, lc, li, lb, mc, mi, mb, va, co, ru, sr, v, sf, cf, fR, dw, hI, hD⟩ := hA
  obtain ⟨r1, r2, r3, x0, hdv, k0, k2, k3, x2, r9, r10, r11, r12, r13, r14, r15⟩ := id hI
  obtain ⟨cs, ci, cr, ds, vs, a9, b9, c9, z9, d0, t0, t1, t2, t3, l0, l1, m0, m1, m2, m3, q0, q1, hB, hR, hl3, hs2, hn2, hds, hv⟩ := id hdv
  exact gs_Mp_Mi (c_RR_tuple l X σ rr bk tu ma dv co ru sr nr Q.length fc (scI Q nr) dw ac ai ab E cs ci cr rl pl wh x0 k0 r12 hB hR t0 t1 t2 t3 hrl hpl hwh)
theorem c_rr_tuple_t (l : Launch) {rl : Nat} {x y : Int32} (hA : rrA X σ G rr nr cw Q E Lt sa nw rc fc dr) (htr : l.stackTraces = false) (hrl : rl < nr) (hok : ¬ (¬ x < 0 ∧ x < nI (cb (cds E) ((rl + 1) * 262144) - cb (cds E) (rl * 262144)))) : gs_Mt l X y_RR_tuple b_RR_tuple 5 (some .int) ({ frames := 6, cells := 1, slots := 6, locals := 90 }) σ [.ref rr, .int (nI rl), .int x, .int y] xI := by
  obtain ⟨ρ, dv, bk, tu, ma, la, cm, ac, ai, ab, lc, li, lb, mc, mi, mb, va, co, ru, sr, v, sf, cf, fR, dw, hI, hD⟩ := hA
  obtain ⟨r1, r2, r3, x0, hdv, k0, k2, k3, x2, r9, r10, r11, r12, r13, r14, r15⟩ := id hI
  obtain ⟨cs, ci, cr, ds, vs, a9, b9, c9, z9, d0, t0, t1, t2, t3, l0, l1, m0, m1, m2, m3, q0, q1, hB, hR, hl3, hs2, hn2, hds, hv⟩ := id hdv
  exact c_RR_tuple_t l X σ rr bk tu ma dv co ru sr nr Q.length fc (scI Q nr) dw ac ai ab E cs ci cr rl x y htr x0 k0 r12 hB hR t0 t1 t2 t3 hrl hok
theorem c_rr_tuple_w (l : Launch) {rl pl : Nat} {y : Int32} (hA : rrA X σ G rr nr cw Q E Lt sa nw rc fc dr) (htr : l.stackTraces = false) (hrl : rl < nr) (hpl : pl < cb (cds E) ((rl + 1) * 262144) - cb (cds E) (rl * 262144)) (hok : y.toInt < 0 ∨ 4 < y.toInt) : gs_Mt l X y_RR_tuple b_RR_tuple 5 (some .int) ({ frames := 6, cells := 1, slots := 6, locals := 90 }) σ [.ref rr, .int (nI rl), .int (nI pl), .int y] xI := by
  obtain ⟨ρ, dv, bk, tu, ma, la, cm, ac, ai, ab, lc, li, lb, mc, mi, mb, va, co, ru, sr, v, sf, cf, fR, dw, hI, hD⟩ := hA
  obtain ⟨r1, r2, r3, x0, hdv, k0, k2, k3, x2, r9, r10, r11, r12, r13, r14, r15⟩ := id hI
  obtain ⟨cs, ci, cr, ds, vs, a9, b9, c9, z9, d0, t0, t1, t2, t3, l0, l1, m0, m1, m2, m3, q0, q1, hB, hR, hl3, hs2, hn2, hds, hv⟩ := id hdv
  exact c_RR_tuple_w l X σ rr bk tu ma dv co ru sr nr Q.length fc (scI Q nr) dw ac ai ab E cs ci cr rl pl y htr x0 k0 r12 hB hR t0 t1 t2 t3 hrl hpl hok
theorem c_rr_tuple_r (l : Launch) {x y z : Int32} (hA : rrA X σ G rr nr cw Q E Lt sa nw rc fc dr) (htr : l.stackTraces = false) (hok : wi nr x = false) : gs_Mt l X y_RR_tuple b_RR_tuple 5 (some .int) ({ frames := 7, cells := 1, slots := 6, locals := 111 }) σ [.ref rr, .int x, .int y, .int z] xI := by
  obtain ⟨ρ, dv, bk, tu, ma, la, cm, ac, ai, ab, lc, li, lb, mc, mi, mb, va, co, ru, sr, v, sf, cf, fR, dw, hI, hD⟩ := hA
  obtain ⟨r1, r2, r3, x0, hdv, k0, k2, k3, x2, r9, r10, r11, r12, r13, r14, r15⟩ := id hI
  obtain ⟨cs, ci, cr, ds, vs, a9, b9, c9, z9, d0, t0, t1, t2, t3, l0, l1, m0, m1, m2, m3, q0, q1, hB, hR, hl3, hs2, hn2, hds, hv⟩ := id hdv
  exact c_RR_tuple_r l X σ rr bk tu ma dv co ru sr nr Q.length fc (scI Q nr) dw x y z htr x0 k0 r12 hok
theorem c_rr_matches_t (l : Launch) {x : Int32} (hA : rrA X σ G rr nr cw Q E Lt sa nw rc fc dr) (htr : l.stackTraces = false) (hok : wi Q.length x = false) : gs_Mt l X y_RR_matches b_RR_matches 2 (some .int) ({ frames := 6, cells := 1, slots := 6, locals := 90 }) σ [.ref rr, .int x] xI := by
  obtain ⟨ρ, dv, bk, tu, ma, la, cm, ac, ai, ab, lc, li, lb, mc, mi, mb, va, co, ru, sr, v, sf, cf, fR, dw, hI, hD⟩ := hA
  obtain ⟨r1, r2, r3, x0, hdv, k0, k2, k3, x2, r9, r10, r11, r12, r13, r14, r15⟩ := id hI
  obtain ⟨cs, ci, cr, ds, vs, a9, b9, c9, z9, d0, t0, t1, t2, t3, l0, l1, m0, m1, m2, m3, q0, q1, hB, hR, hl3, hs2, hn2, hds, hv⟩ := id hdv
  exact c_RR_matches_t l X σ rr bk tu ma dv co ru sr nr Q.length fc (scI Q nr) dw x htr x0 k0 r12 r10 hok
end RRT
