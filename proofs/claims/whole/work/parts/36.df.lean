/-- the contract of deriveFrom at depth d with k HOLDS to go -/
def DF (l : Launch) (X : gs_X) (dv bk tu ma la cm ac ai ab lc li lb mc mi mb va co ru sr nr nq a hd ho ck kf num : Nat) (x5 x6 x7 sc : Int32) (L Lt : List Nat) (cs ds : Nat → Int32) (R : Rl) (rdy : Nat) (pv : Int32) (fR fH fC : Nat → Option Nat) (k d : Nat) : Prop := ∀ (σ : gs_St) (vs : Nat → Int32) (v : Nat → Nat) (C : List En) (a9 b9 c9 : Nat → Int32), vOK vs v → tuB C → tuR C a9 b9 c9 → (σ dv = some (gs_ob 1 [.ref bk, .ref tu, .ref ma, .ref la, .ref cm, .int x5, .int x6, .int x7])) → (σ bk = some (gs_ob 5 [.ref co, .ref ru, .ref sr, .int (nI nr), .int (nI nq), .int sc])) → (σ ru = some (gs_qa X 2 24 fR)) → (σ a = some (gs_ob 4 [.ref hd, .ref ho, .ref ck, .int (nI R.2.1.length), .int (nI R.2.2.length), .ref kf])) → (σ hd = some (itE R.1)) → (σ ho = some (gs_qa X 3 3 fH)) → (σ ck = some (gs_qa X 3 6 fC)) → (σ tu = some (gs_ob 6 [.ref ac, .ref ai, .ref ab, .int (nI L.length)])) → (σ ac = some (gs_ia X 301 cs)) → (σ la = some (gs_ob 6 [.ref lc, .ref li, .ref lb, .int (nI Lt.length)])) → (σ lc = some (gs_ia X 301 ds)) → (σ ma = some (gs_ob 3 [.ref tu, .ref va])) → (σ va = some (gs_ia X 8 vs)) → (σ cm = some (gs_ob 6 [.ref mc, .ref mi, .ref mb, .int (nI C.length)])) → (σ mc = some (gs_ia X 301 a9)) → (σ mi = some (gs_ia X 301 b9)) → (σ mb = some (gs_ia X 301 c9)) → (∀ i t, R.2.1[i]? = some t → ∃ b, fH i = some b ∧ σ b = some (itE t)) → (∀ i t, R.2.2[i]? = some t → ∃ b, fC i = some b ∧ σ b = some (itE t)) → gs_Mi l X y_DE_deriveFrom b_DE_deriveFrom 11 (some .boolean) ({ frames := 5 + k, cells := 0, slots := 0, locals := 300 + 60 * k }) σ [.ref dv, .int (nI num), .int (nI d), .int pv] (fun r σ' => ∃ vs' a' b' c', σ' = dvS X σ va vs' cm mc mi mb (dvF L Lt num R rdy pv k d v C).2.2.length a' b' c' ∧ vOK vs' (dvF L Lt num R rdy pv k d v C).2.1 ∧ tuR (dvF L Lt num R rdy pv k d v C).2.2 a' b' c' ∧ tuB (dvF L Lt num R rdy pv k d v C).2.2 ∧ r = bI (dvF L Lt num R rdy pv k d v C).1)
set_option maxHeartbeats 4000000 in
set_option maxRecDepth 100000 in
/-- Deriving.deriveFrom, over its own at the next depth -/
theorem c_DE_deriveFrom_step (l : Launch) (X : gs_X) (σ : gs_St) (dv bk tu ma la cm ac ai ab lc li lb mc mi mb va co ru sr nr nq a hd ho ck kf num : Nat) (x5 x6 x7 sc : Int32) (L Lt : List Nat) (cs ds : Nat → Int32) (R : Rl) (rdy : Nat) (pv : Int32) (fR fH fC : Nat → Option Nat) (k d : Nat) (vs : Nat → Int32) (v : Nat → Nat) (C : List En) (a9 b9 c9 : Nat → Int32)
    (hs : L.Pairwise (· ≤ ·)) (hn : L.length ≤ 301) (hcs : ∀ j x, L[j]? = some x → cs j = nI x ∧ x < 2 ^ 30) (hs2 : Lt.Pairwise (· ≤ ·)) (hn2 : Lt.length ≤ 301) (hds : ∀ j x, Lt[j]? = some x → ds j = nI x ∧ x < 2 ^ 30) (hRB : ruB R) (hhr : R.1.2.2.2.2 = nI rdy) (hr3 : rdy ≤ 3) (hnum : num < 24) (hfR : fR num = some a) (e1 : tu ≠ cm) (e2 : la ≠ cm) (e3 : ac ≠ mc) (e4 : ac ≠ mi) (e5 : ac ≠ mb) (e6 : lc ≠ mc) (e7 : lc ≠ mi) (e8 : lc ≠ mb) (n1 : mc ≠ mi) (n2 : mc ≠ mb) (n3 : mi ≠ mb) (hk9 : d + k = R.2.1.length) (ih9 : 1 ≤ k → DF l X dv bk tu ma la cm ac ai ab lc li lb mc mi mb va co ru sr nr nq a hd ho ck kf num x5 x6 x7 sc L Lt cs ds R rdy pv fR fH fC (k - 1) (d + 1)) (hv : vOK vs v) (hB : tuB C) (hR : tuR C a9 b9 c9) (d0 : σ dv = some (gs_ob 1 [.ref bk, .ref tu, .ref ma, .ref la, .ref cm, .int x5, .int x6, .int x7])) (k0 : σ bk = some (gs_ob 5 [.ref co, .ref ru, .ref sr, .int (nI nr), .int (nI nq), .int sc])) (k2 : σ ru = some (gs_qa X 2 24 fR)) (r0 : σ a = some (gs_ob 4 [.ref hd, .ref ho, .ref ck, .int (nI R.2.1.length), .int (nI R.2.2.length), .ref kf])) (r1 : σ hd = some (itE R.1)) (r2 : σ ho = some (gs_qa X 3 3 fH)) (r3 : σ ck = some (gs_qa X 3 6 fC)) (t0 : σ tu = some (gs_ob 6 [.ref ac, .ref ai, .ref ab, .int (nI L.length)])) (t1 : σ ac = some (gs_ia X 301 cs)) (l0 : σ la = some (gs_ob 6 [.ref lc, .ref li, .ref lb, .int (nI Lt.length)])) (l1 : σ lc = some (gs_ia X 301 ds)) (q0 : σ ma = some (gs_ob 3 [.ref tu, .ref va])) (q1 : σ va = some (gs_ia X 8 vs)) (m0 : σ cm = some (gs_ob 6 [.ref mc, .ref mi, .ref mb, .int (nI C.length)])) (m1 : σ mc = some (gs_ia X 301 a9)) (m2 : σ mi = some (gs_ia X 301 b9)) (m3 : σ mb = some (gs_ia X 301 c9)) (rh : ∀ i t, R.2.1[i]? = some t → ∃ b, fH i = some b ∧ σ b = some (itE t)) (rk : ∀ i t, R.2.2[i]? = some t → ∃ b, fC i = some b ∧ σ b = some (itE t)) : gs_Mi l X y_DE_deriveFrom b_DE_deriveFrom 11 (some .boolean) ({ frames := 5 + k, cells := 0, slots := 0, locals := 300 + 60 * k }) σ [.ref dv, .int (nI num), .int (nI d), .int pv] (fun r σ' => ∃ vs' a' b' c', σ' = dvS X σ va vs' cm mc mi mb (dvF L Lt num R rdy pv k d v C).2.2.length a' b' c' ∧ vOK vs' (dvF L Lt num R rdy pv k d v C).2.1 ∧ tuR (dvF L Lt num R rdy pv k d v C).2.2 a' b' c' ∧ tuB (dvF L Lt num R rdy pv k d v C).2.2 ∧ r = bI (dvF L Lt num R rdy pv k d v C).1) := by
  refine Met.ofW (cc := b_DE_deriveFrom) (maxL := 11) (ret := (some .boolean)) (by decide) rfl ?_
  intro p e s m args below meth c s₁ B₀ hml hv
  obtain ⟨rfl, hK, hG, hz, hE⟩ := hv
  have hx := B₀.exec
  have hb := B₀.bytes
  have hr := B₀.returns
  have hts := atoms_spec (ws := gs_ws y_DE_deriveFrom b_DE_deriveFrom 11 (some .boolean)) B₀.pre
  have ht : ∀ w ∈ gs_w, w.before _ s = true := fun w h => hts w (List.mem_cons_of_mem _ h)
  have hown : s.vm.findClass R_DE = some m.cls := findClass_of_methodNamed B₀.named
  have hlocks := B₀.notSynchronized
  have hA : ∀ q : Nat, s.heap.size ≤ q → gs_A X q := fun q h => Nat.le_trans hz h
  have hS : va_S (gs_A X) s.heap s.heap [] := va_S.rf
  have hl := lv_entry ([.ref dv, .int (nI num), .int (nI d), .int pv]) (n := 11) (Nat.le_of_ble_eq_true rfl)
  rw [lg_entry_eq]
  generalize (lg_sl ([.ref dv, .int (nI num), .int (nI d), .int pv]) ++ List.replicate (11 - (lg_sl ([.ref dv, .int (nI num), .int (nI d), .int pv])).length) Slot.unset).toArray = ls at hl ⊢
  have hl : lv_has ls 11 [(0, .ref dv), (1, .int (nI num)), (2, .int (nI d)), (3, .int pv)] := hl
  obtain ⟨g0, g1, g2, g3, g4⟩ := id hRB
  have w1 : va ≠ cm := gs_ne q1 m0 (by simp)
  have w2 : va ≠ mc := gs_ne q1 m1 (by simp)
  have w3 : va ≠ mi := gs_ne q1 m2 (by simp)
  have w4 : va ≠ mb := gs_ne q1 m3 (by simp)
  have hcfh := cof_lt hv g0
  have hCl := hB.2.1
  refine lv_aload_n hx hb d_DE_deriveFrom_0 rfl (lv_at hl 0 rfl) ?_
  refine gs_get hx hb ht hown hK hG k_DE d0 0 (by decide) w_111 rfl d_DE_deriveFrom_1 ?_
  refine gs_get hx hb ht hown hK hG k_RB k0 1 (by decide) w_35 rfl d_DE_deriveFrom_4 ?_
  refine lv_iload_n hx hb d_DE_deriveFrom_7 rfl (lv_at hl 1 rfl) ?_
  refine gs_aald hx hb hK hG 2 k2 rfl (j := num) (by omega) (by omega) d_DE_deriveFrom_8 ?_
  refine gs_topr (show va_rf (fR num) = .ref a by rw [hfR]; rfl) ?_
  refine lv_astore (lv' := [(4, .ref a), (0, .ref dv), (1, .int (nI num)), (2, .int (nI d)), (3, .int pv)]) hx hb d_DE_deriveFrom_9 hl (by decide) rfl (fun ls hl => ?_)
  refine lv_iload_n hx hb d_DE_deriveFrom_11 rfl (lv_at hl 3 rfl) ?_
  refine lv_aload hx hb d_DE_deriveFrom_12 (lv_at hl 0 rfl) ?_
  refine gs_get hx hb ht hown hK hG k_RU r0 0 (by decide) w_494 rfl d_DE_deriveFrom_14 ?_
  refine gs_get hx hb ht hown hK hG k_IT r1 8 (by decide) w_467 rfl d_DE_deriveFrom_17 ?_
  refine gs_top (show R.1.2.2.2.2 = (nI rdy) from hhr) ?_
  refine lv_icmp_ne (tgt := 44) hx hb d_DE_deriveFrom_20 (by decide) (fun c_20 => ?_) (fun c_20 => ?_)
  · have c_20 : ¬ d = rdy := mt (nI_eq (by omega) (by omega)).mpr c_20
    refine lv_aload_n hx hb d_DE_deriveFrom_44 rfl (lv_at hl 1 rfl) ?_
    refine gs_get hx hb ht hown hK hG k_DE d0 2 (by decide) w_113 rfl d_DE_deriveFrom_45 ?_
    refine lv_aload hx hb d_DE_deriveFrom_48 (lv_at hl 0 rfl) ?_
    refine lv_iload_n hx hb d_DE_deriveFrom_50 rfl (lv_at hl 3 rfl) ?_
    refine gs_callVi (As := [.ref a, .int (nI d)]) (rest := []) ⟨hx, hb, hml, hown, hts⟩ hK hE hz hG hS (c_MA_checksHold l X σ ma tu va a ac ai ab hd ho ck kf R.2.1.length d L cs vs v R.2.2 fC q0 q1 hv hs hn hcs t0 t1 r0 r3 rk g2 g4) mV_MA_checksHold w_204 q0 rfl rfl hl.1 rfl (Nat.le_of_ble_eq_true rfl) ⟨(by first | decide | omega | (dsimp only [headSpec]; omega)), (by first | decide | omega | (dsimp only [headSpec]; omega))⟩ ⟨(by first | decide | omega | (dsimp only [headSpec]; omega)), (by first | decide | omega | (dsimp only [headSpec]; omega))⟩ d_DE_deriveFrom_51 (fun r_51 σ_51 H locs hp_51 hG hS => ?_)
    rw [hp_51.1] at hG
    refine gs_top (show r_51 = (bI (chk v L R.2.2 d)) from hp_51.2) ?_
    refine lv_if_ne (tgt := 59) hx hb d_DE_deriveFrom_54 (by decide) (fun c_54 => ?_) (fun c_54 => ?_)
    · refine lv_iload_n hx hb d_DE_deriveFrom_59 rfl (lv_at hl 3 rfl) ?_
      refine lv_aload hx hb d_DE_deriveFrom_60 (lv_at hl 0 rfl) ?_
      refine gs_get hx hb ht hown hK hG k_RU r0 3 (by decide) w_505 rfl d_DE_deriveFrom_62 ?_
      refine lv_icmp_lt (tgt := 91) hx hb d_DE_deriveFrom_65 (by decide) (fun c_65 => ?_) (fun c_65 => ?_)
      · have c_65 : d < R.2.1.length := (nI_ltI (by omega) (by omega)).mp c_65
        refine lv_aload hx hb d_DE_deriveFrom_91 (lv_at hl 0 rfl) ?_
        refine gs_get hx hb ht hown hK hG k_RU r0 1 (by decide) w_498 rfl d_DE_deriveFrom_93 ?_
        refine lv_iload_n hx hb d_DE_deriveFrom_96 rfl (lv_at hl 3 rfl) ?_
        obtain ⟨k, rfl⟩ : ∃ k2, k = k2 + 1 := ⟨k - 1, by omega⟩
        have ih8 : DF l X dv bk tu ma la cm ac ai ab lc li lb mc mi mb va co ru sr nr nq a hd ho ck kf num x5 x6 x7 sc L Lt cs ds R rdy pv fR fH fC k (d + 1) := ih9 (by omega)
        obtain ⟨t, ht9⟩ := get_ex (L := R.2.1) (j := d) (by omega)
        obtain ⟨b, hb1, hb2⟩ := rh d t ht9
        have htB := g3 t (List.mem_of_getElem? ht9)
        have hcf := cof_lt hv htB
        have hl3 : t.2.2.2.1 ≤ 3 := Nat.le_trans htB.2.2.2.2.2.1 htB.2.2.1
        have hpw := pw3 (d := t.2.2.2.1)
        have hchk := bI_n0 c_54
        have hnk : ¬ d = rdy ∨ kwn L C (cof v R.1) = false := by
          first
          | exact Or.inl c_20
          | exact Or.inr (bI_0 c_39)
        have loop : ∀ (so sa sb9 sd9 : Nat) (Ls : List Nat) (ss : Nat → Int32), so ≠ cm → sa ≠ mc → sa ≠ mi → sa ≠ mb → Ls.Pairwise (· ≤ ·) → Ls.length ≤ 301 → (∀ j x, Ls[j]? = some x → ss j = nI x ∧ x < 2 ^ 30) → ∀ (fl i : Nat) (vs1 : Nat → Int32) (v1 : Nat → Nat) (C1 : List En) (a19 b19 c19 : Nat → Int32) (σ1 : gs_St), i ≤ Ls.length → vOK vs1 v1 → tuB C1 → tuR C1 a19 b19 c19 → dvF L Lt num R rdy pv (k + 1) d v C = dvL t rdy d L.length (dvF L Lt num R rdy pv k (d + 1)) (rngA Ls (cof v t + 64 ^ (3 - t.2.2.2.1)) i) v1 C1 → σ1 = dvS X σ va vs1 cm mc mi mb C1.length a19 b19 c19 → Ls.length - i < fl → (σ1 dv = some (gs_ob 1 [.ref bk, .ref tu, .ref ma, .ref la, .ref cm, .int x5, .int x6, .int x7])) → (σ1 bk = some (gs_ob 5 [.ref co, .ref ru, .ref sr, .int (nI nr), .int (nI nq), .int sc])) → (σ1 ru = some (gs_qa X 2 24 fR)) → (σ1 a = some (gs_ob 4 [.ref hd, .ref ho, .ref ck, .int (nI R.2.1.length), .int (nI R.2.2.length), .ref kf])) → (σ1 hd = some (itE R.1)) → (σ1 ho = some (gs_qa X 3 3 fH)) → (σ1 ck = some (gs_qa X 3 6 fC)) → (σ1 tu = some (gs_ob 6 [.ref ac, .ref ai, .ref ab, .int (nI L.length)])) → (σ1 ac = some (gs_ia X 301 cs)) → (σ1 la = some (gs_ob 6 [.ref lc, .ref li, .ref lb, .int (nI Lt.length)])) → (σ1 lc = some (gs_ia X 301 ds)) → (σ1 ma = some (gs_ob 3 [.ref tu, .ref va])) → (σ1 va = some (gs_ia X 8 vs1)) → (σ1 cm = some (gs_ob 6 [.ref mc, .ref mi, .ref mb, .int (nI C1.length)])) → (σ1 mc = some (gs_ia X 301 a19)) → (σ1 mi = some (gs_ia X 301 b19)) → (σ1 mb = some (gs_ia X 301 c19)) → (σ1 b = some (itE t)) → (σ1 so = some (gs_ob 6 [.ref sa, .ref sb9, .ref sd9, .int (nI Ls.length)])) → (σ1 sa = some (gs_ia X 301 ss)) → ∀ (H : Heap) (locs : List Loc), gs_H X σ1 H → va_S (gs_A X) s.heap H locs → ∀ ls, lv_has ls 11 [(9, .int (nI i)), (8, .int (nI (cof v t + 64 ^ (3 - t.2.2.2.1)))), (6, .ref so), (5, .ref b), (4, .ref a), (0, .ref dv), (1, .int (nI num)), (2, .int (nI d)), (3, .int pv)] → W p l e ({ frames := 5 + (k + 1), cells := 0, slots := 0, locals := 300 + 60 * (k + 1) } : Room) s m ([.ref dv, .int (nI num), .int (nI d), .int pv] : List Value).toArray below meth c H locs 0 0 (MQ below (va_Qi (fun r σ' => ∃ vs' a' b' c', σ' = dvS X σ va vs' cm mc mi mb (dvF L Lt num R rdy pv (k + 1) d v C).2.2.length a' b' c' ∧ vOK vs' (dvF L Lt num R rdy pv (k + 1) d v C).2.1 ∧ tuR (dvF L Lt num R rdy pv (k + 1) d v C).2.2 a' b' c' ∧ tuB (dvF L Lt num R rdy pv (k + 1) d v C).2.2 ∧ r = bI (dvF L Lt num R rdy pv (k + 1) d v C).1) (gs_U X) (gs_A X)) ([.ref dv, .int (nI num), .int (nI d), .int pv] : List Value).toArray s 0 0 (gs_A X)) (F0 m 148 ls []) := by
          intro so sa sb9 sd9 Ls ss o1 o2 o3 o4 hss hsn hsc fl
          induction fl with
          | zero => intro i vs1 v1 C1 a19 b19 c19 σ1 _ _ _ _ _ _ h9; omega
          | succ fl ih =>
            intro i vs1 v1 C1 a19 b19 c19 σ1 hi hv1 hB1 hR1 hcn eσ1 hmu y0 y1 y2 y3 y4 y5 y6 y7 y8 y9 y10 y11 y12 y13 y14 y15 y16 y17 y18 y19 H locs hG hS ls hl
            have hcl2 := cb_le Ls (cof v t + 64 ^ (3 - t.2.2.2.1))
            have hCl1 := hB1.2.1
            refine lv_iload hx hb d_DE_deriveFrom_148 (lv_at hl 0 rfl) ?_
            refine lv_aload hx hb d_DE_deriveFrom_150 (lv_at hl 2 rfl) ?_
            refine gs_get hx hb ht hown hK hG k_TU y18 3 (by decide) w_78 rfl d_DE_deriveFrom_152 ?_
            refine lv_icmp_ge (tgt := 235) hx hb d_DE_deriveFrom_155 (by decide) (fun c_155 => ?_) (fun c_155 => ?_)
            · have c_155 : Ls.length ≤ i := (nI_leI (by omega) (by omega)).mp c_155
              refine lv_iconst (v := nI 0) hx hb d_DE_deriveFrom_235 (by decide) ?_
              have hge : cb Ls (cof v t + 64 ^ (3 - t.2.2.2.1)) ≤ i := by
                first
                | (have := hcl2; omega)
                | (have := mt hx3.mpr (by omega); omega)
              rw [rngA_end hge] at hcn
              simp only [dvL] at hcn
              exact gs_iret (v := (nI 0)) hx hb hr rfl hK hE hz hG hS hlocks (by first | decide | omega | (dsimp only [headSpec]; omega)) (by first | decide | omega | (dsimp only [headSpec]; omega)) (⟨vs1, a19, b19, c19, (by rw [hcn]; exact eσ1), (by rw [hcn]; exact hv1), (by rw [hcn]; exact hR1), (by rw [hcn]; exact hB1), (by rw [hcn]; rfl)⟩) d_DE_deriveFrom_236
            · have c_155 : ¬ Ls.length ≤ i := mt (nI_leI (by omega) (by omega)).mpr c_155
              refine lv_aload hx hb d_DE_deriveFrom_158 (lv_at hl 2 rfl) ?_
              refine gs_get hx hb ht hown hK hG k_TU y18 0 (by decide) w_69 rfl d_DE_deriveFrom_160 ?_
              refine lv_iload hx hb d_DE_deriveFrom_163 (lv_at hl 0 rfl) ?_
              obtain ⟨x, hx9⟩ := get_ex (L := Ls) (j := i) (by omega)
              obtain ⟨hx1, hx2⟩ := hsc _ _ hx9
              have hx3 := cb_iff Ls hss (cof v t + 64 ^ (3 - t.2.2.2.1)) _ _ hx9
              refine gs_iald hx hb hK hG y19 (j := i) (by omega) (by omega) d_DE_deriveFrom_165 ?_
              refine gs_top (show (ss i) = (nI x) from hx1) ?_
              refine lv_iload hx hb d_DE_deriveFrom_166 (lv_at hl 1 rfl) ?_
              refine lv_icmp_ge (tgt := 235) hx hb d_DE_deriveFrom_168 (by decide) (fun c_168 => ?_) (fun c_168 => ?_)
              · have c_168 : (cof v t + 64 ^ (3 - t.2.2.2.1)) ≤ x := (nI_leI (by omega) (by omega)).mp c_168
                refine lv_iconst (v := nI 0) hx hb d_DE_deriveFrom_235 (by decide) ?_
                have hge : cb Ls (cof v t + 64 ^ (3 - t.2.2.2.1)) ≤ i := by
                  first
                  | (have := hcl2; omega)
                  | (have := mt hx3.mpr (by omega); omega)
                rw [rngA_end hge] at hcn
                simp only [dvL] at hcn
                exact gs_iret (v := (nI 0)) hx hb hr rfl hK hE hz hG hS hlocks (by first | decide | omega | (dsimp only [headSpec]; omega)) (by first | decide | omega | (dsimp only [headSpec]; omega)) (⟨vs1, a19, b19, c19, (by rw [hcn]; exact eσ1), (by rw [hcn]; exact hv1), (by rw [hcn]; exact hR1), (by rw [hcn]; exact hB1), (by rw [hcn]; rfl)⟩) d_DE_deriveFrom_236
              · have c_168 : ¬ (cof v t + 64 ^ (3 - t.2.2.2.1)) ≤ x := mt (nI_leI (by omega) (by omega)).mpr c_168
                have hlt : i < cb Ls (cof v t + 64 ^ (3 - t.2.2.2.1)) := hx3.mp (by omega)
                refine lv_aload_n hx hb d_DE_deriveFrom_171 rfl (lv_at hl 5 rfl) ?_
                refine gs_get hx hb ht hown hK hG k_DE y0 2 (by decide) w_113 rfl d_DE_deriveFrom_172 ?_
                refine lv_aload hx hb d_DE_deriveFrom_175 (lv_at hl 3 rfl) ?_
                refine lv_aload hx hb d_DE_deriveFrom_177 (lv_at hl 2 rfl) ?_
                refine gs_get hx hb ht hown hK hG k_TU y18 0 (by decide) w_69 rfl d_DE_deriveFrom_179 ?_
                refine lv_iload hx hb d_DE_deriveFrom_182 (lv_at hl 0 rfl) ?_
                refine gs_iald hx hb hK hG y19 (j := i) (by omega) (by omega) d_DE_deriveFrom_184 ?_
                refine gs_top (show (ss i) = (nI x) from hx1) ?_
                refine gs_callVi (As := [.ref b, .int (nI x)]) (rest := []) ⟨hx, hb, hml, hown, hts⟩ hK hE hz hG hS (c_MA_fits l X σ1 ma tu va b vs1 v1 t x y11 y12 hv1 y17 htB hx2) mV_MA_fits w_230 y11 rfl rfl hl.1 rfl (Nat.le_of_ble_eq_true rfl) ⟨(by first | decide | omega | (dsimp only [headSpec]; omega)), (by first | decide | omega | (dsimp only [headSpec]; omega))⟩ ⟨(by first | decide | omega | (dsimp only [headSpec]; omega)), (by first | decide | omega | (dsimp only [headSpec]; omega))⟩ d_DE_deriveFrom_185 (fun r_185 σ_185 H locs hp_185 hG hS => ?_)
                obtain ⟨vs2, ev2, hv2, er2⟩ := hp_185
                rw [ev2] at hG
                refine gs_top er2 ?_
                have hG : gs_H X (gs_up σ1 va (gs_ia X 8 vs2)) H := hG
                obtain ⟨σ_1, eσ_1⟩ : ∃ zq, zq = gs_up σ1 va (gs_ia X 8 vs2) := ⟨_, rfl⟩
                rw [← eσ_1] at hG
                have hc_2 : σ_1 dv = some (gs_ob 1 [.ref bk, .ref tu, .ref ma, .ref la, .ref cm, .int x5, .int x6, .int x7]) := by rw [eσ_1]; exact gs_ku (gs_ne y0 y12 (by simp)) y0
                have hc_3 : σ_1 bk = some (gs_ob 5 [.ref co, .ref ru, .ref sr, .int (nI nr), .int (nI nq), .int sc]) := by rw [eσ_1]; exact gs_ku (gs_ne y1 y12 (by simp)) y1
                have hc_4 : σ_1 ru = some (gs_qa X 2 24 fR) := by rw [eσ_1]; exact gs_ku (gs_ne y2 y12 (by simp)) y2
                have hc_5 : σ_1 a = some (gs_ob 4 [.ref hd, .ref ho, .ref ck, .int (nI R.2.1.length), .int (nI R.2.2.length), .ref kf]) := by rw [eσ_1]; exact gs_ku (gs_ne y3 y12 (by simp)) y3
                have hc_6 : σ_1 hd = some (gs_ob 2 [.int (nI R.1.1.1), .int (nI R.1.1.2.1), .int (nI R.1.1.2.2), .int (nI R.1.2.1.1), .int (nI R.1.2.1.2.1), .int (nI R.1.2.1.2.2), .int (nI R.1.2.2.1), .int (nI R.1.2.2.2.1), .int R.1.2.2.2.2]) := by rw [eσ_1]; exact gs_ku (gs_ne y4 y12 (by simp)) y4
                have hc_7 : σ_1 ho = some (gs_qa X 3 3 fH) := by rw [eσ_1]; exact gs_ku (gs_ne y5 y12 (by simp)) y5
                have hc_8 : σ_1 ck = some (gs_qa X 3 6 fC) := by rw [eσ_1]; exact gs_ku (gs_ne y6 y12 (by simp)) y6
                have hc_9 : σ_1 tu = some (gs_ob 6 [.ref ac, .ref ai, .ref ab, .int (nI L.length)]) := by rw [eσ_1]; exact gs_ku (gs_ne y7 y12 (by simp)) y7
                have hc_10 : σ_1 ac = some (gs_ia X 301 cs) := by rw [eσ_1]; exact gs_ku (gs_ne y8 y12 (by simp)) y8
                have hc_11 : σ_1 la = some (gs_ob 6 [.ref lc, .ref li, .ref lb, .int (nI Lt.length)]) := by rw [eσ_1]; exact gs_ku (gs_ne y9 y12 (by simp)) y9
                have hc_12 : σ_1 lc = some (gs_ia X 301 ds) := by rw [eσ_1]; exact gs_ku (gs_ne y10 y12 (by simp)) y10
                have hc_13 : σ_1 ma = some (gs_ob 3 [.ref tu, .ref va]) := by rw [eσ_1]; exact gs_ku (gs_ne y11 y12 (by simp)) y11
                have hc_14 : σ_1 cm = some (gs_ob 6 [.ref mc, .ref mi, .ref mb, .int (nI C1.length)]) := by rw [eσ_1]; exact gs_ku (gs_ne y13 y12 (by simp)) y13
                have hc_15 : σ_1 mc = some (gs_ia X 301 a19) := by rw [eσ_1]; exact gs_ku (gs_ne y14 y12 (by simp)) y14
                have hc_16 : σ_1 mi = some (gs_ia X 301 b19) := by rw [eσ_1]; exact gs_ku (gs_ne y15 y12 (by simp)) y15
                have hc_17 : σ_1 mb = some (gs_ia X 301 c19) := by rw [eσ_1]; exact gs_ku (gs_ne y16 y12 (by simp)) y16
                have hc_18 : σ_1 b = some (gs_ob 2 [.int (nI t.1.1), .int (nI t.1.2.1), .int (nI t.1.2.2), .int (nI t.2.1.1), .int (nI t.2.1.2.1), .int (nI t.2.1.2.2), .int (nI t.2.2.1), .int (nI t.2.2.2.1), .int t.2.2.2.2]) := by rw [eσ_1]; exact gs_ku (gs_ne y17 y12 (by simp)) y17
                have hc_19 : σ_1 so = some (gs_ob 6 [.ref sa, .ref sb9, .ref sd9, .int (nI Ls.length)]) := by rw [eσ_1]; exact gs_ku (gs_ne y18 y12 (by simp)) y18
                have hc_20 : σ_1 sa = some (gs_ia X 301 ss) := by rw [eσ_1]; exact gs_ku (gs_ne y19 y12 (by simp)) y19
                have hc_21 : σ_1 va = some (gs_ia X 8 vs2) := by rw [eσ_1]; exact gs_us
                have eq2 : σ_1 = dvS X σ va vs2 cm mc mi mb C1.length a19 b19 c19 := by rw [eσ_1, eσ1]; exact dvS_va w1 w2 w3 w4
                refine lv_if_eq (tgt := 229) hx hb d_DE_deriveFrom_188 (by decide) (fun c_188 => ?_) (fun c_188 => ?_)
                · refine lv_iinc (v := (nI (i + 1))) (lv' := [(9, .int (nI (i + 1))), (8, .int (nI (cof v t + 64 ^ (3 - t.2.2.2.1)))), (6, .ref so), (5, .ref b), (4, .ref a), (0, .ref dv), (1, .int (nI num)), (2, .int (nI d)), (3, .int pv)]) hx hb d_DE_deriveFrom_229 hl (k := 0) rfl (by exact nI_1 _) (by decide) rfl (fun ls hl => ?_)
                  refine lv_goto (tgt := 148) hx hb d_DE_deriveFrom_232 (by decide) ?_
                  have hb9 := bI_0 c_188
                  exact ih (i + 1) _ _ C1 a19 b19 c19 σ_1 (by omega) hv2 hB1 hR1 (hcn.trans (by rw [rngA_cons hlt hx9]; simp only [dvL]; rw [if_neg (by rw [hb9]; decide)])) eq2 (by omega) hc_2 hc_3 hc_4 hc_5 hc_6 hc_7 hc_8 hc_9 hc_10 hc_11 hc_12 hc_13 hc_21 hc_14 hc_15 hc_16 hc_17 hc_18 hc_19 hc_20 H locs hG hS ls (lv_sub hl [0, 1, 2, 3, 4, 5, 6, 7, 8] rfl)
                · refine lv_aload_n hx hb d_DE_deriveFrom_191 rfl (lv_at hl 5 rfl) ?_
                  refine lv_iload_n hx hb d_DE_deriveFrom_192 rfl (lv_at hl 6 rfl) ?_
                  refine lv_iload_n hx hb d_DE_deriveFrom_193 rfl (lv_at hl 7 rfl) ?_
                  refine lv_iconst (v := nI 1) hx hb d_DE_deriveFrom_194 (by decide) ?_
                  refine lv_iadd hx hb d_DE_deriveFrom_195 ?_
                  refine gs_top (nI_add d 1) ?_
                  refine lv_iload_n hx hb d_DE_deriveFrom_196 rfl (lv_at hl 8 rfl) ?_
                  have rh2 : ∀ i t, R.2.1[i]? = some t → ∃ b, fH i = some b ∧ σ_1 b = some (itE t) := fun i t z => by obtain ⟨b, z1, z2⟩ := rh i t z; exact ⟨b, z1, by rw [eq2, dvS_n (gs_ne z2 q1 (by simp)) (gs_ne z2 m0 (by simp)) (gs_ne z2 m1 (by simp)) (gs_ne z2 m2 (by simp)) (gs_ne z2 m3 (by simp))]; exact z2⟩
                  have rk2 : ∀ i t, R.2.2[i]? = some t → ∃ b, fC i = some b ∧ σ_1 b = some (itE t) := fun i t z => by obtain ⟨b, z1, z2⟩ := rk i t z; exact ⟨b, z1, by rw [eq2, dvS_n (gs_ne z2 q1 (by simp)) (gs_ne z2 m0 (by simp)) (gs_ne z2 m1 (by simp)) (gs_ne z2 m2 (by simp)) (gs_ne z2 m3 (by simp))]; exact z2⟩
                  refine gs_callVi (As := [.int (nI num), .int (nI (d + 1)), .int pv]) (rest := []) ⟨hx, hb, hml, hown, hts⟩ hK hE hz hG hS (ih8 σ_1 vs2 (fit1 t x v1).2 C1 a19 b19 c19 hv2 hB1 hR1 hc_2 hc_3 hc_4 hc_5 hc_6 hc_7 hc_8 hc_9 hc_10 hc_11 hc_12 hc_13 hc_21 hc_14 hc_15 hc_16 hc_17 rh2 rk2) mV_DE_deriveFrom w_176 hc_2 rfl rfl hl.1 rfl (Nat.le_of_ble_eq_true rfl) ⟨(by first | decide | omega | (dsimp only [headSpec]; omega)), (by first | decide | omega | (dsimp only [headSpec]; omega))⟩ ⟨(by first | decide | omega | (dsimp only [headSpec]; omega)), (by first | decide | omega | (dsimp only [headSpec]; omega))⟩ d_DE_deriveFrom_197 (fun r_197 σ_197 H locs hp_197 hG hS => ?_)
                  obtain ⟨vs3, a3, b3, c3, ev3, hv3, hR3, hB3, er3⟩ := hp_197
                  refine gs_top er3 ?_
                  rw [ev3] at hG
                  unfold dvS tu4 at hG
                  obtain ⟨σ_22, eσ_22⟩ : ∃ zq, zq = gs_up σ_1 va (gs_ia X 8 vs3) := ⟨_, rfl⟩
                  have hc_23 : σ_22 dv = some (gs_ob 1 [.ref bk, .ref tu, .ref ma, .ref la, .ref cm, .int x5, .int x6, .int x7]) := by rw [eσ_22]; exact gs_ku (gs_ne hc_2 hc_21 (by simp)) hc_2
                  have hc_24 : σ_22 bk = some (gs_ob 5 [.ref co, .ref ru, .ref sr, .int (nI nr), .int (nI nq), .int sc]) := by rw [eσ_22]; exact gs_ku (gs_ne hc_3 hc_21 (by simp)) hc_3
                  have hc_25 : σ_22 ru = some (gs_qa X 2 24 fR) := by rw [eσ_22]; exact gs_ku (gs_ne hc_4 hc_21 (by simp)) hc_4
                  have hc_26 : σ_22 a = some (gs_ob 4 [.ref hd, .ref ho, .ref ck, .int (nI R.2.1.length), .int (nI R.2.2.length), .ref kf]) := by rw [eσ_22]; exact gs_ku (gs_ne hc_5 hc_21 (by simp)) hc_5
                  have hc_27 : σ_22 hd = some (gs_ob 2 [.int (nI R.1.1.1), .int (nI R.1.1.2.1), .int (nI R.1.1.2.2), .int (nI R.1.2.1.1), .int (nI R.1.2.1.2.1), .int (nI R.1.2.1.2.2), .int (nI R.1.2.2.1), .int (nI R.1.2.2.2.1), .int R.1.2.2.2.2]) := by rw [eσ_22]; exact gs_ku (gs_ne hc_6 hc_21 (by simp)) hc_6
                  have hc_28 : σ_22 ho = some (gs_qa X 3 3 fH) := by rw [eσ_22]; exact gs_ku (gs_ne hc_7 hc_21 (by simp)) hc_7
                  have hc_29 : σ_22 ck = some (gs_qa X 3 6 fC) := by rw [eσ_22]; exact gs_ku (gs_ne hc_8 hc_21 (by simp)) hc_8
                  have hc_30 : σ_22 tu = some (gs_ob 6 [.ref ac, .ref ai, .ref ab, .int (nI L.length)]) := by rw [eσ_22]; exact gs_ku (gs_ne hc_9 hc_21 (by simp)) hc_9
                  have hc_31 : σ_22 ac = some (gs_ia X 301 cs) := by rw [eσ_22]; exact gs_ku (gs_ne hc_10 hc_21 (by simp)) hc_10
                  have hc_32 : σ_22 la = some (gs_ob 6 [.ref lc, .ref li, .ref lb, .int (nI Lt.length)]) := by rw [eσ_22]; exact gs_ku (gs_ne hc_11 hc_21 (by simp)) hc_11
                  have hc_33 : σ_22 lc = some (gs_ia X 301 ds) := by rw [eσ_22]; exact gs_ku (gs_ne hc_12 hc_21 (by simp)) hc_12
                  have hc_34 : σ_22 ma = some (gs_ob 3 [.ref tu, .ref va]) := by rw [eσ_22]; exact gs_ku (gs_ne hc_13 hc_21 (by simp)) hc_13
                  have hc_35 : σ_22 cm = some (gs_ob 6 [.ref mc, .ref mi, .ref mb, .int (nI C1.length)]) := by rw [eσ_22]; exact gs_ku (gs_ne hc_14 hc_21 (by simp)) hc_14
                  have hc_36 : σ_22 mc = some (gs_ia X 301 a19) := by rw [eσ_22]; exact gs_ku (gs_ne hc_15 hc_21 (by simp)) hc_15
                  have hc_37 : σ_22 mi = some (gs_ia X 301 b19) := by rw [eσ_22]; exact gs_ku (gs_ne hc_16 hc_21 (by simp)) hc_16
                  have hc_38 : σ_22 mb = some (gs_ia X 301 c19) := by rw [eσ_22]; exact gs_ku (gs_ne hc_17 hc_21 (by simp)) hc_17
                  have hc_39 : σ_22 b = some (gs_ob 2 [.int (nI t.1.1), .int (nI t.1.2.1), .int (nI t.1.2.2), .int (nI t.2.1.1), .int (nI t.2.1.2.1), .int (nI t.2.1.2.2), .int (nI t.2.2.1), .int (nI t.2.2.2.1), .int t.2.2.2.2]) := by rw [eσ_22]; exact gs_ku (gs_ne hc_18 hc_21 (by simp)) hc_18
                  have hc_40 : σ_22 so = some (gs_ob 6 [.ref sa, .ref sb9, .ref sd9, .int (nI Ls.length)]) := by rw [eσ_22]; exact gs_ku (gs_ne hc_19 hc_21 (by simp)) hc_19
                  have hc_41 : σ_22 sa = some (gs_ia X 301 ss) := by rw [eσ_22]; exact gs_ku (gs_ne hc_20 hc_21 (by simp)) hc_20
                  have hc_42 : σ_22 va = some (gs_ia X 8 vs3) := by rw [eσ_22]; exact gs_us
                  obtain ⟨σ_43, eσ_43⟩ : ∃ zq, zq = gs_up σ_22 mc (gs_ia X 301 a3) := ⟨_, rfl⟩
                  have hc_44 : σ_43 dv = some (gs_ob 1 [.ref bk, .ref tu, .ref ma, .ref la, .ref cm, .int x5, .int x6, .int x7]) := by rw [eσ_43]; exact gs_ku (gs_ne hc_23 hc_36 (by simp)) hc_23
                  have hc_45 : σ_43 bk = some (gs_ob 5 [.ref co, .ref ru, .ref sr, .int (nI nr), .int (nI nq), .int sc]) := by rw [eσ_43]; exact gs_ku (gs_ne hc_24 hc_36 (by simp)) hc_24
                  have hc_46 : σ_43 ru = some (gs_qa X 2 24 fR) := by rw [eσ_43]; exact gs_ku (gs_ne hc_25 hc_36 (by simp)) hc_25
                  have hc_47 : σ_43 a = some (gs_ob 4 [.ref hd, .ref ho, .ref ck, .int (nI R.2.1.length), .int (nI R.2.2.length), .ref kf]) := by rw [eσ_43]; exact gs_ku (gs_ne hc_26 hc_36 (by simp)) hc_26
                  have hc_48 : σ_43 hd = some (gs_ob 2 [.int (nI R.1.1.1), .int (nI R.1.1.2.1), .int (nI R.1.1.2.2), .int (nI R.1.2.1.1), .int (nI R.1.2.1.2.1), .int (nI R.1.2.1.2.2), .int (nI R.1.2.2.1), .int (nI R.1.2.2.2.1), .int R.1.2.2.2.2]) := by rw [eσ_43]; exact gs_ku (gs_ne hc_27 hc_36 (by simp)) hc_27
                  have hc_49 : σ_43 ho = some (gs_qa X 3 3 fH) := by rw [eσ_43]; exact gs_ku (gs_ne hc_28 hc_36 (by simp)) hc_28
                  have hc_50 : σ_43 ck = some (gs_qa X 3 6 fC) := by rw [eσ_43]; exact gs_ku (gs_ne hc_29 hc_36 (by simp)) hc_29
                  have hc_51 : σ_43 tu = some (gs_ob 6 [.ref ac, .ref ai, .ref ab, .int (nI L.length)]) := by rw [eσ_43]; exact gs_ku (gs_ne hc_30 hc_36 (by simp)) hc_30
                  have hc_52 : σ_43 ac = some (gs_ia X 301 cs) := by rw [eσ_43]; exact gs_ku e3 hc_31
                  have hc_53 : σ_43 la = some (gs_ob 6 [.ref lc, .ref li, .ref lb, .int (nI Lt.length)]) := by rw [eσ_43]; exact gs_ku (gs_ne hc_32 hc_36 (by simp)) hc_32
                  have hc_54 : σ_43 lc = some (gs_ia X 301 ds) := by rw [eσ_43]; exact gs_ku e6 hc_33
                  have hc_55 : σ_43 ma = some (gs_ob 3 [.ref tu, .ref va]) := by rw [eσ_43]; exact gs_ku (gs_ne hc_34 hc_36 (by simp)) hc_34
                  have hc_56 : σ_43 cm = some (gs_ob 6 [.ref mc, .ref mi, .ref mb, .int (nI C1.length)]) := by rw [eσ_43]; exact gs_ku (gs_ne hc_35 hc_36 (by simp)) hc_35
                  have hc_57 : σ_43 mi = some (gs_ia X 301 b19) := by rw [eσ_43]; exact gs_ku (Ne.symm n1) hc_37
                  have hc_58 : σ_43 mb = some (gs_ia X 301 c19) := by rw [eσ_43]; exact gs_ku (Ne.symm n2) hc_38
                  have hc_59 : σ_43 b = some (gs_ob 2 [.int (nI t.1.1), .int (nI t.1.2.1), .int (nI t.1.2.2), .int (nI t.2.1.1), .int (nI t.2.1.2.1), .int (nI t.2.1.2.2), .int (nI t.2.2.1), .int (nI t.2.2.2.1), .int t.2.2.2.2]) := by rw [eσ_43]; exact gs_ku (gs_ne hc_39 hc_36 (by simp)) hc_39
                  have hc_60 : σ_43 so = some (gs_ob 6 [.ref sa, .ref sb9, .ref sd9, .int (nI Ls.length)]) := by rw [eσ_43]; exact gs_ku (gs_ne hc_40 hc_36 (by simp)) hc_40
                  have hc_61 : σ_43 sa = some (gs_ia X 301 ss) := by rw [eσ_43]; exact gs_ku o2 hc_41
                  have hc_62 : σ_43 va = some (gs_ia X 8 vs3) := by rw [eσ_43]; exact gs_ku (gs_ne hc_42 hc_36 (by simp)) hc_42
                  have hc_63 : σ_43 mc = some (gs_ia X 301 a3) := by rw [eσ_43]; exact gs_us
                  obtain ⟨σ_64, eσ_64⟩ : ∃ zq, zq = gs_up σ_43 mi (gs_ia X 301 b3) := ⟨_, rfl⟩
                  have hc_65 : σ_64 dv = some (gs_ob 1 [.ref bk, .ref tu, .ref ma, .ref la, .ref cm, .int x5, .int x6, .int x7]) := by rw [eσ_64]; exact gs_ku (gs_ne hc_44 hc_57 (by simp)) hc_44
                  have hc_66 : σ_64 bk = some (gs_ob 5 [.ref co, .ref ru, .ref sr, .int (nI nr), .int (nI nq), .int sc]) := by rw [eσ_64]; exact gs_ku (gs_ne hc_45 hc_57 (by simp)) hc_45
                  have hc_67 : σ_64 ru = some (gs_qa X 2 24 fR) := by rw [eσ_64]; exact gs_ku (gs_ne hc_46 hc_57 (by simp)) hc_46
                  have hc_68 : σ_64 a = some (gs_ob 4 [.ref hd, .ref ho, .ref ck, .int (nI R.2.1.length), .int (nI R.2.2.length), .ref kf]) := by rw [eσ_64]; exact gs_ku (gs_ne hc_47 hc_57 (by simp)) hc_47
                  have hc_69 : σ_64 hd = some (gs_ob 2 [.int (nI R.1.1.1), .int (nI R.1.1.2.1), .int (nI R.1.1.2.2), .int (nI R.1.2.1.1), .int (nI R.1.2.1.2.1), .int (nI R.1.2.1.2.2), .int (nI R.1.2.2.1), .int (nI R.1.2.2.2.1), .int R.1.2.2.2.2]) := by rw [eσ_64]; exact gs_ku (gs_ne hc_48 hc_57 (by simp)) hc_48
                  have hc_70 : σ_64 ho = some (gs_qa X 3 3 fH) := by rw [eσ_64]; exact gs_ku (gs_ne hc_49 hc_57 (by simp)) hc_49
                  have hc_71 : σ_64 ck = some (gs_qa X 3 6 fC) := by rw [eσ_64]; exact gs_ku (gs_ne hc_50 hc_57 (by simp)) hc_50
                  have hc_72 : σ_64 tu = some (gs_ob 6 [.ref ac, .ref ai, .ref ab, .int (nI L.length)]) := by rw [eσ_64]; exact gs_ku (gs_ne hc_51 hc_57 (by simp)) hc_51
                  have hc_73 : σ_64 ac = some (gs_ia X 301 cs) := by rw [eσ_64]; exact gs_ku e4 hc_52
                  have hc_74 : σ_64 la = some (gs_ob 6 [.ref lc, .ref li, .ref lb, .int (nI Lt.length)]) := by rw [eσ_64]; exact gs_ku (gs_ne hc_53 hc_57 (by simp)) hc_53
                  have hc_75 : σ_64 lc = some (gs_ia X 301 ds) := by rw [eσ_64]; exact gs_ku e7 hc_54
                  have hc_76 : σ_64 ma = some (gs_ob 3 [.ref tu, .ref va]) := by rw [eσ_64]; exact gs_ku (gs_ne hc_55 hc_57 (by simp)) hc_55
                  have hc_77 : σ_64 cm = some (gs_ob 6 [.ref mc, .ref mi, .ref mb, .int (nI C1.length)]) := by rw [eσ_64]; exact gs_ku (gs_ne hc_56 hc_57 (by simp)) hc_56
                  have hc_78 : σ_64 mb = some (gs_ia X 301 c19) := by rw [eσ_64]; exact gs_ku (Ne.symm n3) hc_58
                  have hc_79 : σ_64 b = some (gs_ob 2 [.int (nI t.1.1), .int (nI t.1.2.1), .int (nI t.1.2.2), .int (nI t.2.1.1), .int (nI t.2.1.2.1), .int (nI t.2.1.2.2), .int (nI t.2.2.1), .int (nI t.2.2.2.1), .int t.2.2.2.2]) := by rw [eσ_64]; exact gs_ku (gs_ne hc_59 hc_57 (by simp)) hc_59
                  have hc_80 : σ_64 so = some (gs_ob 6 [.ref sa, .ref sb9, .ref sd9, .int (nI Ls.length)]) := by rw [eσ_64]; exact gs_ku (gs_ne hc_60 hc_57 (by simp)) hc_60
                  have hc_81 : σ_64 sa = some (gs_ia X 301 ss) := by rw [eσ_64]; exact gs_ku o3 hc_61
                  have hc_82 : σ_64 va = some (gs_ia X 8 vs3) := by rw [eσ_64]; exact gs_ku (gs_ne hc_62 hc_57 (by simp)) hc_62
                  have hc_83 : σ_64 mc = some (gs_ia X 301 a3) := by rw [eσ_64]; exact gs_ku n1 hc_63
                  have hc_84 : σ_64 mi = some (gs_ia X 301 b3) := by rw [eσ_64]; exact gs_us
                  obtain ⟨σ_85, eσ_85⟩ : ∃ zq, zq = gs_up σ_64 mb (gs_ia X 301 c3) := ⟨_, rfl⟩
                  have hc_86 : σ_85 dv = some (gs_ob 1 [.ref bk, .ref tu, .ref ma, .ref la, .ref cm, .int x5, .int x6, .int x7]) := by rw [eσ_85]; exact gs_ku (gs_ne hc_65 hc_78 (by simp)) hc_65
                  have hc_87 : σ_85 bk = some (gs_ob 5 [.ref co, .ref ru, .ref sr, .int (nI nr), .int (nI nq), .int sc]) := by rw [eσ_85]; exact gs_ku (gs_ne hc_66 hc_78 (by simp)) hc_66
                  have hc_88 : σ_85 ru = some (gs_qa X 2 24 fR) := by rw [eσ_85]; exact gs_ku (gs_ne hc_67 hc_78 (by simp)) hc_67
                  have hc_89 : σ_85 a = some (gs_ob 4 [.ref hd, .ref ho, .ref ck, .int (nI R.2.1.length), .int (nI R.2.2.length), .ref kf]) := by rw [eσ_85]; exact gs_ku (gs_ne hc_68 hc_78 (by simp)) hc_68
                  have hc_90 : σ_85 hd = some (gs_ob 2 [.int (nI R.1.1.1), .int (nI R.1.1.2.1), .int (nI R.1.1.2.2), .int (nI R.1.2.1.1), .int (nI R.1.2.1.2.1), .int (nI R.1.2.1.2.2), .int (nI R.1.2.2.1), .int (nI R.1.2.2.2.1), .int R.1.2.2.2.2]) := by rw [eσ_85]; exact gs_ku (gs_ne hc_69 hc_78 (by simp)) hc_69
                  have hc_91 : σ_85 ho = some (gs_qa X 3 3 fH) := by rw [eσ_85]; exact gs_ku (gs_ne hc_70 hc_78 (by simp)) hc_70
                  have hc_92 : σ_85 ck = some (gs_qa X 3 6 fC) := by rw [eσ_85]; exact gs_ku (gs_ne hc_71 hc_78 (by simp)) hc_71
                  have hc_93 : σ_85 tu = some (gs_ob 6 [.ref ac, .ref ai, .ref ab, .int (nI L.length)]) := by rw [eσ_85]; exact gs_ku (gs_ne hc_72 hc_78 (by simp)) hc_72
                  have hc_94 : σ_85 ac = some (gs_ia X 301 cs) := by rw [eσ_85]; exact gs_ku e5 hc_73
                  have hc_95 : σ_85 la = some (gs_ob 6 [.ref lc, .ref li, .ref lb, .int (nI Lt.length)]) := by rw [eσ_85]; exact gs_ku (gs_ne hc_74 hc_78 (by simp)) hc_74
                  have hc_96 : σ_85 lc = some (gs_ia X 301 ds) := by rw [eσ_85]; exact gs_ku e8 hc_75
                  have hc_97 : σ_85 ma = some (gs_ob 3 [.ref tu, .ref va]) := by rw [eσ_85]; exact gs_ku (gs_ne hc_76 hc_78 (by simp)) hc_76
                  have hc_98 : σ_85 cm = some (gs_ob 6 [.ref mc, .ref mi, .ref mb, .int (nI C1.length)]) := by rw [eσ_85]; exact gs_ku (gs_ne hc_77 hc_78 (by simp)) hc_77
                  have hc_99 : σ_85 b = some (gs_ob 2 [.int (nI t.1.1), .int (nI t.1.2.1), .int (nI t.1.2.2), .int (nI t.2.1.1), .int (nI t.2.1.2.1), .int (nI t.2.1.2.2), .int (nI t.2.2.1), .int (nI t.2.2.2.1), .int t.2.2.2.2]) := by rw [eσ_85]; exact gs_ku (gs_ne hc_79 hc_78 (by simp)) hc_79
                  have hc_100 : σ_85 so = some (gs_ob 6 [.ref sa, .ref sb9, .ref sd9, .int (nI Ls.length)]) := by rw [eσ_85]; exact gs_ku (gs_ne hc_80 hc_78 (by simp)) hc_80
                  have hc_101 : σ_85 sa = some (gs_ia X 301 ss) := by rw [eσ_85]; exact gs_ku o4 hc_81
                  have hc_102 : σ_85 va = some (gs_ia X 8 vs3) := by rw [eσ_85]; exact gs_ku (gs_ne hc_82 hc_78 (by simp)) hc_82
                  have hc_103 : σ_85 mc = some (gs_ia X 301 a3) := by rw [eσ_85]; exact gs_ku n2 hc_83
                  have hc_104 : σ_85 mi = some (gs_ia X 301 b3) := by rw [eσ_85]; exact gs_ku n3 hc_84
                  have hc_105 : σ_85 mb = some (gs_ia X 301 c3) := by rw [eσ_85]; exact gs_us
                  obtain ⟨σ_106, eσ_106⟩ : ∃ zq, zq = gs_up σ_85 cm (gs_ob 6 [.ref mc, .ref mi, .ref mb, .int (nI ((dvF L Lt num R rdy pv k (d + 1) (fit1 t x v1).2 C1).2.2.length))]) := ⟨_, rfl⟩
                  have hc_107 : σ_106 dv = some (gs_ob 1 [.ref bk, .ref tu, .ref ma, .ref la, .ref cm, .int x5, .int x6, .int x7]) := by rw [eσ_106]; exact gs_ku (gs_ne hc_86 hc_98 (by simp)) hc_86
                  have hc_108 : σ_106 bk = some (gs_ob 5 [.ref co, .ref ru, .ref sr, .int (nI nr), .int (nI nq), .int sc]) := by rw [eσ_106]; exact gs_ku (gs_ne hc_87 hc_98 (by simp)) hc_87
                  have hc_109 : σ_106 ru = some (gs_qa X 2 24 fR) := by rw [eσ_106]; exact gs_ku (gs_ne hc_88 hc_98 (by simp)) hc_88
                  have hc_110 : σ_106 a = some (gs_ob 4 [.ref hd, .ref ho, .ref ck, .int (nI R.2.1.length), .int (nI R.2.2.length), .ref kf]) := by rw [eσ_106]; exact gs_ku (gs_ne hc_89 hc_98 (by simp)) hc_89
                  have hc_111 : σ_106 hd = some (gs_ob 2 [.int (nI R.1.1.1), .int (nI R.1.1.2.1), .int (nI R.1.1.2.2), .int (nI R.1.2.1.1), .int (nI R.1.2.1.2.1), .int (nI R.1.2.1.2.2), .int (nI R.1.2.2.1), .int (nI R.1.2.2.2.1), .int R.1.2.2.2.2]) := by rw [eσ_106]; exact gs_ku (gs_ne hc_90 hc_98 (by simp)) hc_90
                  have hc_112 : σ_106 ho = some (gs_qa X 3 3 fH) := by rw [eσ_106]; exact gs_ku (gs_ne hc_91 hc_98 (by simp)) hc_91
                  have hc_113 : σ_106 ck = some (gs_qa X 3 6 fC) := by rw [eσ_106]; exact gs_ku (gs_ne hc_92 hc_98 (by simp)) hc_92
                  have hc_114 : σ_106 tu = some (gs_ob 6 [.ref ac, .ref ai, .ref ab, .int (nI L.length)]) := by rw [eσ_106]; exact gs_ku e1 hc_93
                  have hc_115 : σ_106 ac = some (gs_ia X 301 cs) := by rw [eσ_106]; exact gs_ku (gs_ne hc_94 hc_98 (by simp)) hc_94
                  have hc_116 : σ_106 la = some (gs_ob 6 [.ref lc, .ref li, .ref lb, .int (nI Lt.length)]) := by rw [eσ_106]; exact gs_ku e2 hc_95
                  have hc_117 : σ_106 lc = some (gs_ia X 301 ds) := by rw [eσ_106]; exact gs_ku (gs_ne hc_96 hc_98 (by simp)) hc_96
                  have hc_118 : σ_106 ma = some (gs_ob 3 [.ref tu, .ref va]) := by rw [eσ_106]; exact gs_ku (gs_ne hc_97 hc_98 (by simp)) hc_97
                  have hc_119 : σ_106 b = some (gs_ob 2 [.int (nI t.1.1), .int (nI t.1.2.1), .int (nI t.1.2.2), .int (nI t.2.1.1), .int (nI t.2.1.2.1), .int (nI t.2.1.2.2), .int (nI t.2.2.1), .int (nI t.2.2.2.1), .int t.2.2.2.2]) := by rw [eσ_106]; exact gs_ku (gs_ne hc_99 hc_98 (by simp)) hc_99
                  have hc_120 : σ_106 so = some (gs_ob 6 [.ref sa, .ref sb9, .ref sd9, .int (nI Ls.length)]) := by rw [eσ_106]; exact gs_ku o1 hc_100
                  have hc_121 : σ_106 sa = some (gs_ia X 301 ss) := by rw [eσ_106]; exact gs_ku (gs_ne hc_101 hc_98 (by simp)) hc_101
                  have hc_122 : σ_106 va = some (gs_ia X 8 vs3) := by rw [eσ_106]; exact gs_ku (gs_ne hc_102 hc_98 (by simp)) hc_102
                  have hc_123 : σ_106 mc = some (gs_ia X 301 a3) := by rw [eσ_106]; exact gs_ku (gs_ne hc_103 hc_98 (by simp)) hc_103
                  have hc_124 : σ_106 mi = some (gs_ia X 301 b3) := by rw [eσ_106]; exact gs_ku (gs_ne hc_104 hc_98 (by simp)) hc_104
                  have hc_125 : σ_106 mb = some (gs_ia X 301 c3) := by rw [eσ_106]; exact gs_ku (gs_ne hc_105 hc_98 (by simp)) hc_105
                  have hc_126 : σ_106 cm = some (gs_ob 6 [.ref mc, .ref mi, .ref mb, .int (nI ((dvF L Lt num R rdy pv k (d + 1) (fit1 t x v1).2 C1).2.2.length))]) := by rw [eσ_106]; exact gs_us
                  rw [← eσ_22, ← eσ_43, ← eσ_64, ← eσ_85, ← eσ_106] at hG
                  have eq3 : σ_106 = dvS X σ va vs3 cm mc mi mb (dvF L Lt num R rdy pv k (d + 1) (fit1 t x v1).2 C1).2.2.length a3 b3 c3 := by
                    have z : σ_106 = dvS X σ_1 va vs3 cm mc mi mb (dvF L Lt num R rdy pv k (d + 1) (fit1 t x v1).2 C1).2.2.length a3 b3 c3 := by simp only [*]; rfl
                    rw [z, eq2]; exact dvS_dvS w1 w2 w3 w4
                  have hC3 := hB3.2.1
                  refine lv_istore (lv' := [(10, .int (bI (dvF L Lt num R rdy pv k (d + 1) (fit1 t x v1).2 C1).1)), (9, .int (nI i)), (8, .int (nI (cof v t + 64 ^ (3 - t.2.2.2.1)))), (6, .ref so), (5, .ref b), (4, .ref a), (0, .ref dv), (1, .int (nI num)), (2, .int (nI d)), (3, .int pv)]) hx hb d_DE_deriveFrom_200 hl (by decide) rfl (fun ls hl => ?_)
                  refine lv_iload hx hb d_DE_deriveFrom_202 (lv_at hl 0 rfl) ?_
                  refine lv_if_eq (tgt := 219) hx hb d_DE_deriveFrom_204 (by decide) (fun c_204 => ?_) (fun c_204 => ?_)
                  · refine lv_aload_n hx hb d_DE_deriveFrom_219 rfl (lv_at hl 6 rfl) ?_
                    refine gs_callVi (As := []) (rest := []) ⟨hx, hb, hml, hown, hts⟩ hK hE hz hG hS (c_DE_isTooMuch l X σ_106 dv bk tu ma la cm ac ai ab mc mi mb L.length (dvF L Lt num R rdy pv k (d + 1) (fit1 t x v1).2 C1).2.2.length x5 x6 x7 hc_107 hc_114 hc_126 hn hC3) mV_DE_isTooMuch w_168 hc_107 rfl rfl hl.1 rfl (Nat.le_of_ble_eq_true rfl) ⟨(by first | decide | omega | (dsimp only [headSpec]; omega)), (by first | decide | omega | (dsimp only [headSpec]; omega))⟩ ⟨(by first | decide | omega | (dsimp only [headSpec]; omega)), (by first | decide | omega | (dsimp only [headSpec]; omega))⟩ d_DE_deriveFrom_220 (fun r_220 σ_220 H locs hp_220 hG hS => ?_)
                    rw [hp_220.1] at hG
                    refine gs_top (show r_220 = (bI (decide (300 < L.length + (dvF L Lt num R rdy pv k (d + 1) (fit1 t x v1).2 C1).2.2.length))) from hp_220.2) ?_
                    refine lv_if_eq (tgt := 229) hx hb d_DE_deriveFrom_223 (by decide) (fun c_223 => ?_) (fun c_223 => ?_)
                    · refine lv_iinc (v := (nI (i + 1))) (lv' := [(9, .int (nI (i + 1))), (10, .int (bI (dvF L Lt num R rdy pv k (d + 1) (fit1 t x v1).2 C1).1)), (8, .int (nI (cof v t + 64 ^ (3 - t.2.2.2.1)))), (6, .ref so), (5, .ref b), (4, .ref a), (0, .ref dv), (1, .int (nI num)), (2, .int (nI d)), (3, .int pv)]) hx hb d_DE_deriveFrom_229 hl (k := 1) rfl (by exact nI_1 _) (by decide) rfl (fun ls hl => ?_)
                      refine lv_goto (tgt := 148) hx hb d_DE_deriveFrom_232 (by decide) ?_
                      have hb9 := bI_n0 c_188
                      have hgo : ((dvF L Lt num R rdy pv k (d + 1) (fit1 t x v1).2 C1).1 && decide (rdy ≤ d) || tmc L.length (dvF L Lt num R rdy pv k (d + 1) (fit1 t x v1).2 C1).2.2) = false := by
                        have z1 := bI_0 c_223
                        first
                        | (rw [bI_0 c_204]; simpa [tmc] using z1; done)
                        | (have z2 : ¬ rdy ≤ d := by omega
                           simp only [decide_eq_false z2, Bool.and_false, Bool.false_or]; exact z1)
                      exact ih (i + 1) vs3 _ _ _ _ _ σ_106 (by omega) hv3 hB3 hR3 (hcn.trans (by rw [rngA_cons hlt hx9]; simp only [dvL]; rw [if_pos hb9, if_neg (by rw [hgo]; decide)])) eq3 (by omega) hc_107 hc_108 hc_109 hc_110 hc_111 hc_112 hc_113 hc_114 hc_115 hc_116 hc_117 hc_118 hc_122 hc_126 hc_123 hc_124 hc_125 hc_119 hc_120 hc_121 H locs hG hS ls (lv_sub hl [0, 2, 3, 4, 5, 6, 7, 8, 9] rfl)
                    · refine lv_iload hx hb d_DE_deriveFrom_226 (lv_at hl 0 rfl) ?_
                      have hb9 := bI_n0 c_188
                      have hgo : ((dvF L Lt num R rdy pv k (d + 1) (fit1 t x v1).2 C1).1 && decide (rdy ≤ d) || tmc L.length (dvF L Lt num R rdy pv k (d + 1) (fit1 t x v1).2 C1).2.2) = true := by
                        first
                        | (have z1 := bI_n0 c_204
                           have z2 : rdy ≤ d := by omega
                           rw [z1, decide_eq_true z2]; rfl; done)
                        | (have z1 := bI_n0 c_223
                           have z2 : tmc L.length (dvF L Lt num R rdy pv k (d + 1) (fit1 t x v1).2 C1).2.2 = true := z1
                           rw [z2, Bool.or_true])
                      have hres : dvF L Lt num R rdy pv (k + 1) d v C = dvF L Lt num R rdy pv k (d + 1) (fit1 t x v1).2 C1 := hcn.trans (by rw [rngA_cons hlt hx9]; simp only [dvL]; rw [if_pos hb9, if_pos hgo])
                      exact gs_iret (v := (bI (dvF L Lt num R rdy pv k (d + 1) (fit1 t x v1).2 C1).1)) hx hb hr (bI_nar _) hK hE hz hG hS hlocks (by first | decide | omega | (dsimp only [headSpec]; omega)) (by first | decide | omega | (dsimp only [headSpec]; omega)) (⟨vs3, a3, b3, c3, (by rw [hres]; exact eq3), (by rw [hres]; exact hv3), (by rw [hres]; exact hR3), (by rw [hres]; exact hB3), (by rw [hres])⟩) d_DE_deriveFrom_228
                  · refine lv_iload_n hx hb d_DE_deriveFrom_207 rfl (lv_at hl 8 rfl) ?_
                    refine lv_aload hx hb d_DE_deriveFrom_208 (lv_at hl 5 rfl) ?_
                    refine gs_get hx hb ht hown hK hG k_RU hc_110 0 (by decide) w_494 rfl d_DE_deriveFrom_210 ?_
                    refine gs_get hx hb ht hown hK hG k_IT hc_111 8 (by decide) w_467 rfl d_DE_deriveFrom_213 ?_
                    refine gs_top (show R.1.2.2.2.2 = (nI rdy) from hhr) ?_
                    refine lv_icmp_ge (tgt := 226) hx hb d_DE_deriveFrom_216 (by decide) (fun c_216 => ?_) (fun c_216 => ?_)
                    · have c_216 : rdy ≤ d := (nI_leI (by omega) (by omega)).mp c_216
                      refine lv_iload hx hb d_DE_deriveFrom_226 (lv_at hl 0 rfl) ?_
                      have hb9 := bI_n0 c_188
                      have hgo : ((dvF L Lt num R rdy pv k (d + 1) (fit1 t x v1).2 C1).1 && decide (rdy ≤ d) || tmc L.length (dvF L Lt num R rdy pv k (d + 1) (fit1 t x v1).2 C1).2.2) = true := by
                        first
                        | (have z1 := bI_n0 c_204
                           have z2 : rdy ≤ d := by omega
                           rw [z1, decide_eq_true z2]; rfl; done)
                        | (have z1 := bI_n0 c_223
                           have z2 : tmc L.length (dvF L Lt num R rdy pv k (d + 1) (fit1 t x v1).2 C1).2.2 = true := z1
                           rw [z2, Bool.or_true])
                      have hres : dvF L Lt num R rdy pv (k + 1) d v C = dvF L Lt num R rdy pv k (d + 1) (fit1 t x v1).2 C1 := hcn.trans (by rw [rngA_cons hlt hx9]; simp only [dvL]; rw [if_pos hb9, if_pos hgo])
                      exact gs_iret (v := (bI (dvF L Lt num R rdy pv k (d + 1) (fit1 t x v1).2 C1).1)) hx hb hr (bI_nar _) hK hE hz hG hS hlocks (by first | decide | omega | (dsimp only [headSpec]; omega)) (by first | decide | omega | (dsimp only [headSpec]; omega)) (⟨vs3, a3, b3, c3, (by rw [hres]; exact eq3), (by rw [hres]; exact hv3), (by rw [hres]; exact hR3), (by rw [hres]; exact hB3), (by rw [hres])⟩) d_DE_deriveFrom_228
                    · have c_216 : ¬ rdy ≤ d := mt (nI_leI (by omega) (by omega)).mpr c_216
                      refine lv_aload_n hx hb d_DE_deriveFrom_219 rfl (lv_at hl 6 rfl) ?_
                      refine gs_callVi (As := []) (rest := []) ⟨hx, hb, hml, hown, hts⟩ hK hE hz hG hS (c_DE_isTooMuch l X σ_106 dv bk tu ma la cm ac ai ab mc mi mb L.length (dvF L Lt num R rdy pv k (d + 1) (fit1 t x v1).2 C1).2.2.length x5 x6 x7 hc_107 hc_114 hc_126 hn hC3) mV_DE_isTooMuch w_168 hc_107 rfl rfl hl.1 rfl (Nat.le_of_ble_eq_true rfl) ⟨(by first | decide | omega | (dsimp only [headSpec]; omega)), (by first | decide | omega | (dsimp only [headSpec]; omega))⟩ ⟨(by first | decide | omega | (dsimp only [headSpec]; omega)), (by first | decide | omega | (dsimp only [headSpec]; omega))⟩ d_DE_deriveFrom_220 (fun r_220 σ_220 H locs hp_220 hG hS => ?_)
                      rw [hp_220.1] at hG
                      refine gs_top (show r_220 = (bI (decide (300 < L.length + (dvF L Lt num R rdy pv k (d + 1) (fit1 t x v1).2 C1).2.2.length))) from hp_220.2) ?_
                      refine lv_if_eq (tgt := 229) hx hb d_DE_deriveFrom_223 (by decide) (fun c_223 => ?_) (fun c_223 => ?_)
                      · refine lv_iinc (v := (nI (i + 1))) (lv' := [(9, .int (nI (i + 1))), (10, .int (bI (dvF L Lt num R rdy pv k (d + 1) (fit1 t x v1).2 C1).1)), (8, .int (nI (cof v t + 64 ^ (3 - t.2.2.2.1)))), (6, .ref so), (5, .ref b), (4, .ref a), (0, .ref dv), (1, .int (nI num)), (2, .int (nI d)), (3, .int pv)]) hx hb d_DE_deriveFrom_229 hl (k := 1) rfl (by exact nI_1 _) (by decide) rfl (fun ls hl => ?_)
                        refine lv_goto (tgt := 148) hx hb d_DE_deriveFrom_232 (by decide) ?_
                        have hb9 := bI_n0 c_188
                        have hgo : ((dvF L Lt num R rdy pv k (d + 1) (fit1 t x v1).2 C1).1 && decide (rdy ≤ d) || tmc L.length (dvF L Lt num R rdy pv k (d + 1) (fit1 t x v1).2 C1).2.2) = false := by
                          have z1 := bI_0 c_223
                          first
                          | (rw [bI_0 c_204]; simpa [tmc] using z1; done)
                          | (have z2 : ¬ rdy ≤ d := by omega
                             simp only [decide_eq_false z2, Bool.and_false, Bool.false_or]; exact z1)
                        exact ih (i + 1) vs3 _ _ _ _ _ σ_106 (by omega) hv3 hB3 hR3 (hcn.trans (by rw [rngA_cons hlt hx9]; simp only [dvL]; rw [if_pos hb9, if_neg (by rw [hgo]; decide)])) eq3 (by omega) hc_107 hc_108 hc_109 hc_110 hc_111 hc_112 hc_113 hc_114 hc_115 hc_116 hc_117 hc_118 hc_122 hc_126 hc_123 hc_124 hc_125 hc_119 hc_120 hc_121 H locs hG hS ls (lv_sub hl [0, 2, 3, 4, 5, 6, 7, 8, 9] rfl)
                      · refine lv_iload hx hb d_DE_deriveFrom_226 (lv_at hl 0 rfl) ?_
                        have hb9 := bI_n0 c_188
                        have hgo : ((dvF L Lt num R rdy pv k (d + 1) (fit1 t x v1).2 C1).1 && decide (rdy ≤ d) || tmc L.length (dvF L Lt num R rdy pv k (d + 1) (fit1 t x v1).2 C1).2.2) = true := by
                          first
                          | (have z1 := bI_n0 c_204
                             have z2 : rdy ≤ d := by omega
                             rw [z1, decide_eq_true z2]; rfl; done)
                          | (have z1 := bI_n0 c_223
                             have z2 : tmc L.length (dvF L Lt num R rdy pv k (d + 1) (fit1 t x v1).2 C1).2.2 = true := z1
                             rw [z2, Bool.or_true])
                        have hres : dvF L Lt num R rdy pv (k + 1) d v C = dvF L Lt num R rdy pv k (d + 1) (fit1 t x v1).2 C1 := hcn.trans (by rw [rngA_cons hlt hx9]; simp only [dvL]; rw [if_pos hb9, if_pos hgo])
                        exact gs_iret (v := (bI (dvF L Lt num R rdy pv k (d + 1) (fit1 t x v1).2 C1).1)) hx hb hr (bI_nar _) hK hE hz hG hS hlocks (by first | decide | omega | (dsimp only [headSpec]; omega)) (by first | decide | omega | (dsimp only [headSpec]; omega)) (⟨vs3, a3, b3, c3, (by rw [hres]; exact eq3), (by rw [hres]; exact hv3), (by rw [hres]; exact hR3), (by rw [hres]; exact hB3), (by rw [hres])⟩) d_DE_deriveFrom_228
        refine gs_aald hx hb hK hG 3 r2 rfl (j := d) (by omega) (by omega) d_DE_deriveFrom_97 ?_
        refine gs_topr (show va_rf (fH d) = .ref b by rw [hb1]; rfl) ?_
        refine lv_astore (lv' := [(5, .ref b), (4, .ref a), (0, .ref dv), (1, .int (nI num)), (2, .int (nI d)), (3, .int pv)]) hx hb d_DE_deriveFrom_98 hl (by decide) rfl (fun ls hl => ?_)
        refine lv_iload_n hx hb d_DE_deriveFrom_100 rfl (lv_at hl 4 rfl) ?_
        refine lv_iload_n hx hb d_DE_deriveFrom_101 rfl (lv_at hl 5 rfl) ?_
        refine lv_icmp_ne (tgt := 112) hx hb d_DE_deriveFrom_102 (by decide) (fun c_102 => ?_) (fun c_102 => ?_)
        · refine lv_aload_n hx hb d_DE_deriveFrom_112 rfl (lv_at hl 2 rfl) ?_
          refine gs_get hx hb ht hown hK hG k_DE d0 1 (by decide) w_112 rfl d_DE_deriveFrom_113 ?_
          refine lv_astore (lv' := [(6, .ref tu), (5, .ref b), (4, .ref a), (0, .ref dv), (1, .int (nI num)), (2, .int (nI d)), (3, .int pv)]) hx hb d_DE_deriveFrom_116 hl (by decide) rfl (fun ls hl => ?_)
          refine lv_aload_n hx hb d_DE_deriveFrom_118 rfl (lv_at hl 3 rfl) ?_
          refine gs_get hx hb ht hown hK hG k_DE d0 2 (by decide) w_113 rfl d_DE_deriveFrom_119 ?_
          refine lv_aload hx hb d_DE_deriveFrom_122 (lv_at hl 1 rfl) ?_
          refine gs_callVi (As := [.ref b]) (rest := []) ⟨hx, hb, hml, hown, hts⟩ hK hE hz hG hS (c_MA_codeOf l X σ ma tu va b vs v t q0 q1 hv hb2 htB) mV_MA_codeOf w_180 q0 rfl rfl hl.1 rfl (Nat.le_of_ble_eq_true rfl) ⟨(by first | decide | omega | (dsimp only [headSpec]; omega)), (by first | decide | omega | (dsimp only [headSpec]; omega))⟩ ⟨(by first | decide | omega | (dsimp only [headSpec]; omega)), (by first | decide | omega | (dsimp only [headSpec]; omega))⟩ d_DE_deriveFrom_124 (fun r_124 σ_124 H locs hp_124 hG hS => ?_)
          rw [hp_124.1] at hG
          refine gs_top (show r_124 = (nI (cof v t)) from hp_124.2) ?_
          refine lv_istore (lv' := [(7, .int (nI (cof v t))), (6, .ref tu), (5, .ref b), (4, .ref a), (0, .ref dv), (1, .int (nI num)), (2, .int (nI d)), (3, .int pv)]) hx hb d_DE_deriveFrom_127 hl (by decide) rfl (fun ls hl => ?_)
          refine lv_iload hx hb d_DE_deriveFrom_129 (lv_at hl 0 rfl) ?_
          refine lv_aload hx hb d_DE_deriveFrom_131 (lv_at hl 2 rfl) ?_
          refine gs_callVi (As := []) (rest := [.int (nI (cof v t))]) ⟨hx, hb, hml, hown, hts⟩ hK hE hz hG hS (c_IT_span l X σ b t hb2 hl3) mV_IT_span w_225 hb2 rfl rfl hl.1 rfl (Nat.le_of_ble_eq_true rfl) ⟨(by first | decide | omega | (dsimp only [headSpec]; omega)), (by first | decide | omega | (dsimp only [headSpec]; omega))⟩ ⟨(by first | decide | omega | (dsimp only [headSpec]; omega)), (by first | decide | omega | (dsimp only [headSpec]; omega))⟩ d_DE_deriveFrom_133 (fun r_133 σ_133 H locs hp_133 hG hS => ?_)
          rw [hp_133.1] at hG
          refine gs_top (show r_133 = (nI (64 ^ (3 - t.2.2.2.1))) from hp_133.2) ?_
          refine lv_iadd hx hb d_DE_deriveFrom_136 ?_
          refine gs_top (nI_add (cof v t) (64 ^ (3 - t.2.2.2.1))) ?_
          refine lv_istore (lv' := [(8, .int (nI ((cof v t) + (64 ^ (3 - t.2.2.2.1))))), (7, .int (nI (cof v t))), (6, .ref tu), (5, .ref b), (4, .ref a), (0, .ref dv), (1, .int (nI num)), (2, .int (nI d)), (3, .int pv)]) hx hb d_DE_deriveFrom_137 hl (by decide) rfl (fun ls hl => ?_)
          refine lv_aload hx hb d_DE_deriveFrom_139 (lv_at hl 2 rfl) ?_
          refine lv_iload hx hb d_DE_deriveFrom_141 (lv_at hl 1 rfl) ?_
          refine gs_callVi (As := [.int (nI (cof v t))]) (rest := []) ⟨hx, hb, hml, hown, hts⟩ hK hE hz hG hS (c_TU_placeOf l X σ tu ac ai ab L cs (cof v t) hs hn hcs (by omega) t0 t1) mV_TU_placeOf w_229 t0 rfl rfl hl.1 rfl (Nat.le_of_ble_eq_true rfl) ⟨(by first | decide | omega | (dsimp only [headSpec]; omega)), (by first | decide | omega | (dsimp only [headSpec]; omega))⟩ ⟨(by first | decide | omega | (dsimp only [headSpec]; omega)), (by first | decide | omega | (dsimp only [headSpec]; omega))⟩ d_DE_deriveFrom_143 (fun r_143 σ_143 H locs hp_143 hG hS => ?_)
          rw [hp_143.1] at hG
          refine gs_top (show r_143 = (nI (cb L (cof v t))) from hp_143.2) ?_
          refine lv_istore (lv' := [(9, .int (nI (cb L (cof v t)))), (8, .int (nI ((cof v t) + (64 ^ (3 - t.2.2.2.1))))), (7, .int (nI (cof v t))), (6, .ref tu), (5, .ref b), (4, .ref a), (0, .ref dv), (1, .int (nI num)), (2, .int (nI d)), (3, .int pv)]) hx hb d_DE_deriveFrom_146 hl (by decide) rfl (fun ls hl => ?_)
          have hcl := cb_le L (cof v t)
          exact loop tu ac ai ab L cs e1 e3 e4 e5 hs hn hcs (L.length + 1) (cb L (cof v t)) vs v C a9 b9 c9 σ hcl hv hB hR (dvF_loop hnk hchk ht9 (if_neg c_102)) (dvS_same q1 m0 m1 m2 m3).symm (by omega) d0 k0 k2 r0 r1 r2 r3 t0 t1 l0 l1 q0 q1 m0 m1 m2 m3 hb2 t0 t1 _ _ hG hS ls (lv_sub hl [0, 1, 3, 4, 5, 6, 7, 8, 9] rfl)
        · refine lv_aload_n hx hb d_DE_deriveFrom_105 rfl (lv_at hl 2 rfl) ?_
          refine gs_get hx hb ht hown hK hG k_DE d0 3 (by decide) w_114 rfl d_DE_deriveFrom_106 ?_
          refine lv_goto (tgt := 116) hx hb d_DE_deriveFrom_109 (by decide) ?_
          refine lv_astore (lv' := [(6, .ref la), (5, .ref b), (4, .ref a), (0, .ref dv), (1, .int (nI num)), (2, .int (nI d)), (3, .int pv)]) hx hb d_DE_deriveFrom_116 hl (by decide) rfl (fun ls hl => ?_)
          refine lv_aload_n hx hb d_DE_deriveFrom_118 rfl (lv_at hl 3 rfl) ?_
          refine gs_get hx hb ht hown hK hG k_DE d0 2 (by decide) w_113 rfl d_DE_deriveFrom_119 ?_
          refine lv_aload hx hb d_DE_deriveFrom_122 (lv_at hl 1 rfl) ?_
          refine gs_callVi (As := [.ref b]) (rest := []) ⟨hx, hb, hml, hown, hts⟩ hK hE hz hG hS (c_MA_codeOf l X σ ma tu va b vs v t q0 q1 hv hb2 htB) mV_MA_codeOf w_180 q0 rfl rfl hl.1 rfl (Nat.le_of_ble_eq_true rfl) ⟨(by first | decide | omega | (dsimp only [headSpec]; omega)), (by first | decide | omega | (dsimp only [headSpec]; omega))⟩ ⟨(by first | decide | omega | (dsimp only [headSpec]; omega)), (by first | decide | omega | (dsimp only [headSpec]; omega))⟩ d_DE_deriveFrom_124 (fun r_124 σ_124 H locs hp_124 hG hS => ?_)
          rw [hp_124.1] at hG
          refine gs_top (show r_124 = (nI (cof v t)) from hp_124.2) ?_
          refine lv_istore (lv' := [(7, .int (nI (cof v t))), (6, .ref la), (5, .ref b), (4, .ref a), (0, .ref dv), (1, .int (nI num)), (2, .int (nI d)), (3, .int pv)]) hx hb d_DE_deriveFrom_127 hl (by decide) rfl (fun ls hl => ?_)
          refine lv_iload hx hb d_DE_deriveFrom_129 (lv_at hl 0 rfl) ?_
          refine lv_aload hx hb d_DE_deriveFrom_131 (lv_at hl 2 rfl) ?_
          refine gs_callVi (As := []) (rest := [.int (nI (cof v t))]) ⟨hx, hb, hml, hown, hts⟩ hK hE hz hG hS (c_IT_span l X σ b t hb2 hl3) mV_IT_span w_225 hb2 rfl rfl hl.1 rfl (Nat.le_of_ble_eq_true rfl) ⟨(by first | decide | omega | (dsimp only [headSpec]; omega)), (by first | decide | omega | (dsimp only [headSpec]; omega))⟩ ⟨(by first | decide | omega | (dsimp only [headSpec]; omega)), (by first | decide | omega | (dsimp only [headSpec]; omega))⟩ d_DE_deriveFrom_133 (fun r_133 σ_133 H locs hp_133 hG hS => ?_)
          rw [hp_133.1] at hG
          refine gs_top (show r_133 = (nI (64 ^ (3 - t.2.2.2.1))) from hp_133.2) ?_
          refine lv_iadd hx hb d_DE_deriveFrom_136 ?_
          refine gs_top (nI_add (cof v t) (64 ^ (3 - t.2.2.2.1))) ?_
          refine lv_istore (lv' := [(8, .int (nI ((cof v t) + (64 ^ (3 - t.2.2.2.1))))), (7, .int (nI (cof v t))), (6, .ref la), (5, .ref b), (4, .ref a), (0, .ref dv), (1, .int (nI num)), (2, .int (nI d)), (3, .int pv)]) hx hb d_DE_deriveFrom_137 hl (by decide) rfl (fun ls hl => ?_)
          refine lv_aload hx hb d_DE_deriveFrom_139 (lv_at hl 2 rfl) ?_
          refine lv_iload hx hb d_DE_deriveFrom_141 (lv_at hl 1 rfl) ?_
          refine gs_callVi (As := [.int (nI (cof v t))]) (rest := []) ⟨hx, hb, hml, hown, hts⟩ hK hE hz hG hS (c_TU_placeOf l X σ la lc li lb Lt ds (cof v t) hs2 hn2 hds (by omega) l0 l1) mV_TU_placeOf w_229 l0 rfl rfl hl.1 rfl (Nat.le_of_ble_eq_true rfl) ⟨(by first | decide | omega | (dsimp only [headSpec]; omega)), (by first | decide | omega | (dsimp only [headSpec]; omega))⟩ ⟨(by first | decide | omega | (dsimp only [headSpec]; omega)), (by first | decide | omega | (dsimp only [headSpec]; omega))⟩ d_DE_deriveFrom_143 (fun r_143 σ_143 H locs hp_143 hG hS => ?_)
          rw [hp_143.1] at hG
          refine gs_top (show r_143 = (nI (cb Lt (cof v t))) from hp_143.2) ?_
          refine lv_istore (lv' := [(9, .int (nI (cb Lt (cof v t)))), (8, .int (nI ((cof v t) + (64 ^ (3 - t.2.2.2.1))))), (7, .int (nI (cof v t))), (6, .ref la), (5, .ref b), (4, .ref a), (0, .ref dv), (1, .int (nI num)), (2, .int (nI d)), (3, .int pv)]) hx hb d_DE_deriveFrom_146 hl (by decide) rfl (fun ls hl => ?_)
          have hcl := cb_le Lt (cof v t)
          exact loop la lc li lb Lt ds e2 e6 e7 e8 hs2 hn2 hds (Lt.length + 1) (cb Lt (cof v t)) vs v C a9 b9 c9 σ hcl hv hB hR (dvF_loop hnk hchk ht9 (if_pos c_102)) (dvS_same q1 m0 m1 m2 m3).symm (by omega) d0 k0 k2 r0 r1 r2 r3 t0 t1 l0 l1 q0 q1 m0 m1 m2 m3 hb2 l0 l1 _ _ hG hS ls (lv_sub hl [0, 1, 3, 4, 5, 6, 7, 8, 9] rfl)
      · have c_65 : ¬ d < R.2.1.length := mt (nI_ltI (by omega) (by omega)).mpr c_65
        refine lv_aload_n hx hb d_DE_deriveFrom_68 rfl (lv_at hl 1 rfl) ?_
        refine gs_get hx hb ht hown hK hG k_DE d0 4 (by decide) w_115 rfl d_DE_deriveFrom_69 ?_
        refine lv_aload_n hx hb d_DE_deriveFrom_72 rfl (lv_at hl 1 rfl) ?_
        refine gs_get hx hb ht hown hK hG k_DE d0 2 (by decide) w_113 rfl d_DE_deriveFrom_73 ?_
        refine lv_aload hx hb d_DE_deriveFrom_76 (lv_at hl 0 rfl) ?_
        refine gs_get hx hb ht hown hK hG k_RU r0 0 (by decide) w_494 rfl d_DE_deriveFrom_78 ?_
        refine gs_callVi (As := [.ref hd]) (rest := [.ref cm]) ⟨hx, hb, hml, hown, hts⟩ hK hE hz hG hS (c_MA_codeOf l X σ ma tu va hd vs v R.1 q0 q1 hv r1 g0) mV_MA_codeOf w_180 q0 rfl rfl hl.1 rfl (Nat.le_of_ble_eq_true rfl) ⟨(by first | decide | omega | (dsimp only [headSpec]; omega)), (by first | decide | omega | (dsimp only [headSpec]; omega))⟩ ⟨(by first | decide | omega | (dsimp only [headSpec]; omega)), (by first | decide | omega | (dsimp only [headSpec]; omega))⟩ d_DE_deriveFrom_81 (fun r_81 σ_81 H locs hp_81 hG hS => ?_)
        rw [hp_81.1] at hG
        refine gs_top (show r_81 = (nI (cof v R.1)) from hp_81.2) ?_
        refine lv_iconst (v := nI 0) hx hb d_DE_deriveFrom_84 (by decide) ?_
        refine lv_iload_n hx hb d_DE_deriveFrom_85 rfl (lv_at hl 2 rfl) ?_
        refine gs_callVv (As := [.int (nI (cof v R.1)), .int (nI 0), .int (nI num)]) (rest := []) ⟨hx, hb, hml, hown, hts⟩ hK hE hz hG hS (c_TU_insertG l X σ cm mc mi mb C a9 b9 c9 (cof v R.1) 0 (nI num) n1 n2 n3 hB hR (by omega) m0 m1 m2 m3) mV_TU_insert w_214 m0 rfl rfl hl.1 rfl (Nat.le_of_ble_eq_true rfl) ⟨(by first | decide | omega | (dsimp only [headSpec]; omega)), (by first | decide | omega | (dsimp only [headSpec]; omega))⟩ ⟨(by first | decide | omega | (dsimp only [headSpec]; omega)), (by first | decide | omega | (dsimp only [headSpec]; omega))⟩ d_DE_deriveFrom_86 (fun σ_86 H locs hp_86 hG hS => ?_)
        obtain ⟨a2, b2, c2, ev2, hR2⟩ := hp_86
        rw [ev2] at hG
        refine lv_iconst (v := nI 1) hx hb d_DE_deriveFrom_89 (by decide) ?_
        have hk0 : k = 0 := by omega
        subst hk0
        have hres : dvF L Lt num R rdy pv 0 d v C = (true, v, insG C (cof v R.1, 0, nI num)) := dvF_end (by first | exact Or.inl c_20 | exact Or.inr (bI_0 c_39)) (bI_n0 c_54)
        exact gs_iret (v := (nI 1)) hx hb hr rfl hK hE hz hG hS hlocks (by first | decide | omega | (dsimp only [headSpec]; omega)) (by first | decide | omega | (dsimp only [headSpec]; omega)) (⟨vs, a2, b2, c2, (by rw [hres]; unfold dvS; rw [gs_usame q1]), (by rw [hres]; exact hv), (by rw [hres]; exact hR2), (by rw [hres]; exact tuB_insG hB (by omega) (show (0 : Nat) < 2 ^ 30 by decide)), (by rw [hres]; rfl)⟩) d_DE_deriveFrom_90
    · refine lv_iconst (v := nI 0) hx hb d_DE_deriveFrom_57 (by decide) ?_
      have hres : dvF L Lt num R rdy pv k d v C = (false, v, C) := dvF_no (by first | exact Or.inl c_20 | exact Or.inr (bI_0 c_39)) (bI_0 c_54)
      exact gs_iret (v := (nI 0)) hx hb hr rfl hK hE hz hG hS hlocks (by first | decide | omega | (dsimp only [headSpec]; omega)) (by first | decide | omega | (dsimp only [headSpec]; omega)) (⟨vs, a9, b9, c9, (by rw [hres]; exact (dvS_same q1 m0 m1 m2 m3).symm), (by rw [hres]; exact hv), (by rw [hres]; exact hR), (by rw [hres]; exact hB), (by rw [hres]; rfl)⟩) d_DE_deriveFrom_58
  · have c_20 : d = rdy :=  (nI_eq (by omega) (by omega)).mp c_20
    refine lv_aload_n hx hb d_DE_deriveFrom_23 rfl (lv_at hl 1 rfl) ?_
    refine lv_aload_n hx hb d_DE_deriveFrom_24 rfl (lv_at hl 1 rfl) ?_
    refine gs_get hx hb ht hown hK hG k_DE d0 2 (by decide) w_113 rfl d_DE_deriveFrom_25 ?_
    refine lv_aload hx hb d_DE_deriveFrom_28 (lv_at hl 0 rfl) ?_
    refine gs_get hx hb ht hown hK hG k_RU r0 0 (by decide) w_494 rfl d_DE_deriveFrom_30 ?_
    refine gs_callVi (As := [.ref hd]) (rest := [.ref dv]) ⟨hx, hb, hml, hown, hts⟩ hK hE hz hG hS (c_MA_codeOf l X σ ma tu va hd vs v R.1 q0 q1 hv r1 g0) mV_MA_codeOf w_180 q0 rfl rfl hl.1 rfl (Nat.le_of_ble_eq_true rfl) ⟨(by first | decide | omega | (dsimp only [headSpec]; omega)), (by first | decide | omega | (dsimp only [headSpec]; omega))⟩ ⟨(by first | decide | omega | (dsimp only [headSpec]; omega)), (by first | decide | omega | (dsimp only [headSpec]; omega))⟩ d_DE_deriveFrom_33 (fun r_33 σ_33 H locs hp_33 hG hS => ?_)
    rw [hp_33.1] at hG
    refine gs_top (show r_33 = (nI (cof v R.1)) from hp_33.2) ?_
    refine gs_callVi (As := [.int (nI (cof v R.1))]) (rest := []) ⟨hx, hb, hml, hown, hts⟩ hK hE hz hG hS (c_DE_isKnown l X σ dv bk tu ma la cm ac ai ab mc mi mb (cof v R.1) x5 x6 x7 L cs C a9 b9 c9 d0 hs hn hcs hB hR (by omega) t0 t1 m0 m1) mV_DE_isKnown w_192 d0 rfl rfl hl.1 rfl (Nat.le_of_ble_eq_true rfl) ⟨(by first | decide | omega | (dsimp only [headSpec]; omega)), (by first | decide | omega | (dsimp only [headSpec]; omega))⟩ ⟨(by first | decide | omega | (dsimp only [headSpec]; omega)), (by first | decide | omega | (dsimp only [headSpec]; omega))⟩ d_DE_deriveFrom_36 (fun r_36 σ_36 H locs hp_36 hG hS => ?_)
    rw [hp_36.1] at hG
    refine gs_top (show r_36 = (bI (kwn L C (cof v R.1))) from hp_36.2) ?_
    refine lv_if_eq (tgt := 44) hx hb d_DE_deriveFrom_39 (by decide) (fun c_39 => ?_) (fun c_39 => ?_)
    · refine lv_aload_n hx hb d_DE_deriveFrom_44 rfl (lv_at hl 1 rfl) ?_
      refine gs_get hx hb ht hown hK hG k_DE d0 2 (by decide) w_113 rfl d_DE_deriveFrom_45 ?_
      refine lv_aload hx hb d_DE_deriveFrom_48 (lv_at hl 0 rfl) ?_
      refine lv_iload_n hx hb d_DE_deriveFrom_50 rfl (lv_at hl 3 rfl) ?_
      refine gs_callVi (As := [.ref a, .int (nI d)]) (rest := []) ⟨hx, hb, hml, hown, hts⟩ hK hE hz hG hS (c_MA_checksHold l X σ ma tu va a ac ai ab hd ho ck kf R.2.1.length d L cs vs v R.2.2 fC q0 q1 hv hs hn hcs t0 t1 r0 r3 rk g2 g4) mV_MA_checksHold w_204 q0 rfl rfl hl.1 rfl (Nat.le_of_ble_eq_true rfl) ⟨(by first | decide | omega | (dsimp only [headSpec]; omega)), (by first | decide | omega | (dsimp only [headSpec]; omega))⟩ ⟨(by first | decide | omega | (dsimp only [headSpec]; omega)), (by first | decide | omega | (dsimp only [headSpec]; omega))⟩ d_DE_deriveFrom_51 (fun r_51 σ_51 H locs hp_51 hG hS => ?_)
      rw [hp_51.1] at hG
      refine gs_top (show r_51 = (bI (chk v L R.2.2 d)) from hp_51.2) ?_
      refine lv_if_ne (tgt := 59) hx hb d_DE_deriveFrom_54 (by decide) (fun c_54 => ?_) (fun c_54 => ?_)
      · refine lv_iload_n hx hb d_DE_deriveFrom_59 rfl (lv_at hl 3 rfl) ?_
        refine lv_aload hx hb d_DE_deriveFrom_60 (lv_at hl 0 rfl) ?_
        refine gs_get hx hb ht hown hK hG k_RU r0 3 (by decide) w_505 rfl d_DE_deriveFrom_62 ?_
        refine lv_icmp_lt (tgt := 91) hx hb d_DE_deriveFrom_65 (by decide) (fun c_65 => ?_) (fun c_65 => ?_)
        · have c_65 : d < R.2.1.length := (nI_ltI (by omega) (by omega)).mp c_65
          refine lv_aload hx hb d_DE_deriveFrom_91 (lv_at hl 0 rfl) ?_
          refine gs_get hx hb ht hown hK hG k_RU r0 1 (by decide) w_498 rfl d_DE_deriveFrom_93 ?_
          refine lv_iload_n hx hb d_DE_deriveFrom_96 rfl (lv_at hl 3 rfl) ?_
          obtain ⟨k, rfl⟩ : ∃ k2, k = k2 + 1 := ⟨k - 1, by omega⟩
          have ih8 : DF l X dv bk tu ma la cm ac ai ab lc li lb mc mi mb va co ru sr nr nq a hd ho ck kf num x5 x6 x7 sc L Lt cs ds R rdy pv fR fH fC k (d + 1) := ih9 (by omega)
          obtain ⟨t, ht9⟩ := get_ex (L := R.2.1) (j := d) (by omega)
          obtain ⟨b, hb1, hb2⟩ := rh d t ht9
          have htB := g3 t (List.mem_of_getElem? ht9)
          have hcf := cof_lt hv htB
          have hl3 : t.2.2.2.1 ≤ 3 := Nat.le_trans htB.2.2.2.2.2.1 htB.2.2.1
          have hpw := pw3 (d := t.2.2.2.1)
          have hchk := bI_n0 c_54
          have hnk : ¬ d = rdy ∨ kwn L C (cof v R.1) = false := by
            first
            | exact Or.inl c_20
            | exact Or.inr (bI_0 c_39)
          have loop : ∀ (so sa sb9 sd9 : Nat) (Ls : List Nat) (ss : Nat → Int32), so ≠ cm → sa ≠ mc → sa ≠ mi → sa ≠ mb → Ls.Pairwise (· ≤ ·) → Ls.length ≤ 301 → (∀ j x, Ls[j]? = some x → ss j = nI x ∧ x < 2 ^ 30) → ∀ (fl i : Nat) (vs1 : Nat → Int32) (v1 : Nat → Nat) (C1 : List En) (a19 b19 c19 : Nat → Int32) (σ1 : gs_St), i ≤ Ls.length → vOK vs1 v1 → tuB C1 → tuR C1 a19 b19 c19 → dvF L Lt num R rdy pv (k + 1) d v C = dvL t rdy d L.length (dvF L Lt num R rdy pv k (d + 1)) (rngA Ls (cof v t + 64 ^ (3 - t.2.2.2.1)) i) v1 C1 → σ1 = dvS X σ va vs1 cm mc mi mb C1.length a19 b19 c19 → Ls.length - i < fl → (σ1 dv = some (gs_ob 1 [.ref bk, .ref tu, .ref ma, .ref la, .ref cm, .int x5, .int x6, .int x7])) → (σ1 bk = some (gs_ob 5 [.ref co, .ref ru, .ref sr, .int (nI nr), .int (nI nq), .int sc])) → (σ1 ru = some (gs_qa X 2 24 fR)) → (σ1 a = some (gs_ob 4 [.ref hd, .ref ho, .ref ck, .int (nI R.2.1.length), .int (nI R.2.2.length), .ref kf])) → (σ1 hd = some (itE R.1)) → (σ1 ho = some (gs_qa X 3 3 fH)) → (σ1 ck = some (gs_qa X 3 6 fC)) → (σ1 tu = some (gs_ob 6 [.ref ac, .ref ai, .ref ab, .int (nI L.length)])) → (σ1 ac = some (gs_ia X 301 cs)) → (σ1 la = some (gs_ob 6 [.ref lc, .ref li, .ref lb, .int (nI Lt.length)])) → (σ1 lc = some (gs_ia X 301 ds)) → (σ1 ma = some (gs_ob 3 [.ref tu, .ref va])) → (σ1 va = some (gs_ia X 8 vs1)) → (σ1 cm = some (gs_ob 6 [.ref mc, .ref mi, .ref mb, .int (nI C1.length)])) → (σ1 mc = some (gs_ia X 301 a19)) → (σ1 mi = some (gs_ia X 301 b19)) → (σ1 mb = some (gs_ia X 301 c19)) → (σ1 b = some (itE t)) → (σ1 so = some (gs_ob 6 [.ref sa, .ref sb9, .ref sd9, .int (nI Ls.length)])) → (σ1 sa = some (gs_ia X 301 ss)) → ∀ (H : Heap) (locs : List Loc), gs_H X σ1 H → va_S (gs_A X) s.heap H locs → ∀ ls, lv_has ls 11 [(9, .int (nI i)), (8, .int (nI (cof v t + 64 ^ (3 - t.2.2.2.1)))), (6, .ref so), (5, .ref b), (4, .ref a), (0, .ref dv), (1, .int (nI num)), (2, .int (nI d)), (3, .int pv)] → W p l e ({ frames := 5 + (k + 1), cells := 0, slots := 0, locals := 300 + 60 * (k + 1) } : Room) s m ([.ref dv, .int (nI num), .int (nI d), .int pv] : List Value).toArray below meth c H locs 0 0 (MQ below (va_Qi (fun r σ' => ∃ vs' a' b' c', σ' = dvS X σ va vs' cm mc mi mb (dvF L Lt num R rdy pv (k + 1) d v C).2.2.length a' b' c' ∧ vOK vs' (dvF L Lt num R rdy pv (k + 1) d v C).2.1 ∧ tuR (dvF L Lt num R rdy pv (k + 1) d v C).2.2 a' b' c' ∧ tuB (dvF L Lt num R rdy pv (k + 1) d v C).2.2 ∧ r = bI (dvF L Lt num R rdy pv (k + 1) d v C).1) (gs_U X) (gs_A X)) ([.ref dv, .int (nI num), .int (nI d), .int pv] : List Value).toArray s 0 0 (gs_A X)) (F0 m 148 ls []) := by
            intro so sa sb9 sd9 Ls ss o1 o2 o3 o4 hss hsn hsc fl
            induction fl with
            | zero => intro i vs1 v1 C1 a19 b19 c19 σ1 _ _ _ _ _ _ h9; omega
            | succ fl ih =>
              intro i vs1 v1 C1 a19 b19 c19 σ1 hi hv1 hB1 hR1 hcn eσ1 hmu y0 y1 y2 y3 y4 y5 y6 y7 y8 y9 y10 y11 y12 y13 y14 y15 y16 y17 y18 y19 H locs hG hS ls hl
              have hcl2 := cb_le Ls (cof v t + 64 ^ (3 - t.2.2.2.1))
              have hCl1 := hB1.2.1
              refine lv_iload hx hb d_DE_deriveFrom_148 (lv_at hl 0 rfl) ?_
              refine lv_aload hx hb d_DE_deriveFrom_150 (lv_at hl 2 rfl) ?_
              refine gs_get hx hb ht hown hK hG k_TU y18 3 (by decide) w_78 rfl d_DE_deriveFrom_152 ?_
              refine lv_icmp_ge (tgt := 235) hx hb d_DE_deriveFrom_155 (by decide) (fun c_155 => ?_) (fun c_155 => ?_)
              · have c_155 : Ls.length ≤ i := (nI_leI (by omega) (by omega)).mp c_155
                refine lv_iconst (v := nI 0) hx hb d_DE_deriveFrom_235 (by decide) ?_
                have hge : cb Ls (cof v t + 64 ^ (3 - t.2.2.2.1)) ≤ i := by
                  first
                  | (have := hcl2; omega)
                  | (have := mt hx3.mpr (by omega); omega)
                rw [rngA_end hge] at hcn
                simp only [dvL] at hcn
                exact gs_iret (v := (nI 0)) hx hb hr rfl hK hE hz hG hS hlocks (by first | decide | omega | (dsimp only [headSpec]; omega)) (by first | decide | omega | (dsimp only [headSpec]; omega)) (⟨vs1, a19, b19, c19, (by rw [hcn]; exact eσ1), (by rw [hcn]; exact hv1), (by rw [hcn]; exact hR1), (by rw [hcn]; exact hB1), (by rw [hcn]; rfl)⟩) d_DE_deriveFrom_236
              · have c_155 : ¬ Ls.length ≤ i := mt (nI_leI (by omega) (by omega)).mpr c_155
                refine lv_aload hx hb d_DE_deriveFrom_158 (lv_at hl 2 rfl) ?_
                refine gs_get hx hb ht hown hK hG k_TU y18 0 (by decide) w_69 rfl d_DE_deriveFrom_160 ?_
                refine lv_iload hx hb d_DE_deriveFrom_163 (lv_at hl 0 rfl) ?_
                obtain ⟨x, hx9⟩ := get_ex (L := Ls) (j := i) (by omega)
                obtain ⟨hx1, hx2⟩ := hsc _ _ hx9
                have hx3 := cb_iff Ls hss (cof v t + 64 ^ (3 - t.2.2.2.1)) _ _ hx9
                refine gs_iald hx hb hK hG y19 (j := i) (by omega) (by omega) d_DE_deriveFrom_165 ?_
                refine gs_top (show (ss i) = (nI x) from hx1) ?_
                refine lv_iload hx hb d_DE_deriveFrom_166 (lv_at hl 1 rfl) ?_
                refine lv_icmp_ge (tgt := 235) hx hb d_DE_deriveFrom_168 (by decide) (fun c_168 => ?_) (fun c_168 => ?_)
                · have c_168 : (cof v t + 64 ^ (3 - t.2.2.2.1)) ≤ x := (nI_leI (by omega) (by omega)).mp c_168
                  refine lv_iconst (v := nI 0) hx hb d_DE_deriveFrom_235 (by decide) ?_
                  have hge : cb Ls (cof v t + 64 ^ (3 - t.2.2.2.1)) ≤ i := by
                    first
                    | (have := hcl2; omega)
                    | (have := mt hx3.mpr (by omega); omega)
                  rw [rngA_end hge] at hcn
                  simp only [dvL] at hcn
                  exact gs_iret (v := (nI 0)) hx hb hr rfl hK hE hz hG hS hlocks (by first | decide | omega | (dsimp only [headSpec]; omega)) (by first | decide | omega | (dsimp only [headSpec]; omega)) (⟨vs1, a19, b19, c19, (by rw [hcn]; exact eσ1), (by rw [hcn]; exact hv1), (by rw [hcn]; exact hR1), (by rw [hcn]; exact hB1), (by rw [hcn]; rfl)⟩) d_DE_deriveFrom_236
                · have c_168 : ¬ (cof v t + 64 ^ (3 - t.2.2.2.1)) ≤ x := mt (nI_leI (by omega) (by omega)).mpr c_168
                  have hlt : i < cb Ls (cof v t + 64 ^ (3 - t.2.2.2.1)) := hx3.mp (by omega)
                  refine lv_aload_n hx hb d_DE_deriveFrom_171 rfl (lv_at hl 5 rfl) ?_
                  refine gs_get hx hb ht hown hK hG k_DE y0 2 (by decide) w_113 rfl d_DE_deriveFrom_172 ?_
                  refine lv_aload hx hb d_DE_deriveFrom_175 (lv_at hl 3 rfl) ?_
                  refine lv_aload hx hb d_DE_deriveFrom_177 (lv_at hl 2 rfl) ?_
                  refine gs_get hx hb ht hown hK hG k_TU y18 0 (by decide) w_69 rfl d_DE_deriveFrom_179 ?_
                  refine lv_iload hx hb d_DE_deriveFrom_182 (lv_at hl 0 rfl) ?_
                  refine gs_iald hx hb hK hG y19 (j := i) (by omega) (by omega) d_DE_deriveFrom_184 ?_
                  refine gs_top (show (ss i) = (nI x) from hx1) ?_
                  refine gs_callVi (As := [.ref b, .int (nI x)]) (rest := []) ⟨hx, hb, hml, hown, hts⟩ hK hE hz hG hS (c_MA_fits l X σ1 ma tu va b vs1 v1 t x y11 y12 hv1 y17 htB hx2) mV_MA_fits w_230 y11 rfl rfl hl.1 rfl (Nat.le_of_ble_eq_true rfl) ⟨(by first | decide | omega | (dsimp only [headSpec]; omega)), (by first | decide | omega | (dsimp only [headSpec]; omega))⟩ ⟨(by first | decide | omega | (dsimp only [headSpec]; omega)), (by first | decide | omega | (dsimp only [headSpec]; omega))⟩ d_DE_deriveFrom_185 (fun r_185 σ_185 H locs hp_185 hG hS => ?_)
                  obtain ⟨vs2, ev2, hv2, er2⟩ := hp_185
                  rw [ev2] at hG
                  refine gs_top er2 ?_
                  have hG : gs_H X (gs_up σ1 va (gs_ia X 8 vs2)) H := hG
                  obtain ⟨σ_127, eσ_127⟩ : ∃ zq, zq = gs_up σ1 va (gs_ia X 8 vs2) := ⟨_, rfl⟩
                  rw [← eσ_127] at hG
                  have hc_128 : σ_127 dv = some (gs_ob 1 [.ref bk, .ref tu, .ref ma, .ref la, .ref cm, .int x5, .int x6, .int x7]) := by rw [eσ_127]; exact gs_ku (gs_ne y0 y12 (by simp)) y0
                  have hc_129 : σ_127 bk = some (gs_ob 5 [.ref co, .ref ru, .ref sr, .int (nI nr), .int (nI nq), .int sc]) := by rw [eσ_127]; exact gs_ku (gs_ne y1 y12 (by simp)) y1
                  have hc_130 : σ_127 ru = some (gs_qa X 2 24 fR) := by rw [eσ_127]; exact gs_ku (gs_ne y2 y12 (by simp)) y2
                  have hc_131 : σ_127 a = some (gs_ob 4 [.ref hd, .ref ho, .ref ck, .int (nI R.2.1.length), .int (nI R.2.2.length), .ref kf]) := by rw [eσ_127]; exact gs_ku (gs_ne y3 y12 (by simp)) y3
                  have hc_132 : σ_127 hd = some (gs_ob 2 [.int (nI R.1.1.1), .int (nI R.1.1.2.1), .int (nI R.1.1.2.2), .int (nI R.1.2.1.1), .int (nI R.1.2.1.2.1), .int (nI R.1.2.1.2.2), .int (nI R.1.2.2.1), .int (nI R.1.2.2.2.1), .int R.1.2.2.2.2]) := by rw [eσ_127]; exact gs_ku (gs_ne y4 y12 (by simp)) y4
                  have hc_133 : σ_127 ho = some (gs_qa X 3 3 fH) := by rw [eσ_127]; exact gs_ku (gs_ne y5 y12 (by simp)) y5
                  have hc_134 : σ_127 ck = some (gs_qa X 3 6 fC) := by rw [eσ_127]; exact gs_ku (gs_ne y6 y12 (by simp)) y6
                  have hc_135 : σ_127 tu = some (gs_ob 6 [.ref ac, .ref ai, .ref ab, .int (nI L.length)]) := by rw [eσ_127]; exact gs_ku (gs_ne y7 y12 (by simp)) y7
                  have hc_136 : σ_127 ac = some (gs_ia X 301 cs) := by rw [eσ_127]; exact gs_ku (gs_ne y8 y12 (by simp)) y8
                  have hc_137 : σ_127 la = some (gs_ob 6 [.ref lc, .ref li, .ref lb, .int (nI Lt.length)]) := by rw [eσ_127]; exact gs_ku (gs_ne y9 y12 (by simp)) y9
                  have hc_138 : σ_127 lc = some (gs_ia X 301 ds) := by rw [eσ_127]; exact gs_ku (gs_ne y10 y12 (by simp)) y10
                  have hc_139 : σ_127 ma = some (gs_ob 3 [.ref tu, .ref va]) := by rw [eσ_127]; exact gs_ku (gs_ne y11 y12 (by simp)) y11
                  have hc_140 : σ_127 cm = some (gs_ob 6 [.ref mc, .ref mi, .ref mb, .int (nI C1.length)]) := by rw [eσ_127]; exact gs_ku (gs_ne y13 y12 (by simp)) y13
                  have hc_141 : σ_127 mc = some (gs_ia X 301 a19) := by rw [eσ_127]; exact gs_ku (gs_ne y14 y12 (by simp)) y14
                  have hc_142 : σ_127 mi = some (gs_ia X 301 b19) := by rw [eσ_127]; exact gs_ku (gs_ne y15 y12 (by simp)) y15
                  have hc_143 : σ_127 mb = some (gs_ia X 301 c19) := by rw [eσ_127]; exact gs_ku (gs_ne y16 y12 (by simp)) y16
                  have hc_144 : σ_127 b = some (gs_ob 2 [.int (nI t.1.1), .int (nI t.1.2.1), .int (nI t.1.2.2), .int (nI t.2.1.1), .int (nI t.2.1.2.1), .int (nI t.2.1.2.2), .int (nI t.2.2.1), .int (nI t.2.2.2.1), .int t.2.2.2.2]) := by rw [eσ_127]; exact gs_ku (gs_ne y17 y12 (by simp)) y17
                  have hc_145 : σ_127 so = some (gs_ob 6 [.ref sa, .ref sb9, .ref sd9, .int (nI Ls.length)]) := by rw [eσ_127]; exact gs_ku (gs_ne y18 y12 (by simp)) y18
                  have hc_146 : σ_127 sa = some (gs_ia X 301 ss) := by rw [eσ_127]; exact gs_ku (gs_ne y19 y12 (by simp)) y19
                  have hc_147 : σ_127 va = some (gs_ia X 8 vs2) := by rw [eσ_127]; exact gs_us
                  have eq2 : σ_127 = dvS X σ va vs2 cm mc mi mb C1.length a19 b19 c19 := by rw [eσ_127, eσ1]; exact dvS_va w1 w2 w3 w4
                  refine lv_if_eq (tgt := 229) hx hb d_DE_deriveFrom_188 (by decide) (fun c_188 => ?_) (fun c_188 => ?_)
                  · refine lv_iinc (v := (nI (i + 1))) (lv' := [(9, .int (nI (i + 1))), (8, .int (nI (cof v t + 64 ^ (3 - t.2.2.2.1)))), (6, .ref so), (5, .ref b), (4, .ref a), (0, .ref dv), (1, .int (nI num)), (2, .int (nI d)), (3, .int pv)]) hx hb d_DE_deriveFrom_229 hl (k := 0) rfl (by exact nI_1 _) (by decide) rfl (fun ls hl => ?_)
                    refine lv_goto (tgt := 148) hx hb d_DE_deriveFrom_232 (by decide) ?_
                    have hb9 := bI_0 c_188
                    exact ih (i + 1) _ _ C1 a19 b19 c19 σ_127 (by omega) hv2 hB1 hR1 (hcn.trans (by rw [rngA_cons hlt hx9]; simp only [dvL]; rw [if_neg (by rw [hb9]; decide)])) eq2 (by omega) hc_128 hc_129 hc_130 hc_131 hc_132 hc_133 hc_134 hc_135 hc_136 hc_137 hc_138 hc_139 hc_147 hc_140 hc_141 hc_142 hc_143 hc_144 hc_145 hc_146 H locs hG hS ls (lv_sub hl [0, 1, 2, 3, 4, 5, 6, 7, 8] rfl)
                  · refine lv_aload_n hx hb d_DE_deriveFrom_191 rfl (lv_at hl 5 rfl) ?_
                    refine lv_iload_n hx hb d_DE_deriveFrom_192 rfl (lv_at hl 6 rfl) ?_
                    refine lv_iload_n hx hb d_DE_deriveFrom_193 rfl (lv_at hl 7 rfl) ?_
                    refine lv_iconst (v := nI 1) hx hb d_DE_deriveFrom_194 (by decide) ?_
                    refine lv_iadd hx hb d_DE_deriveFrom_195 ?_
                    refine gs_top (nI_add d 1) ?_
                    refine lv_iload_n hx hb d_DE_deriveFrom_196 rfl (lv_at hl 8 rfl) ?_
                    have rh2 : ∀ i t, R.2.1[i]? = some t → ∃ b, fH i = some b ∧ σ_127 b = some (itE t) := fun i t z => by obtain ⟨b, z1, z2⟩ := rh i t z; exact ⟨b, z1, by rw [eq2, dvS_n (gs_ne z2 q1 (by simp)) (gs_ne z2 m0 (by simp)) (gs_ne z2 m1 (by simp)) (gs_ne z2 m2 (by simp)) (gs_ne z2 m3 (by simp))]; exact z2⟩
                    have rk2 : ∀ i t, R.2.2[i]? = some t → ∃ b, fC i = some b ∧ σ_127 b = some (itE t) := fun i t z => by obtain ⟨b, z1, z2⟩ := rk i t z; exact ⟨b, z1, by rw [eq2, dvS_n (gs_ne z2 q1 (by simp)) (gs_ne z2 m0 (by simp)) (gs_ne z2 m1 (by simp)) (gs_ne z2 m2 (by simp)) (gs_ne z2 m3 (by simp))]; exact z2⟩
                    refine gs_callVi (As := [.int (nI num), .int (nI (d + 1)), .int pv]) (rest := []) ⟨hx, hb, hml, hown, hts⟩ hK hE hz hG hS (ih8 σ_127 vs2 (fit1 t x v1).2 C1 a19 b19 c19 hv2 hB1 hR1 hc_128 hc_129 hc_130 hc_131 hc_132 hc_133 hc_134 hc_135 hc_136 hc_137 hc_138 hc_139 hc_147 hc_140 hc_141 hc_142 hc_143 rh2 rk2) mV_DE_deriveFrom w_176 hc_128 rfl rfl hl.1 rfl (Nat.le_of_ble_eq_true rfl) ⟨(by first | decide | omega | (dsimp only [headSpec]; omega)), (by first | decide | omega | (dsimp only [headSpec]; omega))⟩ ⟨(by first | decide | omega | (dsimp only [headSpec]; omega)), (by first | decide | omega | (dsimp only [headSpec]; omega))⟩ d_DE_deriveFrom_197 (fun r_197 σ_197 H locs hp_197 hG hS => ?_)
                    obtain ⟨vs3, a3, b3, c3, ev3, hv3, hR3, hB3, er3⟩ := hp_197
                    refine gs_top er3 ?_
                    rw [ev3] at hG
                    unfold dvS tu4 at hG
                    obtain ⟨σ_148, eσ_148⟩ : ∃ zq, zq = gs_up σ_127 va (gs_ia X 8 vs3) := ⟨_, rfl⟩
                    have hc_149 : σ_148 dv = some (gs_ob 1 [.ref bk, .ref tu, .ref ma, .ref la, .ref cm, .int x5, .int x6, .int x7]) := by rw [eσ_148]; exact gs_ku (gs_ne hc_128 hc_147 (by simp)) hc_128
                    have hc_150 : σ_148 bk = some (gs_ob 5 [.ref co, .ref ru, .ref sr, .int (nI nr), .int (nI nq), .int sc]) := by rw [eσ_148]; exact gs_ku (gs_ne hc_129 hc_147 (by simp)) hc_129
                    have hc_151 : σ_148 ru = some (gs_qa X 2 24 fR) := by rw [eσ_148]; exact gs_ku (gs_ne hc_130 hc_147 (by simp)) hc_130
                    have hc_152 : σ_148 a = some (gs_ob 4 [.ref hd, .ref ho, .ref ck, .int (nI R.2.1.length), .int (nI R.2.2.length), .ref kf]) := by rw [eσ_148]; exact gs_ku (gs_ne hc_131 hc_147 (by simp)) hc_131
                    have hc_153 : σ_148 hd = some (gs_ob 2 [.int (nI R.1.1.1), .int (nI R.1.1.2.1), .int (nI R.1.1.2.2), .int (nI R.1.2.1.1), .int (nI R.1.2.1.2.1), .int (nI R.1.2.1.2.2), .int (nI R.1.2.2.1), .int (nI R.1.2.2.2.1), .int R.1.2.2.2.2]) := by rw [eσ_148]; exact gs_ku (gs_ne hc_132 hc_147 (by simp)) hc_132
                    have hc_154 : σ_148 ho = some (gs_qa X 3 3 fH) := by rw [eσ_148]; exact gs_ku (gs_ne hc_133 hc_147 (by simp)) hc_133
                    have hc_155 : σ_148 ck = some (gs_qa X 3 6 fC) := by rw [eσ_148]; exact gs_ku (gs_ne hc_134 hc_147 (by simp)) hc_134
                    have hc_156 : σ_148 tu = some (gs_ob 6 [.ref ac, .ref ai, .ref ab, .int (nI L.length)]) := by rw [eσ_148]; exact gs_ku (gs_ne hc_135 hc_147 (by simp)) hc_135
                    have hc_157 : σ_148 ac = some (gs_ia X 301 cs) := by rw [eσ_148]; exact gs_ku (gs_ne hc_136 hc_147 (by simp)) hc_136
                    have hc_158 : σ_148 la = some (gs_ob 6 [.ref lc, .ref li, .ref lb, .int (nI Lt.length)]) := by rw [eσ_148]; exact gs_ku (gs_ne hc_137 hc_147 (by simp)) hc_137
                    have hc_159 : σ_148 lc = some (gs_ia X 301 ds) := by rw [eσ_148]; exact gs_ku (gs_ne hc_138 hc_147 (by simp)) hc_138
                    have hc_160 : σ_148 ma = some (gs_ob 3 [.ref tu, .ref va]) := by rw [eσ_148]; exact gs_ku (gs_ne hc_139 hc_147 (by simp)) hc_139
                    have hc_161 : σ_148 cm = some (gs_ob 6 [.ref mc, .ref mi, .ref mb, .int (nI C1.length)]) := by rw [eσ_148]; exact gs_ku (gs_ne hc_140 hc_147 (by simp)) hc_140
                    have hc_162 : σ_148 mc = some (gs_ia X 301 a19) := by rw [eσ_148]; exact gs_ku (gs_ne hc_141 hc_147 (by simp)) hc_141
                    have hc_163 : σ_148 mi = some (gs_ia X 301 b19) := by rw [eσ_148]; exact gs_ku (gs_ne hc_142 hc_147 (by simp)) hc_142
                    have hc_164 : σ_148 mb = some (gs_ia X 301 c19) := by rw [eσ_148]; exact gs_ku (gs_ne hc_143 hc_147 (by simp)) hc_143
                    have hc_165 : σ_148 b = some (gs_ob 2 [.int (nI t.1.1), .int (nI t.1.2.1), .int (nI t.1.2.2), .int (nI t.2.1.1), .int (nI t.2.1.2.1), .int (nI t.2.1.2.2), .int (nI t.2.2.1), .int (nI t.2.2.2.1), .int t.2.2.2.2]) := by rw [eσ_148]; exact gs_ku (gs_ne hc_144 hc_147 (by simp)) hc_144
                    have hc_166 : σ_148 so = some (gs_ob 6 [.ref sa, .ref sb9, .ref sd9, .int (nI Ls.length)]) := by rw [eσ_148]; exact gs_ku (gs_ne hc_145 hc_147 (by simp)) hc_145
                    have hc_167 : σ_148 sa = some (gs_ia X 301 ss) := by rw [eσ_148]; exact gs_ku (gs_ne hc_146 hc_147 (by simp)) hc_146
                    have hc_168 : σ_148 va = some (gs_ia X 8 vs3) := by rw [eσ_148]; exact gs_us
                    obtain ⟨σ_169, eσ_169⟩ : ∃ zq, zq = gs_up σ_148 mc (gs_ia X 301 a3) := ⟨_, rfl⟩
                    have hc_170 : σ_169 dv = some (gs_ob 1 [.ref bk, .ref tu, .ref ma, .ref la, .ref cm, .int x5, .int x6, .int x7]) := by rw [eσ_169]; exact gs_ku (gs_ne hc_149 hc_162 (by simp)) hc_149
                    have hc_171 : σ_169 bk = some (gs_ob 5 [.ref co, .ref ru, .ref sr, .int (nI nr), .int (nI nq), .int sc]) := by rw [eσ_169]; exact gs_ku (gs_ne hc_150 hc_162 (by simp)) hc_150
                    have hc_172 : σ_169 ru = some (gs_qa X 2 24 fR) := by rw [eσ_169]; exact gs_ku (gs_ne hc_151 hc_162 (by simp)) hc_151
                    have hc_173 : σ_169 a = some (gs_ob 4 [.ref hd, .ref ho, .ref ck, .int (nI R.2.1.length), .int (nI R.2.2.length), .ref kf]) := by rw [eσ_169]; exact gs_ku (gs_ne hc_152 hc_162 (by simp)) hc_152
                    have hc_174 : σ_169 hd = some (gs_ob 2 [.int (nI R.1.1.1), .int (nI R.1.1.2.1), .int (nI R.1.1.2.2), .int (nI R.1.2.1.1), .int (nI R.1.2.1.2.1), .int (nI R.1.2.1.2.2), .int (nI R.1.2.2.1), .int (nI R.1.2.2.2.1), .int R.1.2.2.2.2]) := by rw [eσ_169]; exact gs_ku (gs_ne hc_153 hc_162 (by simp)) hc_153
                    have hc_175 : σ_169 ho = some (gs_qa X 3 3 fH) := by rw [eσ_169]; exact gs_ku (gs_ne hc_154 hc_162 (by simp)) hc_154
                    have hc_176 : σ_169 ck = some (gs_qa X 3 6 fC) := by rw [eσ_169]; exact gs_ku (gs_ne hc_155 hc_162 (by simp)) hc_155
                    have hc_177 : σ_169 tu = some (gs_ob 6 [.ref ac, .ref ai, .ref ab, .int (nI L.length)]) := by rw [eσ_169]; exact gs_ku (gs_ne hc_156 hc_162 (by simp)) hc_156
                    have hc_178 : σ_169 ac = some (gs_ia X 301 cs) := by rw [eσ_169]; exact gs_ku e3 hc_157
                    have hc_179 : σ_169 la = some (gs_ob 6 [.ref lc, .ref li, .ref lb, .int (nI Lt.length)]) := by rw [eσ_169]; exact gs_ku (gs_ne hc_158 hc_162 (by simp)) hc_158
                    have hc_180 : σ_169 lc = some (gs_ia X 301 ds) := by rw [eσ_169]; exact gs_ku e6 hc_159
                    have hc_181 : σ_169 ma = some (gs_ob 3 [.ref tu, .ref va]) := by rw [eσ_169]; exact gs_ku (gs_ne hc_160 hc_162 (by simp)) hc_160
                    have hc_182 : σ_169 cm = some (gs_ob 6 [.ref mc, .ref mi, .ref mb, .int (nI C1.length)]) := by rw [eσ_169]; exact gs_ku (gs_ne hc_161 hc_162 (by simp)) hc_161
                    have hc_183 : σ_169 mi = some (gs_ia X 301 b19) := by rw [eσ_169]; exact gs_ku (Ne.symm n1) hc_163
                    have hc_184 : σ_169 mb = some (gs_ia X 301 c19) := by rw [eσ_169]; exact gs_ku (Ne.symm n2) hc_164
                    have hc_185 : σ_169 b = some (gs_ob 2 [.int (nI t.1.1), .int (nI t.1.2.1), .int (nI t.1.2.2), .int (nI t.2.1.1), .int (nI t.2.1.2.1), .int (nI t.2.1.2.2), .int (nI t.2.2.1), .int (nI t.2.2.2.1), .int t.2.2.2.2]) := by rw [eσ_169]; exact gs_ku (gs_ne hc_165 hc_162 (by simp)) hc_165
                    have hc_186 : σ_169 so = some (gs_ob 6 [.ref sa, .ref sb9, .ref sd9, .int (nI Ls.length)]) := by rw [eσ_169]; exact gs_ku (gs_ne hc_166 hc_162 (by simp)) hc_166
                    have hc_187 : σ_169 sa = some (gs_ia X 301 ss) := by rw [eσ_169]; exact gs_ku o2 hc_167
                    have hc_188 : σ_169 va = some (gs_ia X 8 vs3) := by rw [eσ_169]; exact gs_ku (gs_ne hc_168 hc_162 (by simp)) hc_168
                    have hc_189 : σ_169 mc = some (gs_ia X 301 a3) := by rw [eσ_169]; exact gs_us
                    obtain ⟨σ_190, eσ_190⟩ : ∃ zq, zq = gs_up σ_169 mi (gs_ia X 301 b3) := ⟨_, rfl⟩
                    have hc_191 : σ_190 dv = some (gs_ob 1 [.ref bk, .ref tu, .ref ma, .ref la, .ref cm, .int x5, .int x6, .int x7]) := by rw [eσ_190]; exact gs_ku (gs_ne hc_170 hc_183 (by simp)) hc_170
                    have hc_192 : σ_190 bk = some (gs_ob 5 [.ref co, .ref ru, .ref sr, .int (nI nr), .int (nI nq), .int sc]) := by rw [eσ_190]; exact gs_ku (gs_ne hc_171 hc_183 (by simp)) hc_171
                    have hc_193 : σ_190 ru = some (gs_qa X 2 24 fR) := by rw [eσ_190]; exact gs_ku (gs_ne hc_172 hc_183 (by simp)) hc_172
                    have hc_194 : σ_190 a = some (gs_ob 4 [.ref hd, .ref ho, .ref ck, .int (nI R.2.1.length), .int (nI R.2.2.length), .ref kf]) := by rw [eσ_190]; exact gs_ku (gs_ne hc_173 hc_183 (by simp)) hc_173
                    have hc_195 : σ_190 hd = some (gs_ob 2 [.int (nI R.1.1.1), .int (nI R.1.1.2.1), .int (nI R.1.1.2.2), .int (nI R.1.2.1.1), .int (nI R.1.2.1.2.1), .int (nI R.1.2.1.2.2), .int (nI R.1.2.2.1), .int (nI R.1.2.2.2.1), .int R.1.2.2.2.2]) := by rw [eσ_190]; exact gs_ku (gs_ne hc_174 hc_183 (by simp)) hc_174
                    have hc_196 : σ_190 ho = some (gs_qa X 3 3 fH) := by rw [eσ_190]; exact gs_ku (gs_ne hc_175 hc_183 (by simp)) hc_175
                    have hc_197 : σ_190 ck = some (gs_qa X 3 6 fC) := by rw [eσ_190]; exact gs_ku (gs_ne hc_176 hc_183 (by simp)) hc_176
                    have hc_198 : σ_190 tu = some (gs_ob 6 [.ref ac, .ref ai, .ref ab, .int (nI L.length)]) := by rw [eσ_190]; exact gs_ku (gs_ne hc_177 hc_183 (by simp)) hc_177
                    have hc_199 : σ_190 ac = some (gs_ia X 301 cs) := by rw [eσ_190]; exact gs_ku e4 hc_178
                    have hc_200 : σ_190 la = some (gs_ob 6 [.ref lc, .ref li, .ref lb, .int (nI Lt.length)]) := by rw [eσ_190]; exact gs_ku (gs_ne hc_179 hc_183 (by simp)) hc_179
                    have hc_201 : σ_190 lc = some (gs_ia X 301 ds) := by rw [eσ_190]; exact gs_ku e7 hc_180
                    have hc_202 : σ_190 ma = some (gs_ob 3 [.ref tu, .ref va]) := by rw [eσ_190]; exact gs_ku (gs_ne hc_181 hc_183 (by simp)) hc_181
                    have hc_203 : σ_190 cm = some (gs_ob 6 [.ref mc, .ref mi, .ref mb, .int (nI C1.length)]) := by rw [eσ_190]; exact gs_ku (gs_ne hc_182 hc_183 (by simp)) hc_182
                    have hc_204 : σ_190 mb = some (gs_ia X 301 c19) := by rw [eσ_190]; exact gs_ku (Ne.symm n3) hc_184
                    have hc_205 : σ_190 b = some (gs_ob 2 [.int (nI t.1.1), .int (nI t.1.2.1), .int (nI t.1.2.2), .int (nI t.2.1.1), .int (nI t.2.1.2.1), .int (nI t.2.1.2.2), .int (nI t.2.2.1), .int (nI t.2.2.2.1), .int t.2.2.2.2]) := by rw [eσ_190]; exact gs_ku (gs_ne hc_185 hc_183 (by simp)) hc_185
                    have hc_206 : σ_190 so = some (gs_ob 6 [.ref sa, .ref sb9, .ref sd9, .int (nI Ls.length)]) := by rw [eσ_190]; exact gs_ku (gs_ne hc_186 hc_183 (by simp)) hc_186
                    have hc_207 : σ_190 sa = some (gs_ia X 301 ss) := by rw [eσ_190]; exact gs_ku o3 hc_187
                    have hc_208 : σ_190 va = some (gs_ia X 8 vs3) := by rw [eσ_190]; exact gs_ku (gs_ne hc_188 hc_183 (by simp)) hc_188
                    have hc_209 : σ_190 mc = some (gs_ia X 301 a3) := by rw [eσ_190]; exact gs_ku n1 hc_189
                    have hc_210 : σ_190 mi = some (gs_ia X 301 b3) := by rw [eσ_190]; exact gs_us
                    obtain ⟨σ_211, eσ_211⟩ : ∃ zq, zq = gs_up σ_190 mb (gs_ia X 301 c3) := ⟨_, rfl⟩
                    have hc_212 : σ_211 dv = some (gs_ob 1 [.ref bk, .ref tu, .ref ma, .ref la, .ref cm, .int x5, .int x6, .int x7]) := by rw [eσ_211]; exact gs_ku (gs_ne hc_191 hc_204 (by simp)) hc_191
                    have hc_213 : σ_211 bk = some (gs_ob 5 [.ref co, .ref ru, .ref sr, .int (nI nr), .int (nI nq), .int sc]) := by rw [eσ_211]; exact gs_ku (gs_ne hc_192 hc_204 (by simp)) hc_192
                    have hc_214 : σ_211 ru = some (gs_qa X 2 24 fR) := by rw [eσ_211]; exact gs_ku (gs_ne hc_193 hc_204 (by simp)) hc_193
                    have hc_215 : σ_211 a = some (gs_ob 4 [.ref hd, .ref ho, .ref ck, .int (nI R.2.1.length), .int (nI R.2.2.length), .ref kf]) := by rw [eσ_211]; exact gs_ku (gs_ne hc_194 hc_204 (by simp)) hc_194
                    have hc_216 : σ_211 hd = some (gs_ob 2 [.int (nI R.1.1.1), .int (nI R.1.1.2.1), .int (nI R.1.1.2.2), .int (nI R.1.2.1.1), .int (nI R.1.2.1.2.1), .int (nI R.1.2.1.2.2), .int (nI R.1.2.2.1), .int (nI R.1.2.2.2.1), .int R.1.2.2.2.2]) := by rw [eσ_211]; exact gs_ku (gs_ne hc_195 hc_204 (by simp)) hc_195
                    have hc_217 : σ_211 ho = some (gs_qa X 3 3 fH) := by rw [eσ_211]; exact gs_ku (gs_ne hc_196 hc_204 (by simp)) hc_196
                    have hc_218 : σ_211 ck = some (gs_qa X 3 6 fC) := by rw [eσ_211]; exact gs_ku (gs_ne hc_197 hc_204 (by simp)) hc_197
                    have hc_219 : σ_211 tu = some (gs_ob 6 [.ref ac, .ref ai, .ref ab, .int (nI L.length)]) := by rw [eσ_211]; exact gs_ku (gs_ne hc_198 hc_204 (by simp)) hc_198
                    have hc_220 : σ_211 ac = some (gs_ia X 301 cs) := by rw [eσ_211]; exact gs_ku e5 hc_199
                    have hc_221 : σ_211 la = some (gs_ob 6 [.ref lc, .ref li, .ref lb, .int (nI Lt.length)]) := by rw [eσ_211]; exact gs_ku (gs_ne hc_200 hc_204 (by simp)) hc_200
                    have hc_222 : σ_211 lc = some (gs_ia X 301 ds) := by rw [eσ_211]; exact gs_ku e8 hc_201
                    have hc_223 : σ_211 ma = some (gs_ob 3 [.ref tu, .ref va]) := by rw [eσ_211]; exact gs_ku (gs_ne hc_202 hc_204 (by simp)) hc_202
                    have hc_224 : σ_211 cm = some (gs_ob 6 [.ref mc, .ref mi, .ref mb, .int (nI C1.length)]) := by rw [eσ_211]; exact gs_ku (gs_ne hc_203 hc_204 (by simp)) hc_203
                    have hc_225 : σ_211 b = some (gs_ob 2 [.int (nI t.1.1), .int (nI t.1.2.1), .int (nI t.1.2.2), .int (nI t.2.1.1), .int (nI t.2.1.2.1), .int (nI t.2.1.2.2), .int (nI t.2.2.1), .int (nI t.2.2.2.1), .int t.2.2.2.2]) := by rw [eσ_211]; exact gs_ku (gs_ne hc_205 hc_204 (by simp)) hc_205
                    have hc_226 : σ_211 so = some (gs_ob 6 [.ref sa, .ref sb9, .ref sd9, .int (nI Ls.length)]) := by rw [eσ_211]; exact gs_ku (gs_ne hc_206 hc_204 (by simp)) hc_206
                    have hc_227 : σ_211 sa = some (gs_ia X 301 ss) := by rw [eσ_211]; exact gs_ku o4 hc_207
                    have hc_228 : σ_211 va = some (gs_ia X 8 vs3) := by rw [eσ_211]; exact gs_ku (gs_ne hc_208 hc_204 (by simp)) hc_208
                    have hc_229 : σ_211 mc = some (gs_ia X 301 a3) := by rw [eσ_211]; exact gs_ku n2 hc_209
                    have hc_230 : σ_211 mi = some (gs_ia X 301 b3) := by rw [eσ_211]; exact gs_ku n3 hc_210
                    have hc_231 : σ_211 mb = some (gs_ia X 301 c3) := by rw [eσ_211]; exact gs_us
                    obtain ⟨σ_232, eσ_232⟩ : ∃ zq, zq = gs_up σ_211 cm (gs_ob 6 [.ref mc, .ref mi, .ref mb, .int (nI ((dvF L Lt num R rdy pv k (d + 1) (fit1 t x v1).2 C1).2.2.length))]) := ⟨_, rfl⟩
                    have hc_233 : σ_232 dv = some (gs_ob 1 [.ref bk, .ref tu, .ref ma, .ref la, .ref cm, .int x5, .int x6, .int x7]) := by rw [eσ_232]; exact gs_ku (gs_ne hc_212 hc_224 (by simp)) hc_212
                    have hc_234 : σ_232 bk = some (gs_ob 5 [.ref co, .ref ru, .ref sr, .int (nI nr), .int (nI nq), .int sc]) := by rw [eσ_232]; exact gs_ku (gs_ne hc_213 hc_224 (by simp)) hc_213
                    have hc_235 : σ_232 ru = some (gs_qa X 2 24 fR) := by rw [eσ_232]; exact gs_ku (gs_ne hc_214 hc_224 (by simp)) hc_214
                    have hc_236 : σ_232 a = some (gs_ob 4 [.ref hd, .ref ho, .ref ck, .int (nI R.2.1.length), .int (nI R.2.2.length), .ref kf]) := by rw [eσ_232]; exact gs_ku (gs_ne hc_215 hc_224 (by simp)) hc_215
                    have hc_237 : σ_232 hd = some (gs_ob 2 [.int (nI R.1.1.1), .int (nI R.1.1.2.1), .int (nI R.1.1.2.2), .int (nI R.1.2.1.1), .int (nI R.1.2.1.2.1), .int (nI R.1.2.1.2.2), .int (nI R.1.2.2.1), .int (nI R.1.2.2.2.1), .int R.1.2.2.2.2]) := by rw [eσ_232]; exact gs_ku (gs_ne hc_216 hc_224 (by simp)) hc_216
                    have hc_238 : σ_232 ho = some (gs_qa X 3 3 fH) := by rw [eσ_232]; exact gs_ku (gs_ne hc_217 hc_224 (by simp)) hc_217
                    have hc_239 : σ_232 ck = some (gs_qa X 3 6 fC) := by rw [eσ_232]; exact gs_ku (gs_ne hc_218 hc_224 (by simp)) hc_218
                    have hc_240 : σ_232 tu = some (gs_ob 6 [.ref ac, .ref ai, .ref ab, .int (nI L.length)]) := by rw [eσ_232]; exact gs_ku e1 hc_219
                    have hc_241 : σ_232 ac = some (gs_ia X 301 cs) := by rw [eσ_232]; exact gs_ku (gs_ne hc_220 hc_224 (by simp)) hc_220
                    have hc_242 : σ_232 la = some (gs_ob 6 [.ref lc, .ref li, .ref lb, .int (nI Lt.length)]) := by rw [eσ_232]; exact gs_ku e2 hc_221
                    have hc_243 : σ_232 lc = some (gs_ia X 301 ds) := by rw [eσ_232]; exact gs_ku (gs_ne hc_222 hc_224 (by simp)) hc_222
                    have hc_244 : σ_232 ma = some (gs_ob 3 [.ref tu, .ref va]) := by rw [eσ_232]; exact gs_ku (gs_ne hc_223 hc_224 (by simp)) hc_223
                    have hc_245 : σ_232 b = some (gs_ob 2 [.int (nI t.1.1), .int (nI t.1.2.1), .int (nI t.1.2.2), .int (nI t.2.1.1), .int (nI t.2.1.2.1), .int (nI t.2.1.2.2), .int (nI t.2.2.1), .int (nI t.2.2.2.1), .int t.2.2.2.2]) := by rw [eσ_232]; exact gs_ku (gs_ne hc_225 hc_224 (by simp)) hc_225
                    have hc_246 : σ_232 so = some (gs_ob 6 [.ref sa, .ref sb9, .ref sd9, .int (nI Ls.length)]) := by rw [eσ_232]; exact gs_ku o1 hc_226
                    have hc_247 : σ_232 sa = some (gs_ia X 301 ss) := by rw [eσ_232]; exact gs_ku (gs_ne hc_227 hc_224 (by simp)) hc_227
                    have hc_248 : σ_232 va = some (gs_ia X 8 vs3) := by rw [eσ_232]; exact gs_ku (gs_ne hc_228 hc_224 (by simp)) hc_228
                    have hc_249 : σ_232 mc = some (gs_ia X 301 a3) := by rw [eσ_232]; exact gs_ku (gs_ne hc_229 hc_224 (by simp)) hc_229
                    have hc_250 : σ_232 mi = some (gs_ia X 301 b3) := by rw [eσ_232]; exact gs_ku (gs_ne hc_230 hc_224 (by simp)) hc_230
                    have hc_251 : σ_232 mb = some (gs_ia X 301 c3) := by rw [eσ_232]; exact gs_ku (gs_ne hc_231 hc_224 (by simp)) hc_231
                    have hc_252 : σ_232 cm = some (gs_ob 6 [.ref mc, .ref mi, .ref mb, .int (nI ((dvF L Lt num R rdy pv k (d + 1) (fit1 t x v1).2 C1).2.2.length))]) := by rw [eσ_232]; exact gs_us
                    rw [← eσ_148, ← eσ_169, ← eσ_190, ← eσ_211, ← eσ_232] at hG
                    have eq3 : σ_232 = dvS X σ va vs3 cm mc mi mb (dvF L Lt num R rdy pv k (d + 1) (fit1 t x v1).2 C1).2.2.length a3 b3 c3 := by
                      have z : σ_232 = dvS X σ_127 va vs3 cm mc mi mb (dvF L Lt num R rdy pv k (d + 1) (fit1 t x v1).2 C1).2.2.length a3 b3 c3 := by simp only [*]; rfl
                      rw [z, eq2]; exact dvS_dvS w1 w2 w3 w4
                    have hC3 := hB3.2.1
                    refine lv_istore (lv' := [(10, .int (bI (dvF L Lt num R rdy pv k (d + 1) (fit1 t x v1).2 C1).1)), (9, .int (nI i)), (8, .int (nI (cof v t + 64 ^ (3 - t.2.2.2.1)))), (6, .ref so), (5, .ref b), (4, .ref a), (0, .ref dv), (1, .int (nI num)), (2, .int (nI d)), (3, .int pv)]) hx hb d_DE_deriveFrom_200 hl (by decide) rfl (fun ls hl => ?_)
                    refine lv_iload hx hb d_DE_deriveFrom_202 (lv_at hl 0 rfl) ?_
                    refine lv_if_eq (tgt := 219) hx hb d_DE_deriveFrom_204 (by decide) (fun c_204 => ?_) (fun c_204 => ?_)
                    · refine lv_aload_n hx hb d_DE_deriveFrom_219 rfl (lv_at hl 6 rfl) ?_
                      refine gs_callVi (As := []) (rest := []) ⟨hx, hb, hml, hown, hts⟩ hK hE hz hG hS (c_DE_isTooMuch l X σ_232 dv bk tu ma la cm ac ai ab mc mi mb L.length (dvF L Lt num R rdy pv k (d + 1) (fit1 t x v1).2 C1).2.2.length x5 x6 x7 hc_233 hc_240 hc_252 hn hC3) mV_DE_isTooMuch w_168 hc_233 rfl rfl hl.1 rfl (Nat.le_of_ble_eq_true rfl) ⟨(by first | decide | omega | (dsimp only [headSpec]; omega)), (by first | decide | omega | (dsimp only [headSpec]; omega))⟩ ⟨(by first | decide | omega | (dsimp only [headSpec]; omega)), (by first | decide | omega | (dsimp only [headSpec]; omega))⟩ d_DE_deriveFrom_220 (fun r_220 σ_220 H locs hp_220 hG hS => ?_)
                      rw [hp_220.1] at hG
                      refine gs_top (show r_220 = (bI (decide (300 < L.length + (dvF L Lt num R rdy pv k (d + 1) (fit1 t x v1).2 C1).2.2.length))) from hp_220.2) ?_
                      refine lv_if_eq (tgt := 229) hx hb d_DE_deriveFrom_223 (by decide) (fun c_223 => ?_) (fun c_223 => ?_)
                      · refine lv_iinc (v := (nI (i + 1))) (lv' := [(9, .int (nI (i + 1))), (10, .int (bI (dvF L Lt num R rdy pv k (d + 1) (fit1 t x v1).2 C1).1)), (8, .int (nI (cof v t + 64 ^ (3 - t.2.2.2.1)))), (6, .ref so), (5, .ref b), (4, .ref a), (0, .ref dv), (1, .int (nI num)), (2, .int (nI d)), (3, .int pv)]) hx hb d_DE_deriveFrom_229 hl (k := 1) rfl (by exact nI_1 _) (by decide) rfl (fun ls hl => ?_)
                        refine lv_goto (tgt := 148) hx hb d_DE_deriveFrom_232 (by decide) ?_
                        have hb9 := bI_n0 c_188
                        have hgo : ((dvF L Lt num R rdy pv k (d + 1) (fit1 t x v1).2 C1).1 && decide (rdy ≤ d) || tmc L.length (dvF L Lt num R rdy pv k (d + 1) (fit1 t x v1).2 C1).2.2) = false := by
                          have z1 := bI_0 c_223
                          first
                          | (rw [bI_0 c_204]; simpa [tmc] using z1; done)
                          | (have z2 : ¬ rdy ≤ d := by omega
                             simp only [decide_eq_false z2, Bool.and_false, Bool.false_or]; exact z1)
                        exact ih (i + 1) vs3 _ _ _ _ _ σ_232 (by omega) hv3 hB3 hR3 (hcn.trans (by rw [rngA_cons hlt hx9]; simp only [dvL]; rw [if_pos hb9, if_neg (by rw [hgo]; decide)])) eq3 (by omega) hc_233 hc_234 hc_235 hc_236 hc_237 hc_238 hc_239 hc_240 hc_241 hc_242 hc_243 hc_244 hc_248 hc_252 hc_249 hc_250 hc_251 hc_245 hc_246 hc_247 H locs hG hS ls (lv_sub hl [0, 2, 3, 4, 5, 6, 7, 8, 9] rfl)
                      · refine lv_iload hx hb d_DE_deriveFrom_226 (lv_at hl 0 rfl) ?_
                        have hb9 := bI_n0 c_188
                        have hgo : ((dvF L Lt num R rdy pv k (d + 1) (fit1 t x v1).2 C1).1 && decide (rdy ≤ d) || tmc L.length (dvF L Lt num R rdy pv k (d + 1) (fit1 t x v1).2 C1).2.2) = true := by
                          first
                          | (have z1 := bI_n0 c_204
                             have z2 : rdy ≤ d := by omega
                             rw [z1, decide_eq_true z2]; rfl; done)
                          | (have z1 := bI_n0 c_223
                             have z2 : tmc L.length (dvF L Lt num R rdy pv k (d + 1) (fit1 t x v1).2 C1).2.2 = true := z1
                             rw [z2, Bool.or_true])
                        have hres : dvF L Lt num R rdy pv (k + 1) d v C = dvF L Lt num R rdy pv k (d + 1) (fit1 t x v1).2 C1 := hcn.trans (by rw [rngA_cons hlt hx9]; simp only [dvL]; rw [if_pos hb9, if_pos hgo])
                        exact gs_iret (v := (bI (dvF L Lt num R rdy pv k (d + 1) (fit1 t x v1).2 C1).1)) hx hb hr (bI_nar _) hK hE hz hG hS hlocks (by first | decide | omega | (dsimp only [headSpec]; omega)) (by first | decide | omega | (dsimp only [headSpec]; omega)) (⟨vs3, a3, b3, c3, (by rw [hres]; exact eq3), (by rw [hres]; exact hv3), (by rw [hres]; exact hR3), (by rw [hres]; exact hB3), (by rw [hres])⟩) d_DE_deriveFrom_228
                    · refine lv_iload_n hx hb d_DE_deriveFrom_207 rfl (lv_at hl 8 rfl) ?_
                      refine lv_aload hx hb d_DE_deriveFrom_208 (lv_at hl 5 rfl) ?_
                      refine gs_get hx hb ht hown hK hG k_RU hc_236 0 (by decide) w_494 rfl d_DE_deriveFrom_210 ?_
                      refine gs_get hx hb ht hown hK hG k_IT hc_237 8 (by decide) w_467 rfl d_DE_deriveFrom_213 ?_
                      refine gs_top (show R.1.2.2.2.2 = (nI rdy) from hhr) ?_
                      refine lv_icmp_ge (tgt := 226) hx hb d_DE_deriveFrom_216 (by decide) (fun c_216 => ?_) (fun c_216 => ?_)
                      · have c_216 : rdy ≤ d := (nI_leI (by omega) (by omega)).mp c_216
                        refine lv_iload hx hb d_DE_deriveFrom_226 (lv_at hl 0 rfl) ?_
                        have hb9 := bI_n0 c_188
                        have hgo : ((dvF L Lt num R rdy pv k (d + 1) (fit1 t x v1).2 C1).1 && decide (rdy ≤ d) || tmc L.length (dvF L Lt num R rdy pv k (d + 1) (fit1 t x v1).2 C1).2.2) = true := by
                          first
                          | (have z1 := bI_n0 c_204
                             have z2 : rdy ≤ d := by omega
                             rw [z1, decide_eq_true z2]; rfl; done)
                          | (have z1 := bI_n0 c_223
                             have z2 : tmc L.length (dvF L Lt num R rdy pv k (d + 1) (fit1 t x v1).2 C1).2.2 = true := z1
                             rw [z2, Bool.or_true])
                        have hres : dvF L Lt num R rdy pv (k + 1) d v C = dvF L Lt num R rdy pv k (d + 1) (fit1 t x v1).2 C1 := hcn.trans (by rw [rngA_cons hlt hx9]; simp only [dvL]; rw [if_pos hb9, if_pos hgo])
                        exact gs_iret (v := (bI (dvF L Lt num R rdy pv k (d + 1) (fit1 t x v1).2 C1).1)) hx hb hr (bI_nar _) hK hE hz hG hS hlocks (by first | decide | omega | (dsimp only [headSpec]; omega)) (by first | decide | omega | (dsimp only [headSpec]; omega)) (⟨vs3, a3, b3, c3, (by rw [hres]; exact eq3), (by rw [hres]; exact hv3), (by rw [hres]; exact hR3), (by rw [hres]; exact hB3), (by rw [hres])⟩) d_DE_deriveFrom_228
                      · have c_216 : ¬ rdy ≤ d := mt (nI_leI (by omega) (by omega)).mpr c_216
                        refine lv_aload_n hx hb d_DE_deriveFrom_219 rfl (lv_at hl 6 rfl) ?_
                        refine gs_callVi (As := []) (rest := []) ⟨hx, hb, hml, hown, hts⟩ hK hE hz hG hS (c_DE_isTooMuch l X σ_232 dv bk tu ma la cm ac ai ab mc mi mb L.length (dvF L Lt num R rdy pv k (d + 1) (fit1 t x v1).2 C1).2.2.length x5 x6 x7 hc_233 hc_240 hc_252 hn hC3) mV_DE_isTooMuch w_168 hc_233 rfl rfl hl.1 rfl (Nat.le_of_ble_eq_true rfl) ⟨(by first | decide | omega | (dsimp only [headSpec]; omega)), (by first | decide | omega | (dsimp only [headSpec]; omega))⟩ ⟨(by first | decide | omega | (dsimp only [headSpec]; omega)), (by first | decide | omega | (dsimp only [headSpec]; omega))⟩ d_DE_deriveFrom_220 (fun r_220 σ_220 H locs hp_220 hG hS => ?_)
                        rw [hp_220.1] at hG
                        refine gs_top (show r_220 = (bI (decide (300 < L.length + (dvF L Lt num R rdy pv k (d + 1) (fit1 t x v1).2 C1).2.2.length))) from hp_220.2) ?_
                        refine lv_if_eq (tgt := 229) hx hb d_DE_deriveFrom_223 (by decide) (fun c_223 => ?_) (fun c_223 => ?_)
                        · refine lv_iinc (v := (nI (i + 1))) (lv' := [(9, .int (nI (i + 1))), (10, .int (bI (dvF L Lt num R rdy pv k (d + 1) (fit1 t x v1).2 C1).1)), (8, .int (nI (cof v t + 64 ^ (3 - t.2.2.2.1)))), (6, .ref so), (5, .ref b), (4, .ref a), (0, .ref dv), (1, .int (nI num)), (2, .int (nI d)), (3, .int pv)]) hx hb d_DE_deriveFrom_229 hl (k := 1) rfl (by exact nI_1 _) (by decide) rfl (fun ls hl => ?_)
                          refine lv_goto (tgt := 148) hx hb d_DE_deriveFrom_232 (by decide) ?_
                          have hb9 := bI_n0 c_188
                          have hgo : ((dvF L Lt num R rdy pv k (d + 1) (fit1 t x v1).2 C1).1 && decide (rdy ≤ d) || tmc L.length (dvF L Lt num R rdy pv k (d + 1) (fit1 t x v1).2 C1).2.2) = false := by
                            have z1 := bI_0 c_223
                            first
                            | (rw [bI_0 c_204]; simpa [tmc] using z1; done)
                            | (have z2 : ¬ rdy ≤ d := by omega
                               simp only [decide_eq_false z2, Bool.and_false, Bool.false_or]; exact z1)
                          exact ih (i + 1) vs3 _ _ _ _ _ σ_232 (by omega) hv3 hB3 hR3 (hcn.trans (by rw [rngA_cons hlt hx9]; simp only [dvL]; rw [if_pos hb9, if_neg (by rw [hgo]; decide)])) eq3 (by omega) hc_233 hc_234 hc_235 hc_236 hc_237 hc_238 hc_239 hc_240 hc_241 hc_242 hc_243 hc_244 hc_248 hc_252 hc_249 hc_250 hc_251 hc_245 hc_246 hc_247 H locs hG hS ls (lv_sub hl [0, 2, 3, 4, 5, 6, 7, 8, 9] rfl)
                        · refine lv_iload hx hb d_DE_deriveFrom_226 (lv_at hl 0 rfl) ?_
                          have hb9 := bI_n0 c_188
                          have hgo : ((dvF L Lt num R rdy pv k (d + 1) (fit1 t x v1).2 C1).1 && decide (rdy ≤ d) || tmc L.length (dvF L Lt num R rdy pv k (d + 1) (fit1 t x v1).2 C1).2.2) = true := by
                            first
                            | (have z1 := bI_n0 c_204
                               have z2 : rdy ≤ d := by omega
                               rw [z1, decide_eq_true z2]; rfl; done)
                            | (have z1 := bI_n0 c_223
                               have z2 : tmc L.length (dvF L Lt num R rdy pv k (d + 1) (fit1 t x v1).2 C1).2.2 = true := z1
                               rw [z2, Bool.or_true])
                          have hres : dvF L Lt num R rdy pv (k + 1) d v C = dvF L Lt num R rdy pv k (d + 1) (fit1 t x v1).2 C1 := hcn.trans (by rw [rngA_cons hlt hx9]; simp only [dvL]; rw [if_pos hb9, if_pos hgo])
                          exact gs_iret (v := (bI (dvF L Lt num R rdy pv k (d + 1) (fit1 t x v1).2 C1).1)) hx hb hr (bI_nar _) hK hE hz hG hS hlocks (by first | decide | omega | (dsimp only [headSpec]; omega)) (by first | decide | omega | (dsimp only [headSpec]; omega)) (⟨vs3, a3, b3, c3, (by rw [hres]; exact eq3), (by rw [hres]; exact hv3), (by rw [hres]; exact hR3), (by rw [hres]; exact hB3), (by rw [hres])⟩) d_DE_deriveFrom_228
          refine gs_aald hx hb hK hG 3 r2 rfl (j := d) (by omega) (by omega) d_DE_deriveFrom_97 ?_
          refine gs_topr (show va_rf (fH d) = .ref b by rw [hb1]; rfl) ?_
          refine lv_astore (lv' := [(5, .ref b), (4, .ref a), (0, .ref dv), (1, .int (nI num)), (2, .int (nI d)), (3, .int pv)]) hx hb d_DE_deriveFrom_98 hl (by decide) rfl (fun ls hl => ?_)
          refine lv_iload_n hx hb d_DE_deriveFrom_100 rfl (lv_at hl 4 rfl) ?_
          refine lv_iload_n hx hb d_DE_deriveFrom_101 rfl (lv_at hl 5 rfl) ?_
          refine lv_icmp_ne (tgt := 112) hx hb d_DE_deriveFrom_102 (by decide) (fun c_102 => ?_) (fun c_102 => ?_)
          · refine lv_aload_n hx hb d_DE_deriveFrom_112 rfl (lv_at hl 2 rfl) ?_
            refine gs_get hx hb ht hown hK hG k_DE d0 1 (by decide) w_112 rfl d_DE_deriveFrom_113 ?_
            refine lv_astore (lv' := [(6, .ref tu), (5, .ref b), (4, .ref a), (0, .ref dv), (1, .int (nI num)), (2, .int (nI d)), (3, .int pv)]) hx hb d_DE_deriveFrom_116 hl (by decide) rfl (fun ls hl => ?_)
            refine lv_aload_n hx hb d_DE_deriveFrom_118 rfl (lv_at hl 3 rfl) ?_
            refine gs_get hx hb ht hown hK hG k_DE d0 2 (by decide) w_113 rfl d_DE_deriveFrom_119 ?_
            refine lv_aload hx hb d_DE_deriveFrom_122 (lv_at hl 1 rfl) ?_
            refine gs_callVi (As := [.ref b]) (rest := []) ⟨hx, hb, hml, hown, hts⟩ hK hE hz hG hS (c_MA_codeOf l X σ ma tu va b vs v t q0 q1 hv hb2 htB) mV_MA_codeOf w_180 q0 rfl rfl hl.1 rfl (Nat.le_of_ble_eq_true rfl) ⟨(by first | decide | omega | (dsimp only [headSpec]; omega)), (by first | decide | omega | (dsimp only [headSpec]; omega))⟩ ⟨(by first | decide | omega | (dsimp only [headSpec]; omega)), (by first | decide | omega | (dsimp only [headSpec]; omega))⟩ d_DE_deriveFrom_124 (fun r_124 σ_124 H locs hp_124 hG hS => ?_)
            rw [hp_124.1] at hG
            refine gs_top (show r_124 = (nI (cof v t)) from hp_124.2) ?_
            refine lv_istore (lv' := [(7, .int (nI (cof v t))), (6, .ref tu), (5, .ref b), (4, .ref a), (0, .ref dv), (1, .int (nI num)), (2, .int (nI d)), (3, .int pv)]) hx hb d_DE_deriveFrom_127 hl (by decide) rfl (fun ls hl => ?_)
            refine lv_iload hx hb d_DE_deriveFrom_129 (lv_at hl 0 rfl) ?_
            refine lv_aload hx hb d_DE_deriveFrom_131 (lv_at hl 2 rfl) ?_
            refine gs_callVi (As := []) (rest := [.int (nI (cof v t))]) ⟨hx, hb, hml, hown, hts⟩ hK hE hz hG hS (c_IT_span l X σ b t hb2 hl3) mV_IT_span w_225 hb2 rfl rfl hl.1 rfl (Nat.le_of_ble_eq_true rfl) ⟨(by first | decide | omega | (dsimp only [headSpec]; omega)), (by first | decide | omega | (dsimp only [headSpec]; omega))⟩ ⟨(by first | decide | omega | (dsimp only [headSpec]; omega)), (by first | decide | omega | (dsimp only [headSpec]; omega))⟩ d_DE_deriveFrom_133 (fun r_133 σ_133 H locs hp_133 hG hS => ?_)
            rw [hp_133.1] at hG
            refine gs_top (show r_133 = (nI (64 ^ (3 - t.2.2.2.1))) from hp_133.2) ?_
            refine lv_iadd hx hb d_DE_deriveFrom_136 ?_
            refine gs_top (nI_add (cof v t) (64 ^ (3 - t.2.2.2.1))) ?_
            refine lv_istore (lv' := [(8, .int (nI ((cof v t) + (64 ^ (3 - t.2.2.2.1))))), (7, .int (nI (cof v t))), (6, .ref tu), (5, .ref b), (4, .ref a), (0, .ref dv), (1, .int (nI num)), (2, .int (nI d)), (3, .int pv)]) hx hb d_DE_deriveFrom_137 hl (by decide) rfl (fun ls hl => ?_)
            refine lv_aload hx hb d_DE_deriveFrom_139 (lv_at hl 2 rfl) ?_
            refine lv_iload hx hb d_DE_deriveFrom_141 (lv_at hl 1 rfl) ?_
            refine gs_callVi (As := [.int (nI (cof v t))]) (rest := []) ⟨hx, hb, hml, hown, hts⟩ hK hE hz hG hS (c_TU_placeOf l X σ tu ac ai ab L cs (cof v t) hs hn hcs (by omega) t0 t1) mV_TU_placeOf w_229 t0 rfl rfl hl.1 rfl (Nat.le_of_ble_eq_true rfl) ⟨(by first | decide | omega | (dsimp only [headSpec]; omega)), (by first | decide | omega | (dsimp only [headSpec]; omega))⟩ ⟨(by first | decide | omega | (dsimp only [headSpec]; omega)), (by first | decide | omega | (dsimp only [headSpec]; omega))⟩ d_DE_deriveFrom_143 (fun r_143 σ_143 H locs hp_143 hG hS => ?_)
            rw [hp_143.1] at hG
            refine gs_top (show r_143 = (nI (cb L (cof v t))) from hp_143.2) ?_
            refine lv_istore (lv' := [(9, .int (nI (cb L (cof v t)))), (8, .int (nI ((cof v t) + (64 ^ (3 - t.2.2.2.1))))), (7, .int (nI (cof v t))), (6, .ref tu), (5, .ref b), (4, .ref a), (0, .ref dv), (1, .int (nI num)), (2, .int (nI d)), (3, .int pv)]) hx hb d_DE_deriveFrom_146 hl (by decide) rfl (fun ls hl => ?_)
            have hcl := cb_le L (cof v t)
            exact loop tu ac ai ab L cs e1 e3 e4 e5 hs hn hcs (L.length + 1) (cb L (cof v t)) vs v C a9 b9 c9 σ hcl hv hB hR (dvF_loop hnk hchk ht9 (if_neg c_102)) (dvS_same q1 m0 m1 m2 m3).symm (by omega) d0 k0 k2 r0 r1 r2 r3 t0 t1 l0 l1 q0 q1 m0 m1 m2 m3 hb2 t0 t1 _ _ hG hS ls (lv_sub hl [0, 1, 3, 4, 5, 6, 7, 8, 9] rfl)
          · refine lv_aload_n hx hb d_DE_deriveFrom_105 rfl (lv_at hl 2 rfl) ?_
            refine gs_get hx hb ht hown hK hG k_DE d0 3 (by decide) w_114 rfl d_DE_deriveFrom_106 ?_
            refine lv_goto (tgt := 116) hx hb d_DE_deriveFrom_109 (by decide) ?_
            refine lv_astore (lv' := [(6, .ref la), (5, .ref b), (4, .ref a), (0, .ref dv), (1, .int (nI num)), (2, .int (nI d)), (3, .int pv)]) hx hb d_DE_deriveFrom_116 hl (by decide) rfl (fun ls hl => ?_)
            refine lv_aload_n hx hb d_DE_deriveFrom_118 rfl (lv_at hl 3 rfl) ?_
            refine gs_get hx hb ht hown hK hG k_DE d0 2 (by decide) w_113 rfl d_DE_deriveFrom_119 ?_
            refine lv_aload hx hb d_DE_deriveFrom_122 (lv_at hl 1 rfl) ?_
            refine gs_callVi (As := [.ref b]) (rest := []) ⟨hx, hb, hml, hown, hts⟩ hK hE hz hG hS (c_MA_codeOf l X σ ma tu va b vs v t q0 q1 hv hb2 htB) mV_MA_codeOf w_180 q0 rfl rfl hl.1 rfl (Nat.le_of_ble_eq_true rfl) ⟨(by first | decide | omega | (dsimp only [headSpec]; omega)), (by first | decide | omega | (dsimp only [headSpec]; omega))⟩ ⟨(by first | decide | omega | (dsimp only [headSpec]; omega)), (by first | decide | omega | (dsimp only [headSpec]; omega))⟩ d_DE_deriveFrom_124 (fun r_124 σ_124 H locs hp_124 hG hS => ?_)
            rw [hp_124.1] at hG
            refine gs_top (show r_124 = (nI (cof v t)) from hp_124.2) ?_
            refine lv_istore (lv' := [(7, .int (nI (cof v t))), (6, .ref la), (5, .ref b), (4, .ref a), (0, .ref dv), (1, .int (nI num)), (2, .int (nI d)), (3, .int pv)]) hx hb d_DE_deriveFrom_127 hl (by decide) rfl (fun ls hl => ?_)
            refine lv_iload hx hb d_DE_deriveFrom_129 (lv_at hl 0 rfl) ?_
            refine lv_aload hx hb d_DE_deriveFrom_131 (lv_at hl 2 rfl) ?_
            refine gs_callVi (As := []) (rest := [.int (nI (cof v t))]) ⟨hx, hb, hml, hown, hts⟩ hK hE hz hG hS (c_IT_span l X σ b t hb2 hl3) mV_IT_span w_225 hb2 rfl rfl hl.1 rfl (Nat.le_of_ble_eq_true rfl) ⟨(by first | decide | omega | (dsimp only [headSpec]; omega)), (by first | decide | omega | (dsimp only [headSpec]; omega))⟩ ⟨(by first | decide | omega | (dsimp only [headSpec]; omega)), (by first | decide | omega | (dsimp only [headSpec]; omega))⟩ d_DE_deriveFrom_133 (fun r_133 σ_133 H locs hp_133 hG hS => ?_)
            rw [hp_133.1] at hG
            refine gs_top (show r_133 = (nI (64 ^ (3 - t.2.2.2.1))) from hp_133.2) ?_
            refine lv_iadd hx hb d_DE_deriveFrom_136 ?_
            refine gs_top (nI_add (cof v t) (64 ^ (3 - t.2.2.2.1))) ?_
            refine lv_istore (lv' := [(8, .int (nI ((cof v t) + (64 ^ (3 - t.2.2.2.1))))), (7, .int (nI (cof v t))), (6, .ref la), (5, .ref b), (4, .ref a), (0, .ref dv), (1, .int (nI num)), (2, .int (nI d)), (3, .int pv)]) hx hb d_DE_deriveFrom_137 hl (by decide) rfl (fun ls hl => ?_)
            refine lv_aload hx hb d_DE_deriveFrom_139 (lv_at hl 2 rfl) ?_
            refine lv_iload hx hb d_DE_deriveFrom_141 (lv_at hl 1 rfl) ?_
            refine gs_callVi (As := [.int (nI (cof v t))]) (rest := []) ⟨hx, hb, hml, hown, hts⟩ hK hE hz hG hS (c_TU_placeOf l X σ la lc li lb Lt ds (cof v t) hs2 hn2 hds (by omega) l0 l1) mV_TU_placeOf w_229 l0 rfl rfl hl.1 rfl (Nat.le_of_ble_eq_true rfl) ⟨(by first | decide | omega | (dsimp only [headSpec]; omega)), (by first | decide | omega | (dsimp only [headSpec]; omega))⟩ ⟨(by first | decide | omega | (dsimp only [headSpec]; omega)), (by first | decide | omega | (dsimp only [headSpec]; omega))⟩ d_DE_deriveFrom_143 (fun r_143 σ_143 H locs hp_143 hG hS => ?_)
            rw [hp_143.1] at hG
            refine gs_top (show r_143 = (nI (cb Lt (cof v t))) from hp_143.2) ?_
            refine lv_istore (lv' := [(9, .int (nI (cb Lt (cof v t)))), (8, .int (nI ((cof v t) + (64 ^ (3 - t.2.2.2.1))))), (7, .int (nI (cof v t))), (6, .ref la), (5, .ref b), (4, .ref a), (0, .ref dv), (1, .int (nI num)), (2, .int (nI d)), (3, .int pv)]) hx hb d_DE_deriveFrom_146 hl (by decide) rfl (fun ls hl => ?_)
            have hcl := cb_le Lt (cof v t)
            exact loop la lc li lb Lt ds e2 e6 e7 e8 hs2 hn2 hds (Lt.length + 1) (cb Lt (cof v t)) vs v C a9 b9 c9 σ hcl hv hB hR (dvF_loop hnk hchk ht9 (if_pos c_102)) (dvS_same q1 m0 m1 m2 m3).symm (by omega) d0 k0 k2 r0 r1 r2 r3 t0 t1 l0 l1 q0 q1 m0 m1 m2 m3 hb2 l0 l1 _ _ hG hS ls (lv_sub hl [0, 1, 3, 4, 5, 6, 7, 8, 9] rfl)
        · have c_65 : ¬ d < R.2.1.length := mt (nI_ltI (by omega) (by omega)).mpr c_65
          refine lv_aload_n hx hb d_DE_deriveFrom_68 rfl (lv_at hl 1 rfl) ?_
          refine gs_get hx hb ht hown hK hG k_DE d0 4 (by decide) w_115 rfl d_DE_deriveFrom_69 ?_
          refine lv_aload_n hx hb d_DE_deriveFrom_72 rfl (lv_at hl 1 rfl) ?_
          refine gs_get hx hb ht hown hK hG k_DE d0 2 (by decide) w_113 rfl d_DE_deriveFrom_73 ?_
          refine lv_aload hx hb d_DE_deriveFrom_76 (lv_at hl 0 rfl) ?_
          refine gs_get hx hb ht hown hK hG k_RU r0 0 (by decide) w_494 rfl d_DE_deriveFrom_78 ?_
          refine gs_callVi (As := [.ref hd]) (rest := [.ref cm]) ⟨hx, hb, hml, hown, hts⟩ hK hE hz hG hS (c_MA_codeOf l X σ ma tu va hd vs v R.1 q0 q1 hv r1 g0) mV_MA_codeOf w_180 q0 rfl rfl hl.1 rfl (Nat.le_of_ble_eq_true rfl) ⟨(by first | decide | omega | (dsimp only [headSpec]; omega)), (by first | decide | omega | (dsimp only [headSpec]; omega))⟩ ⟨(by first | decide | omega | (dsimp only [headSpec]; omega)), (by first | decide | omega | (dsimp only [headSpec]; omega))⟩ d_DE_deriveFrom_81 (fun r_81 σ_81 H locs hp_81 hG hS => ?_)
          rw [hp_81.1] at hG
          refine gs_top (show r_81 = (nI (cof v R.1)) from hp_81.2) ?_
          refine lv_iconst (v := nI 0) hx hb d_DE_deriveFrom_84 (by decide) ?_
          refine lv_iload_n hx hb d_DE_deriveFrom_85 rfl (lv_at hl 2 rfl) ?_
          refine gs_callVv (As := [.int (nI (cof v R.1)), .int (nI 0), .int (nI num)]) (rest := []) ⟨hx, hb, hml, hown, hts⟩ hK hE hz hG hS (c_TU_insertG l X σ cm mc mi mb C a9 b9 c9 (cof v R.1) 0 (nI num) n1 n2 n3 hB hR (by omega) m0 m1 m2 m3) mV_TU_insert w_214 m0 rfl rfl hl.1 rfl (Nat.le_of_ble_eq_true rfl) ⟨(by first | decide | omega | (dsimp only [headSpec]; omega)), (by first | decide | omega | (dsimp only [headSpec]; omega))⟩ ⟨(by first | decide | omega | (dsimp only [headSpec]; omega)), (by first | decide | omega | (dsimp only [headSpec]; omega))⟩ d_DE_deriveFrom_86 (fun σ_86 H locs hp_86 hG hS => ?_)
          obtain ⟨a2, b2, c2, ev2, hR2⟩ := hp_86
          rw [ev2] at hG
          refine lv_iconst (v := nI 1) hx hb d_DE_deriveFrom_89 (by decide) ?_
          have hk0 : k = 0 := by omega
          subst hk0
          have hres : dvF L Lt num R rdy pv 0 d v C = (true, v, insG C (cof v R.1, 0, nI num)) := dvF_end (by first | exact Or.inl c_20 | exact Or.inr (bI_0 c_39)) (bI_n0 c_54)
          exact gs_iret (v := (nI 1)) hx hb hr rfl hK hE hz hG hS hlocks (by first | decide | omega | (dsimp only [headSpec]; omega)) (by first | decide | omega | (dsimp only [headSpec]; omega)) (⟨vs, a2, b2, c2, (by rw [hres]; unfold dvS; rw [gs_usame q1]), (by rw [hres]; exact hv), (by rw [hres]; exact hR2), (by rw [hres]; exact tuB_insG hB (by omega) (show (0 : Nat) < 2 ^ 30 by decide)), (by rw [hres]; rfl)⟩) d_DE_deriveFrom_90
      · refine lv_iconst (v := nI 0) hx hb d_DE_deriveFrom_57 (by decide) ?_
        have hres : dvF L Lt num R rdy pv k d v C = (false, v, C) := dvF_no (by first | exact Or.inl c_20 | exact Or.inr (bI_0 c_39)) (bI_0 c_54)
        exact gs_iret (v := (nI 0)) hx hb hr rfl hK hE hz hG hS hlocks (by first | decide | omega | (dsimp only [headSpec]; omega)) (by first | decide | omega | (dsimp only [headSpec]; omega)) (⟨vs, a9, b9, c9, (by rw [hres]; exact (dvS_same q1 m0 m1 m2 m3).symm), (by rw [hres]; exact hv), (by rw [hres]; exact hR), (by rw [hres]; exact hB), (by rw [hres]; rfl)⟩) d_DE_deriveFrom_58
    · refine lv_iconst (v := nI 1) hx hb d_DE_deriveFrom_42 (by decide) ?_
      have hres : dvF L Lt num R rdy pv k d v C = (true, v, C) := dvF_known c_20 (bI_n0 c_39)
      exact gs_iret (v := (nI 1)) hx hb hr rfl hK hE hz hG hS hlocks (by first | decide | omega | (dsimp only [headSpec]; omega)) (by first | decide | omega | (dsimp only [headSpec]; omega)) (⟨vs, a9, b9, c9, (by rw [hres]; exact (dvS_same q1 m0 m1 m2 m3).symm), (by rw [hres]; exact hv), (by rw [hres]; exact hR), (by rw [hres]; exact hB), (by rw [hres]; rfl)⟩) d_DE_deriveFrom_43
theorem c_DE_deriveFrom (l : Launch) (X : gs_X) (dv bk tu ma la cm ac ai ab lc li lb mc mi mb va co ru sr nr nq a hd ho ck kf num : Nat) (x5 x6 x7 sc : Int32) (L Lt : List Nat) (cs ds : Nat → Int32) (R : Rl) (rdy : Nat) (pv : Int32) (fR fH fC : Nat → Option Nat) (hs : L.Pairwise (· ≤ ·)) (hn : L.length ≤ 301) (hcs : ∀ j x, L[j]? = some x → cs j = nI x ∧ x < 2 ^ 30) (hs2 : Lt.Pairwise (· ≤ ·)) (hn2 : Lt.length ≤ 301) (hds : ∀ j x, Lt[j]? = some x → ds j = nI x ∧ x < 2 ^ 30) (hRB : ruB R) (hhr : R.1.2.2.2.2 = nI rdy) (hr3 : rdy ≤ 3) (hnum : num < 24) (hfR : fR num = some a) (e1 : tu ≠ cm) (e2 : la ≠ cm) (e3 : ac ≠ mc) (e4 : ac ≠ mi) (e5 : ac ≠ mb) (e6 : lc ≠ mc) (e7 : lc ≠ mi) (e8 : lc ≠ mb) (n1 : mc ≠ mi) (n2 : mc ≠ mb) (n3 : mi ≠ mb) : ∀ (k d : Nat), d + k = R.2.1.length → DF l X dv bk tu ma la cm ac ai ab lc li lb mc mi mb va co ru sr nr nq a hd ho ck kf num x5 x6 x7 sc L Lt cs ds R rdy pv fR fH fC k d := by
  intro k
  induction k with
  | zero => intro d hd9 σ vs v C a9 b9 c9 hv hB hR d0 k0 k2 r0 r1 r2 r3 t0 t1 l0 l1 q0 q1 m0 m1 m2 m3 rh rk; exact c_DE_deriveFrom_step l X σ dv bk tu ma la cm ac ai ab lc li lb mc mi mb va co ru sr nr nq a hd ho ck kf num x5 x6 x7 sc L Lt cs ds R rdy pv fR fH fC 0 d vs v C a9 b9 c9 hs hn hcs hs2 hn2 hds hRB hhr hr3 hnum hfR e1 e2 e3 e4 e5 e6 e7 e8 n1 n2 n3 hd9 (fun z => absurd z (by decide)) hv hB hR d0 k0 k2 r0 r1 r2 r3 t0 t1 l0 l1 q0 q1 m0 m1 m2 m3 rh rk
  | succ k ih => intro d hd9 σ vs v C a9 b9 c9 hv hB hR d0 k0 k2 r0 r1 r2 r3 t0 t1 l0 l1 q0 q1 m0 m1 m2 m3 rh rk; exact c_DE_deriveFrom_step l X σ dv bk tu ma la cm ac ai ab lc li lb mc mi mb va co ru sr nr nq a hd ho ck kf num x5 x6 x7 sc L Lt cs ds R rdy pv fR fH fC (k + 1) d vs v C a9 b9 c9 hs hn hcs hs2 hn2 hds hRB hhr hr3 hnum hfR e1 e2 e3 e4 e5 e6 e7 e8 n1 n2 n3 hd9 (fun _ => ih (d + 1) (by omega)) hv hB hR d0 k0 k2 r0 r1 r2 r3 t0 t1 l0 l1 q0 q1 m0 m1 m2 m3 rh rk
