set_option maxHeartbeats 4000000 in
set_option maxRecDepth 100000 in
/-- the reference: tries -/
theorem c_MO_tries (l : Launch) (X : gs_X) (σ : gs_St) (mo : Nat) (A Z : Nat → Nat) (f2 f8 f9 f10 f11 f18 f19 f20 f21 f22 f23 f24 f28 f29 f30 : Nat → Int32) (g g3 : Nat → Int64) (T : List MT) (s0 : FS) (rc nr : Nat) (cw : Nat → Nat) (q : Nat) (R : MR) (fd : Bool)
    (m0 : σ mo = some (moE A Z)) (hNN : (aM mo A).Nodup) (m2 : σ (A 2) = some (gs_ia X 12 f2)) (m12 : σ (A 12) = some (gs_la X 49152 g)) (m18 : σ (A 18) = some (gs_ia X 25 f18)) (m19 : σ (A 19) = some (gs_ia X 75 f19)) (m20 : σ (A 20) = some (gs_ia X 25 f20)) (m21 : σ (A 21) = some (gs_ia X 150 f21)) (m22 : σ (A 22) = some (gs_ia X 150 f22)) (m23 : σ (A 23) = some (gs_ia X 450 f23)) (m8 : σ (A 8) = some (gs_ia X 320 f8)) (m9 : σ (A 9) = some (gs_ia X 320 f9)) (m10 : σ (A 10) = some (gs_ia X 320 f10)) (m11 : σ (A 11) = some (gs_ia X 320 f11)) (m13 : σ (A 13) = some (gs_la X 49152 g3)) (m24 : σ (A 24) = some (gs_ia X 8 f24)) (m28 : σ (A 28) = some (gs_ia X 3 f28)) (m29 : σ (A 29) = some (gs_ia X 3 f29)) (m30 : σ (A 30) = some (gs_ia X 3 f30)) (z7 : Z 7 = T.length) (z14 : fd = true → Z 14 = s0.1.length) (z15 : fd = true → Z 15 = s0.2.1.toNat) (z27 : Z 27 = s0.2.2) (z26 : Z 26 = rc) (hT0 : tpOK (T ++ s0.1) f8 f9 f10 f11) (hTB : tpB T) (hbi : bO g (tcs T)) (hb3 : bO g3 (tcs s0.1)) (hTN : T.length + s0.1.length ≤ 300) (hcw : ∀ r, r < nr → f2 r = nI (cw r) ∧ 1 ≤ cw r ∧ cw r ≤ 3) (hnr : nr ≤ 12) (hR : rAt f18 f19 f20 f21 f22 f23 q R) (hRB : mrB nr R) (hq : q < 25) (hsf : sfJ R 3 = true) (hwf : ∀ y ∈ R.2, y.1 = 0 → ∀ j, cw y.2.1 ≤ j → j < 3 → t3 y.2.2 j < 64) : gs_Mv l X y_MO_tries b_MO_tries 6 ({ frames := 3, cells := 0, slots := 0, locals := 74 }) σ [.ref mo, .int (nI q), .int (bI fd)] (fun σ' => ∃ ov' f28' f29' f30', trS X σ σ' mo A Z T fd ov' (trM cw T rc q R fd (hls R) (fun _ => none) s0) f28' f29' f30') := by
  refine Met.ofW (cc := b_MO_tries) (maxL := 6) (ret := none) (by decide) rfl ?_
  intro p e s m args below meth c s₁ B₀ hml hv
  obtain ⟨rfl, hK, hG, hz, hE⟩ := hv
  have hx := B₀.exec
  have hb := B₀.bytes
  have hr := B₀.returns
  have hts := atoms_spec (ws := gs_ws y_MO_tries b_MO_tries 6 none) B₀.pre
  have ht : ∀ w ∈ gs_w, w.before _ s = true := fun w h => hts w (List.mem_cons_of_mem _ h)
  have hown : s.vm.findClass R_MO = some m.cls := findClass_of_methodNamed B₀.named
  have hlocks := B₀.notSynchronized
  have hA : ∀ q : Nat, s.heap.size ≤ q → gs_A X q := fun q h => Nat.le_trans hz h
  have hS : va_S (gs_A X) s.heap s.heap [] := va_S.rf
  have hl := lv_entry ([.ref mo, .int (nI q), .int (bI fd)]) (n := 6) (Nat.le_of_ble_eq_true rfl)
  rw [lg_entry_eq]
  generalize (lg_sl ([.ref mo, .int (nI q), .int (bI fd)]) ++ List.replicate (6 - (lg_sl ([.ref mo, .int (nI q), .int (bI fd)])).length) Slot.unset).toArray = ls at hl ⊢
  have hl : lv_has ls 6 [(0, .ref mo), (1, .int (nI q)), (2, .int (bI fd))] := hl
  have hN := hN1 hNN
  have fr0 : frm [mo, A 8, A 9, A 10, A 11, A 13, A 24, A 28, A 29, A 30] σ σ := frm.rf
  have hTl := hTB.1
  have hRl := hRB.2.2.1
  have hRh : hl0 R ≤ 3 := hRB.2.2.2.1
  have hRk : ∀ x ∈ R.2, x.1 ≤ 3 := fun x hx => (hRB.2.2.2.2 x hx).1
  have lev : ∀ (h28 : Nat → Int32), hpO h28 q R (hls R) → ∀ (hs : List MI) (d : Nat), hls R = (hls R).take d ++ hs → d + hs.length = hl0 R → ∀ (ov ovk : OV) (bk : Nat) (s9 : FS) (g29 g30 : Nat → Int32), (∀ y ∈ R.2, y.1 = 0 → y ∈ hs ∨ alB ov y.2.2) → (hs ≠ [] → g29 d = nI 0) → ((d = 0 ∧ ovk = ov) ∨ ∃ e9, d = e9 + 1 ∧ g30 e9 = nI bk ∧ bk < 256 ∧ frO bk ov = ovk) → (∀ (h29 h30 : Nat → Int32) (σ1 : gs_St) (dv : Int32), dv + 1 = nI d → (∀ k, k < d → h29 k = g29 k) → (∀ k, k < d → h30 k = g30 k) → trS X σ σ1 mo A Z T fd ovk (trM cw T rc q R fd hs ov s9) h28 h29 h30 → ∀ (H : Heap) (locs : List Loc), gs_H X σ1 H → va_S (gs_A X) s.heap H locs → ∀ ls, lv_has ls 6 [(4, .int dv), (3, .int (nI (hl0 R))), (2, .int (bI fd)), (1, .int (nI q)), (0, .ref mo)] → W p l e ({ frames := 3, cells := 0, slots := 0, locals := 74 } : Room) s m ([.ref mo, .int (nI q), .int (bI fd)] : List Value).toArray below meth c H locs 0 0 (MQ below (va_Qv (fun σ' => ∃ ov' f28' f29' f30', trS X σ σ' mo A Z T fd ov' (trM cw T rc q R fd (hls R) (fun _ => none) s0) f28' f29' f30') (gs_U X) (gs_A X)) ([.ref mo, .int (nI q), .int (bI fd)] : List Value).toArray s 0 0 (gs_A X)) (F0 m 84 ls [])) → ∀ (σ1 : gs_St), trS X σ σ1 mo A Z T fd ov s9 h28 g29 g30 → ∀ (H : Heap) (locs : List Loc), gs_H X σ1 H → va_S (gs_A X) s.heap H locs → ∀ ls, lv_has ls 6 [(4, .int (nI d)), (3, .int (nI (hl0 R))), (2, .int (bI fd)), (1, .int (nI q)), (0, .ref mo)] → W p l e ({ frames := 3, cells := 0, slots := 0, locals := 74 } : Room) s m ([.ref mo, .int (nI q), .int (bI fd)] : List Value).toArray below meth c H locs 0 0 (MQ below (va_Qv (fun σ' => ∃ ov' f28' f29' f30', trS X σ σ' mo A Z T fd ov' (trM cw T rc q R fd (hls R) (fun _ => none) s0) f28' f29' f30') (gs_U X) (gs_A X)) ([.ref mo, .int (nI q), .int (bI fd)] : List Value).toArray s 0 0 (gs_A X)) (F0 m 84 ls []) := by
    intro h28 hh28 hs
    induction hs with
    | nil =>
      intro d hcut hdn ov ovk bk s9 g29 g30 hbo h290 hdk hKK σ1 hS9 H locs hG hS ls hl
      have kx : ∀ (h29 h30 : Nat → Int32) (σ1 : gs_St) (s8 : FS), s8 = trM cw T rc q R fd [] ov s9 → (∀ k, k < d → h29 k = g29 k) → (∀ k, k < d → h30 k = g30 k) → trS X σ σ1 mo A Z T fd ov s8 h28 h29 h30 → ∀ (H : Heap) (locs : List Loc), gs_H X σ1 H → va_S (gs_A X) s.heap H locs → ∀ ls, lv_has ls 6 [(5, .int (nI 0)), (4, .int (nI d)), (3, .int (nI (hl0 R))), (2, .int (bI fd)), (1, .int (nI q)), (0, .ref mo)] → W p l e ({ frames := 3, cells := 0, slots := 0, locals := 74 } : Room) s m ([.ref mo, .int (nI q), .int (bI fd)] : List Value).toArray below meth c H locs 0 0 (MQ below (va_Qv (fun σ' => ∃ ov' f28' f29' f30', trS X σ σ' mo A Z T fd ov' (trM cw T rc q R fd (hls R) (fun _ => none) s0) f28' f29' f30') (gs_U X) (gs_A X)) ([.ref mo, .int (nI q), .int (bI fd)] : List Value).toArray s 0 0 (gs_A X)) (F0 m 144 ls []) := by
        intro h29 h30 σ1 s8 es8 k29 k30 hS9 H locs hG hS ls hl
        subst es8
        rcases hdk with ⟨ed, eo⟩ | ⟨e9, ed, eb, hbk, efr⟩
        · subst ed
          subst eo
          refine lv_iload hx hb d_MO_tries_144 (lv_at hl 1 rfl) ?_
          refine lv_iload hx hb d_MO_tries_146 (lv_at hl 0 rfl) ?_
          refine lv_if_eq (tgt := 155) hx hb d_MO_tries_148 (by decide) (fun c_148 => ?_) (fun c_148 => ?_)
          · have c_148 : 0 = 0 := gs_z (by omega) c_148
            refine lv_iconst (v := -1) hx hb d_MO_tries_155 (by decide) ?_
            refine lv_iadd hx hb d_MO_tries_156 ?_
            refine lv_topi (fun v_1 ev_1 => ?_)
            refine lv_istore (lv' := [(4, .int v_1), (5, .int (nI 0)), (3, .int (nI (hl0 R))), (2, .int (bI fd)), (1, .int (nI q)), (0, .ref mo)]) hx hb d_MO_tries_157 hl (by decide) rfl (fun ls hl => ?_)
            refine lv_iload hx hb d_MO_tries_159 (lv_at hl 1 rfl) ?_
            refine lv_if_eq (tgt := 178) hx hb d_MO_tries_161 (by decide) (fun c_161 => ?_) (fun c_161 => ?_)
            · have c_161 : 0 = 0 := gs_z (by omega) c_161
              refine lv_iload hx hb d_MO_tries_178 (lv_at hl 1 rfl) ?_
              refine lv_if_ne (tgt := 199) hx hb d_MO_tries_180 (by decide) (fun c_180 => ?_) (fun c_180 => ?_)
              · exact absurd c_180 (by decide)
              · have c_180 : 0 = 0 := gs_z (by omega) c_180
                refine lv_iload hx hb d_MO_tries_183 (lv_at hl 0 rfl) ?_
                refine lv_if_lt (tgt := 199) hx hb d_MO_tries_185 (by decide) (fun c_185 => ?_) (fun c_185 => ?_)
                · refine lv_goto (tgt := 84) hx hb d_MO_tries_199 (by decide) ?_
                  exact hKK h29 h30 σ1 v_1 (by rw [ev_1]; decide) k29 k30 hS9 H locs hG hS ls (lv_sub hl [0, 2, 3, 4, 5] rfl)
                · exact absurd (by rw [ev_1]; decide) c_185
            · exact absurd c_161 (by decide)
          · exact absurd c_148 (by decide)
        · subst ed
          have k30e := k30 e9 (by omega)
          obtain ⟨Z1, a8, a9, a10, a11, a24, b3, y_mo, y14, y15, y27, yz, y_8, y_9, y_10, y_11, y_13, y_24, y_28, y_29, y_30, yT, yb, yTN, yv, yfr⟩ := hS9
          have x_2 : σ1 (A 2) = some (gs_ia X 12 f2) := kp hNN [0, 5, 6, 7, 8, 10, 17, 18, 19, 20] yfr 1 (by decide) (by decide) (by decide) rfl m2
          have x_12 : σ1 (A 12) = some (gs_la X 49152 g) := kp hNN [0, 5, 6, 7, 8, 10, 17, 18, 19, 20] yfr 9 (by decide) (by decide) (by decide) rfl m12
          have x_18 : σ1 (A 18) = some (gs_ia X 25 f18) := kp hNN [0, 5, 6, 7, 8, 10, 17, 18, 19, 20] yfr 11 (by decide) (by decide) (by decide) rfl m18
          have x_19 : σ1 (A 19) = some (gs_ia X 75 f19) := kp hNN [0, 5, 6, 7, 8, 10, 17, 18, 19, 20] yfr 12 (by decide) (by decide) (by decide) rfl m19
          have x_20 : σ1 (A 20) = some (gs_ia X 25 f20) := kp hNN [0, 5, 6, 7, 8, 10, 17, 18, 19, 20] yfr 13 (by decide) (by decide) (by decide) rfl m20
          have x_21 : σ1 (A 21) = some (gs_ia X 150 f21) := kp hNN [0, 5, 6, 7, 8, 10, 17, 18, 19, 20] yfr 14 (by decide) (by decide) (by decide) rfl m21
          have x_22 : σ1 (A 22) = some (gs_ia X 150 f22) := kp hNN [0, 5, 6, 7, 8, 10, 17, 18, 19, 20] yfr 15 (by decide) (by decide) (by decide) rfl m22
          have x_23 : σ1 (A 23) = some (gs_ia X 450 f23) := kp hNN [0, 5, 6, 7, 8, 10, 17, 18, 19, 20] yfr 16 (by decide) (by decide) (by decide) rfl m23
          refine lv_iload hx hb d_MO_tries_144 (lv_at hl 1 rfl) ?_
          refine lv_iload hx hb d_MO_tries_146 (lv_at hl 0 rfl) ?_
          refine lv_if_eq (tgt := 155) hx hb d_MO_tries_148 (by decide) (fun c_148 => ?_) (fun c_148 => ?_)
          · have c_148 : 0 = 0 := gs_z (by omega) c_148
            refine lv_iconst (v := -1) hx hb d_MO_tries_155 (by decide) ?_
            refine lv_iadd hx hb d_MO_tries_156 ?_
            refine gs_top (show ((nI (e9 + 1)) + (-1)) = (nI e9) from (by show nI (e9 + 1) + -1 = nI e9; exact pk_m1 e9)) ?_
            refine lv_istore (lv' := [(4, .int (nI e9)), (5, .int (nI 0)), (3, .int (nI (hl0 R))), (2, .int (bI fd)), (1, .int (nI q)), (0, .ref mo)]) hx hb d_MO_tries_157 hl (by decide) rfl (fun ls hl => ?_)
            refine lv_iload hx hb d_MO_tries_159 (lv_at hl 1 rfl) ?_
            refine lv_if_eq (tgt := 178) hx hb d_MO_tries_161 (by decide) (fun c_161 => ?_) (fun c_161 => ?_)
            · have c_161 : 0 = 0 := gs_z (by omega) c_161
              refine lv_iload hx hb d_MO_tries_178 (lv_at hl 1 rfl) ?_
              refine lv_if_ne (tgt := 199) hx hb d_MO_tries_180 (by decide) (fun c_180 => ?_) (fun c_180 => ?_)
              · exact absurd c_180 (by decide)
              · have c_180 : 0 = 0 := gs_z (by omega) c_180
                refine lv_iload hx hb d_MO_tries_183 (lv_at hl 0 rfl) ?_
                refine lv_if_lt (tgt := 199) hx hb d_MO_tries_185 (by decide) (fun c_185 => ?_) (fun c_185 => ?_)
                · exact absurd c_185 (nI_pos (by omega))
                  
                · refine lv_aload_n hx hb d_MO_tries_188 rfl (lv_at hl 5 rfl) ?_
                  refine lv_aload_n hx hb d_MO_tries_189 rfl (lv_at hl 5 rfl) ?_
                  refine gs_get (v := .ref (A 30)) hx hb ht hown hK hG k_MO y_mo 30 (by decide) w_692 rfl d_MO_tries_190 ?_
                  refine lv_iload hx hb d_MO_tries_193 (lv_at hl 0 rfl) ?_
                  refine gs_iald hx hb hK hG y_30 (j := e9) (by omega) (by omega) d_MO_tries_195 ?_
                  refine gs_top (show (h30 e9) = (nI bk) from k30e.trans eb) ?_
                  refine gs_callVv (As := [.int (nI bk)]) (rest := []) ⟨hx, hb, hml, hown, hts⟩ hK hE hz hG hS (c_MO_frees l X σ1 mo A Z1 a24 ov bk y_mo y_24 yv hbk) mV_MO_frees w_856 y_mo rfl rfl hl.1 rfl (Nat.le_of_ble_eq_true rfl) ⟨(by first | decide | omega | (dsimp only [headSpec]; omega)), (by first | decide | omega | (dsimp only [headSpec]; omega))⟩ ⟨(by first | decide | omega | (dsimp only [headSpec]; omega)), (by first | decide | omega | (dsimp only [headSpec]; omega))⟩ d_MO_tries_196 (fun σ_196 H locs hp_196 hG hS => ?_)
                  rw [hp_196] at hG
                  have hG : gs_H X (gs_up σ1 (A 24) (gs_ia X 8 (frF a24 bk 8))) H := hG
                  obtain ⟨σ_1, eσ_1⟩ : ∃ zq, zq = gs_up σ1 (A 24) (gs_ia X 8 (frF a24 bk 8)) := ⟨_, rfl⟩
                  rw [← eσ_1] at hG
                  have hc_2 : σ_1 (A 2) = some (gs_ia X 12 f2) := by rw [eσ_1]; exact gs_ku (ndp hN 0 16 (by decide) rfl rfl) x_2
                  have hc_3 : σ_1 (A 12) = some (gs_la X 49152 g) := by rw [eσ_1]; exact gs_ku (ndp hN 8 16 (by decide) rfl rfl) x_12
                  have hc_4 : σ_1 (A 18) = some (gs_ia X 25 f18) := by rw [eσ_1]; exact gs_ku (ndp hN 10 16 (by decide) rfl rfl) x_18
                  have hc_5 : σ_1 (A 19) = some (gs_ia X 75 f19) := by rw [eσ_1]; exact gs_ku (ndp hN 11 16 (by decide) rfl rfl) x_19
                  have hc_6 : σ_1 (A 20) = some (gs_ia X 25 f20) := by rw [eσ_1]; exact gs_ku (ndp hN 12 16 (by decide) rfl rfl) x_20
                  have hc_7 : σ_1 (A 21) = some (gs_ia X 150 f21) := by rw [eσ_1]; exact gs_ku (ndp hN 13 16 (by decide) rfl rfl) x_21
                  have hc_8 : σ_1 (A 22) = some (gs_ia X 150 f22) := by rw [eσ_1]; exact gs_ku (ndp hN 14 16 (by decide) rfl rfl) x_22
                  have hc_9 : σ_1 (A 23) = some (gs_ia X 450 f23) := by rw [eσ_1]; exact gs_ku (ndp hN 15 16 (by decide) rfl rfl) x_23
                  have hc_10 : σ_1 mo = some (moE A Z1) := by rw [eσ_1]; exact gs_ku (gs_ne y_mo y_24 (by simp)) y_mo
                  have hc_11 : σ_1 (A 8) = some (gs_ia X 320 a8) := by rw [eσ_1]; exact gs_ku (ndp hN 4 16 (by decide) rfl rfl) y_8
                  have hc_12 : σ_1 (A 9) = some (gs_ia X 320 a9) := by rw [eσ_1]; exact gs_ku (ndp hN 5 16 (by decide) rfl rfl) y_9
                  have hc_13 : σ_1 (A 10) = some (gs_ia X 320 a10) := by rw [eσ_1]; exact gs_ku (ndp hN 6 16 (by decide) rfl rfl) y_10
                  have hc_14 : σ_1 (A 11) = some (gs_ia X 320 a11) := by rw [eσ_1]; exact gs_ku (ndp hN 7 16 (by decide) rfl rfl) y_11
                  have hc_15 : σ_1 (A 13) = some (gs_la X 49152 b3) := by rw [eσ_1]; exact gs_ku (ndp hN 9 16 (by decide) rfl rfl) y_13
                  have hc_16 : σ_1 (A 28) = some (gs_ia X 3 h28) := by rw [eσ_1]; exact gs_ku (Ne.symm (ndp hN 16 17 (by decide) rfl rfl)) y_28
                  have hc_17 : σ_1 (A 29) = some (gs_ia X 3 h29) := by rw [eσ_1]; exact gs_ku (Ne.symm (ndp hN 16 18 (by decide) rfl rfl)) y_29
                  have hc_18 : σ_1 (A 30) = some (gs_ia X 3 h30) := by rw [eσ_1]; exact gs_ku (Ne.symm (ndp hN 16 19 (by decide) rfl rfl)) y_30
                  have hc_19 : σ_1 (A 24) = some (gs_ia X 8 (frF a24 bk 8)) := by rw [eσ_1]; exact gs_us
                  have fr_20 : frm [mo, A 8, A 9, A 10, A 11, A 13, A 24, A 28, A 29, A 30] σ σ_1 := by rw [eσ_1]; exact yfr.up (by simp)
                  refine lv_goto (tgt := 84) hx hb d_MO_tries_199 (by decide) ?_
                  exact hKK h29 h30 σ_1 (nI e9) (nI_1 e9) k29 k30 ⟨Z1, a8, a9, a10, a11, (frF a24 bk 8), b3, hc_10, y14, y15, y27, yz, hc_11, hc_12, hc_13, hc_14, hc_15, hc_19, hc_16, hc_17, hc_18, yT, yb, yTN, (by rw [← efr]; exact vO_fr yv), fr_20⟩ H locs hG hS ls (lv_sub hl [0, 2, 3, 4, 5] rfl)
            · exact absurd c_161 (by decide)
          · exact absurd c_148 (by decide)
      have hdn : d = hl0 R := by simpa using hdn
      obtain ⟨hal1, hal2⟩ := sf_al hsf (fun y hy h0 => (hbo y hy h0).resolve_left (by simp))
      obtain ⟨Z1, a8, a9, a10, a11, a24, b3, y_mo, y14, y15, y27, yz, y_8, y_9, y_10, y_11, y_13, y_24, y_28, y_29, y_30, yT, yb, yTN, yv, yfr⟩ := id hS9
      have x_2 : σ1 (A 2) = some (gs_ia X 12 f2) := kp hNN [0, 5, 6, 7, 8, 10, 17, 18, 19, 20] yfr 1 (by decide) (by decide) (by decide) rfl m2
      have x_12 : σ1 (A 12) = some (gs_la X 49152 g) := kp hNN [0, 5, 6, 7, 8, 10, 17, 18, 19, 20] yfr 9 (by decide) (by decide) (by decide) rfl m12
      have x_18 : σ1 (A 18) = some (gs_ia X 25 f18) := kp hNN [0, 5, 6, 7, 8, 10, 17, 18, 19, 20] yfr 11 (by decide) (by decide) (by decide) rfl m18
      have x_19 : σ1 (A 19) = some (gs_ia X 75 f19) := kp hNN [0, 5, 6, 7, 8, 10, 17, 18, 19, 20] yfr 12 (by decide) (by decide) (by decide) rfl m19
      have x_20 : σ1 (A 20) = some (gs_ia X 25 f20) := kp hNN [0, 5, 6, 7, 8, 10, 17, 18, 19, 20] yfr 13 (by decide) (by decide) (by decide) rfl m20
      have x_21 : σ1 (A 21) = some (gs_ia X 150 f21) := kp hNN [0, 5, 6, 7, 8, 10, 17, 18, 19, 20] yfr 14 (by decide) (by decide) (by decide) rfl m21
      have x_22 : σ1 (A 22) = some (gs_ia X 150 f22) := kp hNN [0, 5, 6, 7, 8, 10, 17, 18, 19, 20] yfr 15 (by decide) (by decide) (by decide) rfl m22
      have x_23 : σ1 (A 23) = some (gs_ia X 450 f23) := kp hNN [0, 5, 6, 7, 8, 10, 17, 18, 19, 20] yfr 16 (by decide) (by decide) (by decide) rfl m23
      refine lv_iload hx hb d_MO_tries_84 (lv_at hl 0 rfl) ?_
      refine lv_if_lt (tgt := 202) hx hb d_MO_tries_86 (by decide) (fun c_86 => ?_) (fun c_86 => ?_)
      · exact absurd c_86 (nI_pos (by omega))
        
      · refine lv_iload hx hb d_MO_tries_89 (lv_at hl 0 rfl) ?_
        refine lv_iload_n hx hb d_MO_tries_91 rfl (lv_at hl 1 rfl) ?_
        refine lv_icmp_ge (tgt := 108) hx hb d_MO_tries_92 (by decide) (fun c_92 => ?_) (fun c_92 => ?_)
        · have c_92 : (hl0 R) ≤ d := (nI_leI (by omega) (by omega)).mp c_92
          refine lv_iconst (v := nI 0) hx hb d_MO_tries_108 (by decide) ?_
          refine lv_istore (lv' := [(5, .int (nI 0)), (4, .int (nI d)), (3, .int (nI (hl0 R))), (2, .int (bI fd)), (1, .int (nI q)), (0, .ref mo)]) hx hb d_MO_tries_109 hl (by decide) rfl (fun ls hl => ?_)
          refine lv_iload hx hb d_MO_tries_111 (lv_at hl 1 rfl) ?_
          refine lv_iload_n hx hb d_MO_tries_113 rfl (lv_at hl 2 rfl) ?_
          refine lv_icmp_ne (tgt := 144) hx hb d_MO_tries_114 (by decide) (fun c_114 => ?_) (fun c_114 => ?_)
          · have c_114 : ¬ d = (hl0 R) := mt (nI_eq (by omega) (by omega)).mpr c_114
            omega
          · have c_114 : d = (hl0 R) :=  (nI_eq (by omega) (by omega)).mp c_114
            refine lv_aload_n hx hb d_MO_tries_117 rfl (lv_at hl 5 rfl) ?_
            refine lv_iload_n hx hb d_MO_tries_118 rfl (lv_at hl 4 rfl) ?_
            refine gs_callVp (As := [.int (nI q)]) (rest := []) ⟨hx, hb, hml, hown, hts⟩ hK hE hz hG hS (c_MO_asked l X σ1 mo A Z1 f18 f19 f20 f21 f22 f23 a24 g ov (tcs T) nr q R y_mo x_12 x_20 x_21 x_22 x_23 y_24 hR hRB hq yv hal2 hbi) ⟨rfl, rfl⟩ mV_MO_asked w_860 y_mo rfl rfl hl.1 rfl (Nat.le_of_ble_eq_true rfl) ⟨(by first | decide | omega | (dsimp only [headSpec]; omega)), (by first | decide | omega | (dsimp only [headSpec]; omega))⟩ ⟨(by first | decide | omega | (dsimp only [headSpec]; omega)), (by first | decide | omega | (dsimp only [headSpec]; omega))⟩ d_MO_tries_119 (fun r_119 hp_119 => ?_)
            refine gs_top (show r_119 = (bI (askO ov (tcs T) R)) from hp_119) ?_
            refine lv_if_eq (tgt := 144) hx hb d_MO_tries_122 (by decide) (fun c_122 => ?_) (fun c_122 => ?_)
            · exact kx g29 g30 σ1 s9 (by show _ = act T rc q R fd ov s9; unfold act; rw [bI_0 c_122]; rfl) (fun _ _ => rfl) (fun _ _ => rfl) hS9 H locs hG hS ls (lv_sub hl [0, 1, 2, 3, 4, 5] rfl)
            · refine lv_aload_n hx hb d_MO_tries_125 rfl (lv_at hl 5 rfl) ?_
              refine lv_dup hx hb d_MO_tries_126 rfl ?_
              refine gs_get (v := .int (nI (Z1 27))) hx hb ht hown hK hG k_MO y_mo 27 (by decide) w_689 rfl d_MO_tries_127 ?_
              refine gs_top (show nI (Z1 27) = nI s9.2.2 from congrArg nI (show Z1 27 = s9.2.2 from y27)) ?_
              refine lv_iconst (v := nI 1) hx hb d_MO_tries_130 (by decide) ?_
              refine lv_iadd hx hb d_MO_tries_131 ?_
              refine gs_top (nI_add s9.2.2 1) ?_
              refine gs_put hx hb ht hown hK hG hS k_MO y_mo 27 (by decide) w_689 rfl rfl rfl (Nat.le_of_ble_eq_true rfl) d_MO_tries_132 (fun H locs hG hS => ?_)
              have hG : gs_H X (gs_up σ1 mo (moE A (va_up Z1 27 (s9.2.2 + 1)))) H := hG
              obtain ⟨σ_1, eσ_1⟩ : ∃ zq, zq = gs_up σ1 mo (moE A (va_up Z1 27 (s9.2.2 + 1))) := ⟨_, rfl⟩
              rw [← eσ_1] at hG
              have hc_2 : σ_1 (A 2) = some (gs_ia X 12 f2) := by rw [eσ_1]; exact gs_ku (gs_ne x_2 y_mo (by simp)) x_2
              have hc_3 : σ_1 (A 12) = some (gs_la X 49152 g) := by rw [eσ_1]; exact gs_ku (gs_ne x_12 y_mo (by simp)) x_12
              have hc_4 : σ_1 (A 18) = some (gs_ia X 25 f18) := by rw [eσ_1]; exact gs_ku (gs_ne x_18 y_mo (by simp)) x_18
              have hc_5 : σ_1 (A 19) = some (gs_ia X 75 f19) := by rw [eσ_1]; exact gs_ku (gs_ne x_19 y_mo (by simp)) x_19
              have hc_6 : σ_1 (A 20) = some (gs_ia X 25 f20) := by rw [eσ_1]; exact gs_ku (gs_ne x_20 y_mo (by simp)) x_20
              have hc_7 : σ_1 (A 21) = some (gs_ia X 150 f21) := by rw [eσ_1]; exact gs_ku (gs_ne x_21 y_mo (by simp)) x_21
              have hc_8 : σ_1 (A 22) = some (gs_ia X 150 f22) := by rw [eσ_1]; exact gs_ku (gs_ne x_22 y_mo (by simp)) x_22
              have hc_9 : σ_1 (A 23) = some (gs_ia X 450 f23) := by rw [eσ_1]; exact gs_ku (gs_ne x_23 y_mo (by simp)) x_23
              have hc_10 : σ_1 (A 8) = some (gs_ia X 320 a8) := by rw [eσ_1]; exact gs_ku (gs_ne y_8 y_mo (by simp)) y_8
              have hc_11 : σ_1 (A 9) = some (gs_ia X 320 a9) := by rw [eσ_1]; exact gs_ku (gs_ne y_9 y_mo (by simp)) y_9
              have hc_12 : σ_1 (A 10) = some (gs_ia X 320 a10) := by rw [eσ_1]; exact gs_ku (gs_ne y_10 y_mo (by simp)) y_10
              have hc_13 : σ_1 (A 11) = some (gs_ia X 320 a11) := by rw [eσ_1]; exact gs_ku (gs_ne y_11 y_mo (by simp)) y_11
              have hc_14 : σ_1 (A 13) = some (gs_la X 49152 b3) := by rw [eσ_1]; exact gs_ku (gs_ne y_13 y_mo (by simp)) y_13
              have hc_15 : σ_1 (A 24) = some (gs_ia X 8 a24) := by rw [eσ_1]; exact gs_ku (gs_ne y_24 y_mo (by simp)) y_24
              have hc_16 : σ_1 (A 28) = some (gs_ia X 3 h28) := by rw [eσ_1]; exact gs_ku (gs_ne y_28 y_mo (by simp)) y_28
              have hc_17 : σ_1 (A 29) = some (gs_ia X 3 g29) := by rw [eσ_1]; exact gs_ku (gs_ne y_29 y_mo (by simp)) y_29
              have hc_18 : σ_1 (A 30) = some (gs_ia X 3 g30) := by rw [eσ_1]; exact gs_ku (gs_ne y_30 y_mo (by simp)) y_30
              have hc_19 : σ_1 mo = some (moE A (va_up Z1 27 (s9.2.2 + 1))) := by rw [eσ_1]; exact gs_us
              have fr_20 : frm [mo, A 8, A 9, A 10, A 11, A 13, A 24, A 28, A 29, A 30] σ σ_1 := by rw [eσ_1]; exact yfr.up (by simp)
              refine lv_iload_n hx hb d_MO_tries_135 rfl (lv_at hl 3 rfl) ?_
              refine lv_if_eq (tgt := 144) hx hb d_MO_tries_136 (by decide) (fun c_136 => ?_) (fun c_136 => ?_)
              · exact kx g29 g30 σ_1 (s9.1, s9.2.1, s9.2.2 + 1) (by show _ = act T rc q R fd ov s9; unfold act; rw [bI_n0 c_122, if_pos rfl, bI_0 c_136]; rfl) (fun _ _ => rfl) (fun _ _ => rfl) ⟨(va_up Z1 27 (s9.2.2 + 1)), a8, a9, a10, a11, a24, b3, hc_19, y14, y15, rfl, (yz.up (by simp)), hc_10, hc_11, hc_12, hc_13, hc_14, hc_15, hc_16, hc_17, hc_18, yT, yb, yTN, yv, fr_20⟩ H locs hG hS ls (lv_sub hl [0, 1, 2, 3, 4, 5] rfl)
              · refine lv_aload_n hx hb d_MO_tries_139 rfl (lv_at hl 5 rfl) ?_
                refine lv_iload_n hx hb d_MO_tries_140 rfl (lv_at hl 4 rfl) ?_
                have hzz : zfr [14, 15, 27] Z (va_up Z1 27 (s9.2.2 + 1)) := yz.up (by simp)
                refine gs_callVv (As := [.int (nI q)]) (rest := []) ⟨hx, hb, hml, hown, hts⟩ hK hE hz hG hS (c_MO_find l X σ_1 mo A (va_up Z1 27 (s9.2.2 + 1)) a8 a9 a10 a11 f18 f19 f20 f21 f22 f23 a24 g b3 T s9.1 s9.2.1 (s9.2.2 + 1) rc nr q R ov hc_19 hN hc_10 hc_11 hc_12 hc_13 hc_3 hc_4 hc_5 hc_15 hc_14 ((yz 7 (by simp)).trans z7) (y14 (bI_n0 c_136)) (y15 (bI_n0 c_136)) ((yz 26 (by simp)).trans z26) yT hbi yb yTN hR hRB hnr hq yv hal1) mV_MO_find w_868 hc_19 rfl rfl hl.1 rfl (Nat.le_of_ble_eq_true rfl) ⟨(by first | decide | omega | (dsimp only [headSpec]; omega)), (by first | decide | omega | (dsimp only [headSpec]; omega))⟩ ⟨(by first | decide | omega | (dsimp only [headSpec]; omega)), (by first | decide | omega | (dsimp only [headSpec]; omega))⟩ d_MO_tries_141 (fun σ_141 H locs hp_141 hG hS => ?_)
                obtain ⟨Z2, n8, n9, n10, n11, n3, q_mo, q14, q15, qz, q_8, q_9, q_10, q_11, q_13, qT, qb, qTN, qfr⟩ := hp_141
                have hc_21 : σ_141 (A 2) = some (gs_ia X 12 f2) := qfr _ _ (nin_cons (gs_ne hc_2 hc_19 (by simp)) (nin_cons (ndp hN 0 4 (by decide) rfl rfl) (nin_cons (ndp hN 0 5 (by decide) rfl rfl) (nin_cons (ndp hN 0 6 (by decide) rfl rfl) (nin_cons (ndp hN 0 7 (by decide) rfl rfl) (nin_cons (ndp hN 0 9 (by decide) rfl rfl) nin_nil)))))) hc_2
                have hc_22 : σ_141 (A 12) = some (gs_la X 49152 g) := qfr _ _ (nin_cons (gs_ne hc_3 hc_19 (by simp)) (nin_cons (Ne.symm (ndp hN 4 8 (by decide) rfl rfl)) (nin_cons (Ne.symm (ndp hN 5 8 (by decide) rfl rfl)) (nin_cons (Ne.symm (ndp hN 6 8 (by decide) rfl rfl)) (nin_cons (Ne.symm (ndp hN 7 8 (by decide) rfl rfl)) (nin_cons (ndp hN 8 9 (by decide) rfl rfl) nin_nil)))))) hc_3
                have hc_23 : σ_141 (A 18) = some (gs_ia X 25 f18) := qfr _ _ (nin_cons (gs_ne hc_4 hc_19 (by simp)) (nin_cons (Ne.symm (ndp hN 4 10 (by decide) rfl rfl)) (nin_cons (Ne.symm (ndp hN 5 10 (by decide) rfl rfl)) (nin_cons (Ne.symm (ndp hN 6 10 (by decide) rfl rfl)) (nin_cons (Ne.symm (ndp hN 7 10 (by decide) rfl rfl)) (nin_cons (Ne.symm (ndp hN 9 10 (by decide) rfl rfl)) nin_nil)))))) hc_4
                have hc_24 : σ_141 (A 19) = some (gs_ia X 75 f19) := qfr _ _ (nin_cons (gs_ne hc_5 hc_19 (by simp)) (nin_cons (Ne.symm (ndp hN 4 11 (by decide) rfl rfl)) (nin_cons (Ne.symm (ndp hN 5 11 (by decide) rfl rfl)) (nin_cons (Ne.symm (ndp hN 6 11 (by decide) rfl rfl)) (nin_cons (Ne.symm (ndp hN 7 11 (by decide) rfl rfl)) (nin_cons (Ne.symm (ndp hN 9 11 (by decide) rfl rfl)) nin_nil)))))) hc_5
                have hc_25 : σ_141 (A 20) = some (gs_ia X 25 f20) := qfr _ _ (nin_cons (gs_ne hc_6 hc_19 (by simp)) (nin_cons (Ne.symm (ndp hN 4 12 (by decide) rfl rfl)) (nin_cons (Ne.symm (ndp hN 5 12 (by decide) rfl rfl)) (nin_cons (Ne.symm (ndp hN 6 12 (by decide) rfl rfl)) (nin_cons (Ne.symm (ndp hN 7 12 (by decide) rfl rfl)) (nin_cons (Ne.symm (ndp hN 9 12 (by decide) rfl rfl)) nin_nil)))))) hc_6
                have hc_26 : σ_141 (A 21) = some (gs_ia X 150 f21) := qfr _ _ (nin_cons (gs_ne hc_7 hc_19 (by simp)) (nin_cons (Ne.symm (ndp hN 4 13 (by decide) rfl rfl)) (nin_cons (Ne.symm (ndp hN 5 13 (by decide) rfl rfl)) (nin_cons (Ne.symm (ndp hN 6 13 (by decide) rfl rfl)) (nin_cons (Ne.symm (ndp hN 7 13 (by decide) rfl rfl)) (nin_cons (Ne.symm (ndp hN 9 13 (by decide) rfl rfl)) nin_nil)))))) hc_7
                have hc_27 : σ_141 (A 22) = some (gs_ia X 150 f22) := qfr _ _ (nin_cons (gs_ne hc_8 hc_19 (by simp)) (nin_cons (Ne.symm (ndp hN 4 14 (by decide) rfl rfl)) (nin_cons (Ne.symm (ndp hN 5 14 (by decide) rfl rfl)) (nin_cons (Ne.symm (ndp hN 6 14 (by decide) rfl rfl)) (nin_cons (Ne.symm (ndp hN 7 14 (by decide) rfl rfl)) (nin_cons (Ne.symm (ndp hN 9 14 (by decide) rfl rfl)) nin_nil)))))) hc_8
                have hc_28 : σ_141 (A 23) = some (gs_ia X 450 f23) := qfr _ _ (nin_cons (gs_ne hc_9 hc_19 (by simp)) (nin_cons (Ne.symm (ndp hN 4 15 (by decide) rfl rfl)) (nin_cons (Ne.symm (ndp hN 5 15 (by decide) rfl rfl)) (nin_cons (Ne.symm (ndp hN 6 15 (by decide) rfl rfl)) (nin_cons (Ne.symm (ndp hN 7 15 (by decide) rfl rfl)) (nin_cons (Ne.symm (ndp hN 9 15 (by decide) rfl rfl)) nin_nil)))))) hc_9
                have hc_29 : σ_141 (A 24) = some (gs_ia X 8 a24) := qfr _ _ (nin_cons (gs_ne hc_15 hc_19 (by simp)) (nin_cons (Ne.symm (ndp hN 4 16 (by decide) rfl rfl)) (nin_cons (Ne.symm (ndp hN 5 16 (by decide) rfl rfl)) (nin_cons (Ne.symm (ndp hN 6 16 (by decide) rfl rfl)) (nin_cons (Ne.symm (ndp hN 7 16 (by decide) rfl rfl)) (nin_cons (Ne.symm (ndp hN 9 16 (by decide) rfl rfl)) nin_nil)))))) hc_15
                have hc_30 : σ_141 (A 28) = some (gs_ia X 3 h28) := qfr _ _ (nin_cons (gs_ne hc_16 hc_19 (by simp)) (nin_cons (Ne.symm (ndp hN 4 17 (by decide) rfl rfl)) (nin_cons (Ne.symm (ndp hN 5 17 (by decide) rfl rfl)) (nin_cons (Ne.symm (ndp hN 6 17 (by decide) rfl rfl)) (nin_cons (Ne.symm (ndp hN 7 17 (by decide) rfl rfl)) (nin_cons (Ne.symm (ndp hN 9 17 (by decide) rfl rfl)) nin_nil)))))) hc_16
                have hc_31 : σ_141 (A 29) = some (gs_ia X 3 g29) := qfr _ _ (nin_cons (gs_ne hc_17 hc_19 (by simp)) (nin_cons (Ne.symm (ndp hN 4 18 (by decide) rfl rfl)) (nin_cons (Ne.symm (ndp hN 5 18 (by decide) rfl rfl)) (nin_cons (Ne.symm (ndp hN 6 18 (by decide) rfl rfl)) (nin_cons (Ne.symm (ndp hN 7 18 (by decide) rfl rfl)) (nin_cons (Ne.symm (ndp hN 9 18 (by decide) rfl rfl)) nin_nil)))))) hc_17
                have hc_32 : σ_141 (A 30) = some (gs_ia X 3 g30) := qfr _ _ (nin_cons (gs_ne hc_18 hc_19 (by simp)) (nin_cons (Ne.symm (ndp hN 4 19 (by decide) rfl rfl)) (nin_cons (Ne.symm (ndp hN 5 19 (by decide) rfl rfl)) (nin_cons (Ne.symm (ndp hN 6 19 (by decide) rfl rfl)) (nin_cons (Ne.symm (ndp hN 7 19 (by decide) rfl rfl)) (nin_cons (Ne.symm (ndp hN 9 19 (by decide) rfl rfl)) nin_nil)))))) hc_18
                have fr_33 : frm [mo, A 8, A 9, A 10, A 11, A 13, A 24, A 28, A 29, A 30] σ σ_141 := fr_20.trans qfr (by simp)
                exact kx g29 g30 σ_141 _ (by show _ = act T rc q R fd ov s9; unfold act; rw [bI_n0 c_122, if_pos rfl, bI_n0 c_136, if_pos rfl]) (fun _ _ => rfl) (fun _ _ => rfl) ⟨Z2, n8, n9, n10, n11, a24, n3, q_mo, (fun _ => q14), (fun _ => q15), ((qz 27 (by simp)).trans (show s9.2.2 + 1 = _ from by unfold fnd1; split; rfl; split <;> rfl)), (hzz.trans qz (by simp)), q_8, q_9, q_10, q_11, q_13, hc_29, hc_30, hc_31, hc_32, qT, qb, qTN, yv, fr_33⟩ H locs hG hS ls (lv_sub hl [0, 1, 2, 3, 4, 5] rfl)
        · have c_92 : ¬ (hl0 R) ≤ d := mt (nI_leI (by omega) (by omega)).mpr c_92
          omega
    | cons x hs ih =>
      intro d hcut hdn ov ovk bk s9 g29 g30 hbo h290 hdk hKK σ1 hS9
      have kx : ∀ (h29 h30 : Nat → Int32) (σ1 : gs_St) (s8 : FS), s8 = trM cw T rc q R fd (x :: hs) ov s9 → (∀ k, k < d → h29 k = g29 k) → (∀ k, k < d → h30 k = g30 k) → trS X σ σ1 mo A Z T fd ov s8 h28 h29 h30 → ∀ (H : Heap) (locs : List Loc), gs_H X σ1 H → va_S (gs_A X) s.heap H locs → ∀ ls, lv_has ls 6 [(5, .int (nI 0)), (4, .int (nI d)), (3, .int (nI (hl0 R))), (2, .int (bI fd)), (1, .int (nI q)), (0, .ref mo)] → W p l e ({ frames := 3, cells := 0, slots := 0, locals := 74 } : Room) s m ([.ref mo, .int (nI q), .int (bI fd)] : List Value).toArray below meth c H locs 0 0 (MQ below (va_Qv (fun σ' => ∃ ov' f28' f29' f30', trS X σ σ' mo A Z T fd ov' (trM cw T rc q R fd (hls R) (fun _ => none) s0) f28' f29' f30') (gs_U X) (gs_A X)) ([.ref mo, .int (nI q), .int (bI fd)] : List Value).toArray s 0 0 (gs_A X)) (F0 m 144 ls []) := by
        intro h29 h30 σ1 s8 es8 k29 k30 hS9 H locs hG hS ls hl
        subst es8
        rcases hdk with ⟨ed, eo⟩ | ⟨e9, ed, eb, hbk, efr⟩
        · subst ed
          subst eo
          refine lv_iload hx hb d_MO_tries_144 (lv_at hl 1 rfl) ?_
          refine lv_iload hx hb d_MO_tries_146 (lv_at hl 0 rfl) ?_
          refine lv_if_eq (tgt := 155) hx hb d_MO_tries_148 (by decide) (fun c_148 => ?_) (fun c_148 => ?_)
          · have c_148 : 0 = 0 := gs_z (by omega) c_148
            refine lv_iconst (v := -1) hx hb d_MO_tries_155 (by decide) ?_
            refine lv_iadd hx hb d_MO_tries_156 ?_
            refine lv_topi (fun v_1 ev_1 => ?_)
            refine lv_istore (lv' := [(4, .int v_1), (5, .int (nI 0)), (3, .int (nI (hl0 R))), (2, .int (bI fd)), (1, .int (nI q)), (0, .ref mo)]) hx hb d_MO_tries_157 hl (by decide) rfl (fun ls hl => ?_)
            refine lv_iload hx hb d_MO_tries_159 (lv_at hl 1 rfl) ?_
            refine lv_if_eq (tgt := 178) hx hb d_MO_tries_161 (by decide) (fun c_161 => ?_) (fun c_161 => ?_)
            · have c_161 : 0 = 0 := gs_z (by omega) c_161
              refine lv_iload hx hb d_MO_tries_178 (lv_at hl 1 rfl) ?_
              refine lv_if_ne (tgt := 199) hx hb d_MO_tries_180 (by decide) (fun c_180 => ?_) (fun c_180 => ?_)
              · exact absurd c_180 (by decide)
              · have c_180 : 0 = 0 := gs_z (by omega) c_180
                refine lv_iload hx hb d_MO_tries_183 (lv_at hl 0 rfl) ?_
                refine lv_if_lt (tgt := 199) hx hb d_MO_tries_185 (by decide) (fun c_185 => ?_) (fun c_185 => ?_)
                · refine lv_goto (tgt := 84) hx hb d_MO_tries_199 (by decide) ?_
                  exact hKK h29 h30 σ1 v_1 (by rw [ev_1]; decide) k29 k30 hS9 H locs hG hS ls (lv_sub hl [0, 2, 3, 4, 5] rfl)
                · exact absurd (by rw [ev_1]; decide) c_185
            · exact absurd c_161 (by decide)
          · exact absurd c_148 (by decide)
        · subst ed
          have k30e := k30 e9 (by omega)
          obtain ⟨Z1, a8, a9, a10, a11, a24, b3, y_mo, y14, y15, y27, yz, y_8, y_9, y_10, y_11, y_13, y_24, y_28, y_29, y_30, yT, yb, yTN, yv, yfr⟩ := hS9
          have x_2 : σ1 (A 2) = some (gs_ia X 12 f2) := kp hNN [0, 5, 6, 7, 8, 10, 17, 18, 19, 20] yfr 1 (by decide) (by decide) (by decide) rfl m2
          have x_12 : σ1 (A 12) = some (gs_la X 49152 g) := kp hNN [0, 5, 6, 7, 8, 10, 17, 18, 19, 20] yfr 9 (by decide) (by decide) (by decide) rfl m12
          have x_18 : σ1 (A 18) = some (gs_ia X 25 f18) := kp hNN [0, 5, 6, 7, 8, 10, 17, 18, 19, 20] yfr 11 (by decide) (by decide) (by decide) rfl m18
          have x_19 : σ1 (A 19) = some (gs_ia X 75 f19) := kp hNN [0, 5, 6, 7, 8, 10, 17, 18, 19, 20] yfr 12 (by decide) (by decide) (by decide) rfl m19
          have x_20 : σ1 (A 20) = some (gs_ia X 25 f20) := kp hNN [0, 5, 6, 7, 8, 10, 17, 18, 19, 20] yfr 13 (by decide) (by decide) (by decide) rfl m20
          have x_21 : σ1 (A 21) = some (gs_ia X 150 f21) := kp hNN [0, 5, 6, 7, 8, 10, 17, 18, 19, 20] yfr 14 (by decide) (by decide) (by decide) rfl m21
          have x_22 : σ1 (A 22) = some (gs_ia X 150 f22) := kp hNN [0, 5, 6, 7, 8, 10, 17, 18, 19, 20] yfr 15 (by decide) (by decide) (by decide) rfl m22
          have x_23 : σ1 (A 23) = some (gs_ia X 450 f23) := kp hNN [0, 5, 6, 7, 8, 10, 17, 18, 19, 20] yfr 16 (by decide) (by decide) (by decide) rfl m23
          refine lv_iload hx hb d_MO_tries_144 (lv_at hl 1 rfl) ?_
          refine lv_iload hx hb d_MO_tries_146 (lv_at hl 0 rfl) ?_
          refine lv_if_eq (tgt := 155) hx hb d_MO_tries_148 (by decide) (fun c_148 => ?_) (fun c_148 => ?_)
          · have c_148 : 0 = 0 := gs_z (by omega) c_148
            refine lv_iconst (v := -1) hx hb d_MO_tries_155 (by decide) ?_
            refine lv_iadd hx hb d_MO_tries_156 ?_
            refine gs_top (show ((nI (e9 + 1)) + (-1)) = (nI e9) from (by show nI (e9 + 1) + -1 = nI e9; exact pk_m1 e9)) ?_
            refine lv_istore (lv' := [(4, .int (nI e9)), (5, .int (nI 0)), (3, .int (nI (hl0 R))), (2, .int (bI fd)), (1, .int (nI q)), (0, .ref mo)]) hx hb d_MO_tries_157 hl (by decide) rfl (fun ls hl => ?_)
            refine lv_iload hx hb d_MO_tries_159 (lv_at hl 1 rfl) ?_
            refine lv_if_eq (tgt := 178) hx hb d_MO_tries_161 (by decide) (fun c_161 => ?_) (fun c_161 => ?_)
            · have c_161 : 0 = 0 := gs_z (by omega) c_161
              refine lv_iload hx hb d_MO_tries_178 (lv_at hl 1 rfl) ?_
              refine lv_if_ne (tgt := 199) hx hb d_MO_tries_180 (by decide) (fun c_180 => ?_) (fun c_180 => ?_)
              · exact absurd c_180 (by decide)
              · have c_180 : 0 = 0 := gs_z (by omega) c_180
                refine lv_iload hx hb d_MO_tries_183 (lv_at hl 0 rfl) ?_
                refine lv_if_lt (tgt := 199) hx hb d_MO_tries_185 (by decide) (fun c_185 => ?_) (fun c_185 => ?_)
                · exact absurd c_185 (nI_pos (by omega))
                  
                · refine lv_aload_n hx hb d_MO_tries_188 rfl (lv_at hl 5 rfl) ?_
                  refine lv_aload_n hx hb d_MO_tries_189 rfl (lv_at hl 5 rfl) ?_
                  refine gs_get (v := .ref (A 30)) hx hb ht hown hK hG k_MO y_mo 30 (by decide) w_692 rfl d_MO_tries_190 ?_
                  refine lv_iload hx hb d_MO_tries_193 (lv_at hl 0 rfl) ?_
                  refine gs_iald hx hb hK hG y_30 (j := e9) (by omega) (by omega) d_MO_tries_195 ?_
                  refine gs_top (show (h30 e9) = (nI bk) from k30e.trans eb) ?_
                  refine gs_callVv (As := [.int (nI bk)]) (rest := []) ⟨hx, hb, hml, hown, hts⟩ hK hE hz hG hS (c_MO_frees l X σ1 mo A Z1 a24 ov bk y_mo y_24 yv hbk) mV_MO_frees w_856 y_mo rfl rfl hl.1 rfl (Nat.le_of_ble_eq_true rfl) ⟨(by first | decide | omega | (dsimp only [headSpec]; omega)), (by first | decide | omega | (dsimp only [headSpec]; omega))⟩ ⟨(by first | decide | omega | (dsimp only [headSpec]; omega)), (by first | decide | omega | (dsimp only [headSpec]; omega))⟩ d_MO_tries_196 (fun σ_196 H locs hp_196 hG hS => ?_)
                  rw [hp_196] at hG
                  have hG : gs_H X (gs_up σ1 (A 24) (gs_ia X 8 (frF a24 bk 8))) H := hG
                  obtain ⟨σ_1, eσ_1⟩ : ∃ zq, zq = gs_up σ1 (A 24) (gs_ia X 8 (frF a24 bk 8)) := ⟨_, rfl⟩
                  rw [← eσ_1] at hG
                  have hc_2 : σ_1 (A 2) = some (gs_ia X 12 f2) := by rw [eσ_1]; exact gs_ku (ndp hN 0 16 (by decide) rfl rfl) x_2
                  have hc_3 : σ_1 (A 12) = some (gs_la X 49152 g) := by rw [eσ_1]; exact gs_ku (ndp hN 8 16 (by decide) rfl rfl) x_12
                  have hc_4 : σ_1 (A 18) = some (gs_ia X 25 f18) := by rw [eσ_1]; exact gs_ku (ndp hN 10 16 (by decide) rfl rfl) x_18
                  have hc_5 : σ_1 (A 19) = some (gs_ia X 75 f19) := by rw [eσ_1]; exact gs_ku (ndp hN 11 16 (by decide) rfl rfl) x_19
                  have hc_6 : σ_1 (A 20) = some (gs_ia X 25 f20) := by rw [eσ_1]; exact gs_ku (ndp hN 12 16 (by decide) rfl rfl) x_20
                  have hc_7 : σ_1 (A 21) = some (gs_ia X 150 f21) := by rw [eσ_1]; exact gs_ku (ndp hN 13 16 (by decide) rfl rfl) x_21
                  have hc_8 : σ_1 (A 22) = some (gs_ia X 150 f22) := by rw [eσ_1]; exact gs_ku (ndp hN 14 16 (by decide) rfl rfl) x_22
                  have hc_9 : σ_1 (A 23) = some (gs_ia X 450 f23) := by rw [eσ_1]; exact gs_ku (ndp hN 15 16 (by decide) rfl rfl) x_23
                  have hc_10 : σ_1 mo = some (moE A Z1) := by rw [eσ_1]; exact gs_ku (gs_ne y_mo y_24 (by simp)) y_mo
                  have hc_11 : σ_1 (A 8) = some (gs_ia X 320 a8) := by rw [eσ_1]; exact gs_ku (ndp hN 4 16 (by decide) rfl rfl) y_8
                  have hc_12 : σ_1 (A 9) = some (gs_ia X 320 a9) := by rw [eσ_1]; exact gs_ku (ndp hN 5 16 (by decide) rfl rfl) y_9
                  have hc_13 : σ_1 (A 10) = some (gs_ia X 320 a10) := by rw [eσ_1]; exact gs_ku (ndp hN 6 16 (by decide) rfl rfl) y_10
                  have hc_14 : σ_1 (A 11) = some (gs_ia X 320 a11) := by rw [eσ_1]; exact gs_ku (ndp hN 7 16 (by decide) rfl rfl) y_11
                  have hc_15 : σ_1 (A 13) = some (gs_la X 49152 b3) := by rw [eσ_1]; exact gs_ku (ndp hN 9 16 (by decide) rfl rfl) y_13
                  have hc_16 : σ_1 (A 28) = some (gs_ia X 3 h28) := by rw [eσ_1]; exact gs_ku (Ne.symm (ndp hN 16 17 (by decide) rfl rfl)) y_28
                  have hc_17 : σ_1 (A 29) = some (gs_ia X 3 h29) := by rw [eσ_1]; exact gs_ku (Ne.symm (ndp hN 16 18 (by decide) rfl rfl)) y_29
                  have hc_18 : σ_1 (A 30) = some (gs_ia X 3 h30) := by rw [eσ_1]; exact gs_ku (Ne.symm (ndp hN 16 19 (by decide) rfl rfl)) y_30
                  have hc_19 : σ_1 (A 24) = some (gs_ia X 8 (frF a24 bk 8)) := by rw [eσ_1]; exact gs_us
                  have fr_20 : frm [mo, A 8, A 9, A 10, A 11, A 13, A 24, A 28, A 29, A 30] σ σ_1 := by rw [eσ_1]; exact yfr.up (by simp)
                  refine lv_goto (tgt := 84) hx hb d_MO_tries_199 (by decide) ?_
                  exact hKK h29 h30 σ_1 (nI e9) (nI_1 e9) k29 k30 ⟨Z1, a8, a9, a10, a11, (frF a24 bk 8), b3, hc_10, y14, y15, y27, yz, hc_11, hc_12, hc_13, hc_14, hc_15, hc_19, hc_16, hc_17, hc_18, yT, yb, yTN, (by rw [← efr]; exact vO_fr yv), fr_20⟩ H locs hG hS ls (lv_sub hl [0, 2, 3, 4, 5] rfl)
            · exact absurd c_161 (by decide)
          · exact absurd c_148 (by decide)
      have hdn : d + hs.length + 1 = hl0 R := by simp only [List.length_cons] at hdn; omega
      have hdl : ((hls R).take d).length = d := by rw [List.length_take]; show min d (hl0 R) = d; omega
      have hxd : (hls R)[d]? = some x := by rw [hcut, List.getElem?_append_right (by rw [hdl]; exact Nat.le_refl _), hdl]; simp
      obtain ⟨p9, hp1, hp2, hp3⟩ := hh28 d x hxd
      have hcut2 : hls R = (hls R).take (d + 1) ++ hs := by
        rw [take_snoc hxd, List.append_assoc]; exact hcut
      have hxm := List.mem_of_getElem? hp2
      have hx72 := (hRB.2.2.2.2 x hxm).2.2.2
      have lp : ∀ (fl i : Nat) (s8 : FS) (h29 h30 : Nat → Int32), i ≤ T.length → (T.drop i).foldl (tstp cw T rc q R fd x hs ov) s8 = trM cw T rc q R fd (x :: hs) ov s9 → h29 d = nI i → (∀ k, k < d → h29 k = g29 k) → (∀ k, k < d → h30 k = g30 k) → T.length - i < fl → ∀ (σ1 : gs_St), trS X σ σ1 mo A Z T fd ov s8 h28 h29 h30 → ∀ (H : Heap) (locs : List Loc), gs_H X σ1 H → va_S (gs_A X) s.heap H locs → ∀ ls, lv_has ls 6 [(4, .int (nI d)), (3, .int (nI (hl0 R))), (2, .int (bI fd)), (1, .int (nI q)), (0, .ref mo)] → W p l e ({ frames := 3, cells := 0, slots := 0, locals := 74 } : Room) s m ([.ref mo, .int (nI q), .int (bI fd)] : List Value).toArray below meth c H locs 0 0 (MQ below (va_Qv (fun σ' => ∃ ov' f28' f29' f30', trS X σ σ' mo A Z T fd ov' (trM cw T rc q R fd (hls R) (fun _ => none) s0) f28' f29' f30') (gs_U X) (gs_A X)) ([.ref mo, .int (nI q), .int (bI fd)] : List Value).toArray s 0 0 (gs_A X)) (F0 m 84 ls []) := by
        intro fl
        induction fl with
        | zero => intro i s8 h29 h30 _ _ _ _ _ h9; omega
        | succ fl ih2 =>
          intro i s8 h29 h30 hi hst h29d k29 k30 hmu σ1 hS8 H locs hG hS ls hl
          obtain ⟨Z1, a8, a9, a10, a11, a24, b3, y_mo, y14, y15, y27, yz, y_8, y_9, y_10, y_11, y_13, y_24, y_28, y_29, y_30, yT, yb, yTN, yv, yfr⟩ := id hS8
          have x_2 : σ1 (A 2) = some (gs_ia X 12 f2) := kp hNN [0, 5, 6, 7, 8, 10, 17, 18, 19, 20] yfr 1 (by decide) (by decide) (by decide) rfl m2
          have x_12 : σ1 (A 12) = some (gs_la X 49152 g) := kp hNN [0, 5, 6, 7, 8, 10, 17, 18, 19, 20] yfr 9 (by decide) (by decide) (by decide) rfl m12
          have x_18 : σ1 (A 18) = some (gs_ia X 25 f18) := kp hNN [0, 5, 6, 7, 8, 10, 17, 18, 19, 20] yfr 11 (by decide) (by decide) (by decide) rfl m18
          have x_19 : σ1 (A 19) = some (gs_ia X 75 f19) := kp hNN [0, 5, 6, 7, 8, 10, 17, 18, 19, 20] yfr 12 (by decide) (by decide) (by decide) rfl m19
          have x_20 : σ1 (A 20) = some (gs_ia X 25 f20) := kp hNN [0, 5, 6, 7, 8, 10, 17, 18, 19, 20] yfr 13 (by decide) (by decide) (by decide) rfl m20
          have x_21 : σ1 (A 21) = some (gs_ia X 150 f21) := kp hNN [0, 5, 6, 7, 8, 10, 17, 18, 19, 20] yfr 14 (by decide) (by decide) (by decide) rfl m21
          have x_22 : σ1 (A 22) = some (gs_ia X 150 f22) := kp hNN [0, 5, 6, 7, 8, 10, 17, 18, 19, 20] yfr 15 (by decide) (by decide) (by decide) rfl m22
          have x_23 : σ1 (A 23) = some (gs_ia X 450 f23) := kp hNN [0, 5, 6, 7, 8, 10, 17, 18, 19, 20] yfr 16 (by decide) (by decide) (by decide) rfl m23
          refine lv_iload hx hb d_MO_tries_84 (lv_at hl 0 rfl) ?_
          refine lv_if_lt (tgt := 202) hx hb d_MO_tries_86 (by decide) (fun c_86 => ?_) (fun c_86 => ?_)
          · exact absurd c_86 (nI_pos (by omega))
            
          · refine lv_iload hx hb d_MO_tries_89 (lv_at hl 0 rfl) ?_
            refine lv_iload_n hx hb d_MO_tries_91 rfl (lv_at hl 1 rfl) ?_
            refine lv_icmp_ge (tgt := 108) hx hb d_MO_tries_92 (by decide) (fun c_92 => ?_) (fun c_92 => ?_)
            · have c_92 : (hl0 R) ≤ d := (nI_leI (by omega) (by omega)).mp c_92
              omega
            · have c_92 : ¬ (hl0 R) ≤ d := mt (nI_leI (by omega) (by omega)).mpr c_92
              refine lv_aload_n hx hb d_MO_tries_95 rfl (lv_at hl 4 rfl) ?_
              refine lv_iload hx hb d_MO_tries_96 (lv_at hl 0 rfl) ?_
              refine gs_callVi (As := [.int (nI d)]) (rest := []) ⟨hx, hb, hml, hown, hts⟩ hK hE hz hG hS (c_MO_advances l X σ1 mo A Z1 f2 a8 a9 a10 a11 f18 f19 f20 f21 f22 f23 a24 h28 h29 h30 T nr cw q p9 d i R x ov y_mo hN x_2 y_8 y_9 x_22 x_23 y_24 y_28 y_29 y_30 ((yz 7 (by simp)).trans z7) (tpOK_l yT) hTB hcw hnr hR hRB hq hp2 hp3 (by omega) hp1 h29d hi yv) mV_MO_advances w_844 y_mo rfl rfl hl.1 rfl (Nat.le_of_ble_eq_true rfl) ⟨(by first | decide | omega | (dsimp only [headSpec]; omega)), (by first | decide | omega | (dsimp only [headSpec]; omega))⟩ ⟨(by first | decide | omega | (dsimp only [headSpec]; omega)), (by first | decide | omega | (dsimp only [headSpec]; omega))⟩ d_MO_tries_98 (fun r_98 σ_98 H locs hp_98 hG hS => ?_)
              obtain ⟨i', n24, n29, n30, hi1, hi2, hno, q_24, q_29, q_30, o29, o30, qfr, hor⟩ := hp_98
              have hc_1 : σ_98 (A 2) = some (gs_ia X 12 f2) := qfr _ _ (nin_cons (ndp hN 0 16 (by decide) rfl rfl) (nin_cons (ndp hN 0 18 (by decide) rfl rfl) (nin_cons (ndp hN 0 19 (by decide) rfl rfl) nin_nil))) x_2
              have hc_2 : σ_98 (A 12) = some (gs_la X 49152 g) := qfr _ _ (nin_cons (ndp hN 8 16 (by decide) rfl rfl) (nin_cons (ndp hN 8 18 (by decide) rfl rfl) (nin_cons (ndp hN 8 19 (by decide) rfl rfl) nin_nil))) x_12
              have hc_3 : σ_98 (A 18) = some (gs_ia X 25 f18) := qfr _ _ (nin_cons (ndp hN 10 16 (by decide) rfl rfl) (nin_cons (ndp hN 10 18 (by decide) rfl rfl) (nin_cons (ndp hN 10 19 (by decide) rfl rfl) nin_nil))) x_18
              have hc_4 : σ_98 (A 19) = some (gs_ia X 75 f19) := qfr _ _ (nin_cons (ndp hN 11 16 (by decide) rfl rfl) (nin_cons (ndp hN 11 18 (by decide) rfl rfl) (nin_cons (ndp hN 11 19 (by decide) rfl rfl) nin_nil))) x_19
              have hc_5 : σ_98 (A 20) = some (gs_ia X 25 f20) := qfr _ _ (nin_cons (ndp hN 12 16 (by decide) rfl rfl) (nin_cons (ndp hN 12 18 (by decide) rfl rfl) (nin_cons (ndp hN 12 19 (by decide) rfl rfl) nin_nil))) x_20
              have hc_6 : σ_98 (A 21) = some (gs_ia X 150 f21) := qfr _ _ (nin_cons (ndp hN 13 16 (by decide) rfl rfl) (nin_cons (ndp hN 13 18 (by decide) rfl rfl) (nin_cons (ndp hN 13 19 (by decide) rfl rfl) nin_nil))) x_21
              have hc_7 : σ_98 (A 22) = some (gs_ia X 150 f22) := qfr _ _ (nin_cons (ndp hN 14 16 (by decide) rfl rfl) (nin_cons (ndp hN 14 18 (by decide) rfl rfl) (nin_cons (ndp hN 14 19 (by decide) rfl rfl) nin_nil))) x_22
              have hc_8 : σ_98 (A 23) = some (gs_ia X 450 f23) := qfr _ _ (nin_cons (ndp hN 15 16 (by decide) rfl rfl) (nin_cons (ndp hN 15 18 (by decide) rfl rfl) (nin_cons (ndp hN 15 19 (by decide) rfl rfl) nin_nil))) x_23
              have hc_9 : σ_98 mo = some (moE A Z1) := qfr _ _ (nin_cons (gs_ne y_mo y_24 (by simp)) (nin_cons (gs_ne y_mo y_29 (by simp)) (nin_cons (gs_ne y_mo y_30 (by simp)) nin_nil))) y_mo
              have hc_10 : σ_98 (A 8) = some (gs_ia X 320 a8) := qfr _ _ (nin_cons (ndp hN 4 16 (by decide) rfl rfl) (nin_cons (ndp hN 4 18 (by decide) rfl rfl) (nin_cons (ndp hN 4 19 (by decide) rfl rfl) nin_nil))) y_8
              have hc_11 : σ_98 (A 9) = some (gs_ia X 320 a9) := qfr _ _ (nin_cons (ndp hN 5 16 (by decide) rfl rfl) (nin_cons (ndp hN 5 18 (by decide) rfl rfl) (nin_cons (ndp hN 5 19 (by decide) rfl rfl) nin_nil))) y_9
              have hc_12 : σ_98 (A 10) = some (gs_ia X 320 a10) := qfr _ _ (nin_cons (ndp hN 6 16 (by decide) rfl rfl) (nin_cons (ndp hN 6 18 (by decide) rfl rfl) (nin_cons (ndp hN 6 19 (by decide) rfl rfl) nin_nil))) y_10
              have hc_13 : σ_98 (A 11) = some (gs_ia X 320 a11) := qfr _ _ (nin_cons (ndp hN 7 16 (by decide) rfl rfl) (nin_cons (ndp hN 7 18 (by decide) rfl rfl) (nin_cons (ndp hN 7 19 (by decide) rfl rfl) nin_nil))) y_11
              have hc_14 : σ_98 (A 13) = some (gs_la X 49152 b3) := qfr _ _ (nin_cons (ndp hN 9 16 (by decide) rfl rfl) (nin_cons (ndp hN 9 18 (by decide) rfl rfl) (nin_cons (ndp hN 9 19 (by decide) rfl rfl) nin_nil))) y_13
              have hc_15 : σ_98 (A 28) = some (gs_ia X 3 h28) := qfr _ _ (nin_cons (Ne.symm (ndp hN 16 17 (by decide) rfl rfl)) (nin_cons (ndp hN 17 18 (by decide) rfl rfl) (nin_cons (ndp hN 17 19 (by decide) rfl rfl) nin_nil))) y_28
              have fr_16 : frm [mo, A 8, A 9, A 10, A 11, A 13, A 24, A 28, A 29, A 30] σ σ_98 := yfr.trans qfr (by simp)
              have hsk := tstp_skip (rc := rc) (q := q) (R := R) (fd := fd) (hs := hs) (i' - i) i i' s8 rfl hi1 hi2 hno
              rcases hor with ⟨hor, hv2, hr2⟩ | ⟨t, p, ht9, hms, hv2, h30d, h29d2, hr2⟩
              · refine gs_top hr2 ?_
                refine lv_if_eq (tgt := 108) hx hb d_MO_tries_101 (by decide) (fun c_101 => ?_) (fun c_101 => ?_)
                · have c_101 : 0 = 0 := gs_z (by omega) c_101
                  refine lv_iconst (v := nI 0) hx hb d_MO_tries_108 (by decide) ?_
                  refine lv_istore (lv' := [(5, .int (nI 0)), (4, .int (nI d)), (3, .int (nI (hl0 R))), (2, .int (bI fd)), (1, .int (nI q)), (0, .ref mo)]) hx hb d_MO_tries_109 hl (by decide) rfl (fun ls hl => ?_)
                  refine lv_iload hx hb d_MO_tries_111 (lv_at hl 1 rfl) ?_
                  refine lv_iload_n hx hb d_MO_tries_113 rfl (lv_at hl 2 rfl) ?_
                  refine lv_icmp_ne (tgt := 144) hx hb d_MO_tries_114 (by decide) (fun c_114 => ?_) (fun c_114 => ?_)
                  · have c_114 : ¬ d = (hl0 R) := mt (nI_eq (by omega) (by omega)).mpr c_114
                    exact kx n29 n30 σ_98 s8 (by rw [← hst, hsk, hor, List.drop_length]; rfl) (fun k hk => (o29 k (by omega)).trans (k29 k hk)) (fun k hk => (o30 k (by omega)).trans (k30 k hk)) ⟨Z1, a8, a9, a10, a11, n24, b3, hc_9, y14, y15, y27, yz, hc_10, hc_11, hc_12, hc_13, hc_14, q_24, hc_15, q_29, q_30, yT, yb, yTN, hv2, fr_16⟩ H locs hG hS ls (lv_sub hl [0, 1, 2, 3, 4, 5] rfl)
                  · have c_114 : d = (hl0 R) :=  (nI_eq (by omega) (by omega)).mp c_114
                    omega
                · exact absurd c_101 (by decide)
              refine gs_top hr2 ?_
              refine lv_if_eq (tgt := 108) hx hb d_MO_tries_101 (by decide) (fun c_101 => ?_) (fun c_101 => ?_)
              · exact absurd c_101 (by decide)
              · have c_101 : ¬ 1 = 0 := gs_zn (by omega) c_101
                refine lv_iconst (v := nI 1) hx hb d_MO_tries_104 (by decide) ?_
                refine lv_goto (tgt := 109) hx hb d_MO_tries_105 (by decide) ?_
                refine lv_istore (lv' := [(5, .int (nI 1)), (4, .int (nI d)), (3, .int (nI (hl0 R))), (2, .int (bI fd)), (1, .int (nI q)), (0, .ref mo)]) hx hb d_MO_tries_109 hl (by decide) rfl (fun ls hl => ?_)
                refine lv_iload hx hb d_MO_tries_111 (lv_at hl 1 rfl) ?_
                refine lv_iload_n hx hb d_MO_tries_113 rfl (lv_at hl 2 rfl) ?_
                refine lv_icmp_ne (tgt := 144) hx hb d_MO_tries_114 (by decide) (fun c_114 => ?_) (fun c_114 => ?_)
                · have c_114 : ¬ d = (hl0 R) := mt (nI_eq (by omega) (by omega)).mpr c_114
                  refine lv_iload hx hb d_MO_tries_144 (lv_at hl 1 rfl) ?_
                  refine lv_iload hx hb d_MO_tries_146 (lv_at hl 0 rfl) ?_
                  refine lv_if_eq (tgt := 155) hx hb d_MO_tries_148 (by decide) (fun c_148 => ?_) (fun c_148 => ?_)
                  · exact absurd c_148 (by decide)
                  · have c_148 : ¬ 1 = 0 := gs_zn (by omega) c_148
                    refine lv_iconst (v := nI 1) hx hb d_MO_tries_151 (by decide) ?_
                    refine lv_goto (tgt := 156) hx hb d_MO_tries_152 (by decide) ?_
                    refine lv_iadd hx hb d_MO_tries_156 ?_
                    refine gs_top (nI_add d 1) ?_
                    refine lv_istore (lv' := [(4, .int (nI (d + 1))), (5, .int (nI 1)), (3, .int (nI (hl0 R))), (2, .int (bI fd)), (1, .int (nI q)), (0, .ref mo)]) hx hb d_MO_tries_157 hl (by decide) rfl (fun ls hl => ?_)
                    refine lv_iload hx hb d_MO_tries_159 (lv_at hl 1 rfl) ?_
                    refine lv_if_eq (tgt := 178) hx hb d_MO_tries_161 (by decide) (fun c_161 => ?_) (fun c_161 => ?_)
                    · exact absurd c_161 (by decide)
                    · have c_161 : ¬ 1 = 0 := gs_zn (by omega) c_161
                      refine lv_iload hx hb d_MO_tries_164 (lv_at hl 0 rfl) ?_
                      refine lv_iload_n hx hb d_MO_tries_166 rfl (lv_at hl 2 rfl) ?_
                      refine lv_icmp_ge (tgt := 178) hx hb d_MO_tries_167 (by decide) (fun c_167 => ?_) (fun c_167 => ?_)
                      · have c_167 : (hl0 R) ≤ (d + 1) := (nI_leI (by omega) (by omega)).mp c_167
                        refine lv_iload hx hb d_MO_tries_178 (lv_at hl 1 rfl) ?_
                        refine lv_if_ne (tgt := 199) hx hb d_MO_tries_180 (by decide) (fun c_180 => ?_) (fun c_180 => ?_)
                        · have c_180 : ¬ 1 = 0 := gs_zn (by omega) c_180
                          refine lv_goto (tgt := 84) hx hb d_MO_tries_199 (by decide) ?_
                          obtain ⟨hpb, hpf⟩ := mtc_lt hms hx72
                          have hst2 : (T.drop (i' + 1)).foldl (tstp cw T rc q R fd x hs ov) (trM cw T rc q R fd hs p.1 s8) = trM cw T rc q R fd (x :: hs) ov s9 := by rw [← hst, hsk, tstp_hit s8 ht9 hms]
                          exact ih (d + 1) hcut2 (by omega) p.1 ov p.2 s8 n29 n30 (fun y hy h0 => by
                            rcases hbo y hy h0 with z | z
                            · rcases List.mem_cons.mp z with rfl | z
                              · exact Or.inr (mtc_al hms (hwf _ hy h0))
                              · exact Or.inl z
                            · exact Or.inr (mtc_mono hms z)) (fun hne => absurd (List.length_eq_zero_iff.mp (by omega)) hne) (Or.inr ⟨d, rfl, h30d, hpb, hpf⟩) (fun h29' h30' σ2 dv edv k1 k2 hS7 H locs hG hS ls hl => by
                            have edv2 : dv = nI d := by
                              have : dv = nI (d + 1) - 1 := by rw [← edv]; simp
                              rw [this]; exact nI_pred d
                            subst edv2
                            exact ih2 (i' + 1) _ h29' h30' (by have := (List.getElem?_eq_some_iff.mp ht9).1; omega) hst2 (by rw [k1 d (by omega)]; exact h29d2) (fun k hk => (show h29' k = h29 k from by rw [k1 k (by omega)]; exact o29 k (by omega)).trans (k29 k hk)) (fun k hk => (k2 k (by omega)).trans ((o30 k (by omega)).trans (k30 k hk))) (by have := (List.getElem?_eq_some_iff.mp ht9).1; omega) σ2 hS7 H locs hG hS ls hl) σ_98 ⟨Z1, a8, a9, a10, a11, n24, b3, hc_9, y14, y15, y27, yz, hc_10, hc_11, hc_12, hc_13, hc_14, q_24, hc_15, q_29, q_30, yT, yb, yTN, hv2, fr_16⟩ H locs hG hS ls (lv_sub hl [0, 2, 3, 4, 5] rfl)
                        · exact absurd c_180 (by decide)
                      · have c_167 : ¬ (hl0 R) ≤ (d + 1) := mt (nI_leI (by omega) (by omega)).mpr c_167
                        refine lv_aload_n hx hb d_MO_tries_170 rfl (lv_at hl 5 rfl) ?_
                        refine gs_get (v := .ref (A 29)) hx hb ht hown hK hG k_MO hc_9 29 (by decide) w_691 rfl d_MO_tries_171 ?_
                        refine lv_iload hx hb d_MO_tries_174 (lv_at hl 0 rfl) ?_
                        refine lv_iconst (v := nI 0) hx hb d_MO_tries_176 (by decide) ?_
                        refine gs_iast hx hb hK hG hS q_29 (j := d + 1) (by omega) (by omega) d_MO_tries_177 (fun H locs hG hS => ?_)
                        have hG : gs_H X (gs_up σ_98 (A 29) (gs_ia X 3 (upd n29 (d + 1) (nI 0)))) H := hG
                        obtain ⟨σ_17, eσ_17⟩ : ∃ zq, zq = gs_up σ_98 (A 29) (gs_ia X 3 (upd n29 (d + 1) (nI 0))) := ⟨_, rfl⟩
                        rw [← eσ_17] at hG
                        have hc_18 : σ_17 (A 2) = some (gs_ia X 12 f2) := by rw [eσ_17]; exact gs_ku (ndp hN 0 18 (by decide) rfl rfl) hc_1
                        have hc_19 : σ_17 (A 12) = some (gs_la X 49152 g) := by rw [eσ_17]; exact gs_ku (ndp hN 8 18 (by decide) rfl rfl) hc_2
                        have hc_20 : σ_17 (A 18) = some (gs_ia X 25 f18) := by rw [eσ_17]; exact gs_ku (ndp hN 10 18 (by decide) rfl rfl) hc_3
                        have hc_21 : σ_17 (A 19) = some (gs_ia X 75 f19) := by rw [eσ_17]; exact gs_ku (ndp hN 11 18 (by decide) rfl rfl) hc_4
                        have hc_22 : σ_17 (A 20) = some (gs_ia X 25 f20) := by rw [eσ_17]; exact gs_ku (ndp hN 12 18 (by decide) rfl rfl) hc_5
                        have hc_23 : σ_17 (A 21) = some (gs_ia X 150 f21) := by rw [eσ_17]; exact gs_ku (ndp hN 13 18 (by decide) rfl rfl) hc_6
                        have hc_24 : σ_17 (A 22) = some (gs_ia X 150 f22) := by rw [eσ_17]; exact gs_ku (ndp hN 14 18 (by decide) rfl rfl) hc_7
                        have hc_25 : σ_17 (A 23) = some (gs_ia X 450 f23) := by rw [eσ_17]; exact gs_ku (ndp hN 15 18 (by decide) rfl rfl) hc_8
                        have hc_26 : σ_17 mo = some (moE A Z1) := by rw [eσ_17]; exact gs_ku (gs_ne hc_9 q_29 (by simp)) hc_9
                        have hc_27 : σ_17 (A 8) = some (gs_ia X 320 a8) := by rw [eσ_17]; exact gs_ku (ndp hN 4 18 (by decide) rfl rfl) hc_10
                        have hc_28 : σ_17 (A 9) = some (gs_ia X 320 a9) := by rw [eσ_17]; exact gs_ku (ndp hN 5 18 (by decide) rfl rfl) hc_11
                        have hc_29 : σ_17 (A 10) = some (gs_ia X 320 a10) := by rw [eσ_17]; exact gs_ku (ndp hN 6 18 (by decide) rfl rfl) hc_12
                        have hc_30 : σ_17 (A 11) = some (gs_ia X 320 a11) := by rw [eσ_17]; exact gs_ku (ndp hN 7 18 (by decide) rfl rfl) hc_13
                        have hc_31 : σ_17 (A 13) = some (gs_la X 49152 b3) := by rw [eσ_17]; exact gs_ku (ndp hN 9 18 (by decide) rfl rfl) hc_14
                        have hc_32 : σ_17 (A 28) = some (gs_ia X 3 h28) := by rw [eσ_17]; exact gs_ku (ndp hN 17 18 (by decide) rfl rfl) hc_15
                        have hc_33 : σ_17 (A 24) = some (gs_ia X 8 n24) := by rw [eσ_17]; exact gs_ku (ndp hN 16 18 (by decide) rfl rfl) q_24
                        have hc_34 : σ_17 (A 30) = some (gs_ia X 3 n30) := by rw [eσ_17]; exact gs_ku (Ne.symm (ndp hN 18 19 (by decide) rfl rfl)) q_30
                        have hc_35 : σ_17 (A 29) = some (gs_ia X 3 (upd n29 (d + 1) (nI 0))) := by rw [eσ_17]; exact gs_us
                        have fr_36 : frm [mo, A 8, A 9, A 10, A 11, A 13, A 24, A 28, A 29, A 30] σ σ_17 := by rw [eσ_17]; exact fr_16.up (by simp)
                        refine lv_iload hx hb d_MO_tries_178 (lv_at hl 1 rfl) ?_
                        refine lv_if_ne (tgt := 199) hx hb d_MO_tries_180 (by decide) (fun c_180 => ?_) (fun c_180 => ?_)
                        · have c_180 : ¬ 1 = 0 := gs_zn (by omega) c_180
                          refine lv_goto (tgt := 84) hx hb d_MO_tries_199 (by decide) ?_
                          obtain ⟨hpb, hpf⟩ := mtc_lt hms hx72
                          have hst2 : (T.drop (i' + 1)).foldl (tstp cw T rc q R fd x hs ov) (trM cw T rc q R fd hs p.1 s8) = trM cw T rc q R fd (x :: hs) ov s9 := by rw [← hst, hsk, tstp_hit s8 ht9 hms]
                          exact ih (d + 1) hcut2 (by omega) p.1 ov p.2 s8 (upd n29 (d + 1) (nI 0)) n30 (fun y hy h0 => by
                            rcases hbo y hy h0 with z | z
                            · rcases List.mem_cons.mp z with rfl | z
                              · exact Or.inr (mtc_al hms (hwf _ hy h0))
                              · exact Or.inl z
                            · exact Or.inr (mtc_mono hms z)) (fun _ => by simp [upd]) (Or.inr ⟨d, rfl, h30d, hpb, hpf⟩) (fun h29' h30' σ2 dv edv k1 k2 hS7 H locs hG hS ls hl => by
                            have edv2 : dv = nI d := by
                              have : dv = nI (d + 1) - 1 := by rw [← edv]; simp
                              rw [this]; exact nI_pred d
                            subst edv2
                            exact ih2 (i' + 1) _ h29' h30' (by have := (List.getElem?_eq_some_iff.mp ht9).1; omega) hst2 (by rw [k1 d (by omega)]; unfold upd; rw [if_neg (by omega)]; exact h29d2) (fun k hk => (show h29' k = h29 k from by rw [k1 k (by omega)]; unfold upd; rw [if_neg (by omega)]; exact o29 k (by omega)).trans (k29 k hk)) (fun k hk => (k2 k (by omega)).trans ((o30 k (by omega)).trans (k30 k hk))) (by have := (List.getElem?_eq_some_iff.mp ht9).1; omega) σ2 hS7 H locs hG hS ls hl) σ_17 ⟨Z1, a8, a9, a10, a11, n24, b3, hc_26, y14, y15, y27, yz, hc_27, hc_28, hc_29, hc_30, hc_31, hc_33, hc_32, hc_35, hc_34, yT, yb, yTN, hv2, fr_36⟩ H locs hG hS ls (lv_sub hl [0, 2, 3, 4, 5] rfl)
                        · exact absurd c_180 (by decide)
                · have c_114 : d = (hl0 R) :=  (nI_eq (by omega) (by omega)).mp c_114
                  omega
      exact lp (T.length + 1) 0 s9 g29 g30 (by omega) rfl (h290 (by simp)) (fun _ _ => rfl) (fun _ _ => rfl) (by omega) σ1 hS9
  have loop2 : ∀ (fl : Nat) (i : Nat) (b24 b28 b29 : Nat → Int32) (σ1 : gs_St), (i ≤ R.2.length) → (vO b24 (fun _ => none)) → (hpO b28 q R ((R.2.take i).filter (fun x => x.1 = 0))) → (∀ k, k < hlT R i → b29 k = nI 0) → (frm [mo, A 8, A 9, A 10, A 11, A 13, A 24, A 28, A 29, A 30] σ σ1) → R.2.length - i < fl → (σ1 mo = some (moE A Z)) → (σ1 (A 2) = some (gs_ia X 12 f2)) → (σ1 (A 12) = some (gs_la X 49152 g)) → (σ1 (A 18) = some (gs_ia X 25 f18)) → (σ1 (A 19) = some (gs_ia X 75 f19)) → (σ1 (A 20) = some (gs_ia X 25 f20)) → (σ1 (A 21) = some (gs_ia X 150 f21)) → (σ1 (A 22) = some (gs_ia X 150 f22)) → (σ1 (A 23) = some (gs_ia X 450 f23)) → (σ1 (A 8) = some (gs_ia X 320 f8)) → (σ1 (A 9) = some (gs_ia X 320 f9)) → (σ1 (A 10) = some (gs_ia X 320 f10)) → (σ1 (A 11) = some (gs_ia X 320 f11)) → (σ1 (A 13) = some (gs_la X 49152 g3)) → (σ1 (A 24) = some (gs_ia X 8 b24)) → (σ1 (A 28) = some (gs_ia X 3 b28)) → (σ1 (A 29) = some (gs_ia X 3 b29)) → (σ1 (A 30) = some (gs_ia X 3 f30)) → ∀ (H : Heap) (locs : List Loc), gs_H X σ1 H → va_S (gs_A X) s.heap H locs → ∀ ls, lv_has ls 6 [(4, .int (nI i)), (3, .int (nI (hlT R i))), (2, .int (bI fd)), (1, .int (nI q)), (0, .ref mo)] → W p l e ({ frames := 3, cells := 0, slots := 0, locals := 74 } : Room) s m ([.ref mo, .int (nI q), .int (bI fd)] : List Value).toArray below meth c H locs 0 0 (MQ below (va_Qv (fun σ' => ∃ ov' f28' f29' f30', trS X σ σ' mo A Z T fd ov' (trM cw T rc q R fd (hls R) (fun _ => none) s0) f28' f29' f30') (gs_U X) (gs_A X)) ([.ref mo, .int (nI q), .int (bI fd)] : List Value).toArray s 0 0 (gs_A X)) (F0 m 26 ls []) := by
    intro fl
    induction fl with
    | zero => intro i b24 b28 b29 σ1 _ _ _ _ _ h9; omega
    | succ fl ih =>
      intro i b24 b28 b29 σ1 hi hv1 hpo h0n hf1 hmu y_mo y_2 y_12 y_18 y_19 y_20 y_21 y_22 y_23 y_8 y_9 y_10 y_11 y_13 y_24 y_28 y_29 y_30 H locs hG hS ls hl
      refine lv_iload hx hb d_MO_tries_26 (lv_at hl 0 rfl) ?_
      refine lv_aload_n hx hb d_MO_tries_28 rfl (lv_at hl 4 rfl) ?_
      refine gs_get (v := .ref (A 20)) hx hb ht hown hK hG k_MO y_mo 20 (by decide) w_682 rfl d_MO_tries_29 ?_
      refine lv_iload_n hx hb d_MO_tries_32 rfl (lv_at hl 3 rfl) ?_
      refine gs_iald hx hb hK hG y_20 (j := q) (by omega) (by omega) d_MO_tries_33 ?_
      refine gs_top (show (f20 q) = (nI R.2.length) from hR.2.2.1) ?_
      refine lv_icmp_ge (tgt := 81) hx hb d_MO_tries_34 (by decide) (fun c_34 => ?_) (fun c_34 => ?_)
      · have c_34 : R.2.length ≤ i := (nI_leI (by omega) (by omega)).mp c_34
        refine lv_iconst (v := nI 0) hx hb d_MO_tries_81 (by decide) ?_
        refine lv_istore (lv' := [(4, .int (nI 0)), (3, .int (nI (hlT R i))), (2, .int (bI fd)), (1, .int (nI q)), (0, .ref mo)]) hx hb d_MO_tries_82 hl (by decide) rfl (fun ls hl => ?_)
        have hie : i = R.2.length := by omega
        have hle : hlT R i = hl0 R := by rw [hie]; unfold hlT hl0; rw [List.take_length]
        rw [hie, List.take_length] at hpo
        refine lev b28 hpo (hls R) 0 (by simp) (by show 0 + hl0 R = hl0 R; omega) (fun _ => none) (fun _ => none) 0 s0 b29 f30 (fun y hy h0 => Or.inl (List.mem_filter.mpr ⟨hy, decide_eq_true h0⟩)) (fun hne => h0n 0 (by rw [hle]; exact List.length_pos_iff.mpr hne)) (Or.inl ⟨rfl, rfl⟩) ?_ σ1 ⟨Z, f8, f9, f10, f11, b24, g3, y_mo, z14, z15, z27, zfr.rf, y_8, y_9, y_10, y_11, y_13, y_24, y_28, y_29, y_30, hT0, hb3, hTN, hv1, hf1⟩ H locs hG hS ls (by rw [← hle]; exact (lv_sub hl [0, 1, 2, 3, 4] rfl))
        intro h29 h30 σ1 dv edv _ _ hS7 H locs hG hS ls hl
        have edn : dv < 0 := by
          have : dv = -1 := by
            have h : dv = nI 0 - 1 := by rw [← edv]; simp
            rw [h]; decide
          rw [this]; decide
        refine lv_iload hx hb d_MO_tries_84 (lv_at hl 0 rfl) ?_
        refine lv_if_lt (tgt := 202) hx hb d_MO_tries_86 (by decide) (fun c_86 => ?_) (fun c_86 => ?_)
        · exact gs_vret hx hb hr hK hE hz hG hS hlocks (by first | decide | omega | (dsimp only [headSpec]; omega)) (by first | decide | omega | (dsimp only [headSpec]; omega)) (⟨_, _, _, _, hS7⟩) d_MO_tries_202
        · exact absurd edn c_86
        
      · have c_34 : ¬ R.2.length ≤ i := mt (nI_leI (by omega) (by omega)).mpr c_34
        have hiR : i < R.2.length := by omega
        obtain ⟨x, hx9⟩ := get_ex (L := R.2) (j := i) hiR
        obtain ⟨hx1, hx2, hx3⟩ := hR.2.2.2 _ _ hx9
        have hx4 := hRk _ (List.mem_of_getElem? hx9)
        have hcs := hlT_s hx9
        refine lv_aload_n hx hb d_MO_tries_37 rfl (lv_at hl 4 rfl) ?_
        refine gs_get (v := .ref (A 21)) hx hb ht hown hK hG k_MO y_mo 21 (by decide) w_683 rfl d_MO_tries_38 ?_
        refine lv_bipush (v := nI 6) hx hb d_MO_tries_41 (by decide) ?_
        refine lv_iload_n hx hb d_MO_tries_43 rfl (lv_at hl 3 rfl) ?_
        refine lv_imul hx hb d_MO_tries_44 ?_
        refine gs_top (pk_mul 6 q) ?_
        refine lv_iload hx hb d_MO_tries_45 (lv_at hl 0 rfl) ?_
        refine lv_iadd hx hb d_MO_tries_47 ?_
        refine gs_top (nI_add (6 * q) i) ?_
        refine gs_iald hx hb hK hG y_21 (j := (6 * q) + i) (by omega) (by omega) d_MO_tries_48 ?_
        refine gs_top (show (f21 ((6 * q) + i)) = (nI x.1) from hx1) ?_
        refine lv_if_ne (tgt := 75) hx hb d_MO_tries_49 (by decide) (fun c_49 => ?_) (fun c_49 => ?_)
        · have c_49 : ¬ x.1 = 0 := gs_zn (by omega) c_49
          refine lv_iinc (v := (nI (i + 1))) (lv' := [(4, .int (nI (i + 1))), (3, .int (nI (hlT R i))), (2, .int (bI fd)), (1, .int (nI q)), (0, .ref mo)]) hx hb d_MO_tries_75 hl (k := 0) rfl (by exact nI_1 _) (by decide) rfl (fun ls hl => ?_)
          refine lv_goto (tgt := 26) hx hb d_MO_tries_78 (by decide) ?_
          rw [if_neg c_49, Nat.add_zero] at hcs
          exact ih (i + 1) b24 b28 b29 σ1 (by omega) hv1 (hpO_n hpo hx9 c_49) (by rw [hcs]; exact h0n) hf1 (by omega) y_mo y_2 y_12 y_18 y_19 y_20 y_21 y_22 y_23 y_8 y_9 y_10 y_11 y_13 y_24 y_28 y_29 y_30 H locs hG hS ls (by rw [hcs]; exact (lv_sub hl [0, 1, 2, 3, 4] rfl))
        · have c_49 : x.1 = 0 := gs_z (by omega) c_49
          have hlt := hlT_lt0 hx9 c_49
          refine lv_aload_n hx hb d_MO_tries_52 rfl (lv_at hl 4 rfl) ?_
          refine gs_get (v := .ref (A 28)) hx hb ht hown hK hG k_MO y_mo 28 (by decide) w_690 rfl d_MO_tries_53 ?_
          refine lv_iload_n hx hb d_MO_tries_56 rfl (lv_at hl 1 rfl) ?_
          refine lv_bipush (v := nI 6) hx hb d_MO_tries_57 (by decide) ?_
          refine lv_iload_n hx hb d_MO_tries_59 rfl (lv_at hl 3 rfl) ?_
          refine lv_imul hx hb d_MO_tries_60 ?_
          refine gs_top (pk_mul 6 q) ?_
          refine lv_iload hx hb d_MO_tries_61 (lv_at hl 0 rfl) ?_
          refine lv_iadd hx hb d_MO_tries_63 ?_
          refine gs_top (nI_add (6 * q) i) ?_
          refine gs_iast hx hb hK hG hS y_28 (j := hlT R i) (by omega) (by omega) d_MO_tries_64 (fun H locs hG hS => ?_)
          have hG : gs_H X (gs_up σ1 (A 28) (gs_ia X 3 (upd b28 (hlT R i) (nI ((6 * q) + i))))) H := hG
          obtain ⟨σ_1, eσ_1⟩ : ∃ zq, zq = gs_up σ1 (A 28) (gs_ia X 3 (upd b28 (hlT R i) (nI ((6 * q) + i)))) := ⟨_, rfl⟩
          rw [← eσ_1] at hG
          have hc_2 : σ_1 mo = some (moE A Z) := by rw [eσ_1]; exact gs_ku (gs_ne y_mo y_28 (by simp)) y_mo
          have hc_3 : σ_1 (A 2) = some (gs_ia X 12 f2) := by rw [eσ_1]; exact gs_ku (ndp hN 0 17 (by decide) rfl rfl) y_2
          have hc_4 : σ_1 (A 12) = some (gs_la X 49152 g) := by rw [eσ_1]; exact gs_ku (ndp hN 8 17 (by decide) rfl rfl) y_12
          have hc_5 : σ_1 (A 18) = some (gs_ia X 25 f18) := by rw [eσ_1]; exact gs_ku (ndp hN 10 17 (by decide) rfl rfl) y_18
          have hc_6 : σ_1 (A 19) = some (gs_ia X 75 f19) := by rw [eσ_1]; exact gs_ku (ndp hN 11 17 (by decide) rfl rfl) y_19
          have hc_7 : σ_1 (A 20) = some (gs_ia X 25 f20) := by rw [eσ_1]; exact gs_ku (ndp hN 12 17 (by decide) rfl rfl) y_20
          have hc_8 : σ_1 (A 21) = some (gs_ia X 150 f21) := by rw [eσ_1]; exact gs_ku (ndp hN 13 17 (by decide) rfl rfl) y_21
          have hc_9 : σ_1 (A 22) = some (gs_ia X 150 f22) := by rw [eσ_1]; exact gs_ku (ndp hN 14 17 (by decide) rfl rfl) y_22
          have hc_10 : σ_1 (A 23) = some (gs_ia X 450 f23) := by rw [eσ_1]; exact gs_ku (ndp hN 15 17 (by decide) rfl rfl) y_23
          have hc_11 : σ_1 (A 8) = some (gs_ia X 320 f8) := by rw [eσ_1]; exact gs_ku (ndp hN 4 17 (by decide) rfl rfl) y_8
          have hc_12 : σ_1 (A 9) = some (gs_ia X 320 f9) := by rw [eσ_1]; exact gs_ku (ndp hN 5 17 (by decide) rfl rfl) y_9
          have hc_13 : σ_1 (A 10) = some (gs_ia X 320 f10) := by rw [eσ_1]; exact gs_ku (ndp hN 6 17 (by decide) rfl rfl) y_10
          have hc_14 : σ_1 (A 11) = some (gs_ia X 320 f11) := by rw [eσ_1]; exact gs_ku (ndp hN 7 17 (by decide) rfl rfl) y_11
          have hc_15 : σ_1 (A 13) = some (gs_la X 49152 g3) := by rw [eσ_1]; exact gs_ku (ndp hN 9 17 (by decide) rfl rfl) y_13
          have hc_16 : σ_1 (A 24) = some (gs_ia X 8 b24) := by rw [eσ_1]; exact gs_ku (ndp hN 16 17 (by decide) rfl rfl) y_24
          have hc_17 : σ_1 (A 29) = some (gs_ia X 3 b29) := by rw [eσ_1]; exact gs_ku (Ne.symm (ndp hN 17 18 (by decide) rfl rfl)) y_29
          have hc_18 : σ_1 (A 30) = some (gs_ia X 3 f30) := by rw [eσ_1]; exact gs_ku (Ne.symm (ndp hN 17 19 (by decide) rfl rfl)) y_30
          have hc_19 : σ_1 (A 28) = some (gs_ia X 3 (upd b28 (hlT R i) (nI ((6 * q) + i)))) := by rw [eσ_1]; exact gs_us
          have fr_20 : frm [mo, A 8, A 9, A 10, A 11, A 13, A 24, A 28, A 29, A 30] σ σ_1 := by rw [eσ_1]; exact hf1.up (by simp)
          refine lv_aload_n hx hb d_MO_tries_65 rfl (lv_at hl 4 rfl) ?_
          refine gs_get (v := .ref (A 29)) hx hb ht hown hK hG k_MO hc_2 29 (by decide) w_691 rfl d_MO_tries_66 ?_
          refine lv_iload_n hx hb d_MO_tries_69 rfl (lv_at hl 1 rfl) ?_
          refine lv_iconst (v := nI 0) hx hb d_MO_tries_70 (by decide) ?_
          refine gs_iast hx hb hK hG hS hc_17 (j := hlT R i) (by omega) (by omega) d_MO_tries_71 (fun H locs hG hS => ?_)
          have hG : gs_H X (gs_up σ_1 (A 29) (gs_ia X 3 (upd b29 (hlT R i) (nI 0)))) H := hG
          obtain ⟨σ_21, eσ_21⟩ : ∃ zq, zq = gs_up σ_1 (A 29) (gs_ia X 3 (upd b29 (hlT R i) (nI 0))) := ⟨_, rfl⟩
          rw [← eσ_21] at hG
          have hc_22 : σ_21 mo = some (moE A Z) := by rw [eσ_21]; exact gs_ku (gs_ne hc_2 hc_17 (by simp)) hc_2
          have hc_23 : σ_21 (A 2) = some (gs_ia X 12 f2) := by rw [eσ_21]; exact gs_ku (ndp hN 0 18 (by decide) rfl rfl) hc_3
          have hc_24 : σ_21 (A 12) = some (gs_la X 49152 g) := by rw [eσ_21]; exact gs_ku (ndp hN 8 18 (by decide) rfl rfl) hc_4
          have hc_25 : σ_21 (A 18) = some (gs_ia X 25 f18) := by rw [eσ_21]; exact gs_ku (ndp hN 10 18 (by decide) rfl rfl) hc_5
          have hc_26 : σ_21 (A 19) = some (gs_ia X 75 f19) := by rw [eσ_21]; exact gs_ku (ndp hN 11 18 (by decide) rfl rfl) hc_6
          have hc_27 : σ_21 (A 20) = some (gs_ia X 25 f20) := by rw [eσ_21]; exact gs_ku (ndp hN 12 18 (by decide) rfl rfl) hc_7
          have hc_28 : σ_21 (A 21) = some (gs_ia X 150 f21) := by rw [eσ_21]; exact gs_ku (ndp hN 13 18 (by decide) rfl rfl) hc_8
          have hc_29 : σ_21 (A 22) = some (gs_ia X 150 f22) := by rw [eσ_21]; exact gs_ku (ndp hN 14 18 (by decide) rfl rfl) hc_9
          have hc_30 : σ_21 (A 23) = some (gs_ia X 450 f23) := by rw [eσ_21]; exact gs_ku (ndp hN 15 18 (by decide) rfl rfl) hc_10
          have hc_31 : σ_21 (A 8) = some (gs_ia X 320 f8) := by rw [eσ_21]; exact gs_ku (ndp hN 4 18 (by decide) rfl rfl) hc_11
          have hc_32 : σ_21 (A 9) = some (gs_ia X 320 f9) := by rw [eσ_21]; exact gs_ku (ndp hN 5 18 (by decide) rfl rfl) hc_12
          have hc_33 : σ_21 (A 10) = some (gs_ia X 320 f10) := by rw [eσ_21]; exact gs_ku (ndp hN 6 18 (by decide) rfl rfl) hc_13
          have hc_34 : σ_21 (A 11) = some (gs_ia X 320 f11) := by rw [eσ_21]; exact gs_ku (ndp hN 7 18 (by decide) rfl rfl) hc_14
          have hc_35 : σ_21 (A 13) = some (gs_la X 49152 g3) := by rw [eσ_21]; exact gs_ku (ndp hN 9 18 (by decide) rfl rfl) hc_15
          have hc_36 : σ_21 (A 24) = some (gs_ia X 8 b24) := by rw [eσ_21]; exact gs_ku (ndp hN 16 18 (by decide) rfl rfl) hc_16
          have hc_37 : σ_21 (A 30) = some (gs_ia X 3 f30) := by rw [eσ_21]; exact gs_ku (Ne.symm (ndp hN 18 19 (by decide) rfl rfl)) hc_18
          have hc_38 : σ_21 (A 28) = some (gs_ia X 3 (upd b28 (hlT R i) (nI ((6 * q) + i)))) := by rw [eσ_21]; exact gs_ku (ndp hN 17 18 (by decide) rfl rfl) hc_19
          have hc_39 : σ_21 (A 29) = some (gs_ia X 3 (upd b29 (hlT R i) (nI 0))) := by rw [eσ_21]; exact gs_us
          have fr_40 : frm [mo, A 8, A 9, A 10, A 11, A 13, A 24, A 28, A 29, A 30] σ σ_21 := by rw [eσ_21]; exact fr_20.up (by simp)
          refine lv_iinc (v := (nI ((hlT R i) + 1))) (lv' := [(3, .int (nI ((hlT R i) + 1))), (4, .int (nI i)), (2, .int (bI fd)), (1, .int (nI q)), (0, .ref mo)]) hx hb d_MO_tries_72 hl (k := 1) rfl (by exact nI_1 _) (by decide) rfl (fun ls hl => ?_)
          refine lv_iinc (v := (nI (i + 1))) (lv' := [(4, .int (nI (i + 1))), (3, .int (nI ((hlT R i) + 1))), (2, .int (bI fd)), (1, .int (nI q)), (0, .ref mo)]) hx hb d_MO_tries_75 hl (k := 1) rfl (by exact nI_1 _) (by decide) rfl (fun ls hl => ?_)
          refine lv_goto (tgt := 26) hx hb d_MO_tries_78 (by decide) ?_
          rw [if_pos c_49] at hcs
          exact ih (i + 1) b24 (upd b28 (hlT R i) (nI ((6 * q) + i))) (upd b29 (hlT R i) (nI 0)) σ_21 (by omega) hv1 (hpO_s hpo hx9 c_49) (fun k hk => by unfold upd; by_cases e : k = hlT R i; rw [if_pos e]; rw [if_neg e]; exact h0n k (by omega)) fr_40 (by omega) hc_22 hc_23 hc_24 hc_25 hc_26 hc_27 hc_28 hc_29 hc_30 hc_31 hc_32 hc_33 hc_34 hc_35 hc_36 hc_38 hc_39 hc_37 H locs hG hS ls (by rw [hcs]; exact (lv_sub hl [0, 1, 2, 3, 4] rfl))
  have loop1 : ∀ (fl : Nat) (i : Nat) (b24 : Nat → Int32) (σ1 : gs_St), (i ≤ 8) → (∀ j, j < i → b24 j = -1) → (frm [mo, A 8, A 9, A 10, A 11, A 13, A 24, A 28, A 29, A 30] σ σ1) → 8 - i < fl → (σ1 mo = some (moE A Z)) → (σ1 (A 2) = some (gs_ia X 12 f2)) → (σ1 (A 12) = some (gs_la X 49152 g)) → (σ1 (A 18) = some (gs_ia X 25 f18)) → (σ1 (A 19) = some (gs_ia X 75 f19)) → (σ1 (A 20) = some (gs_ia X 25 f20)) → (σ1 (A 21) = some (gs_ia X 150 f21)) → (σ1 (A 22) = some (gs_ia X 150 f22)) → (σ1 (A 23) = some (gs_ia X 450 f23)) → (σ1 (A 8) = some (gs_ia X 320 f8)) → (σ1 (A 9) = some (gs_ia X 320 f9)) → (σ1 (A 10) = some (gs_ia X 320 f10)) → (σ1 (A 11) = some (gs_ia X 320 f11)) → (σ1 (A 13) = some (gs_la X 49152 g3)) → (σ1 (A 24) = some (gs_ia X 8 b24)) → (σ1 (A 28) = some (gs_ia X 3 f28)) → (σ1 (A 29) = some (gs_ia X 3 f29)) → (σ1 (A 30) = some (gs_ia X 3 f30)) → ∀ (H : Heap) (locs : List Loc), gs_H X σ1 H → va_S (gs_A X) s.heap H locs → ∀ ls, lv_has ls 6 [(3, .int (nI i)), (2, .int (bI fd)), (1, .int (nI q)), (0, .ref mo)] → W p l e ({ frames := 3, cells := 0, slots := 0, locals := 74 } : Room) s m ([.ref mo, .int (nI q), .int (bI fd)] : List Value).toArray below meth c H locs 0 0 (MQ below (va_Qv (fun σ' => ∃ ov' f28' f29' f30', trS X σ σ' mo A Z T fd ov' (trM cw T rc q R fd (hls R) (fun _ => none) s0) f28' f29' f30') (gs_U X) (gs_A X)) ([.ref mo, .int (nI q), .int (bI fd)] : List Value).toArray s 0 0 (gs_A X)) (F0 m 2 ls []) := by
    intro fl
    induction fl with
    | zero => intro i b24 σ1 _ _ _ h9; omega
    | succ fl ih =>
      intro i b24 σ1 hi hbz hf1 hmu y_mo y_2 y_12 y_18 y_19 y_20 y_21 y_22 y_23 y_8 y_9 y_10 y_11 y_13 y_24 y_28 y_29 y_30 H locs hG hS ls hl
      refine lv_iload_n hx hb d_MO_tries_2 rfl (lv_at hl 0 rfl) ?_
      refine lv_bipush (v := nI 8) hx hb d_MO_tries_3 (by decide) ?_
      refine lv_icmp_ge (tgt := 21) hx hb d_MO_tries_5 (by decide) (fun c_5 => ?_) (fun c_5 => ?_)
      · have c_5 : 8 ≤ i := (nI_leI (by omega) (by omega)).mp c_5
        refine lv_iconst (v := nI 0) hx hb d_MO_tries_21 (by decide) ?_
        refine lv_istore_n (lv' := [(3, .int (nI 0)), (2, .int (bI fd)), (1, .int (nI q)), (0, .ref mo)]) hx hb d_MO_tries_22 rfl hl (by decide) rfl (fun ls hl => ?_)
        refine lv_iconst (v := nI 0) hx hb d_MO_tries_23 (by decide) ?_
        refine lv_istore (lv' := [(4, .int (nI 0)), (3, .int (nI 0)), (2, .int (bI fd)), (1, .int (nI q)), (0, .ref mo)]) hx hb d_MO_tries_24 hl (by decide) rfl (fun ls hl => ?_)
        exact loop2 (R.2.length + 1) 0 b24 f28 f29 σ1 (by omega) (fun j hj => ⟨hbz j (by omega), fun n z => by cases z⟩) (fun k y hy => by simp at hy) (fun k hk => by unfold hlT at hk; simp at hk) hf1 (by omega) y_mo y_2 y_12 y_18 y_19 y_20 y_21 y_22 y_23 y_8 y_9 y_10 y_11 y_13 y_24 y_28 y_29 y_30 H locs hG hS ls (lv_sub hl [0, 1, 2, 3, 4] rfl)
      · have c_5 : ¬ 8 ≤ i := mt (nI_leI (by omega) (by omega)).mpr c_5
        refine lv_aload_n hx hb d_MO_tries_8 rfl (lv_at hl 3 rfl) ?_
        refine gs_get (v := .ref (A 24)) hx hb ht hown hK hG k_MO y_mo 24 (by decide) w_686 rfl d_MO_tries_9 ?_
        refine lv_iload_n hx hb d_MO_tries_12 rfl (lv_at hl 0 rfl) ?_
        refine lv_iconst (v := -1) hx hb d_MO_tries_13 (by decide) ?_
        refine gs_iast hx hb hK hG hS y_24 (j := i) (by omega) (by omega) d_MO_tries_14 (fun H locs hG hS => ?_)
        have hG : gs_H X (gs_up σ1 (A 24) (gs_ia X 8 (upd b24 i (-1)))) H := hG
        obtain ⟨σ_1, eσ_1⟩ : ∃ zq, zq = gs_up σ1 (A 24) (gs_ia X 8 (upd b24 i (-1))) := ⟨_, rfl⟩
        rw [← eσ_1] at hG
        have hc_2 : σ_1 mo = some (moE A Z) := by rw [eσ_1]; exact gs_ku (gs_ne y_mo y_24 (by simp)) y_mo
        have hc_3 : σ_1 (A 2) = some (gs_ia X 12 f2) := by rw [eσ_1]; exact gs_ku (ndp hN 0 16 (by decide) rfl rfl) y_2
        have hc_4 : σ_1 (A 12) = some (gs_la X 49152 g) := by rw [eσ_1]; exact gs_ku (ndp hN 8 16 (by decide) rfl rfl) y_12
        have hc_5 : σ_1 (A 18) = some (gs_ia X 25 f18) := by rw [eσ_1]; exact gs_ku (ndp hN 10 16 (by decide) rfl rfl) y_18
        have hc_6 : σ_1 (A 19) = some (gs_ia X 75 f19) := by rw [eσ_1]; exact gs_ku (ndp hN 11 16 (by decide) rfl rfl) y_19
        have hc_7 : σ_1 (A 20) = some (gs_ia X 25 f20) := by rw [eσ_1]; exact gs_ku (ndp hN 12 16 (by decide) rfl rfl) y_20
        have hc_8 : σ_1 (A 21) = some (gs_ia X 150 f21) := by rw [eσ_1]; exact gs_ku (ndp hN 13 16 (by decide) rfl rfl) y_21
        have hc_9 : σ_1 (A 22) = some (gs_ia X 150 f22) := by rw [eσ_1]; exact gs_ku (ndp hN 14 16 (by decide) rfl rfl) y_22
        have hc_10 : σ_1 (A 23) = some (gs_ia X 450 f23) := by rw [eσ_1]; exact gs_ku (ndp hN 15 16 (by decide) rfl rfl) y_23
        have hc_11 : σ_1 (A 8) = some (gs_ia X 320 f8) := by rw [eσ_1]; exact gs_ku (ndp hN 4 16 (by decide) rfl rfl) y_8
        have hc_12 : σ_1 (A 9) = some (gs_ia X 320 f9) := by rw [eσ_1]; exact gs_ku (ndp hN 5 16 (by decide) rfl rfl) y_9
        have hc_13 : σ_1 (A 10) = some (gs_ia X 320 f10) := by rw [eσ_1]; exact gs_ku (ndp hN 6 16 (by decide) rfl rfl) y_10
        have hc_14 : σ_1 (A 11) = some (gs_ia X 320 f11) := by rw [eσ_1]; exact gs_ku (ndp hN 7 16 (by decide) rfl rfl) y_11
        have hc_15 : σ_1 (A 13) = some (gs_la X 49152 g3) := by rw [eσ_1]; exact gs_ku (ndp hN 9 16 (by decide) rfl rfl) y_13
        have hc_16 : σ_1 (A 28) = some (gs_ia X 3 f28) := by rw [eσ_1]; exact gs_ku (Ne.symm (ndp hN 16 17 (by decide) rfl rfl)) y_28
        have hc_17 : σ_1 (A 29) = some (gs_ia X 3 f29) := by rw [eσ_1]; exact gs_ku (Ne.symm (ndp hN 16 18 (by decide) rfl rfl)) y_29
        have hc_18 : σ_1 (A 30) = some (gs_ia X 3 f30) := by rw [eσ_1]; exact gs_ku (Ne.symm (ndp hN 16 19 (by decide) rfl rfl)) y_30
        have hc_19 : σ_1 (A 24) = some (gs_ia X 8 (upd b24 i (-1))) := by rw [eσ_1]; exact gs_us
        have fr_20 : frm [mo, A 8, A 9, A 10, A 11, A 13, A 24, A 28, A 29, A 30] σ σ_1 := by rw [eσ_1]; exact hf1.up (by simp)
        refine lv_iinc (v := (nI (i + 1))) (lv' := [(3, .int (nI (i + 1))), (2, .int (bI fd)), (1, .int (nI q)), (0, .ref mo)]) hx hb d_MO_tries_15 hl (k := 0) rfl (by exact nI_1 _) (by decide) rfl (fun ls hl => ?_)
        refine lv_goto (tgt := 2) hx hb d_MO_tries_18 (by decide) ?_
        exact ih (i + 1) (upd b24 i (-1)) σ_1 (by omega) (fun j hj => by unfold upd; by_cases e : j = i; rw [if_pos e]; rw [if_neg e]; exact hbz j (by omega)) fr_20 (by omega) hc_2 hc_3 hc_4 hc_5 hc_6 hc_7 hc_8 hc_9 hc_10 hc_11 hc_12 hc_13 hc_14 hc_15 hc_19 hc_16 hc_17 hc_18 H locs hG hS ls (lv_sub hl [0, 1, 2, 3] rfl)
  refine lv_iconst (v := nI 0) hx hb d_MO_tries_0 (by decide) ?_
  refine lv_istore_n (lv' := [(3, .int (nI 0)), (0, .ref mo), (1, .int (nI q)), (2, .int (bI fd))]) hx hb d_MO_tries_1 rfl hl (by decide) rfl (fun ls hl => ?_)
  exact loop1 9 0 f24 σ (by omega) (fun j hj => by omega) fr0 (by omega) m0 m2 m12 m18 m19 m20 m21 m22 m23 m8 m9 m10 m11 m13 m24 m28 m29 m30 _ _ hG hS ls (lv_sub hl [0, 3, 2, 1] rfl)
