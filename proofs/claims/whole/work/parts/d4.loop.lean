set_option maxHeartbeats 4000000 in
set_option maxRecDepth 100000 in
theorem law_loop {RL : RLT} (pe : PE RL) {p : Program} {e : Env} {s : State} {m : MethodId} {below : List Frame} {meth : Method} {c : Code} (l : Launch) {sb L : Nat} {xs : Nat → Int32} {X : gs_X} (htr : l.stackTraces = false) (C0 : lw_At p s m meth c sb L xs) (hL : L ≤ 3072) (hXX : X.2.1 3 ≠ X.2.1 2) (hK : gs_T X s) (hE : gs_E X s) (hz : X.2.2 ≤ s.heap.size) (hbA : ¬ gs_A X sb) {rr mo out : Nat} {A : Nat → Nat} (hzE : X.2.2 = s.heap.size) : ∀ (fl i cells slots : Nat) (σ : gs_St) (H : Heap) (locs : List Loc), L + 6 - i < fl → i ≤ L + 6 → LI RL X σ rr mo out A → cells + 6 * fl ≤ 601024 → slots + 64 * fl ≤ 7293034 → gs_H X σ H → va_S (gs_A X) s.heap H locs → ∀ ls, lv_has ls 7 [(4, .int (nI i)), (3, .ref out), (2, .ref mo), (1, .ref rr), (0, .ref sb)] → W p l e room_1 s m #[Value.ref sb] below meth c H locs cells slots (lw_Z below #[Value.ref sb] s) (F0 m 23 ls []) := by
  obtain ⟨hx, hb, hr, hml, hown, hts0, hX, hbl, hlocks, hgv⟩ := id C0
  intro fl
  induction fl with
  | zero => intro i cells slots σ H locs h9; omega
  | succ fl ih =>
    intro i cells slots σ H locs hmu hi6 hLI hce hsl hG hS ls hl
    refine lv_iload hx hb d_LA_law_23 (lv_at hl 0 rfl) ?_
    refine lv_aload_n hx hb d_LA_law_25 rfl (lv_at hl 4 rfl) ?_
    refine gs_slen hx hb hX hbl hbA hS d_LA_law_26 ?_
    refine lv_bipush (v := nI 6) hx hb d_LA_law_27 (by decide) ?_
    refine lv_isub hx hb d_LA_law_29 ?_
    refine lv_icmp_gt (tgt := 1091) hx hb d_LA_law_30 (by decide) (fun c_30 => ?_) (fun c_30 => ?_)
    · exact law_end C0 hS hzE (by omega) (by omega)
    · have hi9 : i + 6 ≤ L := by have := mt (len6 hL (by omega)).mpr c_30; omega
      have kont : ∀ (σ' : gs_St) (H : Heap) (locs : List Loc), LI RL X σ' rr mo out A → gs_H X σ' H → va_S (gs_A X) s.heap H locs → ∀ ls, lv_has ls 7 [(4, .int (nI i)), (3, .ref out), (2, .ref mo), (1, .ref rr), (0, .ref sb)] → W p l e room_1 s m #[Value.ref sb] below meth c H locs (cells + 6) (slots + 64) (lw_Z below #[Value.ref sb] s) (F0 m 1085 ls []) := by
        intro σ' H locs hLI hG hS ls hl
        refine lv_iinc (v := (nI (i + 6))) (lv' := [(4, .int (nI (i + 6))), (3, .ref out), (2, .ref mo), (1, .ref rr), (0, .ref sb)]) hx hb d_LA_law_1085 hl (k := 0) rfl (by exact nI_add _ _) (by decide) rfl (fun ls hl => ?_)
        refine lv_goto (tgt := 23) hx hb d_LA_law_1088 (by decide) ?_
        exact ih (i + 6) (cells + 6) (slots + 64) σ' H locs (by omega) (by omega) hLI (by omega) (by omega) hG hS ls (lv_sub hl [0, 1, 2, 3, 4] rfl)
      obtain ⟨k, hk16, hk⟩ := and15 (xs i)
      refine lv_aload_n hx hb d_LA_law_33 rfl (lv_at hl 4 rfl) ?_
      refine lv_iload hx hb d_LA_law_34 (lv_at hl 0 rfl) ?_
      refine gs_sld hx hb hX hbl hbA hS (j := i) (by omega) (by omega) d_LA_law_36 ?_
      refine lv_bipush (v := nI 15) hx hb d_LA_law_37 (by decide) ?_
      refine lv_iand hx hb d_LA_law_39 ?_
      refine gs_top (show ((xs (i)) &&& (nI 15)) = (nI k) from hk) ?_
      rcases Nat.lt_or_ge k 16 with hsw_40 | hsw_40
      · rcases (show k = 0 ∨ k = 1 ∨ k = 2 ∨ k = 3 ∨ k = 4 ∨ k = 5 ∨ k = 6 ∨ k = 7 ∨ k = 8 ∨ k = 9 ∨ k = 10 ∨ k = 11 ∨ k = 12 ∨ k = 13 ∨ k = 14 ∨ k = 15 by omega) with hsw_40 | hsw_40 | hsw_40 | hsw_40 | hsw_40 | hsw_40 | hsw_40 | hsw_40 | hsw_40 | hsw_40 | hsw_40 | hsw_40 | hsw_40 | hsw_40 | hsw_40 | hsw_40
        · refine gs_top (show nI k = nI 0 from congrArg nI hsw_40) ?_
          refine lv_tableIn (off := 80) (tgt := 120) hx hb d_LA_law_40 (by decide) (by decide) (by decide) (by decide) ?_
          exact ld_relation pe l htr C0 hL hXX hK hE hz hbA hLI hi9 (by omega) (by omega) (fun σ' H locs hLI hG hS ls hl => kont σ' H locs hLI hG hS ls hl) hG hS (lv_sub hl [0, 1, 2, 3, 4] rfl)
        · refine gs_top (show nI k = nI 1 from congrArg nI hsw_40) ?_
          refine lv_tableIn (off := 136) (tgt := 176) hx hb d_LA_law_40 (by decide) (by decide) (by decide) (by decide) ?_
          exact ld_fact pe l htr C0 hL hXX hK hE hz hbA hLI hi9 (by omega) (by omega) (fun σ' H locs hLI hG hS ls hl => kont σ' H locs hLI hG hS ls hl) hG hS (lv_sub hl [0, 1, 2, 3, 4] rfl)
        · refine gs_top (show nI k = nI 2 from congrArg nI hsw_40) ?_
          refine lv_tableIn (off := 235) (tgt := 275) hx hb d_LA_law_40 (by decide) (by decide) (by decide) (by decide) ?_
          exact ld_drop pe l htr C0 hL hXX hK hE hz hbA hLI hi9 (by omega) (by omega) (fun σ' H locs hLI hG hS ls hl => kont σ' H locs hLI hG hS ls hl) hG hS (lv_sub hl [0, 1, 2, 3, 4] rfl)
        · refine gs_top (show nI k = nI 3 from congrArg nI hsw_40) ?_
          refine lv_tableIn (off := 334) (tgt := 374) hx hb d_LA_law_40 (by decide) (by decide) (by decide) (by decide) ?_
          exact ld_head pe l htr C0 hL hXX hK hE hz hbA hLI hi9 (by omega) (by omega) (fun σ' H locs hLI hG hS ls hl => kont σ' H locs hLI hG hS ls hl) hG hS (lv_sub hl [0, 1, 2, 3, 4] rfl)
        · refine gs_top (show nI k = nI 4 from congrArg nI hsw_40) ?_
          refine lv_tableIn (off := 406) (tgt := 446) hx hb d_LA_law_40 (by decide) (by decide) (by decide) (by decide) ?_
          exact ld_item pe l htr C0 hL hXX hK hE hz hbA hLI hi9 (by omega) (by omega) (fun σ' H locs hLI hG hS ls hl => kont σ' H locs hLI hG hS ls hl) hG hS (lv_sub hl [0, 1, 2, 3, 4] rfl)
        · refine gs_top (show nI k = nI 5 from congrArg nI hsw_40) ?_
          refine lv_tableIn (off := 510) (tgt := 550) hx hb d_LA_law_40 (by decide) (by decide) (by decide) (by decide) ?_
          exact ld_rule pe l htr C0 hL hXX hK hE hz hbA hLI hi9 (by omega) (by omega) (fun σ' H locs hLI hG hS ls hl => kont σ' H locs hLI hG hS ls hl) hG hS (lv_sub hl [0, 1, 2, 3, 4] rfl)
        · refine gs_top (show nI k = nI 6 from congrArg nI hsw_40) ?_
          refine lv_tableIn (off := 554) (tgt := 594) hx hb d_LA_law_40 (by decide) (by decide) (by decide) (by decide) ?_
          exact ld_strata pe l htr C0 hL hXX hK hE hz hbA hLI hi9 (by omega) (by omega) (fun σ' H locs hLI hG hS ls hl => kont σ' H locs hLI hG hS ls hl) hG hS (lv_sub hl [0, 1, 2, 3, 4] rfl)
        · refine gs_top (show nI k = nI 7 from congrArg nI hsw_40) ?_
          refine lv_tableIn (off := 567) (tgt := 607) hx hb d_LA_law_40 (by decide) (by decide) (by decide) (by decide) ?_
          exact ld_stratum pe l htr C0 hL hXX hK hE hz hbA hLI hi9 (by omega) (by omega) (fun σ' H locs hLI hG hS ls hl => kont σ' H locs hLI hG hS ls hl) hG hS (lv_sub hl [0, 1, 2, 3, 4] rfl)
        · refine gs_top (show nI k = nI 8 from congrArg nI hsw_40) ?_
          refine lv_tableIn (off := 623) (tgt := 663) hx hb d_LA_law_40 (by decide) (by decide) (by decide) (by decide) ?_
          exact ld_step pe l htr C0 hL hXX hK hE hz hbA hLI hi9 (by omega) (by omega) (fun σ' H locs hLI hG hS ls hl => kont σ' H locs hLI hG hS ls hl) hG hS (lv_sub hl [0, 1, 2, 3, 4] rfl)
        · refine gs_top (show nI k = nI 9 from congrArg nI hsw_40) ?_
          refine lv_tableIn (off := 636) (tgt := 676) hx hb d_LA_law_40 (by decide) (by decide) (by decide) (by decide) ?_
          exact ld_run pe l htr C0 hL hXX hK hE hz hbA hLI hi9 (by omega) (by omega) (fun σ' H locs hLI hG hS ls hl => kont σ' H locs hLI hG hS ls hl) hG hS (lv_sub hl [0, 1, 2, 3, 4] rfl)
        · refine gs_top (show nI k = nI 10 from congrArg nI hsw_40) ?_
          refine lv_tableIn (off := 649) (tgt := 689) hx hb d_LA_law_40 (by decide) (by decide) (by decide) (by decide) ?_
          exact ld_rounds pe l htr C0 hL hXX hK hE hz hbA hLI hi9 (by omega) (by omega) (fun σ' H locs hLI hG hS ls hl => kont σ' H locs hLI hG hS ls hl) hG hS (lv_sub hl [0, 1, 2, 3, 4] rfl)
        · refine gs_top (show nI k = nI 11 from congrArg nI hsw_40) ?_
          refine lv_tableIn (off := 662) (tgt := 702) hx hb d_LA_law_40 (by decide) (by decide) (by decide) (by decide) ?_
          exact ld_count pe l htr C0 hL hXX hK hE hz hbA hLI hi9 (by omega) (by omega) (fun σ' H locs hLI hG hS ls hl => kont σ' H locs hLI hG hS ls hl) hG hS (lv_sub hl [0, 1, 2, 3, 4] rfl)
        · refine gs_top (show nI k = nI 12 from congrArg nI hsw_40) ?_
          refine lv_tableIn (off := 718) (tgt := 758) hx hb d_LA_law_40 (by decide) (by decide) (by decide) (by decide) ?_
          exact ld_has pe l htr C0 hL hXX hK hE hz hbA hLI hi9 (by omega) (by omega) (fun σ' H locs hLI hG hS ls hl => kont σ' H locs hLI hG hS ls hl) hG hS (lv_sub hl [0, 1, 2, 3, 4] rfl)
        · refine gs_top (show nI k = nI 13 from congrArg nI hsw_40) ?_
          refine lv_tableIn (off := 817) (tgt := 857) hx hb d_LA_law_40 (by decide) (by decide) (by decide) (by decide) ?_
          exact ld_tuple pe l htr C0 hL hXX hK hE hz hbA hLI hi9 (by omega) (by omega) (fun σ' H locs hLI hG hS ls hl => kont σ' H locs hLI hG hS ls hl) hG hS (lv_sub hl [0, 1, 2, 3, 4] rfl)
        · refine gs_top (show nI k = nI 14 from congrArg nI hsw_40) ?_
          refine lv_tableIn (off := 897) (tgt := 937) hx hb d_LA_law_40 (by decide) (by decide) (by decide) (by decide) ?_
          exact ld_like pe l htr C0 hL hXX hK hE hz hbA hLI hi9 (by omega) (by omega) (fun σ' H locs hLI hG hS ls hl => kont σ' H locs hLI hG hS ls hl) hG hS (lv_sub hl [0, 1, 2, 3, 4] rfl)
        · refine gs_top (show nI k = nI 15 from congrArg nI hsw_40) ?_
          refine lv_tableIn (off := 989) (tgt := 1029) hx hb d_LA_law_40 (by decide) (by decide) (by decide) (by decide) ?_
          exact ld_matches pe l htr C0 hL hXX hK hE hz hbA hLI hi9 (by omega) (by omega) (fun σ' H locs hLI hG hS ls hl => kont σ' H locs hLI hG hS ls hl) hG hS (lv_sub hl [0, 1, 2, 3, 4] rfl)
      · refine lv_tableOut (tgt := 1085) hx hb d_LA_law_40 (Or.inr (by rw [nI_toInt (by omega)]; omega)) (by decide) ?_
        omega
