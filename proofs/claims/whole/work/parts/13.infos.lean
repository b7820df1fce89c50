theorem gs_z {a : Nat} (h : a < 2 ^ 31) (c : nI a = 0) : a = 0 := by rw [← nI_0] at c; exact (nI_eq h (by decide)).mp c
theorem gs_zn {a : Nat} (h : a < 2 ^ 31) (c : ¬ nI a = 0) : ¬ a = 0 := fun z => c (by rw [z]; exact nI_0)
theorem gs_le0 {a : Nat} (h : a < 2 ^ 31) : nI a ≤ 0 ↔ a = 0 := by rw [← nI_0, nI_leI h (by decide)]; omega
theorem gs_gt0 {a : Nat} (h : a < 2 ^ 31) : 0 < nI a ↔ 0 < a := by rw [← nI_0, nI_ltI (by decide) h]
theorem gs_dec {a : Nat} (h : 1 ≤ a) : nI a + Int32.ofInt (-1) = nI (a - 1) := by obtain ⟨k, rfl⟩ : ∃ k, a = k + 1 := ⟨a - 1, by omega⟩; exact pk_m1 k
theorem gs_max {a b : Nat} (ha : a < 2 ^ 31) (hb : b < 2 ^ 31) : (if nI a < nI b then nI b else nI a) = nI (max a b) := by
  by_cases h : a < b
  · rw [if_pos ((nI_ltI ha hb).mpr h), Nat.max_eq_right (by omega)]
  · rw [if_neg (mt (nI_ltI ha hb).mp h), Nat.max_eq_left (by omega)]
def bI (b : Bool) : Int32 := if b then nI 1 else nI 0
theorem bI_t : bI true = nI 1 := rfl
theorem bI_f : bI false = nI 0 := rfl
theorem bI_0 {b : Bool} (h : bI b = 0) : b = false := by
  cases b
  · rfl
  · exact absurd h (by decide)
theorem bI_n0 {b : Bool} (h : ¬ bI b = 0) : b = true := by
  cases b
  · exact absurd rfl h
  · rfl
theorem bI_nar (b : Bool) : narrow .boolean (.int (bI b)) = .int (bI b) := by cases b <;> rfl
theorem bI_fit (b : Bool) : fits .boolean (.int (bI b)) = true := by cases b <;> rfl
theorem k_RR : gs_cls gs_w 0 R_RR F_RR 6 t_RR := ⟨lay_RR, rfl, tok_RR, n_RR⟩
theorem k_DE : gs_cls gs_w 1 R_DE F_DE 8 t_DE := ⟨lay_DE, rfl, tok_DE, n_DE⟩
theorem k_IT : gs_cls gs_w 2 R_IT F_IT 9 t_IT := ⟨lay_IT, rfl, tok_IT, n_IT⟩
theorem k_MA : gs_cls gs_w 3 R_MA F_MA 2 t_MA := ⟨lay_MA, rfl, tok_MA, n_MA⟩
theorem k_RU : gs_cls gs_w 4 R_RU F_RU 6 t_RU := ⟨lay_RU, rfl, tok_RU, n_RU⟩
theorem k_RB : gs_cls gs_w 5 R_RB F_RB 6 t_RB := ⟨lay_RB, rfl, tok_RB, n_RB⟩
theorem k_TU : gs_cls gs_w 6 R_TU F_TU 4 t_TU := ⟨lay_TU, rfl, tok_TU, n_TU⟩
theorem k_MO : gs_cls gs_w 7 R_MO F_MO 31 t_MO := ⟨lay_MO, rfl, tok_MO, n_MO⟩
theorem mI_RR_init : gs_mI y_RR_init b_RR_init 1 0 := ⟨w_19, w_1, w_20, rfl, by decide, by decide, by decide +kernel⟩
theorem mI_RB_init : gs_mI y_RB_init b_RB_init 1 0 := ⟨w_27, w_2, w_28, rfl, by decide, by decide, by decide +kernel⟩
theorem mI_TU_init : gs_mI y_TU_init b_TU_init 1 0 := ⟨w_65, w_3, w_66, rfl, by decide, by decide, by decide +kernel⟩
theorem mI_MA_init : gs_mI y_MA_init b_MA_init 2 1 := ⟨w_93, w_4, w_94, rfl, by decide, by decide, by decide +kernel⟩
theorem mI_DE_init : gs_mI y_DE_init b_DE_init 4 3 := ⟨w_106, w_5, w_107, rfl, by decide, by decide, by decide +kernel⟩
theorem mV_RR_strata : gs_mV y_RR_strata R_RR b_RR_strata 1 (some .int) 0 := ⟨w_157, w_158, w_1, w_159, rfl, by decide, by decide, by decide +kernel⟩
theorem mV_RR_step : gs_mV y_RR_step R_RR b_RR_step 1 (some .int) 0 := ⟨w_161, w_162, w_1, w_163, rfl, by decide, by decide, by decide +kernel⟩
theorem mV_DE_nextRound : gs_mV y_DE_nextRound R_DE b_DE_nextRound 2 (some .int) 0 := ⟨w_165, w_166, w_5, w_167, rfl, by decide, by decide, by decide +kernel⟩
theorem mV_DE_isTooMuch : gs_mV y_DE_isTooMuch R_DE b_DE_isTooMuch 1 (some .boolean) 0 := ⟨w_170, s_0, w_5, w_171, rfl, by decide, by decide, by decide +kernel⟩
theorem mV_DE_deriveBy : gs_mV y_DE_deriveBy R_DE b_DE_deriveBy 3 none 1 := ⟨w_174, s_1, w_5, w_175, rfl, by decide, by decide, by decide +kernel⟩
theorem mV_DE_deriveFrom : gs_mV y_DE_deriveFrom R_DE b_DE_deriveFrom 11 (some .boolean) 3 := ⟨w_178, s_2, w_5, w_179, rfl, by decide, by decide, by decide +kernel⟩
theorem mV_MA_codeOf : gs_mV y_MA_codeOf R_MA b_MA_codeOf 4 (some .int) 1 := ⟨w_181, w_182, w_4, w_183, rfl, by decide, by decide, by decide +kernel⟩
theorem mV_IT_term : gs_mV y_IT_term R_IT b_IT_term 2 (some .int) 1 := ⟨w_185, w_186, w_15, w_187, rfl, by decide, by decide, by decide +kernel⟩
theorem mV_MA_valueOf : gs_mV y_MA_valueOf R_MA b_MA_valueOf 2 (some .int) 1 := ⟨w_190, s_3, w_4, w_191, rfl, by decide, by decide, by decide +kernel⟩
theorem mV_DE_isKnown : gs_mV y_DE_isKnown R_DE b_DE_isKnown 2 (some .boolean) 1 := ⟨w_194, s_4, w_5, w_195, rfl, by decide, by decide, by decide +kernel⟩
theorem mV_TU_contains : gs_mV y_TU_contains R_TU b_TU_contains 3 (some .boolean) 1 := ⟨w_197, w_198, w_3, w_199, rfl, by decide, by decide, by decide +kernel⟩
theorem mV_TU_placeOf : gs_mV y_TU_placeOf R_TU b_TU_placeOf 5 (some .int) 1 := ⟨w_201, w_202, w_3, w_203, rfl, by decide, by decide, by decide +kernel⟩
theorem mV_MA_checksHold : gs_mV y_MA_checksHold R_MA b_MA_checksHold 6 (some .boolean) 2 := ⟨w_205, w_206, w_4, w_207, rfl, by decide, by decide, by decide +kernel⟩
theorem mV_MA_comparisonHolds : gs_mV y_MA_comparisonHolds R_MA b_MA_comparisonHolds 4 (some .boolean) 1 := ⟨w_212, s_5, w_4, w_213, rfl, by decide, by decide, by decide +kernel⟩
theorem mV_TU_insert : gs_mV y_TU_insert R_TU b_TU_insert 5 none 3 := ⟨w_215, w_216, w_3, w_217, rfl, by decide, by decide, by decide +kernel⟩
theorem mV_TU_move : gs_mV y_TU_move R_TU b_TU_move 4 none 2 := ⟨w_220, s_6, w_3, w_221, rfl, by decide, by decide, by decide +kernel⟩
theorem mV_IT_span : gs_mV y_IT_span R_IT b_IT_span 1 (some .int) 0 := ⟨w_226, w_227, w_15, w_228, rfl, by decide, by decide, by decide +kernel⟩
theorem mV_MA_fits : gs_mV y_MA_fits R_MA b_MA_fits 6 (some .boolean) 2 := ⟨w_231, w_232, w_4, w_233, rfl, by decide, by decide, by decide +kernel⟩
theorem mS_RR_valueAt : gs_mS y_RR_valueAt b_RR_valueAt 2 (some .int) 2 := ⟨w_235, w_1, w_236, by decide, by decide, by decide +kernel⟩
theorem mV_IT_bindsAt : gs_mV y_IT_bindsAt R_IT b_IT_bindsAt 2 (some .boolean) 1 := ⟨w_238, w_239, w_15, w_240, rfl, by decide, by decide, by decide +kernel⟩
theorem mV_DE_closeRound : gs_mV y_DE_closeRound R_DE b_DE_closeRound 2 none 0 := ⟨w_243, s_7, w_5, w_244, rfl, by decide, by decide, by decide +kernel⟩
theorem mV_TU_copyCodes : gs_mV y_TU_copyCodes R_TU b_TU_copyCodes 2 none 1 := ⟨w_246, w_247, w_3, w_248, rfl, by decide, by decide, by decide +kernel⟩
theorem mV_RR_run : gs_mV y_RR_run R_RR b_RR_run 3 (some .int) 0 := ⟨w_250, w_251, w_1, w_252, rfl, by decide, by decide, by decide +kernel⟩
theorem mV_RR_rounds : gs_mV y_RR_rounds R_RR b_RR_rounds 1 (some .int) 0 := ⟨w_254, w_255, w_1, w_256, rfl, by decide, by decide, by decide +kernel⟩
theorem mV_RR_relation : gs_mV y_RR_relation R_RR b_RR_relation 2 (some .int) 1 := ⟨w_263, w_264, w_1, w_265, rfl, by decide, by decide, by decide +kernel⟩
theorem mV_RB_addRelation : gs_mV y_RB_addRelation R_RB b_RB_addRelation 2 none 1 := ⟨w_350, w_351, w_2, w_352, rfl, by decide, by decide, by decide +kernel⟩
theorem mV_RB_findStrata : gs_mV y_RB_findStrata R_RB b_RB_findStrata 3 none 0 := ⟨w_355, s_9, w_2, w_356, rfl, by decide, by decide, by decide +kernel⟩
theorem mV_RB_raiseHeads : gs_mV y_RB_raiseHeads R_RB b_RB_raiseHeads 5 (some .boolean) 0 := ⟨w_359, s_10, w_2, w_360, rfl, by decide, by decide, by decide +kernel⟩
theorem mV_RB_leastStratum : gs_mV y_RB_leastStratum R_RB b_RB_leastStratum 4 (some .int) 1 := ⟨w_363, s_11, w_2, w_364, rfl, by decide, by decide, by decide +kernel⟩
theorem mV_RB_greatestStratum : gs_mV y_RB_greatestStratum R_RB b_RB_greatestStratum 3 (some .int) 0 := ⟨w_370, s_12, w_2, w_371, rfl, by decide, by decide, by decide +kernel⟩
theorem mV_DE_beginAnew : gs_mV y_DE_beginAnew R_DE b_DE_beginAnew 1 none 0 := ⟨w_373, w_374, w_5, w_375, rfl, by decide, by decide, by decide +kernel⟩
theorem mV_TU_keepFacts : gs_mV y_TU_keepFacts R_TU b_TU_keepFacts 3 none 0 := ⟨w_377, w_378, w_3, w_379, rfl, by decide, by decide, by decide +kernel⟩
theorem mV_RR_fact : gs_mV y_RR_fact R_RR b_RR_fact 6 (some .boolean) 4 := ⟨w_384, w_385, w_1, w_386, rfl, by decide, by decide, by decide +kernel⟩
theorem mV_RR_requireTuple : gs_mV y_RR_requireTuple R_RR b_RR_requireTuple 5 none 4 := ⟨w_389, s_13, w_1, w_390, rfl, by decide, by decide, by decide +kernel⟩
theorem mV_RR_requireRelation : gs_mV y_RR_requireRelation R_RR b_RR_requireRelation 2 none 1 := ⟨w_393, s_14, w_1, w_394, rfl, by decide, by decide, by decide +kernel⟩
theorem mS_RR_areWithin : gs_mS y_RR_areWithin b_RR_areWithin 5 (some .boolean) 5 := ⟨w_397, w_1, w_398, by decide, by decide, by decide +kernel⟩
theorem mS_RR_isWithin : gs_mS y_RR_isWithin b_RR_isWithin 2 (some .boolean) 2 := ⟨w_400, w_1, w_401, by decide, by decide, by decide +kernel⟩
theorem mS_RR_codeOf : gs_mS y_RR_codeOf b_RR_codeOf 4 (some .int) 4 := ⟨w_404, w_1, w_405, by decide, by decide, by decide +kernel⟩
theorem mV_TU_containsFact : gs_mV y_TU_containsFact R_TU b_TU_containsFact 3 (some .boolean) 1 := ⟨w_407, w_408, w_3, w_409, rfl, by decide, by decide, by decide +kernel⟩
theorem mV_RR_drop : gs_mV y_RR_drop R_RR b_RR_drop 6 (some .boolean) 4 := ⟨w_416, w_417, w_1, w_418, rfl, by decide, by decide, by decide +kernel⟩
theorem mV_TU_remove : gs_mV y_TU_remove R_TU b_TU_remove 3 none 1 := ⟨w_420, w_421, w_3, w_422, rfl, by decide, by decide, by decide +kernel⟩
theorem mV_RR_head : gs_mV y_RR_head R_RR b_RR_head 5 none 4 := ⟨w_427, w_428, w_1, w_429, rfl, by decide, by decide, by decide +kernel⟩
theorem mV_RR_requireTerms : gs_mV y_RR_requireTerms R_RR b_RR_requireTerms 5 none 4 := ⟨w_432, s_15, w_1, w_433, rfl, by decide, by decide, by decide +kernel⟩
theorem mI_IT_init : gs_mI y_IT_init b_IT_init 7 6 := ⟨w_440, w_15, w_441, rfl, by decide, by decide, by decide +kernel⟩
theorem mI_RU_init : gs_mI y_RU_init b_RU_init 2 1 := ⟨w_488, w_14, w_489, rfl, by decide, by decide, by decide +kernel⟩
theorem mV_RR_item : gs_mV y_RR_item R_RR b_RR_item 7 (some .int) 5 := ⟨w_528, w_529, w_1, w_530, rfl, by decide, by decide, by decide +kernel⟩
theorem mS_RR_requireComparison : gs_mS y_RR_requireComparison b_RR_requireComparison 4 none 4 := ⟨w_533, w_1, w_534, by decide, by decide, by decide +kernel⟩
theorem mV_RU_hasRoomFor : gs_mV y_RU_hasRoomFor R_RU b_RU_hasRoomFor 2 (some .boolean) 1 := ⟨w_538, w_539, w_14, w_540, rfl, by decide, by decide, by decide +kernel⟩
theorem mV_RU_itemCount : gs_mV y_RU_itemCount R_RU b_RU_itemCount 1 (some .int) 0 := ⟨w_542, w_543, w_14, w_544, rfl, by decide, by decide, by decide +kernel⟩
theorem mV_RU_add : gs_mV y_RU_add R_RU b_RU_add 2 none 1 := ⟨w_547, w_548, w_14, w_549, rfl, by decide, by decide, by decide +kernel⟩
theorem mV_RU_bindVariables : gs_mV y_RU_bindVariables R_RU b_RU_bindVariables 4 none 1 := ⟨w_553, s_16, w_14, w_554, rfl, by decide, by decide, by decide +kernel⟩
theorem mS_RU_isFirstUse : gs_mS y_RU_isFirstUse b_RU_isFirstUse 3 (some .boolean) 2 := ⟨w_557, w_14, w_558, by decide, by decide, by decide +kernel⟩
theorem mV_RR_rule : gs_mV y_RR_rule R_RR b_RR_rule 1 (some .int) 0 := ⟨w_565, w_566, w_1, w_567, rfl, by decide, by decide, by decide +kernel⟩
theorem mV_RU_settle : gs_mV y_RU_settle R_RU b_RU_settle 3 (some .boolean) 0 := ⟨w_570, w_571, w_14, w_572, rfl, by decide, by decide, by decide +kernel⟩
theorem mV_RU_readyOf : gs_mV y_RU_readyOf R_RU b_RU_readyOf 5 (some .int) 1 := ⟨w_575, s_17, w_14, w_576, rfl, by decide, by decide, by decide +kernel⟩
theorem mV_RB_addRule : gs_mV y_RB_addRule R_RB b_RB_addRule 2 none 1 := ⟨w_579, w_580, w_2, w_581, rfl, by decide, by decide, by decide +kernel⟩
theorem mV_RR_stratum : gs_mV y_RR_stratum R_RR b_RR_stratum 2 (some .int) 1 := ⟨w_586, w_587, w_1, w_588, rfl, by decide, by decide, by decide +kernel⟩
theorem mV_RR_count : gs_mV y_RR_count R_RR b_RR_count 2 (some .int) 1 := ⟨w_594, w_595, w_1, w_596, rfl, by decide, by decide, by decide +kernel⟩
theorem mV_RR_sizeOf : gs_mV y_RR_sizeOf R_RR b_RR_sizeOf 2 (some .int) 1 := ⟨w_599, s_18, w_1, w_600, rfl, by decide, by decide, by decide +kernel⟩
theorem mV_RR_has : gs_mV y_RR_has R_RR b_RR_has 5 (some .boolean) 4 := ⟨w_606, w_607, w_1, w_608, rfl, by decide, by decide, by decide +kernel⟩
theorem mV_RR_tuple : gs_mV y_RR_tuple R_RR b_RR_tuple 5 (some .int) 3 := ⟨w_614, w_615, w_1, w_616, rfl, by decide, by decide, by decide +kernel⟩
theorem mV_RR_like : gs_mV y_RR_like R_RR b_RR_like 7 (some .int) 4 := ⟨w_624, w_625, w_1, w_626, rfl, by decide, by decide, by decide +kernel⟩
theorem mV_MA_countMatches : gs_mV y_MA_countMatches R_MA b_MA_countMatches 2 (some .int) 1 := ⟨w_628, w_629, w_4, w_630, rfl, by decide, by decide, by decide +kernel⟩
theorem mV_MA_countFrom : gs_mV y_MA_countFrom R_MA b_MA_countFrom 9 (some .int) 2 := ⟨w_633, s_19, w_4, w_634, rfl, by decide, by decide, by decide +kernel⟩
theorem mS_MA_isOpenEnd : gs_mS y_MA_isOpenEnd b_MA_isOpenEnd 3 (some .boolean) 2 := ⟨w_639, w_4, w_640, by decide, by decide, by decide +kernel⟩
theorem mV_IT_isOpen : gs_mV y_IT_isOpen R_IT b_IT_isOpen 2 (some .boolean) 0 := ⟨w_642, w_643, w_15, w_644, rfl, by decide, by decide, by decide +kernel⟩
theorem mV_RR_matches : gs_mV y_RR_matches R_RR b_RR_matches 2 (some .int) 1 := ⟨w_651, w_652, w_1, w_653, rfl, by decide, by decide, by decide +kernel⟩
theorem mI_MO_init : gs_mI y_MO_init b_MO_init 1 0 := ⟨w_658, w_6, w_659, rfl, by decide, by decide, by decide +kernel⟩
theorem mV_MO_thrown : gs_mV y_MO_thrown R_MO b_MO_thrown 1 (some .int) 0 := ⟨w_758, w_759, w_6, w_760, rfl, by decide, by decide, by decide +kernel⟩
theorem mV_MO_relation : gs_mV y_MO_relation R_MO b_MO_relation 2 (some .int) 1 := ⟨w_762, w_763, w_6, w_764, rfl, by decide, by decide, by decide +kernel⟩
theorem mV_MO_again : gs_mV y_MO_again R_MO b_MO_again 2 none 0 := ⟨w_767, s_20, w_6, w_768, rfl, by decide, by decide, by decide +kernel⟩
theorem mS_MO_setb : gs_mS y_MO_setb b_MO_setb 7 none 4 := ⟨w_770, w_6, w_771, by decide, by decide, by decide +kernel⟩
theorem mV_MO_fact : gs_mV y_MO_fact R_MO b_MO_fact 5 (some .boolean) 4 := ⟨w_774, w_775, w_6, w_776, rfl, by decide, by decide, by decide +kernel⟩
theorem mV_MO_fits : gs_mV y_MO_fits R_MO b_MO_fits 8 (some .boolean) 5 := ⟨w_779, s_21, w_6, w_780, rfl, by decide, by decide, by decide +kernel⟩
theorem mS_MO_number : gs_mS y_MO_number b_MO_number 3 (some .int) 3 := ⟨w_782, w_6, w_783, by decide, by decide, by decide +kernel⟩
theorem mV_MO_factAt : gs_mV y_MO_factAt R_MO b_MO_factAt 4 (some .int) 2 := ⟨w_786, s_22, w_6, w_787, rfl, by decide, by decide, by decide +kernel⟩
theorem mV_MO_drop : gs_mV y_MO_drop R_MO b_MO_drop 7 (some .boolean) 4 := ⟨w_789, w_790, w_6, w_791, rfl, by decide, by decide, by decide +kernel⟩
theorem mV_MO_head : gs_mV y_MO_head R_MO b_MO_head 5 none 4 := ⟨w_793, w_794, w_6, w_795, rfl, by decide, by decide, by decide +kernel⟩
theorem mV_MO_item : gs_mV y_MO_item R_MO b_MO_item 9 (some .int) 5 := ⟨w_797, w_798, w_6, w_799, rfl, by decide, by decide, by decide +kernel⟩
theorem mV_MO_holds : gs_mV y_MO_holds R_MO b_MO_holds 4 (some .int) 1 := ⟨w_802, s_23, w_6, w_803, rfl, by decide, by decide, by decide +kernel⟩
theorem mV_MO_sett : gs_mV y_MO_sett R_MO b_MO_sett 5 none 4 := ⟨w_806, s_24, w_6, w_807, rfl, by decide, by decide, by decide +kernel⟩
theorem mV_MO_rule : gs_mV y_MO_rule R_MO b_MO_rule 5 (some .int) 0 := ⟨w_809, w_810, w_6, w_811, rfl, by decide, by decide, by decide +kernel⟩
theorem mV_MO_isHeld : gs_mV y_MO_isHeld R_MO b_MO_isHeld 6 (some .boolean) 1 := ⟨w_814, s_25, w_6, w_815, rfl, by decide, by decide, by decide +kernel⟩
theorem mV_MO_strata : gs_mV y_MO_strata R_MO b_MO_strata 1 (some .int) 0 := ⟨w_817, w_818, w_6, w_819, rfl, by decide, by decide, by decide +kernel⟩
theorem mV_MO_strataOf : gs_mV y_MO_strataOf R_MO b_MO_strataOf 3 (some .int) 0 := ⟨w_822, s_26, w_6, w_823, rfl, by decide, by decide, by decide +kernel⟩
theorem mV_MO_stratify : gs_mV y_MO_stratify R_MO b_MO_stratify 7 (some .boolean) 0 := ⟨w_826, s_27, w_6, w_827, rfl, by decide, by decide, by decide +kernel⟩
theorem mV_MO_stratum : gs_mV y_MO_stratum R_MO b_MO_stratum 2 (some .int) 1 := ⟨w_829, w_830, w_6, w_831, rfl, by decide, by decide, by decide +kernel⟩
theorem mV_MO_step : gs_mV y_MO_step R_MO b_MO_step 1 (some .int) 0 := ⟨w_833, w_834, w_6, w_835, rfl, by decide, by decide, by decide +kernel⟩
theorem mV_MO_oneRound : gs_mV y_MO_oneRound R_MO b_MO_oneRound 3 (some .int) 0 := ⟨w_838, s_28, w_6, w_839, rfl, by decide, by decide, by decide +kernel⟩
theorem mV_MO_tries : gs_mV y_MO_tries R_MO b_MO_tries 6 none 2 := ⟨w_842, s_29, w_6, w_843, rfl, by decide, by decide, by decide +kernel⟩
theorem mV_MO_advances : gs_mV y_MO_advances R_MO b_MO_advances 5 (some .boolean) 1 := ⟨w_846, s_30, w_6, w_847, rfl, by decide, by decide, by decide +kernel⟩
theorem mV_MO_binds : gs_mV y_MO_binds R_MO b_MO_binds 9 (some .int) 3 := ⟨w_850, s_31, w_6, w_851, rfl, by decide, by decide, by decide +kernel⟩
theorem mV_MO_of : gs_mV y_MO_of R_MO b_MO_of 2 (some .int) 1 := ⟨w_854, s_32, w_6, w_855, rfl, by decide, by decide, by decide +kernel⟩
theorem mV_MO_frees : gs_mV y_MO_frees R_MO b_MO_frees 3 none 1 := ⟨w_858, s_33, w_6, w_859, rfl, by decide, by decide, by decide +kernel⟩
theorem mV_MO_asked : gs_mV y_MO_asked R_MO b_MO_asked 7 (some .boolean) 1 := ⟨w_862, s_34, w_6, w_863, rfl, by decide, by decide, by decide +kernel⟩
theorem mV_MO_there : gs_mV y_MO_there R_MO b_MO_there 3 (some .boolean) 2 := ⟨w_866, s_35, w_6, w_867, rfl, by decide, by decide, by decide +kernel⟩
theorem mV_MO_find : gs_mV y_MO_find R_MO b_MO_find 4 none 1 := ⟨w_870, s_36, w_6, w_871, rfl, by decide, by decide, by decide +kernel⟩
theorem mV_MO_run : gs_mV y_MO_run R_MO b_MO_run 2 (some .int) 0 := ⟨w_873, w_874, w_6, w_875, rfl, by decide, by decide, by decide +kernel⟩
theorem mV_MO_rounds : gs_mV y_MO_rounds R_MO b_MO_rounds 1 (some .int) 0 := ⟨w_877, w_878, w_6, w_879, rfl, by decide, by decide, by decide +kernel⟩
theorem mV_MO_count : gs_mV y_MO_count R_MO b_MO_count 4 (some .int) 1 := ⟨w_881, w_882, w_6, w_883, rfl, by decide, by decide, by decide +kernel⟩
theorem mV_MO_has : gs_mV y_MO_has R_MO b_MO_has 5 (some .boolean) 4 := ⟨w_885, w_886, w_6, w_887, rfl, by decide, by decide, by decide +kernel⟩
theorem mV_MO_tuple : gs_mV y_MO_tuple R_MO b_MO_tuple 8 (some .int) 3 := ⟨w_889, w_890, w_6, w_891, rfl, by decide, by decide, by decide +kernel⟩
theorem mV_MO_like : gs_mV y_MO_like R_MO b_MO_like 11 (some .int) 4 := ⟨w_893, w_894, w_6, w_895, rfl, by decide, by decide, by decide +kernel⟩
theorem mV_MO_matches : gs_mV y_MO_matches R_MO b_MO_matches 2 (some .int) 1 := ⟨w_897, w_898, w_6, w_899, rfl, by decide, by decide, by decide +kernel⟩
