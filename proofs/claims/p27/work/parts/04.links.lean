def en_nm : Nat → String
  | 0 => RX0
  | 1 => RX1
  | 2 => RX2
  | 3 => RX3
  | 4 => RX4
  | 5 => RX5
  | 6 => RX6
  | 7 => RX7
  | 8 => RX8
  | 9 => RX9
  | 10 => RJ7
  | 11 => RJ9
  | 12 => RJ0
  | 13 => RL
  | _ => RJ10
theorem en_sub_1 : ∀ w ∈ tables_1_1, w ∈ lw_tbl := fun w h => List.mem_append_right _ (show w ∈ tables_1_1 ++ (tables_1_2 ++ (tables_1_3 ++ (tables_1_4 ++ (tables_1_5 ++ (tables_1_6 ++ (tables_1_7 ++ tables_1_8)))))) from (List.mem_append_left _ h))
theorem en_sub_2 : ∀ w ∈ tables_1_2, w ∈ lw_tbl := fun w h => List.mem_append_right _ (show w ∈ tables_1_1 ++ (tables_1_2 ++ (tables_1_3 ++ (tables_1_4 ++ (tables_1_5 ++ (tables_1_6 ++ (tables_1_7 ++ tables_1_8)))))) from List.mem_append_right _ ((List.mem_append_left _ h)))
theorem en_sub_3 : ∀ w ∈ tables_1_3, w ∈ lw_tbl := fun w h => List.mem_append_right _ (show w ∈ tables_1_1 ++ (tables_1_2 ++ (tables_1_3 ++ (tables_1_4 ++ (tables_1_5 ++ (tables_1_6 ++ (tables_1_7 ++ tables_1_8)))))) from List.mem_append_right _ (List.mem_append_right _ ((List.mem_append_left _ h))))
theorem en_sub_4 : ∀ w ∈ tables_1_4, w ∈ lw_tbl := fun w h => List.mem_append_right _ (show w ∈ tables_1_1 ++ (tables_1_2 ++ (tables_1_3 ++ (tables_1_4 ++ (tables_1_5 ++ (tables_1_6 ++ (tables_1_7 ++ tables_1_8)))))) from List.mem_append_right _ (List.mem_append_right _ (List.mem_append_right _ ((List.mem_append_left _ h)))))
theorem en_sub_5 : ∀ w ∈ tables_1_5, w ∈ lw_tbl := fun w h => List.mem_append_right _ (show w ∈ tables_1_1 ++ (tables_1_2 ++ (tables_1_3 ++ (tables_1_4 ++ (tables_1_5 ++ (tables_1_6 ++ (tables_1_7 ++ tables_1_8)))))) from List.mem_append_right _ (List.mem_append_right _ (List.mem_append_right _ (List.mem_append_right _ ((List.mem_append_left _ h))))))
theorem en_sub_6 : ∀ w ∈ tables_1_6, w ∈ lw_tbl := fun w h => List.mem_append_right _ (show w ∈ tables_1_1 ++ (tables_1_2 ++ (tables_1_3 ++ (tables_1_4 ++ (tables_1_5 ++ (tables_1_6 ++ (tables_1_7 ++ tables_1_8)))))) from List.mem_append_right _ (List.mem_append_right _ (List.mem_append_right _ (List.mem_append_right _ (List.mem_append_right _ ((List.mem_append_left _ h)))))))
theorem en_sub_7 : ∀ w ∈ tables_1_7, w ∈ lw_tbl := fun w h => List.mem_append_right _ (show w ∈ tables_1_1 ++ (tables_1_2 ++ (tables_1_3 ++ (tables_1_4 ++ (tables_1_5 ++ (tables_1_6 ++ (tables_1_7 ++ tables_1_8)))))) from List.mem_append_right _ (List.mem_append_right _ (List.mem_append_right _ (List.mem_append_right _ (List.mem_append_right _ (List.mem_append_right _ ((List.mem_append_left _ h))))))))
theorem en_sub_8 : ∀ w ∈ tables_1_8, w ∈ lw_tbl := fun w h => List.mem_append_right _ (show w ∈ tables_1_1 ++ (tables_1_2 ++ (tables_1_3 ++ (tables_1_4 ++ (tables_1_5 ++ (tables_1_6 ++ (tables_1_7 ++ tables_1_8)))))) from List.mem_append_right _ (List.mem_append_right _ (List.mem_append_right _ (List.mem_append_right _ (List.mem_append_right _ (List.mem_append_right _ (List.mem_append_right _ ((h)))))))))
def en_mw (r : MethodName × ByteArray × Nat × Option FieldType) : Cond := .code r.1 r.2.1 r.2.2.1 r.2.2.2
def en_ms_0 : List (MethodName × ByteArray × Nat × Option FieldType) := [(yX8_init, prog_1_method_1_code, 1, none), (yX7_init, prog_9_method_1_code, 1, none), (yX1_init, prog_3_method_1_code, 1, none), (yX3_init, prog_5_method_1_code, 1, none), (yX0_init, prog_2_method_1_code, 1, none), (yX6_init, prog_8_method_1_code, 1, none), (yJ7_fill_53178, prog_18_method_103_code, 4, none), (yX4_init, prog_6_method_1_code, 1, none), (yX2_init, prog_4_method_1_code, 1, none), (yX5_init, prog_7_method_1_code, 1, none), (yX8_register, prog_1_method_2_code, 3, some .boolean), (yX8_poke, prog_1_method_3_code, 3, some .boolean), (yX8_feed, prog_1_method_4_code, 6, some .int), (yX7_add, prog_9_method_2_code, 3, none), (yX8_law, prog_1_method_5_code, 3, some .int), (yX7_beginText, prog_9_method_4_code, 2, none), (yJ9_min_7cf53, prog_13_method_69_code, 2, some .int), (yX0_readFrom, prog_2_method_3_code, 3, some .int), (yX0_readRule, prog_2_method_4_code, 4, some .boolean), (yX7_sign, prog_9_method_6_code, 1, some .int)]
theorem en_mi_0 : en_mw (yX8_init, prog_1_method_1_code, 1, none) ∈ lw_tbl := en_sub_1 _ (List.mem_of_getElem? (i := 23) rfl)
theorem en_mi_1 : en_mw (yX7_init, prog_9_method_1_code, 1, none) ∈ lw_tbl := en_sub_1 _ (List.mem_of_getElem? (i := 31) rfl)
theorem en_mi_2 : en_mw (yX1_init, prog_3_method_1_code, 1, none) ∈ lw_tbl := en_sub_1 _ (List.mem_of_getElem? (i := 56) rfl)
theorem en_mi_3 : en_mw (yX3_init, prog_5_method_1_code, 1, none) ∈ lw_tbl := en_sub_1 _ (List.mem_of_getElem? (i := 62) rfl)
theorem en_mi_4 : en_mw (yX0_init, prog_2_method_1_code, 1, none) ∈ lw_tbl := en_sub_1 _ (List.mem_of_getElem? (i := 130) rfl)
theorem en_mi_5 : en_mw (yX6_init, prog_8_method_1_code, 1, none) ∈ lw_tbl := en_sub_1 _ (List.mem_of_getElem? (i := 177) rfl)
theorem en_mi_6 : en_mw (yJ7_fill_53178, prog_18_method_103_code, 4, none) ∈ lw_tbl := en_sub_1 _ (List.mem_of_getElem? (i := 181) rfl)
theorem en_mi_7 : en_mw (yX4_init, prog_6_method_1_code, 1, none) ∈ lw_tbl := en_sub_1 _ (List.mem_of_getElem? (i := 217) rfl)
theorem en_mi_8 : en_mw (yX2_init, prog_4_method_1_code, 1, none) ∈ lw_tbl := en_sub_2 _ (List.mem_of_getElem? (i := 61) rfl)
theorem en_mi_9 : en_mw (yX5_init, prog_7_method_1_code, 1, none) ∈ lw_tbl := en_sub_2 _ (List.mem_of_getElem? (i := 81) rfl)
theorem en_mi_10 : en_mw (yX8_register, prog_1_method_2_code, 3, some .boolean) ∈ lw_tbl := en_sub_2 _ (List.mem_of_getElem? (i := 134) rfl)
theorem en_mi_11 : en_mw (yX8_poke, prog_1_method_3_code, 3, some .boolean) ∈ lw_tbl := en_sub_2 _ (List.mem_of_getElem? (i := 138) rfl)
theorem en_mi_12 : en_mw (yX8_feed, prog_1_method_4_code, 6, some .int) ∈ lw_tbl := en_sub_2 _ (List.mem_of_getElem? (i := 142) rfl)
theorem en_mi_13 : en_mw (yX7_add, prog_9_method_2_code, 3, none) ∈ lw_tbl := en_sub_2 _ (List.mem_of_getElem? (i := 146) rfl)
theorem en_mi_14 : en_mw (yX8_law, prog_1_method_5_code, 3, some .int) ∈ lw_tbl := en_sub_2 _ (List.mem_of_getElem? (i := 150) rfl)
theorem en_mi_15 : en_mw (yX7_beginText, prog_9_method_4_code, 2, none) ∈ lw_tbl := en_sub_2 _ (List.mem_of_getElem? (i := 154) rfl)
theorem en_mi_16 : en_mw (yJ9_min_7cf53, prog_13_method_69_code, 2, some .int) ∈ lw_tbl := en_sub_2 _ (List.mem_of_getElem? (i := 157) rfl)
theorem en_mi_17 : en_mw (yX0_readFrom, prog_2_method_3_code, 3, some .int) ∈ lw_tbl := en_sub_2 _ (List.mem_of_getElem? (i := 161) rfl)
theorem en_mi_18 : en_mw (yX0_readRule, prog_2_method_4_code, 4, some .boolean) ∈ lw_tbl := en_sub_2 _ (List.mem_of_getElem? (i := 165) rfl)
theorem en_mi_19 : en_mw (yX7_sign, prog_9_method_6_code, 1, some .int) ∈ lw_tbl := en_sub_2 _ (List.mem_of_getElem? (i := 169) rfl)
theorem en_ms_in_0 : ∀ r ∈ en_ms_0, en_mw r ∈ lw_tbl := List.forall_mem_cons.mpr ⟨en_mi_0, List.forall_mem_cons.mpr ⟨en_mi_1, List.forall_mem_cons.mpr ⟨en_mi_2, List.forall_mem_cons.mpr ⟨en_mi_3, List.forall_mem_cons.mpr ⟨en_mi_4, List.forall_mem_cons.mpr ⟨en_mi_5, List.forall_mem_cons.mpr ⟨en_mi_6, List.forall_mem_cons.mpr ⟨en_mi_7, List.forall_mem_cons.mpr ⟨en_mi_8, List.forall_mem_cons.mpr ⟨en_mi_9, List.forall_mem_cons.mpr ⟨en_mi_10, List.forall_mem_cons.mpr ⟨en_mi_11, List.forall_mem_cons.mpr ⟨en_mi_12, List.forall_mem_cons.mpr ⟨en_mi_13, List.forall_mem_cons.mpr ⟨en_mi_14, List.forall_mem_cons.mpr ⟨en_mi_15, List.forall_mem_cons.mpr ⟨en_mi_16, List.forall_mem_cons.mpr ⟨en_mi_17, List.forall_mem_cons.mpr ⟨en_mi_18, List.forall_mem_cons.mpr ⟨en_mi_19, fun _ h => absurd h List.not_mem_nil⟩⟩⟩⟩⟩⟩⟩⟩⟩⟩⟩⟩⟩⟩⟩⟩⟩⟩⟩⟩
def en_ms_1 : List (MethodName × ByteArray × Nat × Option FieldType) := [(yX7_fail, prog_9_method_10_code, 2, some .boolean), (yX7_step, prog_9_method_8_code, 1, none), (yX0_readSum, prog_2_method_9_code, 5, some .boolean), (yX0_readProduct, prog_2_method_10_code, 5, some .boolean), (yX0_readFactor, prog_2_method_12_code, 5, some .boolean), (yX0_opens, prog_2_method_8_code, 2, some .boolean), (yX7_accept, prog_9_method_9_code, 2, some .boolean), (yX7_digitNext, prog_9_method_7_code, 1, some .boolean), (yX7_readDigits, prog_9_method_12_code, 4, some .int), (yX0_addStep, prog_2_method_13_code, 3, some .int), (yJ9_max_7cf53, prog_13_method_65_code, 2, some .int), (yX0_isOneOf, prog_2_method_11_code, 4, some .boolean), (yX0_readEither, prog_2_method_5_code, 5, some .boolean), (yX0_readBoth, prog_2_method_6_code, 5, some .boolean), (yX0_readTest, prog_2_method_7_code, 4, some .boolean), (yX0_skipToHere, prog_2_method_14_code, 2, none), (yX7_fault, prog_9_method_11_code, 1, some .int), (yX7_ended, prog_9_method_5_code, 1, some .boolean), (yX0_copyFrom, prog_2_method_2_code, 2, none), (yX7_clear, prog_9_method_3_code, 1, none)]
theorem en_mi_20 : en_mw (yX7_fail, prog_9_method_10_code, 2, some .boolean) ∈ lw_tbl := en_sub_2 _ (List.mem_of_getElem? (i := 173) rfl)
theorem en_mi_21 : en_mw (yX7_step, prog_9_method_8_code, 1, none) ∈ lw_tbl := en_sub_2 _ (List.mem_of_getElem? (i := 177) rfl)
theorem en_mi_22 : en_mw (yX0_readSum, prog_2_method_9_code, 5, some .boolean) ∈ lw_tbl := en_sub_2 _ (List.mem_of_getElem? (i := 181) rfl)
theorem en_mi_23 : en_mw (yX0_readProduct, prog_2_method_10_code, 5, some .boolean) ∈ lw_tbl := en_sub_2 _ (List.mem_of_getElem? (i := 185) rfl)
theorem en_mi_24 : en_mw (yX0_readFactor, prog_2_method_12_code, 5, some .boolean) ∈ lw_tbl := en_sub_2 _ (List.mem_of_getElem? (i := 189) rfl)
theorem en_mi_25 : en_mw (yX0_opens, prog_2_method_8_code, 2, some .boolean) ∈ lw_tbl := en_sub_2 _ (List.mem_of_getElem? (i := 192) rfl)
theorem en_mi_26 : en_mw (yX7_accept, prog_9_method_9_code, 2, some .boolean) ∈ lw_tbl := en_sub_2 _ (List.mem_of_getElem? (i := 196) rfl)
theorem en_mi_27 : en_mw (yX7_digitNext, prog_9_method_7_code, 1, some .boolean) ∈ lw_tbl := en_sub_2 _ (List.mem_of_getElem? (i := 202) rfl)
theorem en_mi_28 : en_mw (yX7_readDigits, prog_9_method_12_code, 4, some .int) ∈ lw_tbl := en_sub_2 _ (List.mem_of_getElem? (i := 206) rfl)
theorem en_mi_29 : en_mw (yX0_addStep, prog_2_method_13_code, 3, some .int) ∈ lw_tbl := en_sub_2 _ (List.mem_of_getElem? (i := 211) rfl)
theorem en_mi_30 : en_mw (yJ9_max_7cf53, prog_13_method_65_code, 2, some .int) ∈ lw_tbl := en_sub_2 _ (List.mem_of_getElem? (i := 233) rfl)
theorem en_mi_31 : en_mw (yX0_isOneOf, prog_2_method_11_code, 4, some .boolean) ∈ lw_tbl := en_sub_3 _ (List.mem_of_getElem? (i := 49) rfl)
theorem en_mi_32 : en_mw (yX0_readEither, prog_2_method_5_code, 5, some .boolean) ∈ lw_tbl := en_sub_3 _ (List.mem_of_getElem? (i := 53) rfl)
theorem en_mi_33 : en_mw (yX0_readBoth, prog_2_method_6_code, 5, some .boolean) ∈ lw_tbl := en_sub_3 _ (List.mem_of_getElem? (i := 57) rfl)
theorem en_mi_34 : en_mw (yX0_readTest, prog_2_method_7_code, 4, some .boolean) ∈ lw_tbl := en_sub_3 _ (List.mem_of_getElem? (i := 61) rfl)
theorem en_mi_35 : en_mw (yX0_skipToHere, prog_2_method_14_code, 2, none) ∈ lw_tbl := en_sub_3 _ (List.mem_of_getElem? (i := 65) rfl)
theorem en_mi_36 : en_mw (yX7_fault, prog_9_method_11_code, 1, some .int) ∈ lw_tbl := en_sub_3 _ (List.mem_of_getElem? (i := 69) rfl)
theorem en_mi_37 : en_mw (yX7_ended, prog_9_method_5_code, 1, some .boolean) ∈ lw_tbl := en_sub_3 _ (List.mem_of_getElem? (i := 73) rfl)
theorem en_mi_38 : en_mw (yX0_copyFrom, prog_2_method_2_code, 2, none) ∈ lw_tbl := en_sub_3 _ (List.mem_of_getElem? (i := 77) rfl)
theorem en_mi_39 : en_mw (yX7_clear, prog_9_method_3_code, 1, none) ∈ lw_tbl := en_sub_3 _ (List.mem_of_getElem? (i := 84) rfl)
theorem en_ms_in_1 : ∀ r ∈ en_ms_1, en_mw r ∈ lw_tbl := List.forall_mem_cons.mpr ⟨en_mi_20, List.forall_mem_cons.mpr ⟨en_mi_21, List.forall_mem_cons.mpr ⟨en_mi_22, List.forall_mem_cons.mpr ⟨en_mi_23, List.forall_mem_cons.mpr ⟨en_mi_24, List.forall_mem_cons.mpr ⟨en_mi_25, List.forall_mem_cons.mpr ⟨en_mi_26, List.forall_mem_cons.mpr ⟨en_mi_27, List.forall_mem_cons.mpr ⟨en_mi_28, List.forall_mem_cons.mpr ⟨en_mi_29, List.forall_mem_cons.mpr ⟨en_mi_30, List.forall_mem_cons.mpr ⟨en_mi_31, List.forall_mem_cons.mpr ⟨en_mi_32, List.forall_mem_cons.mpr ⟨en_mi_33, List.forall_mem_cons.mpr ⟨en_mi_34, List.forall_mem_cons.mpr ⟨en_mi_35, List.forall_mem_cons.mpr ⟨en_mi_36, List.forall_mem_cons.mpr ⟨en_mi_37, List.forall_mem_cons.mpr ⟨en_mi_38, List.forall_mem_cons.mpr ⟨en_mi_39, fun _ h => absurd h List.not_mem_nil⟩⟩⟩⟩⟩⟩⟩⟩⟩⟩⟩⟩⟩⟩⟩⟩⟩⟩⟩⟩
def en_ms_2 : List (MethodName × ByteArray × Nat × Option FieldType) := [(yX8_program, prog_1_method_6_code, 3, some .int), (yX3_readFrom, prog_5_method_3_code, 3, some .int), (yX3_readOp, prog_5_method_4_code, 5, some .boolean), (yX3_kindOf, prog_5_method_5_code, 1, some .int), (yX3_readGiven, prog_5_method_6_code, 3, some .boolean), (yX7_readRegister, prog_9_method_13_code, 2, some .int), (yX3_readNumber, prog_5_method_7_code, 3, some .boolean), (yX3_readReckoning, prog_5_method_8_code, 3, some .boolean), (yX3_readMove, prog_5_method_9_code, 3, some .boolean), (yX3_sizeOf, prog_5_method_10_code, 1, some .int), (yX3_findSources, prog_5_method_11_code, 2, none), (yX3_giverOfRegister, prog_5_method_12_code, 2, some .int), (yX8_isCell, prog_1_method_32_code, 1, some .boolean), (yX3_depthOf, prog_5_method_13_code, 2, some .int), (yX3_copyFrom, prog_5_method_2_code, 2, none), (yX6_dropSets, prog_8_method_5_code, 1, none), (yX5_clear, prog_7_method_2_code, 1, none), (yX8_run, prog_1_method_7_code, 3, some .int), (yX8_canRun, prog_1_method_28_code, 2, some .boolean), (yX1_go, prog_3_method_2_code, 4, some .int)]
theorem en_mi_40 : en_mw (yX8_program, prog_1_method_6_code, 3, some .int) ∈ lw_tbl := en_sub_3 _ (List.mem_of_getElem? (i := 88) rfl)
theorem en_mi_41 : en_mw (yX3_readFrom, prog_5_method_3_code, 3, some .int) ∈ lw_tbl := en_sub_3 _ (List.mem_of_getElem? (i := 92) rfl)
theorem en_mi_42 : en_mw (yX3_readOp, prog_5_method_4_code, 5, some .boolean) ∈ lw_tbl := en_sub_3 _ (List.mem_of_getElem? (i := 96) rfl)
theorem en_mi_43 : en_mw (yX3_kindOf, prog_5_method_5_code, 1, some .int) ∈ lw_tbl := en_sub_3 _ (List.mem_of_getElem? (i := 100) rfl)
theorem en_mi_44 : en_mw (yX3_readGiven, prog_5_method_6_code, 3, some .boolean) ∈ lw_tbl := en_sub_3 _ (List.mem_of_getElem? (i := 106) rfl)
theorem en_mi_45 : en_mw (yX7_readRegister, prog_9_method_13_code, 2, some .int) ∈ lw_tbl := en_sub_3 _ (List.mem_of_getElem? (i := 110) rfl)
theorem en_mi_46 : en_mw (yX3_readNumber, prog_5_method_7_code, 3, some .boolean) ∈ lw_tbl := en_sub_3 _ (List.mem_of_getElem? (i := 115) rfl)
theorem en_mi_47 : en_mw (yX3_readReckoning, prog_5_method_8_code, 3, some .boolean) ∈ lw_tbl := en_sub_3 _ (List.mem_of_getElem? (i := 120) rfl)
theorem en_mi_48 : en_mw (yX3_readMove, prog_5_method_9_code, 3, some .boolean) ∈ lw_tbl := en_sub_3 _ (List.mem_of_getElem? (i := 124) rfl)
theorem en_mi_49 : en_mw (yX3_sizeOf, prog_5_method_10_code, 1, some .int) ∈ lw_tbl := en_sub_3 _ (List.mem_of_getElem? (i := 127) rfl)
theorem en_mi_50 : en_mw (yX3_findSources, prog_5_method_11_code, 2, none) ∈ lw_tbl := en_sub_3 _ (List.mem_of_getElem? (i := 133) rfl)
theorem en_mi_51 : en_mw (yX3_giverOfRegister, prog_5_method_12_code, 2, some .int) ∈ lw_tbl := en_sub_3 _ (List.mem_of_getElem? (i := 138) rfl)
theorem en_mi_52 : en_mw (yX8_isCell, prog_1_method_32_code, 1, some .boolean) ∈ lw_tbl := en_sub_3 _ (List.mem_of_getElem? (i := 141) rfl)
theorem en_mi_53 : en_mw (yX3_depthOf, prog_5_method_13_code, 2, some .int) ∈ lw_tbl := en_sub_3 _ (List.mem_of_getElem? (i := 145) rfl)
theorem en_mi_54 : en_mw (yX3_copyFrom, prog_5_method_2_code, 2, none) ∈ lw_tbl := en_sub_3 _ (List.mem_of_getElem? (i := 150) rfl)
theorem en_mi_55 : en_mw (yX6_dropSets, prog_8_method_5_code, 1, none) ∈ lw_tbl := en_sub_3 _ (List.mem_of_getElem? (i := 155) rfl)
theorem en_mi_56 : en_mw (yX5_clear, prog_7_method_2_code, 1, none) ∈ lw_tbl := en_sub_3 _ (List.mem_of_getElem? (i := 159) rfl)
theorem en_mi_57 : en_mw (yX8_run, prog_1_method_7_code, 3, some .int) ∈ lw_tbl := en_sub_3 _ (List.mem_of_getElem? (i := 164) rfl)
theorem en_mi_58 : en_mw (yX8_canRun, prog_1_method_28_code, 2, some .boolean) ∈ lw_tbl := en_sub_3 _ (List.mem_of_getElem? (i := 168) rfl)
theorem en_mi_59 : en_mw (yX1_go, prog_3_method_2_code, 4, some .int) ∈ lw_tbl := en_sub_3 _ (List.mem_of_getElem? (i := 172) rfl)
theorem en_ms_in_2 : ∀ r ∈ en_ms_2, en_mw r ∈ lw_tbl := List.forall_mem_cons.mpr ⟨en_mi_40, List.forall_mem_cons.mpr ⟨en_mi_41, List.forall_mem_cons.mpr ⟨en_mi_42, List.forall_mem_cons.mpr ⟨en_mi_43, List.forall_mem_cons.mpr ⟨en_mi_44, List.forall_mem_cons.mpr ⟨en_mi_45, List.forall_mem_cons.mpr ⟨en_mi_46, List.forall_mem_cons.mpr ⟨en_mi_47, List.forall_mem_cons.mpr ⟨en_mi_48, List.forall_mem_cons.mpr ⟨en_mi_49, List.forall_mem_cons.mpr ⟨en_mi_50, List.forall_mem_cons.mpr ⟨en_mi_51, List.forall_mem_cons.mpr ⟨en_mi_52, List.forall_mem_cons.mpr ⟨en_mi_53, List.forall_mem_cons.mpr ⟨en_mi_54, List.forall_mem_cons.mpr ⟨en_mi_55, List.forall_mem_cons.mpr ⟨en_mi_56, List.forall_mem_cons.mpr ⟨en_mi_57, List.forall_mem_cons.mpr ⟨en_mi_58, List.forall_mem_cons.mpr ⟨en_mi_59, fun _ h => absurd h List.not_mem_nil⟩⟩⟩⟩⟩⟩⟩⟩⟩⟩⟩⟩⟩⟩⟩⟩⟩⟩⟩⟩
def en_ms_3 : List (MethodName × ByteArray × Nat × Option FieldType) := [(yX1_begin, prog_3_method_3_code, 2, none), (yX6_copyFrom, prog_8_method_2_code, 2, none), (yX6_copyCellsFrom, prog_8_method_3_code, 2, none), (yX6_copySetsFrom, prog_8_method_4_code, 2, none), (yX4_clear, prog_6_method_2_code, 1, none), (yX1_finishOps, prog_3_method_4_code, 4, none), (yX1_valueRead, prog_3_method_5_code, 3, some .int), (yX3_placeBy, prog_5_method_17_code, 3, some .int), (yX1_takeBytes, prog_3_method_6_code, 7, none), (yX1_youngestCovering, prog_3_method_7_code, 4, some .int), (yX8_covers, prog_1_method_36_code, 3, some .boolean), (yX1_storedAt, prog_3_method_8_code, 4, some .int), (yX3_storedOf, prog_5_method_18_code, 3, some .int), (yX1_lookBack, prog_3_method_9_code, 4, none), (yX1_tookTooOld, prog_3_method_10_code, 5, some .boolean), (yX6_melt, prog_8_method_9_code, 4, none), (yX1_replay, prog_3_method_11_code, 5, none), (yX1_makeWait, prog_3_method_13_code, 2, none), (yX1_undoDownTo, prog_3_method_14_code, 4, none), (yX1_dependsOn, prog_3_method_12_code, 4, some .boolean)]
theorem en_mi_60 : en_mw (yX1_begin, prog_3_method_3_code, 2, none) ∈ lw_tbl := en_sub_3 _ (List.mem_of_getElem? (i := 176) rfl)
theorem en_mi_61 : en_mw (yX6_copyFrom, prog_8_method_2_code, 2, none) ∈ lw_tbl := en_sub_3 _ (List.mem_of_getElem? (i := 180) rfl)
theorem en_mi_62 : en_mw (yX6_copyCellsFrom, prog_8_method_3_code, 2, none) ∈ lw_tbl := en_sub_3 _ (List.mem_of_getElem? (i := 184) rfl)
theorem en_mi_63 : en_mw (yX6_copySetsFrom, prog_8_method_4_code, 2, none) ∈ lw_tbl := en_sub_3 _ (List.mem_of_getElem? (i := 189) rfl)
theorem en_mi_64 : en_mw (yX4_clear, prog_6_method_2_code, 1, none) ∈ lw_tbl := en_sub_3 _ (List.mem_of_getElem? (i := 193) rfl)
theorem en_mi_65 : en_mw (yX1_finishOps, prog_3_method_4_code, 4, none) ∈ lw_tbl := en_sub_3 _ (List.mem_of_getElem? (i := 199) rfl)
theorem en_mi_66 : en_mw (yX1_valueRead, prog_3_method_5_code, 3, some .int) ∈ lw_tbl := en_sub_3 _ (List.mem_of_getElem? (i := 203) rfl)
theorem en_mi_67 : en_mw (yX3_placeBy, prog_5_method_17_code, 3, some .int) ∈ lw_tbl := en_sub_3 _ (List.mem_of_getElem? (i := 208) rfl)
theorem en_mi_68 : en_mw (yX1_takeBytes, prog_3_method_6_code, 7, none) ∈ lw_tbl := en_sub_3 _ (List.mem_of_getElem? (i := 212) rfl)
theorem en_mi_69 : en_mw (yX1_youngestCovering, prog_3_method_7_code, 4, some .int) ∈ lw_tbl := en_sub_3 _ (List.mem_of_getElem? (i := 216) rfl)
theorem en_mi_70 : en_mw (yX8_covers, prog_1_method_36_code, 3, some .boolean) ∈ lw_tbl := en_sub_3 _ (List.mem_of_getElem? (i := 219) rfl)
theorem en_mi_71 : en_mw (yX1_storedAt, prog_3_method_8_code, 4, some .int) ∈ lw_tbl := en_sub_3 _ (List.mem_of_getElem? (i := 223) rfl)
theorem en_mi_72 : en_mw (yX3_storedOf, prog_5_method_18_code, 3, some .int) ∈ lw_tbl := en_sub_3 _ (List.mem_of_getElem? (i := 227) rfl)
theorem en_mi_73 : en_mw (yX1_lookBack, prog_3_method_9_code, 4, none) ∈ lw_tbl := en_sub_3 _ (List.mem_of_getElem? (i := 231) rfl)
theorem en_mi_74 : en_mw (yX1_tookTooOld, prog_3_method_10_code, 5, some .boolean) ∈ lw_tbl := en_sub_3 _ (List.mem_of_getElem? (i := 235) rfl)
theorem en_mi_75 : en_mw (yX6_melt, prog_8_method_9_code, 4, none) ∈ lw_tbl := en_sub_3 _ (List.mem_of_getElem? (i := 239) rfl)
theorem en_mi_76 : en_mw (yX1_replay, prog_3_method_11_code, 5, none) ∈ lw_tbl := en_sub_4 _ (List.mem_of_getElem? (i := 5) rfl)
theorem en_mi_77 : en_mw (yX1_makeWait, prog_3_method_13_code, 2, none) ∈ lw_tbl := en_sub_4 _ (List.mem_of_getElem? (i := 9) rfl)
theorem en_mi_78 : en_mw (yX1_undoDownTo, prog_3_method_14_code, 4, none) ∈ lw_tbl := en_sub_4 _ (List.mem_of_getElem? (i := 13) rfl)
theorem en_mi_79 : en_mw (yX1_dependsOn, prog_3_method_12_code, 4, some .boolean) ∈ lw_tbl := en_sub_4 _ (List.mem_of_getElem? (i := 17) rfl)
theorem en_ms_in_3 : ∀ r ∈ en_ms_3, en_mw r ∈ lw_tbl := List.forall_mem_cons.mpr ⟨en_mi_60, List.forall_mem_cons.mpr ⟨en_mi_61, List.forall_mem_cons.mpr ⟨en_mi_62, List.forall_mem_cons.mpr ⟨en_mi_63, List.forall_mem_cons.mpr ⟨en_mi_64, List.forall_mem_cons.mpr ⟨en_mi_65, List.forall_mem_cons.mpr ⟨en_mi_66, List.forall_mem_cons.mpr ⟨en_mi_67, List.forall_mem_cons.mpr ⟨en_mi_68, List.forall_mem_cons.mpr ⟨en_mi_69, List.forall_mem_cons.mpr ⟨en_mi_70, List.forall_mem_cons.mpr ⟨en_mi_71, List.forall_mem_cons.mpr ⟨en_mi_72, List.forall_mem_cons.mpr ⟨en_mi_73, List.forall_mem_cons.mpr ⟨en_mi_74, List.forall_mem_cons.mpr ⟨en_mi_75, List.forall_mem_cons.mpr ⟨en_mi_76, List.forall_mem_cons.mpr ⟨en_mi_77, List.forall_mem_cons.mpr ⟨en_mi_78, List.forall_mem_cons.mpr ⟨en_mi_79, fun _ h => absurd h List.not_mem_nil⟩⟩⟩⟩⟩⟩⟩⟩⟩⟩⟩⟩⟩⟩⟩⟩⟩⟩⟩⟩
def en_ms_4 : List (MethodName × ByteArray × Nat × Option FieldType) := [(yX3_reckoned, prog_5_method_16_code, 4, some .int), (yX1_sendOff, prog_3_method_15_code, 5, none), (yX1_isDone, prog_3_method_16_code, 2, some .boolean), (yX1_mustWait, prog_3_method_17_code, 6, some .boolean), (yX6_draw, prog_8_method_8_code, 1, some .int), (yX1_tellLaw, prog_3_method_18_code, 4, none), (yX0_tell, prog_2_method_15_code, 8, none), (yX0_delay, prog_2_method_16_code, 4, some .int), (yX0_holds, prog_2_method_18_code, 2, some .boolean), (yX0_reckon, prog_2_method_19_code, 7, some .int), (yX0_joined, prog_2_method_20_code, 3, some .int), (yX1_retireOne, prog_3_method_19_code, 5, none), (yX1_oldestToRetire, prog_3_method_20_code, 2, some .int), (yX1_doneAhead, prog_3_method_21_code, 3, some .boolean), (yX0_holdsBack, prog_2_method_17_code, 2, some .boolean), (yX6_putBytes, prog_8_method_10_code, 5, none), (yX1_settled, prog_3_method_22_code, 2, some .boolean), (yX1_giveRegisters, prog_3_method_23_code, 2, none), (yX4_copyFrom, prog_6_method_3_code, 2, none), (yX8_tried, prog_1_method_8_code, 5, some .int)]
theorem en_mi_80 : en_mw (yX3_reckoned, prog_5_method_16_code, 4, some .int) ∈ lw_tbl := en_sub_4 _ (List.mem_of_getElem? (i := 21) rfl)
theorem en_mi_81 : en_mw (yX1_sendOff, prog_3_method_15_code, 5, none) ∈ lw_tbl := en_sub_4 _ (List.mem_of_getElem? (i := 25) rfl)
theorem en_mi_82 : en_mw (yX1_isDone, prog_3_method_16_code, 2, some .boolean) ∈ lw_tbl := en_sub_4 _ (List.mem_of_getElem? (i := 29) rfl)
theorem en_mi_83 : en_mw (yX1_mustWait, prog_3_method_17_code, 6, some .boolean) ∈ lw_tbl := en_sub_4 _ (List.mem_of_getElem? (i := 33) rfl)
theorem en_mi_84 : en_mw (yX6_draw, prog_8_method_8_code, 1, some .int) ∈ lw_tbl := en_sub_4 _ (List.mem_of_getElem? (i := 37) rfl)
theorem en_mi_85 : en_mw (yX1_tellLaw, prog_3_method_18_code, 4, none) ∈ lw_tbl := en_sub_4 _ (List.mem_of_getElem? (i := 42) rfl)
theorem en_mi_86 : en_mw (yX0_tell, prog_2_method_15_code, 8, none) ∈ lw_tbl := en_sub_4 _ (List.mem_of_getElem? (i := 46) rfl)
theorem en_mi_87 : en_mw (yX0_delay, prog_2_method_16_code, 4, some .int) ∈ lw_tbl := en_sub_4 _ (List.mem_of_getElem? (i := 50) rfl)
theorem en_mi_88 : en_mw (yX0_holds, prog_2_method_18_code, 2, some .boolean) ∈ lw_tbl := en_sub_4 _ (List.mem_of_getElem? (i := 54) rfl)
theorem en_mi_89 : en_mw (yX0_reckon, prog_2_method_19_code, 7, some .int) ∈ lw_tbl := en_sub_4 _ (List.mem_of_getElem? (i := 58) rfl)
theorem en_mi_90 : en_mw (yX0_joined, prog_2_method_20_code, 3, some .int) ∈ lw_tbl := en_sub_4 _ (List.mem_of_getElem? (i := 61) rfl)
theorem en_mi_91 : en_mw (yX1_retireOne, prog_3_method_19_code, 5, none) ∈ lw_tbl := en_sub_4 _ (List.mem_of_getElem? (i := 67) rfl)
theorem en_mi_92 : en_mw (yX1_oldestToRetire, prog_3_method_20_code, 2, some .int) ∈ lw_tbl := en_sub_4 _ (List.mem_of_getElem? (i := 71) rfl)
theorem en_mi_93 : en_mw (yX1_doneAhead, prog_3_method_21_code, 3, some .boolean) ∈ lw_tbl := en_sub_4 _ (List.mem_of_getElem? (i := 75) rfl)
theorem en_mi_94 : en_mw (yX0_holdsBack, prog_2_method_17_code, 2, some .boolean) ∈ lw_tbl := en_sub_4 _ (List.mem_of_getElem? (i := 79) rfl)
theorem en_mi_95 : en_mw (yX6_putBytes, prog_8_method_10_code, 5, none) ∈ lw_tbl := en_sub_4 _ (List.mem_of_getElem? (i := 83) rfl)
theorem en_mi_96 : en_mw (yX1_settled, prog_3_method_22_code, 2, some .boolean) ∈ lw_tbl := en_sub_4 _ (List.mem_of_getElem? (i := 87) rfl)
theorem en_mi_97 : en_mw (yX1_giveRegisters, prog_3_method_23_code, 2, none) ∈ lw_tbl := en_sub_4 _ (List.mem_of_getElem? (i := 91) rfl)
theorem en_mi_98 : en_mw (yX4_copyFrom, prog_6_method_3_code, 2, none) ∈ lw_tbl := en_sub_4 _ (List.mem_of_getElem? (i := 97) rfl)
theorem en_mi_99 : en_mw (yX8_tried, prog_1_method_8_code, 5, some .int) ∈ lw_tbl := en_sub_4 _ (List.mem_of_getElem? (i := 102) rfl)
theorem en_ms_in_4 : ∀ r ∈ en_ms_4, en_mw r ∈ lw_tbl := List.forall_mem_cons.mpr ⟨en_mi_80, List.forall_mem_cons.mpr ⟨en_mi_81, List.forall_mem_cons.mpr ⟨en_mi_82, List.forall_mem_cons.mpr ⟨en_mi_83, List.forall_mem_cons.mpr ⟨en_mi_84, List.forall_mem_cons.mpr ⟨en_mi_85, List.forall_mem_cons.mpr ⟨en_mi_86, List.forall_mem_cons.mpr ⟨en_mi_87, List.forall_mem_cons.mpr ⟨en_mi_88, List.forall_mem_cons.mpr ⟨en_mi_89, List.forall_mem_cons.mpr ⟨en_mi_90, List.forall_mem_cons.mpr ⟨en_mi_91, List.forall_mem_cons.mpr ⟨en_mi_92, List.forall_mem_cons.mpr ⟨en_mi_93, List.forall_mem_cons.mpr ⟨en_mi_94, List.forall_mem_cons.mpr ⟨en_mi_95, List.forall_mem_cons.mpr ⟨en_mi_96, List.forall_mem_cons.mpr ⟨en_mi_97, List.forall_mem_cons.mpr ⟨en_mi_98, List.forall_mem_cons.mpr ⟨en_mi_99, fun _ h => absurd h List.not_mem_nil⟩⟩⟩⟩⟩⟩⟩⟩⟩⟩⟩⟩⟩⟩⟩⟩⟩⟩⟩⟩
def en_ms_5 : List (MethodName × ByteArray × Nat × Option FieldType) := [(yX8_isTotal, prog_1_method_31_code, 1, some .boolean), (yX8_isByte, prog_1_method_33_code, 1, some .boolean), (yX8_lastRun, prog_1_method_9_code, 2, some .int), (yX8_opIs, prog_1_method_10_code, 3, some .int), (yX8_isOp, prog_1_method_29_code, 2, some .boolean), (yX8_giverOf, prog_1_method_30_code, 3, some .int), (yX8_orAbsent, prog_1_method_34_code, 1, some .int), (yX3_moves, prog_5_method_14_code, 2, some .boolean), (yX8_source, prog_1_method_11_code, 3, some .int), (yX8_now, prog_1_method_12_code, 2, some .int), (yX8_plain, prog_1_method_13_code, 2, some .int), (yX2_go, prog_4_method_2_code, 6, none), (yX2_valueIn, prog_4_method_3_code, 2, some .int), (yX2_loaded, prog_4_method_4_code, 5, some .int), (yX8_unlike, prog_1_method_14_code, 2, some .int), (yX8_differing, prog_1_method_35_code, 4, some .int), (yX8_fastest, prog_1_method_15_code, 6, some .int), (yX8_cautious, prog_1_method_16_code, 3, some .int), (yX8_worst, prog_1_method_17_code, 4, some .int), (yX8_deep, prog_1_method_18_code, 1, some .int)]
theorem en_mi_100 : en_mw (yX8_isTotal, prog_1_method_31_code, 1, some .boolean) ∈ lw_tbl := en_sub_4 _ (List.mem_of_getElem? (i := 105) rfl)
theorem en_mi_101 : en_mw (yX8_isByte, prog_1_method_33_code, 1, some .boolean) ∈ lw_tbl := en_sub_4 _ (List.mem_of_getElem? (i := 109) rfl)
theorem en_mi_102 : en_mw (yX8_lastRun, prog_1_method_9_code, 2, some .int) ∈ lw_tbl := en_sub_4 _ (List.mem_of_getElem? (i := 113) rfl)
theorem en_mi_103 : en_mw (yX8_opIs, prog_1_method_10_code, 3, some .int) ∈ lw_tbl := en_sub_4 _ (List.mem_of_getElem? (i := 117) rfl)
theorem en_mi_104 : en_mw (yX8_isOp, prog_1_method_29_code, 2, some .boolean) ∈ lw_tbl := en_sub_4 _ (List.mem_of_getElem? (i := 121) rfl)
theorem en_mi_105 : en_mw (yX8_giverOf, prog_1_method_30_code, 3, some .int) ∈ lw_tbl := en_sub_4 _ (List.mem_of_getElem? (i := 126) rfl)
theorem en_mi_106 : en_mw (yX8_orAbsent, prog_1_method_34_code, 1, some .int) ∈ lw_tbl := en_sub_4 _ (List.mem_of_getElem? (i := 129) rfl)
theorem en_mi_107 : en_mw (yX3_moves, prog_5_method_14_code, 2, some .boolean) ∈ lw_tbl := en_sub_4 _ (List.mem_of_getElem? (i := 133) rfl)
theorem en_mi_108 : en_mw (yX8_source, prog_1_method_11_code, 3, some .int) ∈ lw_tbl := en_sub_4 _ (List.mem_of_getElem? (i := 137) rfl)
theorem en_mi_109 : en_mw (yX8_now, prog_1_method_12_code, 2, some .int) ∈ lw_tbl := en_sub_4 _ (List.mem_of_getElem? (i := 141) rfl)
theorem en_mi_110 : en_mw (yX8_plain, prog_1_method_13_code, 2, some .int) ∈ lw_tbl := en_sub_4 _ (List.mem_of_getElem? (i := 145) rfl)
theorem en_mi_111 : en_mw (yX2_go, prog_4_method_2_code, 6, none) ∈ lw_tbl := en_sub_4 _ (List.mem_of_getElem? (i := 149) rfl)
theorem en_mi_112 : en_mw (yX2_valueIn, prog_4_method_3_code, 2, some .int) ∈ lw_tbl := en_sub_4 _ (List.mem_of_getElem? (i := 154) rfl)
theorem en_mi_113 : en_mw (yX2_loaded, prog_4_method_4_code, 5, some .int) ∈ lw_tbl := en_sub_4 _ (List.mem_of_getElem? (i := 161) rfl)
theorem en_mi_114 : en_mw (yX8_unlike, prog_1_method_14_code, 2, some .int) ∈ lw_tbl := en_sub_4 _ (List.mem_of_getElem? (i := 166) rfl)
theorem en_mi_115 : en_mw (yX8_differing, prog_1_method_35_code, 4, some .int) ∈ lw_tbl := en_sub_4 _ (List.mem_of_getElem? (i := 169) rfl)
theorem en_mi_116 : en_mw (yX8_fastest, prog_1_method_15_code, 6, some .int) ∈ lw_tbl := en_sub_4 _ (List.mem_of_getElem? (i := 173) rfl)
theorem en_mi_117 : en_mw (yX8_cautious, prog_1_method_16_code, 3, some .int) ∈ lw_tbl := en_sub_4 _ (List.mem_of_getElem? (i := 177) rfl)
theorem en_mi_118 : en_mw (yX8_worst, prog_1_method_17_code, 4, some .int) ∈ lw_tbl := en_sub_4 _ (List.mem_of_getElem? (i := 181) rfl)
theorem en_mi_119 : en_mw (yX8_deep, prog_1_method_18_code, 1, some .int) ∈ lw_tbl := en_sub_4 _ (List.mem_of_getElem? (i := 185) rfl)
theorem en_ms_in_5 : ∀ r ∈ en_ms_5, en_mw r ∈ lw_tbl := List.forall_mem_cons.mpr ⟨en_mi_100, List.forall_mem_cons.mpr ⟨en_mi_101, List.forall_mem_cons.mpr ⟨en_mi_102, List.forall_mem_cons.mpr ⟨en_mi_103, List.forall_mem_cons.mpr ⟨en_mi_104, List.forall_mem_cons.mpr ⟨en_mi_105, List.forall_mem_cons.mpr ⟨en_mi_106, List.forall_mem_cons.mpr ⟨en_mi_107, List.forall_mem_cons.mpr ⟨en_mi_108, List.forall_mem_cons.mpr ⟨en_mi_109, List.forall_mem_cons.mpr ⟨en_mi_110, List.forall_mem_cons.mpr ⟨en_mi_111, List.forall_mem_cons.mpr ⟨en_mi_112, List.forall_mem_cons.mpr ⟨en_mi_113, List.forall_mem_cons.mpr ⟨en_mi_114, List.forall_mem_cons.mpr ⟨en_mi_115, List.forall_mem_cons.mpr ⟨en_mi_116, List.forall_mem_cons.mpr ⟨en_mi_117, List.forall_mem_cons.mpr ⟨en_mi_118, List.forall_mem_cons.mpr ⟨en_mi_119, fun _ h => absurd h List.not_mem_nil⟩⟩⟩⟩⟩⟩⟩⟩⟩⟩⟩⟩⟩⟩⟩⟩⟩⟩⟩⟩
def en_ms_6 : List (MethodName × ByteArray × Nat × Option FieldType) := [(yX8_mix, prog_1_method_19_code, 1, some .int), (yX2_sharedBytes, prog_4_method_5_code, 5, some .int), (yX2_meet, prog_4_method_6_code, 4, some .boolean), (yX8_watch, prog_1_method_20_code, 3, some .int), (yX5_put, prog_7_method_3_code, 3, some .int), (yX8_watched, prog_1_method_21_code, 5, some .int), (yX8_forget, prog_1_method_22_code, 2, some .int), (yX6_withSet, prog_8_method_6_code, 3, some .int), (yX8_seed, prog_1_method_23_code, 2, some .boolean), (yX8_keep, prog_1_method_24_code, 1, some .int), (yX8_undo, prog_1_method_25_code, 1, some .boolean), (yX8_check, prog_1_method_26_code, 4, some .int), (yX8_count, prog_1_method_27_code, 2, some .int), (yX3_ofKind, prog_5_method_15_code, 4, some .int), (yX6_bytesNotZero, prog_8_method_7_code, 3, some .int), (yX9_init, prog_11_method_1_code, 1, none), (yX9_register, prog_11_method_6_code, 3, some .boolean), (yX9_in, prog_11_method_2_code, 3, some .boolean), (yX9_poke, prog_11_method_7_code, 3, some .boolean), (yX9_feed, prog_11_method_9_code, 6, some .int)]
theorem en_mi_120 : en_mw (yX8_mix, prog_1_method_19_code, 1, some .int) ∈ lw_tbl := en_sub_4 _ (List.mem_of_getElem? (i := 189) rfl)
theorem en_mi_121 : en_mw (yX2_sharedBytes, prog_4_method_5_code, 5, some .int) ∈ lw_tbl := en_sub_4 _ (List.mem_of_getElem? (i := 193) rfl)
theorem en_mi_122 : en_mw (yX2_meet, prog_4_method_6_code, 4, some .boolean) ∈ lw_tbl := en_sub_4 _ (List.mem_of_getElem? (i := 197) rfl)
theorem en_mi_123 : en_mw (yX8_watch, prog_1_method_20_code, 3, some .int) ∈ lw_tbl := en_sub_4 _ (List.mem_of_getElem? (i := 202) rfl)
theorem en_mi_124 : en_mw (yX5_put, prog_7_method_3_code, 3, some .int) ∈ lw_tbl := en_sub_4 _ (List.mem_of_getElem? (i := 206) rfl)
theorem en_mi_125 : en_mw (yX8_watched, prog_1_method_21_code, 5, some .int) ∈ lw_tbl := en_sub_4 _ (List.mem_of_getElem? (i := 210) rfl)
theorem en_mi_126 : en_mw (yX8_forget, prog_1_method_22_code, 2, some .int) ∈ lw_tbl := en_sub_4 _ (List.mem_of_getElem? (i := 215) rfl)
theorem en_mi_127 : en_mw (yX6_withSet, prog_8_method_6_code, 3, some .int) ∈ lw_tbl := en_sub_4 _ (List.mem_of_getElem? (i := 219) rfl)
theorem en_mi_128 : en_mw (yX8_seed, prog_1_method_23_code, 2, some .boolean) ∈ lw_tbl := en_sub_4 _ (List.mem_of_getElem? (i := 223) rfl)
theorem en_mi_129 : en_mw (yX8_keep, prog_1_method_24_code, 1, some .int) ∈ lw_tbl := en_sub_4 _ (List.mem_of_getElem? (i := 228) rfl)
theorem en_mi_130 : en_mw (yX8_undo, prog_1_method_25_code, 1, some .boolean) ∈ lw_tbl := en_sub_4 _ (List.mem_of_getElem? (i := 232) rfl)
theorem en_mi_131 : en_mw (yX8_check, prog_1_method_26_code, 4, some .int) ∈ lw_tbl := en_sub_4 _ (List.mem_of_getElem? (i := 238) rfl)
theorem en_mi_132 : en_mw (yX8_count, prog_1_method_27_code, 2, some .int) ∈ lw_tbl := en_sub_5 _ (List.mem_of_getElem? (i := 2) rfl)
theorem en_mi_133 : en_mw (yX3_ofKind, prog_5_method_15_code, 4, some .int) ∈ lw_tbl := en_sub_5 _ (List.mem_of_getElem? (i := 6) rfl)
theorem en_mi_134 : en_mw (yX6_bytesNotZero, prog_8_method_7_code, 3, some .int) ∈ lw_tbl := en_sub_5 _ (List.mem_of_getElem? (i := 10) rfl)
theorem en_mi_135 : en_mw (yX9_init, prog_11_method_1_code, 1, none) ∈ lw_tbl := en_sub_5 _ (List.mem_of_getElem? (i := 15) rfl)
theorem en_mi_136 : en_mw (yX9_register, prog_11_method_6_code, 3, some .boolean) ∈ lw_tbl := en_sub_6 _ (List.mem_of_getElem? (i := 69) rfl)
theorem en_mi_137 : en_mw (yX9_in, prog_11_method_2_code, 3, some .boolean) ∈ lw_tbl := en_sub_6 _ (List.mem_of_getElem? (i := 72) rfl)
theorem en_mi_138 : en_mw (yX9_poke, prog_11_method_7_code, 3, some .boolean) ∈ lw_tbl := en_sub_6 _ (List.mem_of_getElem? (i := 76) rfl)
theorem en_mi_139 : en_mw (yX9_feed, prog_11_method_9_code, 6, some .int) ∈ lw_tbl := en_sub_6 _ (List.mem_of_getElem? (i := 80) rfl)
theorem en_ms_in_6 : ∀ r ∈ en_ms_6, en_mw r ∈ lw_tbl := List.forall_mem_cons.mpr ⟨en_mi_120, List.forall_mem_cons.mpr ⟨en_mi_121, List.forall_mem_cons.mpr ⟨en_mi_122, List.forall_mem_cons.mpr ⟨en_mi_123, List.forall_mem_cons.mpr ⟨en_mi_124, List.forall_mem_cons.mpr ⟨en_mi_125, List.forall_mem_cons.mpr ⟨en_mi_126, List.forall_mem_cons.mpr ⟨en_mi_127, List.forall_mem_cons.mpr ⟨en_mi_128, List.forall_mem_cons.mpr ⟨en_mi_129, List.forall_mem_cons.mpr ⟨en_mi_130, List.forall_mem_cons.mpr ⟨en_mi_131, List.forall_mem_cons.mpr ⟨en_mi_132, List.forall_mem_cons.mpr ⟨en_mi_133, List.forall_mem_cons.mpr ⟨en_mi_134, List.forall_mem_cons.mpr ⟨en_mi_135, List.forall_mem_cons.mpr ⟨en_mi_136, List.forall_mem_cons.mpr ⟨en_mi_137, List.forall_mem_cons.mpr ⟨en_mi_138, List.forall_mem_cons.mpr ⟨en_mi_139, fun _ h => absurd h List.not_mem_nil⟩⟩⟩⟩⟩⟩⟩⟩⟩⟩⟩⟩⟩⟩⟩⟩⟩⟩⟩⟩
def en_ms_7 : List (MethodName × ByteArray × Nat × Option FieldType) := [(yX9_types, prog_11_method_8_code, 3, none), (yX9_law, prog_11_method_32_code, 4, some .int), (yX9_beginsText, prog_11_method_31_code, 2, none), (yX9_readsRule, prog_11_method_30_code, 2, some .boolean), (yX9_here, prog_11_method_11_code, 1, some .int), (yX9_wrongAt, prog_11_method_13_code, 3, some .boolean), (yX9_readsSum, prog_11_method_24_code, 3, some .boolean), (yX9_readsFactor, prog_11_method_22_code, 2, some .boolean), (yX9_opens, prog_11_method_17_code, 2, some .boolean), (yX9_isDigit, prog_11_method_12_code, 1, some .boolean), (yX9_readsNumber, prog_11_method_15_code, 2, some .boolean), (yX9_notes, prog_11_method_16_code, 3, none), (yX9_factOf, prog_11_method_19_code, 1, some .int), (yX9_sumSign, prog_11_method_20_code, 1, some .int), (yX9_closesSums, prog_11_method_21_code, 2, none), (yX9_waitTop, prog_11_method_18_code, 1, some .int), (yX9_hasOpenSum, prog_11_method_23_code, 3, some .boolean), (yX9_readsCondition, prog_11_method_29_code, 1, some .boolean), (yX9_readsCompared, prog_11_method_28_code, 2, some .boolean), (yX9_endsPiece, prog_11_method_25_code, 1, none)]
theorem en_mi_140 : en_mw (yX9_types, prog_11_method_8_code, 3, none) ∈ lw_tbl := en_sub_6 _ (List.mem_of_getElem? (i := 84) rfl)
theorem en_mi_141 : en_mw (yX9_law, prog_11_method_32_code, 4, some .int) ∈ lw_tbl := en_sub_6 _ (List.mem_of_getElem? (i := 88) rfl)
theorem en_mi_142 : en_mw (yX9_beginsText, prog_11_method_31_code, 2, none) ∈ lw_tbl := en_sub_6 _ (List.mem_of_getElem? (i := 92) rfl)
theorem en_mi_143 : en_mw (yX9_readsRule, prog_11_method_30_code, 2, some .boolean) ∈ lw_tbl := en_sub_6 _ (List.mem_of_getElem? (i := 96) rfl)
theorem en_mi_144 : en_mw (yX9_here, prog_11_method_11_code, 1, some .int) ∈ lw_tbl := en_sub_6 _ (List.mem_of_getElem? (i := 100) rfl)
theorem en_mi_145 : en_mw (yX9_wrongAt, prog_11_method_13_code, 3, some .boolean) ∈ lw_tbl := en_sub_6 _ (List.mem_of_getElem? (i := 104) rfl)
theorem en_mi_146 : en_mw (yX9_readsSum, prog_11_method_24_code, 3, some .boolean) ∈ lw_tbl := en_sub_6 _ (List.mem_of_getElem? (i := 108) rfl)
theorem en_mi_147 : en_mw (yX9_readsFactor, prog_11_method_22_code, 2, some .boolean) ∈ lw_tbl := en_sub_6 _ (List.mem_of_getElem? (i := 112) rfl)
theorem en_mi_148 : en_mw (yX9_opens, prog_11_method_17_code, 2, some .boolean) ∈ lw_tbl := en_sub_6 _ (List.mem_of_getElem? (i := 116) rfl)
theorem en_mi_149 : en_mw (yX9_isDigit, prog_11_method_12_code, 1, some .boolean) ∈ lw_tbl := en_sub_6 _ (List.mem_of_getElem? (i := 121) rfl)
theorem en_mi_150 : en_mw (yX9_readsNumber, prog_11_method_15_code, 2, some .boolean) ∈ lw_tbl := en_sub_6 _ (List.mem_of_getElem? (i := 125) rfl)
theorem en_mi_151 : en_mw (yX9_notes, prog_11_method_16_code, 3, none) ∈ lw_tbl := en_sub_6 _ (List.mem_of_getElem? (i := 129) rfl)
theorem en_mi_152 : en_mw (yX9_factOf, prog_11_method_19_code, 1, some .int) ∈ lw_tbl := en_sub_6 _ (List.mem_of_getElem? (i := 132) rfl)
theorem en_mi_153 : en_mw (yX9_sumSign, prog_11_method_20_code, 1, some .int) ∈ lw_tbl := en_sub_6 _ (List.mem_of_getElem? (i := 135) rfl)
theorem en_mi_154 : en_mw (yX9_closesSums, prog_11_method_21_code, 2, none) ∈ lw_tbl := en_sub_6 _ (List.mem_of_getElem? (i := 139) rfl)
theorem en_mi_155 : en_mw (yX9_waitTop, prog_11_method_18_code, 1, some .int) ∈ lw_tbl := en_sub_6 _ (List.mem_of_getElem? (i := 143) rfl)
theorem en_mi_156 : en_mw (yX9_hasOpenSum, prog_11_method_23_code, 3, some .boolean) ∈ lw_tbl := en_sub_6 _ (List.mem_of_getElem? (i := 147) rfl)
theorem en_mi_157 : en_mw (yX9_readsCondition, prog_11_method_29_code, 1, some .boolean) ∈ lw_tbl := en_sub_6 _ (List.mem_of_getElem? (i := 151) rfl)
theorem en_mi_158 : en_mw (yX9_readsCompared, prog_11_method_28_code, 2, some .boolean) ∈ lw_tbl := en_sub_6 _ (List.mem_of_getElem? (i := 155) rfl)
theorem en_mi_159 : en_mw (yX9_endsPiece, prog_11_method_25_code, 1, none) ∈ lw_tbl := en_sub_6 _ (List.mem_of_getElem? (i := 159) rfl)
theorem en_ms_in_7 : ∀ r ∈ en_ms_7, en_mw r ∈ lw_tbl := List.forall_mem_cons.mpr ⟨en_mi_140, List.forall_mem_cons.mpr ⟨en_mi_141, List.forall_mem_cons.mpr ⟨en_mi_142, List.forall_mem_cons.mpr ⟨en_mi_143, List.forall_mem_cons.mpr ⟨en_mi_144, List.forall_mem_cons.mpr ⟨en_mi_145, List.forall_mem_cons.mpr ⟨en_mi_146, List.forall_mem_cons.mpr ⟨en_mi_147, List.forall_mem_cons.mpr ⟨en_mi_148, List.forall_mem_cons.mpr ⟨en_mi_149, List.forall_mem_cons.mpr ⟨en_mi_150, List.forall_mem_cons.mpr ⟨en_mi_151, List.forall_mem_cons.mpr ⟨en_mi_152, List.forall_mem_cons.mpr ⟨en_mi_153, List.forall_mem_cons.mpr ⟨en_mi_154, List.forall_mem_cons.mpr ⟨en_mi_155, List.forall_mem_cons.mpr ⟨en_mi_156, List.forall_mem_cons.mpr ⟨en_mi_157, List.forall_mem_cons.mpr ⟨en_mi_158, List.forall_mem_cons.mpr ⟨en_mi_159, fun _ h => absurd h List.not_mem_nil⟩⟩⟩⟩⟩⟩⟩⟩⟩⟩⟩⟩⟩⟩⟩⟩⟩⟩⟩⟩
def en_ms_8 : List (MethodName × ByteArray × Nat × Option FieldType) := [(yX9_lands, prog_11_method_26_code, 3, none), (yX9_jumps, prog_11_method_27_code, 2, none), (yX9_takes, prog_11_method_14_code, 2, some .boolean), (yX9_program, prog_11_method_44_code, 4, some .int), (yX9_readsOp, prog_11_method_43_code, 3, some .boolean), (yX9_kindBy, prog_11_method_40_code, 1, some .int), (yX9_sizeBy, prog_11_method_41_code, 1, some .int), (yX9_readsRegister, prog_11_method_38_code, 1, some .boolean), (yX9_readsPlace, prog_11_method_42_code, 2, some .boolean), (yX9_readsAmount, prog_11_method_39_code, 2, some .boolean), (yX9_source, prog_11_method_48_code, 4, some .int), (yX9_isOp, prog_11_method_5_code, 2, some .boolean), (yX9_doesRead, prog_11_method_46_code, 3, some .boolean), (yX9_giverOf, prog_11_method_47_code, 4, some .int), (yX9_gives, prog_11_method_45_code, 3, some .boolean), (yX9_run, prog_11_method_80_code, 3, some .int), (yX9_canRun, prog_11_method_78_code, 2, some .boolean), (yX9_goesThrough, prog_11_method_75_code, 4, some .boolean), (yX9_cycleGoes, prog_11_method_74_code, 5, none), (yX9_comesDone, prog_11_method_68_code, 3, none)]
theorem en_mi_160 : en_mw (yX9_lands, prog_11_method_26_code, 3, none) ∈ lw_tbl := en_sub_6 _ (List.mem_of_getElem? (i := 163) rfl)
theorem en_mi_161 : en_mw (yX9_jumps, prog_11_method_27_code, 2, none) ∈ lw_tbl := en_sub_6 _ (List.mem_of_getElem? (i := 167) rfl)
theorem en_mi_162 : en_mw (yX9_takes, prog_11_method_14_code, 2, some .boolean) ∈ lw_tbl := en_sub_6 _ (List.mem_of_getElem? (i := 171) rfl)
theorem en_mi_163 : en_mw (yX9_program, prog_11_method_44_code, 4, some .int) ∈ lw_tbl := en_sub_6 _ (List.mem_of_getElem? (i := 175) rfl)
theorem en_mi_164 : en_mw (yX9_readsOp, prog_11_method_43_code, 3, some .boolean) ∈ lw_tbl := en_sub_6 _ (List.mem_of_getElem? (i := 179) rfl)
theorem en_mi_165 : en_mw (yX9_kindBy, prog_11_method_40_code, 1, some .int) ∈ lw_tbl := en_sub_6 _ (List.mem_of_getElem? (i := 182) rfl)
theorem en_mi_166 : en_mw (yX9_sizeBy, prog_11_method_41_code, 1, some .int) ∈ lw_tbl := en_sub_6 _ (List.mem_of_getElem? (i := 185) rfl)
theorem en_mi_167 : en_mw (yX9_readsRegister, prog_11_method_38_code, 1, some .boolean) ∈ lw_tbl := en_sub_6 _ (List.mem_of_getElem? (i := 189) rfl)
theorem en_mi_168 : en_mw (yX9_readsPlace, prog_11_method_42_code, 2, some .boolean) ∈ lw_tbl := en_sub_6 _ (List.mem_of_getElem? (i := 193) rfl)
theorem en_mi_169 : en_mw (yX9_readsAmount, prog_11_method_39_code, 2, some .boolean) ∈ lw_tbl := en_sub_6 _ (List.mem_of_getElem? (i := 197) rfl)
theorem en_mi_170 : en_mw (yX9_source, prog_11_method_48_code, 4, some .int) ∈ lw_tbl := en_sub_6 _ (List.mem_of_getElem? (i := 201) rfl)
theorem en_mi_171 : en_mw (yX9_isOp, prog_11_method_5_code, 2, some .boolean) ∈ lw_tbl := en_sub_6 _ (List.mem_of_getElem? (i := 205) rfl)
theorem en_mi_172 : en_mw (yX9_doesRead, prog_11_method_46_code, 3, some .boolean) ∈ lw_tbl := en_sub_6 _ (List.mem_of_getElem? (i := 209) rfl)
theorem en_mi_173 : en_mw (yX9_giverOf, prog_11_method_47_code, 4, some .int) ∈ lw_tbl := en_sub_6 _ (List.mem_of_getElem? (i := 213) rfl)
theorem en_mi_174 : en_mw (yX9_gives, prog_11_method_45_code, 3, some .boolean) ∈ lw_tbl := en_sub_6 _ (List.mem_of_getElem? (i := 217) rfl)
theorem en_mi_175 : en_mw (yX9_run, prog_11_method_80_code, 3, some .int) ∈ lw_tbl := en_sub_6 _ (List.mem_of_getElem? (i := 221) rfl)
theorem en_mi_176 : en_mw (yX9_canRun, prog_11_method_78_code, 2, some .boolean) ∈ lw_tbl := en_sub_6 _ (List.mem_of_getElem? (i := 225) rfl)
theorem en_mi_177 : en_mw (yX9_goesThrough, prog_11_method_75_code, 4, some .boolean) ∈ lw_tbl := en_sub_6 _ (List.mem_of_getElem? (i := 229) rfl)
theorem en_mi_178 : en_mw (yX9_cycleGoes, prog_11_method_74_code, 5, none) ∈ lw_tbl := en_sub_6 _ (List.mem_of_getElem? (i := 233) rfl)
theorem en_mi_179 : en_mw (yX9_comesDone, prog_11_method_68_code, 3, none) ∈ lw_tbl := en_sub_6 _ (List.mem_of_getElem? (i := 237) rfl)
theorem en_ms_in_8 : ∀ r ∈ en_ms_8, en_mw r ∈ lw_tbl := List.forall_mem_cons.mpr ⟨en_mi_160, List.forall_mem_cons.mpr ⟨en_mi_161, List.forall_mem_cons.mpr ⟨en_mi_162, List.forall_mem_cons.mpr ⟨en_mi_163, List.forall_mem_cons.mpr ⟨en_mi_164, List.forall_mem_cons.mpr ⟨en_mi_165, List.forall_mem_cons.mpr ⟨en_mi_166, List.forall_mem_cons.mpr ⟨en_mi_167, List.forall_mem_cons.mpr ⟨en_mi_168, List.forall_mem_cons.mpr ⟨en_mi_169, List.forall_mem_cons.mpr ⟨en_mi_170, List.forall_mem_cons.mpr ⟨en_mi_171, List.forall_mem_cons.mpr ⟨en_mi_172, List.forall_mem_cons.mpr ⟨en_mi_173, List.forall_mem_cons.mpr ⟨en_mi_174, List.forall_mem_cons.mpr ⟨en_mi_175, List.forall_mem_cons.mpr ⟨en_mi_176, List.forall_mem_cons.mpr ⟨en_mi_177, List.forall_mem_cons.mpr ⟨en_mi_178, List.forall_mem_cons.mpr ⟨en_mi_179, fun _ h => absurd h List.not_mem_nil⟩⟩⟩⟩⟩⟩⟩⟩⟩⟩⟩⟩⟩⟩⟩⟩⟩⟩⟩⟩
def en_ms_9 : List (MethodName × ByteArray × Nat × Option FieldType) := [(yX9_readBy, prog_11_method_52_code, 4, some .int), (yX9_reckoned, prog_11_method_50_code, 3, some .int), (yX9_placeBy, prog_11_method_53_code, 3, some .int), (yX9_loads, prog_11_method_67_code, 6, none), (yX9_covers, prog_11_method_54_code, 3, some .boolean), (yX9_byteOf, prog_11_method_55_code, 2, some .int), (yX9_cut, prog_11_method_51_code, 2, some .int), (yX9_looksBack, prog_11_method_66_code, 4, none), (yX9_tookOld, prog_11_method_65_code, 4, some .boolean), (yX9_melts, prog_11_method_59_code, 6, none), (yX9_min, prog_11_method_4_code, 2, some .int), (yX9_replaysAll, prog_11_method_63_code, 4, none), (yX9_lists, prog_11_method_60_code, 2, none), (yX9_listsThoseBy, prog_11_method_62_code, 4, none), (yX9_tookFrom, prog_11_method_61_code, 4, some .boolean), (yX9_hasSource, prog_11_method_49_code, 4, some .boolean), (yX9_undoesTo, prog_11_method_64_code, 4, none), (yX9_areSourcesDone, prog_11_method_56_code, 4, some .boolean), (yX9_isKeptBack, prog_11_method_58_code, 3, some .boolean), (yX9_areStoresDone, prog_11_method_57_code, 3, some .boolean)]
theorem en_mi_180 : en_mw (yX9_readBy, prog_11_method_52_code, 4, some .int) ∈ lw_tbl := en_sub_7 _ (List.mem_of_getElem? (i := 1) rfl)
theorem en_mi_181 : en_mw (yX9_reckoned, prog_11_method_50_code, 3, some .int) ∈ lw_tbl := en_sub_7 _ (List.mem_of_getElem? (i := 4) rfl)
theorem en_mi_182 : en_mw (yX9_placeBy, prog_11_method_53_code, 3, some .int) ∈ lw_tbl := en_sub_7 _ (List.mem_of_getElem? (i := 8) rfl)
theorem en_mi_183 : en_mw (yX9_loads, prog_11_method_67_code, 6, none) ∈ lw_tbl := en_sub_7 _ (List.mem_of_getElem? (i := 12) rfl)
theorem en_mi_184 : en_mw (yX9_covers, prog_11_method_54_code, 3, some .boolean) ∈ lw_tbl := en_sub_7 _ (List.mem_of_getElem? (i := 16) rfl)
theorem en_mi_185 : en_mw (yX9_byteOf, prog_11_method_55_code, 2, some .int) ∈ lw_tbl := en_sub_7 _ (List.mem_of_getElem? (i := 19) rfl)
theorem en_mi_186 : en_mw (yX9_cut, prog_11_method_51_code, 2, some .int) ∈ lw_tbl := en_sub_7 _ (List.mem_of_getElem? (i := 22) rfl)
theorem en_mi_187 : en_mw (yX9_looksBack, prog_11_method_66_code, 4, none) ∈ lw_tbl := en_sub_7 _ (List.mem_of_getElem? (i := 27) rfl)
theorem en_mi_188 : en_mw (yX9_tookOld, prog_11_method_65_code, 4, some .boolean) ∈ lw_tbl := en_sub_7 _ (List.mem_of_getElem? (i := 31) rfl)
theorem en_mi_189 : en_mw (yX9_melts, prog_11_method_59_code, 6, none) ∈ lw_tbl := en_sub_7 _ (List.mem_of_getElem? (i := 35) rfl)
theorem en_mi_190 : en_mw (yX9_min, prog_11_method_4_code, 2, some .int) ∈ lw_tbl := en_sub_7 _ (List.mem_of_getElem? (i := 38) rfl)
theorem en_mi_191 : en_mw (yX9_replaysAll, prog_11_method_63_code, 4, none) ∈ lw_tbl := en_sub_7 _ (List.mem_of_getElem? (i := 42) rfl)
theorem en_mi_192 : en_mw (yX9_lists, prog_11_method_60_code, 2, none) ∈ lw_tbl := en_sub_7 _ (List.mem_of_getElem? (i := 46) rfl)
theorem en_mi_193 : en_mw (yX9_listsThoseBy, prog_11_method_62_code, 4, none) ∈ lw_tbl := en_sub_7 _ (List.mem_of_getElem? (i := 50) rfl)
theorem en_mi_194 : en_mw (yX9_tookFrom, prog_11_method_61_code, 4, some .boolean) ∈ lw_tbl := en_sub_7 _ (List.mem_of_getElem? (i := 54) rfl)
theorem en_mi_195 : en_mw (yX9_hasSource, prog_11_method_49_code, 4, some .boolean) ∈ lw_tbl := en_sub_7 _ (List.mem_of_getElem? (i := 58) rfl)
theorem en_mi_196 : en_mw (yX9_undoesTo, prog_11_method_64_code, 4, none) ∈ lw_tbl := en_sub_7 _ (List.mem_of_getElem? (i := 62) rfl)
theorem en_mi_197 : en_mw (yX9_areSourcesDone, prog_11_method_56_code, 4, some .boolean) ∈ lw_tbl := en_sub_7 _ (List.mem_of_getElem? (i := 66) rfl)
theorem en_mi_198 : en_mw (yX9_isKeptBack, prog_11_method_58_code, 3, some .boolean) ∈ lw_tbl := en_sub_7 _ (List.mem_of_getElem? (i := 70) rfl)
theorem en_mi_199 : en_mw (yX9_areStoresDone, prog_11_method_57_code, 3, some .boolean) ∈ lw_tbl := en_sub_7 _ (List.mem_of_getElem? (i := 74) rfl)
theorem en_ms_in_9 : ∀ r ∈ en_ms_9, en_mw r ∈ lw_tbl := List.forall_mem_cons.mpr ⟨en_mi_180, List.forall_mem_cons.mpr ⟨en_mi_181, List.forall_mem_cons.mpr ⟨en_mi_182, List.forall_mem_cons.mpr ⟨en_mi_183, List.forall_mem_cons.mpr ⟨en_mi_184, List.forall_mem_cons.mpr ⟨en_mi_185, List.forall_mem_cons.mpr ⟨en_mi_186, List.forall_mem_cons.mpr ⟨en_mi_187, List.forall_mem_cons.mpr ⟨en_mi_188, List.forall_mem_cons.mpr ⟨en_mi_189, List.forall_mem_cons.mpr ⟨en_mi_190, List.forall_mem_cons.mpr ⟨en_mi_191, List.forall_mem_cons.mpr ⟨en_mi_192, List.forall_mem_cons.mpr ⟨en_mi_193, List.forall_mem_cons.mpr ⟨en_mi_194, List.forall_mem_cons.mpr ⟨en_mi_195, List.forall_mem_cons.mpr ⟨en_mi_196, List.forall_mem_cons.mpr ⟨en_mi_197, List.forall_mem_cons.mpr ⟨en_mi_198, List.forall_mem_cons.mpr ⟨en_mi_199, fun _ h => absurd h List.not_mem_nil⟩⟩⟩⟩⟩⟩⟩⟩⟩⟩⟩⟩⟩⟩⟩⟩⟩⟩⟩⟩
def en_ms_10 : List (MethodName × ByteArray × Nat × Option FieldType) := [(yX9_goesOff, prog_11_method_69_code, 3, none), (yX9_feels, prog_11_method_37_code, 4, none), (yX9_delayOf, prog_11_method_35_code, 4, some .int), (yX9_reckonsTo, prog_11_method_34_code, 8, some .int), (yX9_reckon, prog_11_method_33_code, 3, some .int), (yX9_retires, prog_11_method_72_code, 6, none), (yX9_oldestToRetire, prog_11_method_71_code, 2, some .int), (yX9_areAllDone, prog_11_method_70_code, 3, some .boolean), (yX9_isHeldBack, prog_11_method_36_code, 2, some .boolean), (yX9_isOver, prog_11_method_73_code, 2, some .boolean), (yX9_putsSetsBack, prog_11_method_76_code, 2, none), (yX9_toldOf, prog_11_method_79_code, 2, some .int), (yX9_tried, prog_11_method_81_code, 5, some .int), (yX9_isTried, prog_11_method_77_code, 5, some .boolean), (yX9_cautious, prog_11_method_82_code, 3, some .int), (yX9_fastest, prog_11_method_83_code, 5, some .int), (yX9_lastRun, prog_11_method_84_code, 2, some .int), (yX9_now, prog_11_method_87_code, 2, some .int), (yX9_plain, prog_11_method_88_code, 2, some .int), (yX9_goesPlain, prog_11_method_85_code, 2, none)]
theorem en_mi_200 : en_mw (yX9_goesOff, prog_11_method_69_code, 3, none) ∈ lw_tbl := en_sub_7 _ (List.mem_of_getElem? (i := 78) rfl)
theorem en_mi_201 : en_mw (yX9_feels, prog_11_method_37_code, 4, none) ∈ lw_tbl := en_sub_7 _ (List.mem_of_getElem? (i := 83) rfl)
theorem en_mi_202 : en_mw (yX9_delayOf, prog_11_method_35_code, 4, some .int) ∈ lw_tbl := en_sub_7 _ (List.mem_of_getElem? (i := 87) rfl)
theorem en_mi_203 : en_mw (yX9_reckonsTo, prog_11_method_34_code, 8, some .int) ∈ lw_tbl := en_sub_7 _ (List.mem_of_getElem? (i := 91) rfl)
theorem en_mi_204 : en_mw (yX9_reckon, prog_11_method_33_code, 3, some .int) ∈ lw_tbl := en_sub_7 _ (List.mem_of_getElem? (i := 94) rfl)
theorem en_mi_205 : en_mw (yX9_retires, prog_11_method_72_code, 6, none) ∈ lw_tbl := en_sub_7 _ (List.mem_of_getElem? (i := 98) rfl)
theorem en_mi_206 : en_mw (yX9_oldestToRetire, prog_11_method_71_code, 2, some .int) ∈ lw_tbl := en_sub_7 _ (List.mem_of_getElem? (i := 102) rfl)
theorem en_mi_207 : en_mw (yX9_areAllDone, prog_11_method_70_code, 3, some .boolean) ∈ lw_tbl := en_sub_7 _ (List.mem_of_getElem? (i := 106) rfl)
theorem en_mi_208 : en_mw (yX9_isHeldBack, prog_11_method_36_code, 2, some .boolean) ∈ lw_tbl := en_sub_7 _ (List.mem_of_getElem? (i := 110) rfl)
theorem en_mi_209 : en_mw (yX9_isOver, prog_11_method_73_code, 2, some .boolean) ∈ lw_tbl := en_sub_7 _ (List.mem_of_getElem? (i := 114) rfl)
theorem en_mi_210 : en_mw (yX9_putsSetsBack, prog_11_method_76_code, 2, none) ∈ lw_tbl := en_sub_7 _ (List.mem_of_getElem? (i := 118) rfl)
theorem en_mi_211 : en_mw (yX9_toldOf, prog_11_method_79_code, 2, some .int) ∈ lw_tbl := en_sub_7 _ (List.mem_of_getElem? (i := 122) rfl)
theorem en_mi_212 : en_mw (yX9_tried, prog_11_method_81_code, 5, some .int) ∈ lw_tbl := en_sub_7 _ (List.mem_of_getElem? (i := 126) rfl)
theorem en_mi_213 : en_mw (yX9_isTried, prog_11_method_77_code, 5, some .boolean) ∈ lw_tbl := en_sub_7 _ (List.mem_of_getElem? (i := 130) rfl)
theorem en_mi_214 : en_mw (yX9_cautious, prog_11_method_82_code, 3, some .int) ∈ lw_tbl := en_sub_7 _ (List.mem_of_getElem? (i := 134) rfl)
theorem en_mi_215 : en_mw (yX9_fastest, prog_11_method_83_code, 5, some .int) ∈ lw_tbl := en_sub_7 _ (List.mem_of_getElem? (i := 138) rfl)
theorem en_mi_216 : en_mw (yX9_lastRun, prog_11_method_84_code, 2, some .int) ∈ lw_tbl := en_sub_7 _ (List.mem_of_getElem? (i := 142) rfl)
theorem en_mi_217 : en_mw (yX9_now, prog_11_method_87_code, 2, some .int) ∈ lw_tbl := en_sub_7 _ (List.mem_of_getElem? (i := 146) rfl)
theorem en_mi_218 : en_mw (yX9_plain, prog_11_method_88_code, 2, some .int) ∈ lw_tbl := en_sub_7 _ (List.mem_of_getElem? (i := 151) rfl)
theorem en_mi_219 : en_mw (yX9_goesPlain, prog_11_method_85_code, 2, none) ∈ lw_tbl := en_sub_7 _ (List.mem_of_getElem? (i := 155) rfl)
theorem en_ms_in_10 : ∀ r ∈ en_ms_10, en_mw r ∈ lw_tbl := List.forall_mem_cons.mpr ⟨en_mi_200, List.forall_mem_cons.mpr ⟨en_mi_201, List.forall_mem_cons.mpr ⟨en_mi_202, List.forall_mem_cons.mpr ⟨en_mi_203, List.forall_mem_cons.mpr ⟨en_mi_204, List.forall_mem_cons.mpr ⟨en_mi_205, List.forall_mem_cons.mpr ⟨en_mi_206, List.forall_mem_cons.mpr ⟨en_mi_207, List.forall_mem_cons.mpr ⟨en_mi_208, List.forall_mem_cons.mpr ⟨en_mi_209, List.forall_mem_cons.mpr ⟨en_mi_210, List.forall_mem_cons.mpr ⟨en_mi_211, List.forall_mem_cons.mpr ⟨en_mi_212, List.forall_mem_cons.mpr ⟨en_mi_213, List.forall_mem_cons.mpr ⟨en_mi_214, List.forall_mem_cons.mpr ⟨en_mi_215, List.forall_mem_cons.mpr ⟨en_mi_216, List.forall_mem_cons.mpr ⟨en_mi_217, List.forall_mem_cons.mpr ⟨en_mi_218, List.forall_mem_cons.mpr ⟨en_mi_219, fun _ h => absurd h List.not_mem_nil⟩⟩⟩⟩⟩⟩⟩⟩⟩⟩⟩⟩⟩⟩⟩⟩⟩⟩⟩⟩
def en_ms_11 : List (MethodName × ByteArray × Nat × Option FieldType) := [(yX9_doesPlain, prog_11_method_86_code, 6, none), (yX9_unlike, prog_11_method_89_code, 4, some .int), (yX9_mix, prog_11_method_91_code, 4, some .int), (yX9_haveByte, prog_11_method_90_code, 4, some .boolean), (yX9_deep, prog_11_method_92_code, 4, some .int), (yX9_max, prog_11_method_3_code, 2, some .int), (yX9_opIs, prog_11_method_94_code, 4, some .int), (yX9_toldOfOp, prog_11_method_93_code, 3, some .int), (yX9_worst, prog_11_method_96_code, 2, some .int), (yX9_worstOp, prog_11_method_95_code, 3, some .int), (yX9_watch, prog_11_method_97_code, 4, some .int), (yX9_watched, prog_11_method_98_code, 5, some .int), (yX9_forget, prog_11_method_100_code, 3, some .int), (yX9_withSet, prog_11_method_99_code, 3, some .int), (yX9_seed, prog_11_method_101_code, 2, some .boolean), (yX9_keep, prog_11_method_102_code, 2, some .int), (yX9_undo, prog_11_method_103_code, 2, some .boolean), (yX9_check, prog_11_method_104_code, 3, some .int), (yX9_octet, prog_11_method_10_code, 2, some .int), (yX9_count, prog_11_method_107_code, 2, some .int)]
theorem en_mi_220 : en_mw (yX9_doesPlain, prog_11_method_86_code, 6, none) ∈ lw_tbl := en_sub_7 _ (List.mem_of_getElem? (i := 159) rfl)
theorem en_mi_221 : en_mw (yX9_unlike, prog_11_method_89_code, 4, some .int) ∈ lw_tbl := en_sub_7 _ (List.mem_of_getElem? (i := 163) rfl)
theorem en_mi_222 : en_mw (yX9_mix, prog_11_method_91_code, 4, some .int) ∈ lw_tbl := en_sub_7 _ (List.mem_of_getElem? (i := 167) rfl)
theorem en_mi_223 : en_mw (yX9_haveByte, prog_11_method_90_code, 4, some .boolean) ∈ lw_tbl := en_sub_7 _ (List.mem_of_getElem? (i := 171) rfl)
theorem en_mi_224 : en_mw (yX9_deep, prog_11_method_92_code, 4, some .int) ∈ lw_tbl := en_sub_7 _ (List.mem_of_getElem? (i := 175) rfl)
theorem en_mi_225 : en_mw (yX9_max, prog_11_method_3_code, 2, some .int) ∈ lw_tbl := en_sub_7 _ (List.mem_of_getElem? (i := 178) rfl)
theorem en_mi_226 : en_mw (yX9_opIs, prog_11_method_94_code, 4, some .int) ∈ lw_tbl := en_sub_7 _ (List.mem_of_getElem? (i := 182) rfl)
theorem en_mi_227 : en_mw (yX9_toldOfOp, prog_11_method_93_code, 3, some .int) ∈ lw_tbl := en_sub_7 _ (List.mem_of_getElem? (i := 186) rfl)
theorem en_mi_228 : en_mw (yX9_worst, prog_11_method_96_code, 2, some .int) ∈ lw_tbl := en_sub_7 _ (List.mem_of_getElem? (i := 190) rfl)
theorem en_mi_229 : en_mw (yX9_worstOp, prog_11_method_95_code, 3, some .int) ∈ lw_tbl := en_sub_7 _ (List.mem_of_getElem? (i := 194) rfl)
theorem en_mi_230 : en_mw (yX9_watch, prog_11_method_97_code, 4, some .int) ∈ lw_tbl := en_sub_7 _ (List.mem_of_getElem? (i := 198) rfl)
theorem en_mi_231 : en_mw (yX9_watched, prog_11_method_98_code, 5, some .int) ∈ lw_tbl := en_sub_7 _ (List.mem_of_getElem? (i := 202) rfl)
theorem en_mi_232 : en_mw (yX9_forget, prog_11_method_100_code, 3, some .int) ∈ lw_tbl := en_sub_7 _ (List.mem_of_getElem? (i := 206) rfl)
theorem en_mi_233 : en_mw (yX9_withSet, prog_11_method_99_code, 3, some .int) ∈ lw_tbl := en_sub_7 _ (List.mem_of_getElem? (i := 210) rfl)
theorem en_mi_234 : en_mw (yX9_seed, prog_11_method_101_code, 2, some .boolean) ∈ lw_tbl := en_sub_7 _ (List.mem_of_getElem? (i := 214) rfl)
theorem en_mi_235 : en_mw (yX9_keep, prog_11_method_102_code, 2, some .int) ∈ lw_tbl := en_sub_7 _ (List.mem_of_getElem? (i := 218) rfl)
theorem en_mi_236 : en_mw (yX9_undo, prog_11_method_103_code, 2, some .boolean) ∈ lw_tbl := en_sub_7 _ (List.mem_of_getElem? (i := 222) rfl)
theorem en_mi_237 : en_mw (yX9_check, prog_11_method_104_code, 3, some .int) ∈ lw_tbl := en_sub_7 _ (List.mem_of_getElem? (i := 226) rfl)
theorem en_mi_238 : en_mw (yX9_octet, prog_11_method_10_code, 2, some .int) ∈ lw_tbl := en_sub_7 _ (List.mem_of_getElem? (i := 230) rfl)
theorem en_mi_239 : en_mw (yX9_count, prog_11_method_107_code, 2, some .int) ∈ lw_tbl := en_sub_7 _ (List.mem_of_getElem? (i := 234) rfl)
theorem en_ms_in_11 : ∀ r ∈ en_ms_11, en_mw r ∈ lw_tbl := List.forall_mem_cons.mpr ⟨en_mi_220, List.forall_mem_cons.mpr ⟨en_mi_221, List.forall_mem_cons.mpr ⟨en_mi_222, List.forall_mem_cons.mpr ⟨en_mi_223, List.forall_mem_cons.mpr ⟨en_mi_224, List.forall_mem_cons.mpr ⟨en_mi_225, List.forall_mem_cons.mpr ⟨en_mi_226, List.forall_mem_cons.mpr ⟨en_mi_227, List.forall_mem_cons.mpr ⟨en_mi_228, List.forall_mem_cons.mpr ⟨en_mi_229, List.forall_mem_cons.mpr ⟨en_mi_230, List.forall_mem_cons.mpr ⟨en_mi_231, List.forall_mem_cons.mpr ⟨en_mi_232, List.forall_mem_cons.mpr ⟨en_mi_233, List.forall_mem_cons.mpr ⟨en_mi_234, List.forall_mem_cons.mpr ⟨en_mi_235, List.forall_mem_cons.mpr ⟨en_mi_236, List.forall_mem_cons.mpr ⟨en_mi_237, List.forall_mem_cons.mpr ⟨en_mi_238, List.forall_mem_cons.mpr ⟨en_mi_239, fun _ h => absurd h List.not_mem_nil⟩⟩⟩⟩⟩⟩⟩⟩⟩⟩⟩⟩⟩⟩⟩⟩⟩⟩⟩⟩
def en_ms_12 : List (MethodName × ByteArray × Nat × Option FieldType) := [(yX9_ofKind, prog_11_method_105_code, 4, some .int), (yX9_bytesThere, prog_11_method_106_code, 3, some .int)]
theorem en_mi_240 : en_mw (yX9_ofKind, prog_11_method_105_code, 4, some .int) ∈ lw_tbl := en_sub_7 _ (List.mem_of_getElem? (i := 238) rfl)
theorem en_mi_241 : en_mw (yX9_bytesThere, prog_11_method_106_code, 3, some .int) ∈ lw_tbl := en_sub_8 _ (List.mem_of_getElem? (i := 2) rfl)
theorem en_ms_in_12 : ∀ r ∈ en_ms_12, en_mw r ∈ lw_tbl := List.forall_mem_cons.mpr ⟨en_mi_240, List.forall_mem_cons.mpr ⟨en_mi_241, fun _ h => absurd h List.not_mem_nil⟩⟩
def en_ms : List (MethodName × ByteArray × Nat × Option FieldType) := en_ms_0 ++ (en_ms_1 ++ (en_ms_2 ++ (en_ms_3 ++ (en_ms_4 ++ (en_ms_5 ++ (en_ms_6 ++ (en_ms_7 ++ (en_ms_8 ++ (en_ms_9 ++ (en_ms_10 ++ (en_ms_11 ++ (en_ms_12))))))))))))
theorem en_ms_in : ∀ r ∈ en_ms, Cond.code r.1 r.2.1 r.2.2.1 r.2.2.2 ∈ lw_tbl := by
  intro q hq
  unfold en_ms at hq
  rcases List.mem_append.mp hq with hq | hq
  · exact en_ms_in_0 q hq
  rcases List.mem_append.mp hq with hq | hq
  · exact en_ms_in_1 q hq
  rcases List.mem_append.mp hq with hq | hq
  · exact en_ms_in_2 q hq
  rcases List.mem_append.mp hq with hq | hq
  · exact en_ms_in_3 q hq
  rcases List.mem_append.mp hq with hq | hq
  · exact en_ms_in_4 q hq
  rcases List.mem_append.mp hq with hq | hq
  · exact en_ms_in_5 q hq
  rcases List.mem_append.mp hq with hq | hq
  · exact en_ms_in_6 q hq
  rcases List.mem_append.mp hq with hq | hq
  · exact en_ms_in_7 q hq
  rcases List.mem_append.mp hq with hq | hq
  · exact en_ms_in_8 q hq
  rcases List.mem_append.mp hq with hq | hq
  · exact en_ms_in_9 q hq
  rcases List.mem_append.mp hq with hq | hq
  · exact en_ms_in_10 q hq
  rcases List.mem_append.mp hq with hq | hq
  · exact en_ms_in_11 q hq
  exact en_ms_in_12 q hq
def en_fl : List (Nat × Nat × Nat × Nat) := [(7, 9, 7, 0), (8, 257, 7, 0), (7, 15, 7, 1), (8, 85, 7, 1), (7, 25, 7, 2), (7, 28, 7, 3), (7, 31, 7, 4), (3, 9, 3, 0), (2, 46, 3, 0), (1, 124, 3, 0), (8, 175, 3, 0), (3, 15, 3, 1), (3, 18, 3, 2), (2, 49, 3, 2), (1, 157, 3, 2), (8, 267, 3, 2), (3, 21, 3, 3), (2, 56, 3, 3), (1, 240, 3, 3), (3, 24, 3, 4), (2, 32, 3, 4), (1, 111, 3, 4), (8, 200, 3, 4), (3, 27, 3, 5), (2, 39, 3, 5), (1, 121, 3, 5), (8, 206, 3, 5), (3, 30, 3, 6), (3, 33, 3, 7), (1, 108, 3, 7), (8, 203, 3, 7), (3, 36, 3, 8), (1, 118, 3, 8), (8, 209, 3, 8), (3, 39, 3, 9), (3, 42, 3, 10), (2, 26, 3, 11), (3, 51, 3, 11), (1, 102, 3, 11), (8, 222, 3, 11), (3, 55, 3, 12), (8, 223, 3, 12), (0, 9, 0, 0), (0, 15, 0, 1), (0, 18, 0, 2), (0, 21, 0, 3), (0, 24, 0, 4), (0, 35, 0, 5), (0, 38, 0, 6), (0, 47, 0, 7), (8, 263, 0, 7), (0, 50, 0, 8), (6, 9, 6, 0), (8, 78, 6, 0), (2, 63, 6, 0), (1, 154, 6, 0), (6, 15, 6, 1), (8, 82, 6, 1), (2, 73, 6, 1), (1, 163, 6, 1), (6, 18, 6, 2), (8, 178, 6, 2), (1, 217, 6, 2), (6, 27, 6, 3), (8, 120, 6, 3), (6, 31, 6, 4), (8, 141, 6, 4), (1, 220, 6, 4), (6, 34, 6, 5), (8, 135, 6, 5), (4, 9, 4, 0), (1, 83, 4, 0), (8, 165, 4, 0), (4, 15, 4, 1), (1, 105, 4, 1), (8, 185, 4, 1), (4, 18, 4, 2), (8, 188, 4, 2), (1, 193, 4, 2), (4, 21, 4, 3), (1, 137, 4, 3), (8, 191, 4, 3), (4, 24, 4, 4), (1, 127, 4, 4), (8, 197, 4, 4), (4, 27, 4, 5), (1, 169, 4, 5), (8, 270, 4, 5), (1, 12, 1, 0), (8, 111, 1, 0), (1, 21, 1, 1), (8, 100, 1, 1), (1, 28, 1, 2), (8, 75, 1, 2), (1, 32, 1, 3), (8, 132, 1, 3), (1, 38, 1, 4), (8, 150, 1, 4), (1, 42, 1, 5), (1, 46, 1, 6), (1, 49, 1, 7), (1, 53, 1, 8), (1, 56, 1, 9), (1, 59, 1, 10), (1, 65, 1, 11), (2, 12, 2, 0), (8, 215, 2, 0), (2, 18, 2, 1), (5, 11, 5, 0), (8, 239, 5, 0), (5, 16, 5, 1), (8, 230, 5, 1), (8, 233, 5, 2), (8, 10, 8, 0), (8, 19, 8, 1), (8, 26, 8, 2), (8, 33, 8, 3), (8, 40, 8, 4), (8, 47, 8, 5), (8, 54, 8, 6), (8, 61, 8, 7), (8, 65, 8, 8), (8, 69, 8, 9), (8, 72, 8, 10), (9, 204, 9, 0), (9, 328, 9, 1), (9, 208, 9, 2), (9, 352, 9, 3), (9, 529, 9, 4), (9, 359, 9, 5), (9, 7, 9, 6), (9, 13, 9, 7), (9, 16, 9, 8), (9, 19, 9, 9), (9, 22, 9, 10), (9, 25, 9, 11), (9, 28, 9, 12), (9, 31, 9, 13), (9, 34, 9, 14), (9, 37, 9, 15), (9, 40, 9, 16), (9, 43, 9, 17), (9, 215, 9, 18), (9, 222, 9, 19), (9, 225, 9, 20), (9, 232, 9, 21), (9, 239, 9, 22), (9, 250, 9, 23), (9, 246, 9, 24), (9, 253, 9, 25), (9, 302, 9, 26), (9, 317, 9, 27), (9, 47, 9, 28), (9, 50, 9, 29), (9, 53, 9, 30), (9, 56, 9, 31), (9, 59, 9, 32), (9, 62, 9, 33), (9, 65, 9, 34), (9, 68, 9, 35), (9, 71, 9, 36), (9, 74, 9, 37), (9, 77, 9, 38), (9, 80, 9, 39), (9, 83, 9, 40), (9, 340, 9, 41), (9, 86, 9, 42), (9, 89, 9, 43), (9, 92, 9, 44), (9, 95, 9, 45), (9, 98, 9, 46), (9, 101, 9, 47), (9, 104, 9, 48), (9, 107, 9, 49), (9, 110, 9, 50), (9, 113, 9, 51), (9, 116, 9, 52), (9, 119, 9, 53), (9, 122, 9, 54), (9, 125, 9, 55), (9, 128, 9, 56), (9, 131, 9, 57), (9, 134, 9, 58), (9, 138, 9, 59), (9, 141, 9, 60), (9, 144, 9, 61), (9, 147, 9, 62), (9, 482, 9, 63), (9, 417, 9, 64), (9, 402, 9, 65), (9, 461, 9, 66), (9, 408, 9, 67), (9, 473, 9, 68), (9, 485, 9, 69), (9, 378, 9, 70), (9, 150, 9, 71), (9, 387, 9, 72), (9, 153, 9, 73), (9, 156, 9, 74), (9, 355, 9, 75), (9, 159, 9, 76), (9, 162, 9, 77), (9, 165, 9, 78), (9, 168, 9, 79), (9, 171, 9, 80), (9, 174, 9, 81), (9, 177, 9, 82), (9, 180, 9, 83), (9, 183, 9, 84), (9, 186, 9, 85), (9, 189, 9, 86), (9, 192, 9, 87), (9, 535, 9, 88), (9, 538, 9, 89), (9, 541, 9, 90), (9, 544, 9, 91), (9, 547, 9, 92), (9, 195, 9, 93), (9, 198, 9, 94), (9, 201, 9, 95)]
def en_nw : List (Nat × Nat × Nat) := [(13, 7, 8), (8, 7, 7), (8, 16, 1), (1, 9, 3), (1, 18, 0), (1, 25, 6), (1, 35, 4), (8, 23, 3), (8, 30, 0), (8, 37, 2), (2, 9, 6), (8, 44, 4), (8, 51, 6), (8, 58, 5), (13, 10, 9)]
def en_kc : List (Nat × Nat × Int) := [(6, 50, 65535), (8, 171, -100000), (8, 250, 65536), (9, 249, 1048576), (9, 374, 65535), (9, 444, 65536), (9, 513, -100000)]
def en_fw (q : Nat × Nat × Nat × Nat) : Cond := match vwCl[q.2.2.1]? with
  | some r => .fieldLink (en_nm q.1) q.2.1 (r.2.1 q.2.2.2).1 (r.2.1 q.2.2.2).2.1 (r.2.1 q.2.2.2).2.2.1
  | none => .fieldLink "" 0 "" "" ""
theorem en_fl_in : ∀ w ∈ en_fl.map en_fw, w ∈ lw_tbl := fun w h => (goodIn_r (big := lw_tbl) (en_fl.map en_fw) [148, 149, 150, 151, 152, 153, 154, 179, 180, 181, 182, 183, 184, 185, 186, 187, 188, 189, 190, 191, 192, 193, 194, 195, 196, 197, 198, 199, 200, 201, 202, 203, 204, 205, 206, 207, 208, 209, 210, 211, 212, 213, 258, 259, 260, 261, 262, 263, 264, 265, 266, 267, 297, 298, 299, 300, 301, 302, 303, 304, 305, 306, 307, 308, 309, 310, 311, 312, 313, 314, 334, 335, 336, 337, 338, 339, 340, 341, 342, 343, 344, 345, 346, 347, 348, 349, 350, 351, 365, 366, 367, 368, 369, 370, 371, 372, 373, 374, 375, 376, 377, 378, 379, 380, 381, 420, 421, 422, 440, 441, 442, 443, 444, 452, 453, 454, 455, 456, 457, 458, 459, 460, 461, 462, 1092, 1093, 1094, 1095, 1096, 1097, 1098, 1099, 1100, 1101, 1102, 1103, 1104, 1105, 1106, 1107, 1108, 1109, 1110, 1111, 1112, 1113, 1114, 1115, 1116, 1117, 1118, 1119, 1120, 1121, 1122, 1123, 1124, 1125, 1126, 1127, 1128, 1129, 1130, 1131, 1132, 1133, 1134, 1135, 1136, 1137, 1138, 1139, 1140, 1141, 1142, 1143, 1144, 1145, 1146, 1147, 1148, 1149, 1150, 1151, 1152, 1153, 1154, 1155, 1156, 1157, 1158, 1159, 1160, 1161, 1162, 1163, 1164, 1165, 1166, 1167, 1168, 1169, 1170, 1171, 1172, 1173, 1174, 1175, 1176, 1177, 1178, 1179, 1180, 1181, 1182, 1183, 1184, 1185, 1186, 1187] (by decide +kernel) (by decide +kernel) w h).1
def en_nww (q : Nat × Nat × Nat) : List Cond := match vwCl[q.2.2]? with
  | some r => [.classLink (en_nm q.1) q.2.1 r.1, .instantiable r.1 r.2.2, .initialized r.1]
  | none => []
theorem en_nw_in : ∀ w ∈ en_nw.flatMap en_nww, w ∈ lw_tbl := fun w h => (goodIn_r (big := lw_tbl) (en_nw.flatMap en_nww) [134, 135, 116, 142, 143, 117, 167, 168, 118, 173, 174, 119, 241, 242, 120, 288, 289, 122, 328, 329, 124, 408, 174, 119, 410, 242, 120, 412, 413, 125, 418, 289, 122, 428, 329, 124, 430, 289, 122, 432, 433, 126, 1086, 1087, 127] (by decide +kernel) (by decide +kernel) w h).1
theorem en_kc_in : ∀ w ∈ en_kc.map (fun q => Cond.constant (en_nm q.1) q.2.1 (Int32.ofInt q.2.2)), w ∈ lw_tbl := fun w h => (goodIn_r (big := lw_tbl) (en_kc.map (fun q => Cond.constant (en_nm q.1) q.2.1 (Int32.ofInt q.2.2))) [873, 957, 1059, 1432, 1578, 1634, 1702] (by decide +kernel) (by decide +kernel) w h).1
def en_cw (q : Nat × Nat × Nat × Nat × Nat) : List Cond := match en_ms[q.2.2.2.1]? with
  | some r => match q.2.2.1 with
    | 0 => [.methodLink (en_nm q.1) q.2.1 r.1, .instanceMethod r.1, .selects r.1.cls r.1 r.1, .initialized r.1.cls]
    | 1 => [.methodLink (en_nm q.1) q.2.1 r.1, .static r.1, .initialized r.1.cls]
    | 2 => [.static r.1, .initialized r.1.cls]
    | 3 => [.methodLink (en_nm q.1) q.2.1 r.1, .instanceMethod r.1, .initialized r.1.cls]
    | _ => [.instanceMethod r.1, .initialized r.1.cls]
  | none => []
def en_cl_0 : List (Nat × Nat × Nat × Nat × Nat) := [(13, 9, 3, 0, 0), (8, 9, 4, 1, 0), (8, 18, 4, 2, 0), (1, 11, 4, 3, 0), (1, 20, 4, 4, 0), (1, 27, 3, 5, 0), (6, 21, 1, 6, 2), (1, 37, 4, 7, 0), (8, 25, 4, 3, 0), (8, 32, 4, 4, 0), (8, 39, 4, 8, 0), (2, 11, 3, 5, 0), (8, 46, 4, 7, 0), (8, 53, 3, 5, 0), (8, 60, 4, 9, 0), (13, 13, 0, 10, 2), (13, 18, 0, 11, 2), (13, 22, 0, 12, 5), (8, 89, 0, 13, 1), (13, 27, 0, 14, 1), (8, 93, 0, 15, 1), (7, 19, 1, 16, 2), (8, 96, 0, 17, 1), (0, 53, 0, 18, 2), (0, 70, 0, 19, 0), (0, 73, 0, 20, 1), (0, 76, 0, 21, 0), (0, 79, 0, 22, 2), (0, 102, 0, 23, 2), (0, 109, 0, 24, 2), (0, 99, 1, 25, 2), (0, 66, 0, 26, 1), (7, 34, 0, 19, 0), (7, 38, 0, 20, 1), (0, 112, 0, 27, 0), (0, 115, 0, 28, 1), (7, 42, 0, 27, 0), (0, 88, 0, 29, 2), (0, 105, 1, 31, 4), (0, 82, 0, 32, 2), (0, 85, 0, 33, 2), (0, 96, 0, 34, 2), (0, 92, 0, 35, 1), (0, 57, 0, 36, 0), (0, 62, 0, 37, 0), (8, 103, 0, 38, 1), (8, 107, 0, 39, 0), (13, 32, 0, 40, 1), (8, 110, 0, 41, 1), (3, 58, 0, 42, 2)]
set_option maxRecDepth 100000 in
theorem en_cl_in_0 : ∀ w ∈ en_cl_0.flatMap en_cw, w ∈ lw_tbl := fun w h => (goodIn_r (big := lw_tbl) (en_cl_0.flatMap en_cw) [136, 137, 116, 145, 117, 170, 118, 176, 119, 244, 120, 290, 291, 122, 294, 295, 123, 331, 124, 176, 119, 244, 120, 415, 125, 419, 291, 122, 331, 124, 431, 291, 122, 435, 126, 486, 487, 488, 116, 490, 491, 492, 116, 494, 495, 496, 116, 498, 499, 500, 117, 502, 503, 504, 116, 506, 507, 508, 117, 510, 511, 128, 513, 514, 515, 120, 517, 519, 0, 120, 521, 522, 523, 117, 525, 526, 527, 117, 529, 530, 531, 117, 533, 535, 1, 120, 537, 539, 2, 120, 541, 543, 3, 120, 545, 546, 120, 548, 549, 550, 117, 552, 522, 523, 117, 553, 526, 527, 117, 554, 555, 556, 117, 558, 559, 560, 117, 562, 555, 556, 117, 563, 565, 4, 120, 642, 643, 120, 645, 647, 5, 120, 649, 651, 6, 120, 653, 655, 7, 120, 657, 659, 8, 120, 661, 662, 663, 117, 665, 666, 667, 117, 669, 670, 671, 120, 676, 677, 678, 117, 680, 681, 682, 116, 684, 685, 686, 119, 688, 690, 9, 119] (by decide +kernel) (by decide +kernel) w h).1
def en_cl_1 : List (Nat × Nat × Nat × Nat × Nat) := [(3, 79, 0, 19, 0), (3, 82, 1, 43, 1), (3, 86, 0, 20, 1), (3, 89, 0, 21, 0), (3, 92, 0, 44, 2), (3, 104, 0, 45, 0), (3, 75, 0, 26, 1), (3, 95, 0, 46, 2), (3, 107, 0, 28, 1), (3, 98, 0, 47, 2), (3, 101, 0, 48, 2), (3, 110, 1, 49, 1), (3, 62, 0, 36, 0), (3, 68, 0, 37, 0), (3, 72, 0, 50, 0), (3, 113, 1, 6, 2), (3, 119, 0, 51, 1), (3, 131, 2, 52, 1), (3, 122, 0, 53, 1), (3, 125, 1, 30, 2), (8, 114, 0, 54, 1), (8, 117, 0, 55, 0), (8, 123, 0, 56, 0), (5, 20, 1, 6, 2), (13, 36, 0, 57, 1), (8, 124, 0, 58, 1), (8, 128, 0, 59, 2), (1, 62, 0, 60, 0), (1, 89, 0, 61, 1), (6, 37, 0, 62, 1), (6, 41, 0, 63, 1), (1, 93, 0, 64, 0), (4, 30, 1, 6, 2), (1, 96, 1, 6, 2), (1, 69, 0, 65, 0), (1, 114, 0, 66, 2), (1, 150, 2, 52, 1), (1, 130, 0, 67, 2), (1, 133, 0, 68, 1), (1, 160, 0, 69, 2), (1, 172, 2, 70, 3), (1, 166, 0, 71, 2), (1, 140, 0, 72, 2), (1, 143, 0, 73, 1), (1, 176, 0, 74, 2), (1, 180, 0, 75, 2), (6, 51, 1, 16, 2), (6, 57, 1, 30, 2), (1, 184, 0, 76, 1), (1, 187, 0, 77, 1)]
set_option maxRecDepth 100000 in
theorem en_cl_in_1 : ∀ w ∈ en_cl_1.flatMap en_cw, w ∈ lw_tbl := fun w h => (goodIn_r (big := lw_tbl) (en_cl_1.flatMap en_cw) [692, 522, 523, 117, 693, 694, 119, 696, 526, 527, 117, 697, 530, 531, 117, 698, 700, 10, 119, 702, 703, 704, 117, 706, 549, 550, 117, 707, 709, 11, 119, 711, 559, 560, 117, 712, 714, 12, 119, 716, 718, 13, 119, 720, 721, 119, 723, 662, 663, 117, 724, 666, 667, 117, 725, 727, 14, 119, 729, 295, 123, 730, 732, 15, 119, 735, 116, 737, 739, 16, 119, 741, 587, 128, 742, 743, 744, 119, 747, 748, 749, 122, 751, 752, 753, 126, 755, 295, 123, 756, 757, 758, 116, 760, 762, 17, 116, 764, 765, 766, 118, 768, 770, 18, 118, 772, 773, 774, 122, 776, 777, 778, 122, 781, 782, 783, 122, 785, 786, 787, 124, 789, 295, 123, 790, 295, 123, 791, 793, 19, 118, 795, 797, 20, 118, 735, 116, 800, 801, 802, 119, 804, 806, 21, 118, 808, 810, 22, 118, 813, 116, 815, 817, 23, 118, 819, 820, 821, 119, 823, 825, 24, 118, 827, 829, 25, 118, 831, 832, 833, 122, 835, 511, 128, 836, 587, 128, 837, 839, 26, 118, 841, 843, 27, 118] (by decide +kernel) (by decide +kernel) w h).1
def en_cl_2 : List (Nat × Nat × Nat × Nat × Nat) := [(1, 196, 0, 78, 1), (1, 190, 0, 79, 2), (1, 146, 0, 80, 3), (1, 72, 0, 81, 2), (1, 199, 0, 82, 1), (1, 202, 0, 83, 2), (1, 206, 0, 84, 0), (1, 210, 0, 85, 2), (1, 223, 0, 86, 7), (1, 213, 0, 87, 1), (0, 122, 0, 88, 1), (0, 125, 0, 89, 2), (0, 136, 1, 90, 3), (0, 128, 1, 16, 2), (0, 133, 1, 30, 2), (1, 76, 0, 91, 0), (1, 227, 0, 92, 0), (1, 230, 0, 93, 1), (1, 233, 0, 94, 0), (1, 236, 0, 95, 3), (1, 79, 0, 96, 0), (1, 86, 0, 97, 0), (8, 138, 0, 61, 1), (8, 144, 1, 16, 2), (8, 153, 0, 98, 1), (13, 40, 0, 99, 2), (8, 156, 1, 100, 1), (8, 159, 1, 52, 1), (8, 162, 1, 101, 1), (13, 45, 0, 102, 1), (13, 49, 0, 103, 2), (8, 168, 0, 104, 1), (8, 172, 0, 105, 2), (8, 181, 1, 106, 1), (8, 194, 0, 107, 1), (13, 53, 0, 108, 2), (13, 57, 0, 109, 1), (13, 61, 0, 110, 1), (8, 212, 0, 111, 2), (2, 22, 0, 61, 1), (2, 35, 0, 112, 1), (2, 59, 2, 52, 1), (2, 42, 0, 67, 2), (2, 52, 0, 95, 3), (2, 66, 0, 113, 2), (2, 69, 0, 80, 3), (13, 65, 0, 114, 1), (8, 218, 1, 115, 2), (13, 69, 0, 116, 1), (13, 73, 0, 117, 2)]
set_option maxRecDepth 100000 in
theorem en_cl_in_2 : ∀ w ∈ en_cl_2.flatMap en_cw, w ∈ lw_tbl := fun w h => (goodIn_r (big := lw_tbl) (en_cl_2.flatMap en_cw) [845, 847, 28, 118, 849, 851, 29, 118, 853, 854, 855, 119, 857, 859, 30, 118, 861, 863, 31, 118, 865, 867, 32, 118, 869, 870, 871, 122, 874, 876, 33, 118, 878, 879, 880, 120, 882, 883, 884, 120, 886, 888, 34, 120, 890, 892, 35, 120, 894, 895, 120, 897, 511, 128, 898, 587, 128, 899, 901, 36, 118, 903, 905, 37, 118, 907, 909, 38, 118, 911, 912, 913, 120, 915, 916, 917, 122, 919, 921, 39, 118, 923, 925, 40, 118, 927, 773, 774, 122, 928, 511, 128, 929, 930, 931, 124, 934, 935, 936, 116, 938, 939, 116, 941, 735, 116, 942, 943, 116, 945, 946, 947, 116, 949, 950, 951, 116, 953, 955, 41, 116, 958, 960, 42, 116, 962, 963, 116, 965, 966, 967, 119, 969, 970, 971, 116, 973, 974, 975, 116, 977, 978, 979, 116, 981, 982, 983, 125, 985, 773, 774, 122, 986, 988, 43, 125, 735, 116, 991, 801, 802, 119, 992, 916, 917, 122, 993, 995, 44, 125, 997, 854, 855, 119, 998, 999, 1000, 116, 1002, 1003, 116, 1005, 1006, 1007, 116, 1009, 1010, 1011, 116] (by decide +kernel) (by decide +kernel) w h).1
def en_cl_3 : List (Nat × Nat × Nat × Nat × Nat) := [(13, 77, 0, 118, 1), (13, 81, 0, 119, 0), (13, 86, 0, 120, 0), (8, 226, 0, 121, 1), (2, 76, 0, 122, 3), (2, 80, 2, 70, 3), (13, 90, 0, 123, 2), (8, 236, 0, 124, 2), (13, 94, 0, 125, 3), (8, 243, 0, 103, 2), (13, 99, 0, 126, 0), (8, 246, 0, 127, 0), (13, 103, 0, 128, 1), (13, 108, 0, 129, 0), (13, 112, 0, 130, 0), (8, 251, 0, 62, 1), (8, 254, 0, 63, 1), (13, 117, 0, 131, 1), (13, 121, 0, 132, 1), (8, 260, 0, 133, 1), (8, 264, 0, 134, 0), (13, 12, 3, 135, 0), (13, 17, 0, 136, 2), (9, 211, 1, 137, 3), (13, 21, 0, 138, 2), (13, 26, 0, 139, 5), (9, 218, 0, 140, 1), (13, 31, 0, 141, 1), (9, 308, 0, 142, 1), (9, 311, 0, 143, 0), (9, 228, 0, 144, 0), (9, 235, 0, 145, 2), (9, 287, 0, 146, 0), (9, 274, 0, 147, 0), (9, 263, 0, 148, 1), (9, 242, 0, 149, 0), (9, 267, 0, 150, 0), (9, 259, 0, 151, 2), (9, 270, 1, 152, 1), (9, 277, 1, 153, 1), (9, 280, 0, 154, 1), (9, 256, 0, 155, 0), (9, 284, 0, 156, 1), (9, 305, 0, 157, 0), (9, 293, 0, 158, 0), (9, 290, 0, 159, 0), (9, 296, 0, 160, 1), (9, 299, 0, 161, 1), (9, 314, 0, 162, 1), (13, 35, 0, 163, 1)]
set_option maxRecDepth 100000 in
theorem en_cl_in_3 : ∀ w ∈ en_cl_3.flatMap en_cw, w ∈ lw_tbl := fun w h => (goodIn_r (big := lw_tbl) (en_cl_3.flatMap en_cw) [1013, 1014, 1015, 116, 1017, 1018, 1019, 116, 1021, 1022, 1023, 116, 1025, 1026, 1027, 125, 1029, 1031, 45, 125, 813, 116, 1034, 1035, 1036, 116, 1038, 1039, 1040, 126, 1042, 1043, 1044, 116, 1046, 950, 951, 116, 1047, 1048, 1049, 116, 1051, 1052, 1053, 122, 1055, 1056, 1057, 116, 1060, 1061, 1062, 116, 1064, 1065, 1066, 116, 1068, 777, 778, 122, 1069, 782, 783, 122, 1070, 1071, 1072, 116, 1074, 1075, 1076, 116, 1078, 1079, 1080, 119, 1082, 1083, 1084, 122, 1088, 1089, 127, 1381, 1382, 1383, 127, 1385, 1386, 127, 1388, 1389, 1390, 127, 1392, 1393, 1394, 127, 1396, 1398, 46, 127, 1400, 1401, 1402, 127, 1404, 1406, 47, 127, 1408, 1410, 48, 127, 1412, 1414, 49, 127, 1416, 1418, 50, 127, 1420, 1422, 51, 127, 1424, 1426, 52, 127, 1428, 1430, 53, 127, 1433, 1435, 54, 127, 1437, 1439, 55, 127, 1441, 1443, 56, 127, 1445, 1446, 127, 1448, 1449, 127, 1451, 1453, 57, 127, 1455, 1457, 58, 127, 1459, 1461, 59, 127, 1463, 1465, 60, 127, 1467, 1469, 61, 127, 1471, 1473, 62, 127, 1475, 1477, 63, 127, 1479, 1481, 64, 127, 1483, 1485, 65, 127, 1487, 1488, 1489, 127] (by decide +kernel) (by decide +kernel) w h).1
def en_cl_4 : List (Nat × Nat × Nat × Nat × Nat) := [(9, 349, 0, 164, 0), (9, 337, 1, 165, 1), (9, 343, 1, 166, 1), (9, 331, 0, 167, 0), (9, 346, 0, 168, 1), (9, 334, 0, 169, 0), (13, 56, 0, 170, 2), (9, 365, 0, 171, 1), (9, 368, 0, 172, 2), (9, 371, 0, 173, 2), (9, 362, 0, 174, 2), (13, 39, 0, 175, 1), (9, 501, 0, 176, 1), (9, 494, 0, 177, 2), (9, 488, 0, 178, 2), (9, 464, 0, 179, 2), (9, 375, 0, 180, 2), (9, 429, 1, 181, 3), (9, 432, 0, 182, 1), (9, 435, 0, 183, 1), (9, 411, 0, 184, 2), (9, 426, 1, 185, 2), (9, 438, 1, 186, 2), (9, 441, 0, 187, 1), (9, 414, 0, 188, 2), (9, 420, 0, 189, 2), (9, 384, 1, 190, 2), (9, 423, 0, 191, 1), (9, 396, 0, 192, 1), (9, 399, 0, 193, 1), (9, 390, 0, 194, 2), (9, 393, 0, 195, 2), (9, 405, 0, 196, 1), (9, 467, 0, 197, 1), (9, 470, 0, 198, 1), (9, 381, 0, 199, 1), (9, 476, 0, 200, 2), (9, 445, 0, 201, 3), (9, 449, 0, 202, 1), (9, 324, 0, 203, 2), (9, 320, 1, 204, 3), (9, 479, 0, 205, 1), (9, 452, 0, 206, 0), (9, 455, 0, 207, 1), (9, 458, 0, 208, 0), (9, 491, 0, 209, 0), (9, 498, 0, 210, 0), (9, 504, 0, 211, 1), (13, 44, 0, 212, 2), (9, 507, 0, 213, 2)]
set_option maxRecDepth 100000 in
theorem en_cl_in_4 : ∀ w ∈ en_cl_4.flatMap en_cw, w ∈ lw_tbl := fun w h => (goodIn_r (big := lw_tbl) (en_cl_4.flatMap en_cw) [1491, 1493, 66, 127, 1495, 1496, 127, 1498, 1499, 127, 1501, 1503, 67, 127, 1505, 1507, 68, 127, 1509, 1511, 69, 127, 1513, 1514, 1515, 127, 1517, 1519, 70, 127, 1521, 1523, 71, 127, 1525, 1527, 72, 127, 1529, 1531, 73, 127, 1533, 1534, 1535, 127, 1537, 1539, 74, 127, 1541, 1543, 75, 127, 1545, 1547, 76, 127, 1549, 1551, 77, 127, 1553, 1555, 78, 127, 1557, 1558, 127, 1560, 1562, 79, 127, 1564, 1566, 80, 127, 1568, 1570, 81, 127, 1572, 1573, 127, 1575, 1576, 127, 1579, 1581, 82, 127, 1583, 1585, 83, 127, 1587, 1589, 84, 127, 1591, 1592, 127, 1594, 1596, 85, 127, 1598, 1600, 86, 127, 1602, 1604, 87, 127, 1606, 1608, 88, 127, 1610, 1612, 89, 127, 1614, 1616, 90, 127, 1618, 1620, 91, 127, 1622, 1624, 92, 127, 1626, 1628, 93, 127, 1630, 1632, 94, 127, 1635, 1637, 95, 127, 1639, 1641, 96, 127, 1643, 1645, 97, 127, 1647, 1648, 127, 1650, 1652, 98, 127, 1654, 1656, 99, 127, 1658, 1660, 100, 127, 1662, 1664, 101, 127, 1666, 1668, 102, 127, 1670, 1672, 103, 127, 1674, 1676, 104, 127, 1678, 1679, 1680, 127, 1682, 1684, 105, 127] (by decide +kernel) (by decide +kernel) w h).1
def en_cl_5 : List (Nat × Nat × Nat × Nat × Nat) := [(13, 76, 0, 214, 2), (13, 72, 0, 215, 1), (13, 48, 0, 216, 1), (13, 60, 0, 217, 1), (13, 64, 0, 218, 1), (9, 514, 0, 219, 0), (9, 510, 0, 220, 1), (13, 68, 0, 221, 1), (13, 89, 0, 222, 0), (9, 517, 0, 223, 2), (13, 85, 0, 224, 0), (9, 520, 1, 225, 2), (13, 52, 0, 226, 2), (9, 523, 0, 227, 2), (13, 80, 0, 228, 1), (9, 526, 0, 229, 0), (13, 93, 0, 230, 2), (13, 98, 0, 231, 3), (13, 102, 0, 232, 0), (9, 532, 0, 233, 0), (13, 107, 0, 234, 1), (13, 111, 0, 235, 0), (13, 116, 0, 236, 0), (13, 120, 0, 237, 1), (9, 550, 0, 238, 1), (13, 124, 0, 239, 1), (9, 553, 0, 240, 1), (9, 556, 0, 241, 0)]
set_option maxRecDepth 100000 in
theorem en_cl_in_5 : ∀ w ∈ en_cl_5.flatMap en_cw, w ∈ lw_tbl := fun w h => (goodIn_r (big := lw_tbl) (en_cl_5.flatMap en_cw) [1686, 1687, 1688, 127, 1690, 1691, 1692, 127, 1694, 1695, 1696, 127, 1698, 1699, 1700, 127, 1703, 1704, 1705, 127, 1707, 1709, 106, 127, 1711, 1713, 107, 127, 1715, 1716, 1717, 127, 1719, 1720, 1721, 127, 1723, 1725, 108, 127, 1727, 1728, 1729, 127, 1731, 1732, 127, 1734, 1735, 1736, 127, 1738, 1740, 109, 127, 1742, 1743, 1744, 127, 1746, 1748, 110, 127, 1750, 1751, 1752, 127, 1754, 1755, 1756, 127, 1758, 1759, 1760, 127, 1762, 1764, 111, 127, 1766, 1767, 1768, 127, 1770, 1771, 1772, 127, 1774, 1775, 1776, 127, 1778, 1779, 1780, 127, 1782, 1784, 112, 127, 1786, 1787, 1788, 127, 1790, 1792, 113, 127, 1794, 1796, 114, 127] (by decide +kernel) (by decide +kernel) w h).1
def en_cl : List (Nat × Nat × Nat × Nat × Nat) := en_cl_0 ++ (en_cl_1 ++ (en_cl_2 ++ (en_cl_3 ++ (en_cl_4 ++ (en_cl_5)))))
theorem en_cl_in : ∀ q ∈ en_cl, ∀ w ∈ en_cw q, w ∈ lw_tbl := by
  intro q hq w hw
  unfold en_cl at hq
  rcases List.mem_append.mp hq with hq | hq
  · exact en_cl_in_0 w (List.mem_flatMap.mpr ⟨q, hq, hw⟩)
  rcases List.mem_append.mp hq with hq | hq
  · exact en_cl_in_1 w (List.mem_flatMap.mpr ⟨q, hq, hw⟩)
  rcases List.mem_append.mp hq with hq | hq
  · exact en_cl_in_2 w (List.mem_flatMap.mpr ⟨q, hq, hw⟩)
  rcases List.mem_append.mp hq with hq | hq
  · exact en_cl_in_3 w (List.mem_flatMap.mpr ⟨q, hq, hw⟩)
  rcases List.mem_append.mp hq with hq | hq
  · exact en_cl_in_4 w (List.mem_flatMap.mpr ⟨q, hq, hw⟩)
  exact en_cl_in_5 w (List.mem_flatMap.mpr ⟨q, hq, hw⟩)
def en_mok (r : MethodName × ByteArray × Nat × Option FieldType) : Bool := decide (r.1.cls ≠ "java/lang/invoke/MethodHandle") && decide (r.1.cls ≠ "java/lang/invoke/VarHandle")
def en_cok (q : Nat × Nat × Nat × Nat × Nat) : Bool := match en_ms[q.2.2.2.1]? with
  | some r => en_mok r && decide ((parseMethodDescriptor r.1.desc).map (fun d => d.parameters.length) = some q.2.2.2.2) && (decide (q.2.2.1 < 3) || (decide (r.1.name = "<init>") && decide (r.2.2.2 = none)))
  | none => false
theorem en_cl_ok_0 : en_cl_0.all en_cok = true := by decide +kernel
theorem en_cl_ok_1 : en_cl_1.all en_cok = true := by decide +kernel
theorem en_cl_ok_2 : en_cl_2.all en_cok = true := by decide +kernel
theorem en_cl_ok_3 : en_cl_3.all en_cok = true := by decide +kernel
theorem en_cl_ok_4 : en_cl_4.all en_cok = true := by decide +kernel
theorem en_cl_ok_5 : en_cl_5.all en_cok = true := by decide +kernel
theorem en_cl_ok : ∀ q ∈ en_cl, en_cok q = true := by
  intro q hq
  unfold en_cl at hq
  rcases List.mem_append.mp hq with hq | hq
  · exact List.all_eq_true.mp en_cl_ok_0 q hq
  rcases List.mem_append.mp hq with hq | hq
  · exact List.all_eq_true.mp en_cl_ok_1 q hq
  rcases List.mem_append.mp hq with hq | hq
  · exact List.all_eq_true.mp en_cl_ok_2 q hq
  rcases List.mem_append.mp hq with hq | hq
  · exact List.all_eq_true.mp en_cl_ok_3 q hq
  rcases List.mem_append.mp hq with hq | hq
  · exact List.all_eq_true.mp en_cl_ok_4 q hq
  exact List.all_eq_true.mp en_cl_ok_5 q hq
def en_nest : List Cond := (en_cl.filter (fun q => q.2.2.1 == 2 || q.2.2.1 == 4)).flatMap (fun q => match en_ms[q.2.2.2.1]? with
  | some r => [Cond.methodLinkNest (en_nm q.1) q.2.1 r.1 "LoadsAhead"]
  | none => [])
theorem en_nest_in : ∀ w ∈ en_nest, w ∈ lw_tbl := by
  have h : en_nest = ([144, 169, 175, 243, 330, 409, 411, 414, 429, 434, 734, 799, 812, 990, 1033] : List Nat).filterMap (fun i => lw_tbl[i]?) := by decide +kernel
  intro w hw
  rw [h] at hw
  obtain ⟨i, -, hi⟩ := List.mem_filterMap.mp hw
  exact List.mem_of_getElem? hi
def en_oi : List (Nat × Nat) := [(8, 1), (7, 3), (1, 3), (3, 3), (0, 3), (6, 3), (4, 3), (2, 3), (5, 3), (9, 1)]
theorem en_oi_in : ∀ w ∈ en_oi.map (fun q => Cond.methodLink (en_nm q.1) q.2 objectInit), w ∈ lw_tbl := fun w h => (goodIn_r (big := lw_tbl) (en_oi.map (fun q => Cond.methodLink (en_nm q.1) q.2 objectInit)) [139, 147, 172, 178, 246, 293, 333, 417, 437, 1091] (by decide +kernel) (by decide +kernel) w h).1
theorem en_oi_c : ∀ w ∈ ([.instanceMethod objectInit, .code objectInit ⟨#[0xb1]⟩ 1 none] : List Cond), w ∈ lw_tbl := fun w h => (goodIn_r (big := lw_tbl) _ [140, 141] (by decide +kernel) (by decide +kernel) w h).1
def en_ac : List (Nat × Nat) := [(0, 41), (3, 45), (6, 44), (4, 36)]
theorem en_ac_in : ∀ w ∈ en_ac.map (fun q => Cond.methodLink (en_nm q.1) q.2 arraycopyName), w ∈ lw_tbl := fun w h => (goodIn_r (big := lw_tbl) (en_ac.map (fun q => Cond.methodLink (en_nm q.1) q.2 arraycopyName)) [673, 746, 780, 933] (by decide +kernel) (by decide +kernel) w h).1
theorem en_ac_c : ∀ w ∈ ([.native arraycopyName, .static arraycopyName, .initialized "java/lang/System"] : List Cond), w ∈ lw_tbl := by
  have h : ([.native arraycopyName, .static arraycopyName, .initialized "java/lang/System"] : List Cond) = ([675, 674, 133] : List Nat).filterMap (fun i => lw_tbl[i]?) := by decide +kernel
  intro w hw
  rw [h] at hw
  obtain ⟨i, -, hi⟩ := List.mem_filterMap.mp hw
  exact List.mem_of_getElem? hi
theorem en_arr_in : ∀ w ∈ ([.arrayClass .int, .arrayClass .boolean, .arrayClass .byte] : List Cond), w ∈ lw_tbl := fun w h => (goodIn_r (big := lw_tbl) _ [166, 407, 287] (by decide +kernel) (by decide +kernel) w h).1
set_option maxRecDepth 100000 in
theorem inX0 : ∀ w ∈ wsX00, w ∈ lw_tbl := fun w h => (goodIn_r (big := lw_tbl) wsX00 [268, 270, 272, 274, 276, 278, 280, 282, 284] (by decide +kernel) (by decide +kernel) w h).1
set_option maxRecDepth 100000 in
theorem inX1 : ∀ w ∈ wsX10, w ∈ lw_tbl := fun w h => (goodIn_r (big := lw_tbl) wsX10 [382, 384, 386, 388, 390, 392, 394, 396, 398, 400, 402, 404] (by decide +kernel) (by decide +kernel) w h).1
set_option maxRecDepth 100000 in
theorem inX2 : ∀ w ∈ wsX20, w ∈ lw_tbl := fun w h => (goodIn_r (big := lw_tbl) wsX20 [423, 425] (by decide +kernel) (by decide +kernel) w h).1
set_option maxRecDepth 100000 in
theorem inX3 : ∀ w ∈ wsX30, w ∈ lw_tbl := fun w h => (goodIn_r (big := lw_tbl) wsX30 [214, 216, 218, 220, 222, 224, 226, 228, 230, 232, 234, 236, 238] (by decide +kernel) (by decide +kernel) w h).1
set_option maxRecDepth 100000 in
theorem inX4 : ∀ w ∈ wsX40, w ∈ lw_tbl := fun w h => (goodIn_r (big := lw_tbl) wsX40 [352, 354, 356, 358, 360, 362] (by decide +kernel) (by decide +kernel) w h).1
set_option maxRecDepth 100000 in
theorem inX5 : ∀ w ∈ wsX50, w ∈ lw_tbl := fun w h => (goodIn_r (big := lw_tbl) wsX50 [445, 447, 449] (by decide +kernel) (by decide +kernel) w h).1
set_option maxRecDepth 100000 in
theorem inX6 : ∀ w ∈ wsX60, w ∈ lw_tbl := fun w h => (goodIn_r (big := lw_tbl) wsX60 [315, 317, 319, 321, 323, 325] (by decide +kernel) (by decide +kernel) w h).1
set_option maxRecDepth 100000 in
theorem inX7 : ∀ w ∈ wsX70, w ∈ lw_tbl := fun w h => (goodIn_r (big := lw_tbl) wsX70 [155, 157, 159, 161, 163] (by decide +kernel) (by decide +kernel) w h).1
set_option maxRecDepth 100000 in
theorem inX8 : ∀ w ∈ wsX80, w ∈ lw_tbl := fun w h => (goodIn_r (big := lw_tbl) wsX80 [463, 465, 467, 469, 471, 473, 475, 477, 479, 481, 483] (by decide +kernel) (by decide +kernel) w h).1
set_option maxRecDepth 100000 in
theorem inX9 : ∀ w ∈ wsX90, w ∈ lw_tbl := fun w h => (goodIn_r (big := lw_tbl) wsX90 [1188, 1190, 1192, 1194, 1196, 1198, 1200, 1202, 1204, 1206, 1208, 1210, 1212, 1214, 1216, 1218, 1220, 1222, 1224, 1226, 1228, 1230, 1232, 1234, 1236, 1238, 1240, 1242, 1244, 1246, 1248, 1250, 1252, 1254, 1256, 1258, 1260, 1262, 1264, 1266, 1268, 1270, 1272, 1274, 1276, 1278, 1280, 1282, 1284, 1286, 1288, 1290, 1292, 1294, 1296, 1298, 1300, 1302, 1304, 1306, 1308, 1310, 1312, 1314, 1316, 1318, 1320, 1322, 1324, 1326, 1328, 1330, 1332, 1334, 1336, 1338, 1340, 1342, 1344, 1346, 1348, 1350, 1352, 1354, 1356, 1358, 1360, 1362, 1364, 1366, 1368, 1370, 1372, 1374, 1376, 1378] (by decide +kernel) (by decide +kernel) w h).1
def en_tyX : Nat → Nat → FieldType
  | 0 => tyX0
  | 1 => tyX1
  | 2 => tyX2
  | 3 => tyX3
  | 4 => tyX4
  | 5 => tyX5
  | 6 => tyX6
  | 7 => tyX7
  | 8 => tyX8
  | _ => tyX9
theorem en_cls : ∀ (ci : Nat) (r : vw_C), vwCl[ci]? = some r → (∀ w ∈ u_ws r.1 r.2.1 r.2.2, w ∈ lw_tbl) ∧ (∀ k, k < r.2.2 → parseFieldDescriptor (r.2.1 k).2.2.1 = some (en_tyX ci k)) ∧ (∀ a, a < r.2.2 → ∀ b, b < r.2.2 → a ≠ b → (r.2.1 a).2.1 ≠ (r.2.1 b).2.1) := by
  intro ci r h
  match ci, h with
  | 0, h => cases h; exact ⟨inX0, tyX0_ok, nmX0⟩
  | 1, h => cases h; exact ⟨inX1, tyX1_ok, nmX1⟩
  | 2, h => cases h; exact ⟨inX2, tyX2_ok, nmX2⟩
  | 3, h => cases h; exact ⟨inX3, tyX3_ok, nmX3⟩
  | 4, h => cases h; exact ⟨inX4, tyX4_ok, nmX4⟩
  | 5, h => cases h; exact ⟨inX5, tyX5_ok, nmX5⟩
  | 6, h => cases h; exact ⟨inX6, tyX6_ok, nmX6⟩
  | 7, h => cases h; exact ⟨inX7, tyX7_ok, nmX7⟩
  | 8, h => cases h; exact ⟨inX8, tyX8_ok, nmX8⟩
  | 9, h => cases h; exact ⟨inX9, tyX9_ok, nmX9⟩
  | k + 10, h => simp [vwCl] at h
