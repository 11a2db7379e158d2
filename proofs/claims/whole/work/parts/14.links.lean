theorem zm_1 {w : Cond} (h : w ∈ tables_1_1) : w ∈ lw_tbl := List.mem_append_right _ (List.mem_append_left _ h)
theorem zm_2 {w : Cond} (h : w ∈ tables_1_2) : w ∈ lw_tbl := List.mem_append_right _ (List.mem_append_right _ (List.mem_append_left _ h))
theorem zm_3 {w : Cond} (h : w ∈ tables_1_3) : w ∈ lw_tbl := List.mem_append_right _ (List.mem_append_right _ (List.mem_append_right _ (List.mem_append_left _ h)))
theorem zm_4 {w : Cond} (h : w ∈ tables_1_4) : w ∈ lw_tbl := List.mem_append_right _ (List.mem_append_right _ (List.mem_append_right _ (List.mem_append_right _ (List.mem_append_left _ h))))
theorem zm_5 {w : Cond} (h : w ∈ tables_1_5) : w ∈ lw_tbl := List.mem_append_right _ (List.mem_append_right _ (List.mem_append_right _ (List.mem_append_right _ (List.mem_append_right _ (h)))))
theorem zm_p1 {w : Cond} (h : w ∈ k2_sels lw_privs_1) : w ∈ lw_tbl := by
  obtain ⟨q, h2, rfl⟩ := List.mem_map.mp h
  exact List.mem_append_left _ (List.mem_map.mpr ⟨q, List.mem_append_left _ h2, rfl⟩)
theorem zm_p2 {w : Cond} (h : w ∈ k2_sels lw_privs_2) : w ∈ lw_tbl := by
  obtain ⟨q, h2, rfl⟩ := List.mem_map.mp h
  exact List.mem_append_left _ (List.mem_map.mpr ⟨q, List.mem_append_right _ (List.mem_append_left _ h2), rfl⟩)
theorem zm_p3 {w : Cond} (h : w ∈ k2_sels lw_privs_3) : w ∈ lw_tbl := by
  obtain ⟨q, h2, rfl⟩ := List.mem_map.mp h
  exact List.mem_append_left _ (List.mem_map.mpr ⟨q, List.mem_append_right _ (List.mem_append_right _ (List.mem_append_left _ h2)), rfl⟩)
theorem zm_p4 {w : Cond} (h : w ∈ k2_sels lw_privs_4) : w ∈ lw_tbl := by
  obtain ⟨q, h2, rfl⟩ := List.mem_map.mp h
  exact List.mem_append_left _ (List.mem_map.mpr ⟨q, List.mem_append_right _ (List.mem_append_right _ (List.mem_append_right _ (List.mem_append_left _ h2))), rfl⟩)
theorem zm_p5 {w : Cond} (h : w ∈ k2_sels lw_privs_5) : w ∈ lw_tbl := by
  obtain ⟨q, h2, rfl⟩ := List.mem_map.mp h
  exact List.mem_append_left _ (List.mem_map.mpr ⟨q, List.mem_append_right _ (List.mem_append_right _ (List.mem_append_right _ (List.mem_append_right _ (List.mem_append_left _ h2)))), rfl⟩)
theorem zm_p6 {w : Cond} (h : w ∈ k2_sels lw_privs_6) : w ∈ lw_tbl := by
  obtain ⟨q, h2, rfl⟩ := List.mem_map.mp h
  exact List.mem_append_left _ (List.mem_map.mpr ⟨q, List.mem_append_right _ (List.mem_append_right _ (List.mem_append_right _ (List.mem_append_right _ (List.mem_append_right _ (h2))))), rfl⟩)
abbrev mX9_init : zMd := (yX9_init, prog_1_method_1_code, 1, none)
abbrev mX3_init : zMd := (yX3_init, prog_5_method_1_code, 1, none)
abbrev mX8_init : zMd := (yX8_init, prog_10_method_1_code, 1, none)
abbrev mX6_init : zMd := (yX6_init, prog_8_method_1_code, 3, none)
abbrev mX0_init : zMd := (yX0_init, prog_2_method_1_code, 1, none)
abbrev mX4_init : zMd := (yX4_init, prog_6_method_1_code, 1, none)
abbrev mX7_init : zMd := (yX7_init, prog_9_method_1_code, 1, none)
abbrev mX9_feed : zMd := (yX9_feed, prog_1_method_2_code, 6, none)
abbrev mX9_letWait : zMd := (yX9_letWait, prog_1_method_3_code, 4, none)
abbrev mX9_end : zMd := (yX9_end, prog_1_method_4_code, 3, (some .int))
abbrev mX8_addByte : zMd := (yX8_addByte, prog_10_method_2_code, 2, none)
abbrev mX9_fault : zMd := (yX9_fault, prog_1_method_6_code, 2, (some .int))
abbrev mX9_count : zMd := (yX9_count, prog_1_method_7_code, 2, (some .int))
abbrev mX9_statement : zMd := (yX9_statement, prog_1_method_8_code, 3, (some .int))
abbrev mX6_cell : zMd := (yX6_cell, prog_8_method_5_code, 5, (some .int))
abbrev mX9_operand : zMd := (yX9_operand, prog_1_method_9_code, 3, (some .int))
abbrev mX9_constant : zMd := (yX9_constant, prog_1_method_10_code, 2, (some .long))
abbrev mX4_workOut : zMd := (yX4_workOut, prog_6_method_2_code, 10, (some .long))
abbrev mX1_isAhead : zMd := (yX1_isAhead, prog_3_method_3_code, 1, (some .boolean))
abbrev mX1_isTwoSided : zMd := (yX1_isTwoSided, prog_3_method_2_code, 1, (some .boolean))
abbrev mX4_join : zMd := (yX4_join, prog_6_method_3_code, 3, (some .long))
abbrev mX9_item : zMd := (yX9_item, prog_1_method_11_code, 3, (some .int))
abbrev mX9_name : zMd := (yX9_name, prog_1_method_12_code, 3, (some .int))
abbrev mX0_byteOfName : zMd := (yX0_byteOfName, prog_2_method_7_code, 3, (some .int))
abbrev mX0_byteBehind : zMd := (yX0_byteBehind, prog_2_method_9_code, 5, (some .int))
abbrev mX9_string : zMd := (yX9_string, prog_1_method_13_code, 3, (some .int))
abbrev mX0_byteOfString : zMd := (yX0_byteOfString, prog_2_method_8_code, 3, (some .int))
abbrev mX9_find : zMd := (yX9_find, prog_1_method_14_code, 10, (some .int))
abbrev mX0_findName : zMd := (yX0_findName, prog_2_method_6_code, 9, (some .int))
abbrev mX9_tell : zMd := (yX9_tell, prog_1_method_15_code, 2, (some .int))
abbrev mX7_write : zMd := (yX7_write, prog_9_method_2_code, 8, (some .int))
abbrev mX7_putByte : zMd := (yX7_putByte, prog_9_method_3_code, 2, none)
abbrev mX7_putName : zMd := (yX7_putName, prog_9_method_6_code, 6, none)
abbrev mX7_putText : zMd := (yX7_putText, prog_9_method_5_code, 3, none)
abbrev mJ0_length_8abf5 : zMd := (yJ0_length_8abf5, prog_17_method_54_code, 1, (some .int))
abbrev mJ0_coder_7d493 : zMd := (yJ0_coder_7d493, prog_17_method_152_code, 1, (some .byte))
abbrev mJ0_charAt_5068e : zMd := (yJ0_charAt_5068e, prog_17_method_56_code, 2, (some .char))
abbrev mJ0_isLatin1_aae02 : zMd := (yJ0_isLatin1_aae02, prog_17_method_154_code, 1, (some .boolean))
abbrev mJ1_charAt_3b067 : zMd := (yJ1_charAt_3b067, prog_18_method_2_code, 2, (some .char))
abbrev mJ0_checkIndex_df160 : zMd := (yJ0_checkIndex_df160, prog_17_method_155_code, 2, none)
abbrev mJ3_checkIndex_8e157 : zMd := (yJ3_checkIndex_8e157, prog_21_method_11_code, 3, (some .int))
abbrev mJ2_charAt_3b067 : zMd := (yJ2_charAt_3b067, prog_19_method_83_code, 2, (some .char))
abbrev mJ2_checkIndex_2214a : zMd := (yJ2_checkIndex_2214a, prog_19_method_91_code, 2, none)
abbrev mJ2_length_9d52b : zMd := (yJ2_length_9d52b, prog_19_method_6_code, 1, (some .int))
abbrev mJ2_getChar_3b067 : zMd := (yJ2_getChar_3b067, prog_19_method_5_code, 2, (some .char))
abbrev mX7_putOperand : zMd := (yX7_putOperand, prog_9_method_8_code, 4, none)
abbrev mX7_putString : zMd := (yX7_putString, prog_9_method_10_code, 5, none)
abbrev mX7_putStringByte : zMd := (yX7_putStringByte, prog_9_method_11_code, 2, none)
abbrev mX7_putRegister : zMd := (yX7_putRegister, prog_9_method_9_code, 3, none)
abbrev mX7_putNumber : zMd := (yX7_putNumber, prog_9_method_7_code, 7, none)
abbrev mX7_putExpression : zMd := (yX7_putExpression, prog_9_method_12_code, 4, none)
abbrev mJ9_min_7cf53 : zMd := (yJ9_min_7cf53, prog_15_method_69_code, 2, (some .int))
abbrev mX7_findBegins : zMd := (yX7_findBegins, prog_9_method_13_code, 4, none)
abbrev mX7_sortAt : zMd := (yX7_sortAt, prog_9_method_15_code, 3, (some .int))
abbrev mX7_beginOf : zMd := (yX7_beginOf, prog_9_method_14_code, 2, (some .int))
abbrev mX2_nameOf : zMd := (yX2_nameOf, prog_4_method_2_code, 1, (some (.object "java/lang/String")))
abbrev mX7_putTree : zMd := (yX7_putTree, prog_9_method_16_code, 8, none)
abbrev mX1_levelOf : zMd := (yX1_levelOf, prog_3_method_4_code, 2, (some .int))
abbrev mX1_signOf : zMd := (yX1_signOf, prog_3_method_5_code, 1, (some (.object "java/lang/String")))
abbrev mX7_putLeaf : zMd := (yX7_putLeaf, prog_9_method_17_code, 4, none)
abbrev mX9_letter : zMd := (yX9_letter, prog_1_method_16_code, 2, (some .int))
abbrev mX7_byteOfOut : zMd := (yX7_byteOfOut, prog_9_method_4_code, 2, (some .int))
abbrev mX9_read : zMd := (yX9_read, prog_1_method_5_code, 2, (some .int))
abbrev mX3_begin : zMd := (yX3_begin, prog_5_method_2_code, 1, none)
abbrev mX0_clear : zMd := (yX0_clear, prog_2_method_2_code, 1, none)
abbrev mX8_scan : zMd := (yX8_scan, prog_10_method_3_code, 4, none)
abbrev mX8_scanOne : zMd := (yX8_scanOne, prog_10_method_5_code, 2, (some .int))
abbrev mX8_byteAt : zMd := (yX8_byteAt, prog_10_method_15_code, 2, (some .int))
abbrev mX8_scanComment : zMd := (yX8_scanComment, prog_10_method_7_code, 1, (some .int))
abbrev mX8_isDigit : zMd := (yX8_isDigit, prog_10_method_18_code, 1, (some .boolean))
abbrev mX8_scanNumber : zMd := (yX8_scanNumber, prog_10_method_9_code, 3, (some .int))
abbrev mX8_scanDigits : zMd := (yX8_scanDigits, prog_10_method_10_code, 6, (some .int))
abbrev mX8_digitOf : zMd := (yX8_digitOf, prog_10_method_20_code, 1, (some .int))
abbrev mJ9_min_f86c9 : zMd := (yJ9_min_f86c9, prog_15_method_70_code, 4, (some .long))
abbrev mX8_bad : zMd := (yX8_bad, prog_10_method_6_code, 2, (some .int))
abbrev mX8_isNameByte : zMd := (yX8_isNameByte, prog_10_method_19_code, 1, (some .boolean))
abbrev mX8_scanName : zMd := (yX8_scanName, prog_10_method_8_code, 2, (some .int))
abbrev mX5_numberOf : zMd := (yX5_numberOf, prog_7_method_2_code, 5, (some .int))
abbrev mX5_memberAt : zMd := (yX5_memberAt, prog_7_method_3_code, 5, (some .int))
abbrev mX5_ofFamily : zMd := (yX5_ofFamily, prog_7_method_4_code, 2, (some .int))
abbrev mX8_scanCharacter : zMd := (yX8_scanCharacter, prog_10_method_11_code, 3, (some .int))
abbrev mX8_codeAt : zMd := (yX8_codeAt, prog_10_method_16_code, 5, (some .int))
abbrev mX8_widthAt : zMd := (yX8_widthAt, prog_10_method_17_code, 2, (some .int))
abbrev mX8_scanString : zMd := (yX8_scanString, prog_10_method_12_code, 3, (some .int))
abbrev mX8_scanSign : zMd := (yX8_scanSign, prog_10_method_13_code, 3, (some .int))
abbrev mX8_kindOfSign : zMd := (yX8_kindOfSign, prog_10_method_14_code, 1, (some .int))
abbrev mX8_addWord : zMd := (yX8_addWord, prog_10_method_4_code, 5, none)
abbrev mX6_addRow : zMd := (yX6_addRow, prog_8_method_3_code, 3, (some .int))
abbrev mX6_setCell : zMd := (yX6_setCell, prog_8_method_4_code, 5, none)
abbrev mX3_step : zMd := (yX3_step, prog_5_method_5_code, 1, none)
abbrev mX8_kindOf : zMd := (yX8_kindOf, prog_10_method_22_code, 2, (some .int))
abbrev mX8_placeOf : zMd := (yX8_placeOf, prog_10_method_23_code, 2, (some .int))
abbrev mX8_valueOf : zMd := (yX8_valueOf, prog_10_method_24_code, 2, (some .int))
abbrev mX3_refuse : zMd := (yX3_refuse, prog_5_method_6_code, 2, none)
abbrev mX3_hasLine : zMd := (yX3_hasLine, prog_5_method_3_code, 1, (some .boolean))
abbrev mX8_size : zMd := (yX8_size, prog_10_method_21_code, 1, (some .int))
abbrev mX3_readLabels : zMd := (yX3_readLabels, prog_5_method_8_code, 3, none)
abbrev mX3_isAtLabel : zMd := (yX3_isAtLabel, prog_5_method_9_code, 1, (some .boolean))
abbrev mX3_addStatement : zMd := (yX3_addStatement, prog_5_method_11_code, 5, (some .int))
abbrev mX6_isFull : zMd := (yX6_isFull, prog_8_method_2_code, 1, (some .boolean))
abbrev mX3_nameNumber : zMd := (yX3_nameNumber, prog_5_method_12_code, 3, (some .int))
abbrev mX0_addName : zMd := (yX0_addName, prog_2_method_5_code, 6, (some .int))
abbrev mX0_addByte : zMd := (yX0_addByte, prog_2_method_4_code, 2, none)
abbrev mX3_demand : zMd := (yX3_demand, prog_5_method_7_code, 2, none)
abbrev mX3_readWord : zMd := (yX3_readWord, prog_5_method_10_code, 5, none)
abbrev mX3_readOperand : zMd := (yX3_readOperand, prog_5_method_13_code, 2, none)
abbrev mX3_addOperand : zMd := (yX3_addOperand, prog_5_method_14_code, 2, none)
abbrev mX3_readRegister : zMd := (yX3_readRegister, prog_5_method_15_code, 2, none)
abbrev mX3_readString : zMd := (yX3_readString, prog_5_method_17_code, 4, none)
abbrev mX3_countItem : zMd := (yX3_countItem, prog_5_method_24_code, 1, none)
abbrev mX0_addItem : zMd := (yX0_addItem, prog_2_method_3_code, 4, none)
abbrev mX3_readBase : zMd := (yX3_readBase, prog_5_method_16_code, 1, none)
abbrev mX3_canBeginExpression : zMd := (yX3_canBeginExpression, prog_5_method_19_code, 1, (some .boolean))
abbrev mX3_readMark : zMd := (yX3_readMark, prog_5_method_18_code, 2, none)
abbrev mX2_numberOf : zMd := (yX2_numberOf, prog_4_method_3_code, 3, (some .int))
abbrev mX8_spells : zMd := (yX8_spells, prog_10_method_25_code, 4, (some .boolean))
abbrev mX3_readSides : zMd := (yX3_readSides, prog_5_method_20_code, 5, none)
abbrev mX3_readOne : zMd := (yX3_readOne, prog_5_method_21_code, 4, none)
abbrev mX3_checkOne : zMd := (yX3_checkOne, prog_5_method_23_code, 2, none)
abbrev mX3_sortAhead : zMd := (yX3_sortAhead, prog_5_method_22_code, 1, (some .int))
abbrev mX3_finish : zMd := (yX3_finish, prog_5_method_4_code, 2, (some .int))
abbrev mX10_init : zMd := (yX10_init, prog_12_method_1_code, 1, none)
abbrev mX10_thrown : zMd := (yX10_thrown, prog_12_method_2_code, 1, (some .int))
abbrev mX10_feed : zMd := (yX10_feed, prog_12_method_4_code, 6, none)
abbrev mX10_wait : zMd := (yX10_wait, prog_12_method_3_code, 4, none)
abbrev mX10_end : zMd := (yX10_end, prog_12_method_5_code, 3, (some .int))
abbrev mX10_read : zMd := (yX10_read, prog_12_method_43_code, 2, (some .int))
abbrev mX10_next : zMd := (yX10_next, prog_12_method_12_code, 3, none)
abbrev mX10_bad : zMd := (yX10_bad, prog_12_method_11_code, 3, none)
abbrev mX10_isLetter : zMd := (yX10_isLetter, prog_12_method_8_code, 1, (some .boolean))
abbrev mX10_nameWord : zMd := (yX10_nameWord, prog_12_method_13_code, 1, none)
abbrev mX10_isInName : zMd := (yX10_isInName, prog_12_method_9_code, 1, (some .boolean))
abbrev mX10_isDigit : zMd := (yX10_isDigit, prog_12_method_7_code, 1, (some .boolean))
abbrev mX10_numberWord : zMd := (yX10_numberWord, prog_12_method_14_code, 5, none)
abbrev mX10_at : zMd := (yX10_at, prog_12_method_6_code, 2, (some .int))
abbrev mX10_digitOf : zMd := (yX10_digitOf, prog_12_method_10_code, 1, (some .int))
abbrev mX10_character : zMd := (yX10_character, prog_12_method_16_code, 3, none)
abbrev mX10_inside : zMd := (yX10_inside, prog_12_method_15_code, 5, (some .int))
abbrev mX10_stringWord : zMd := (yX10_stringWord, prog_12_method_17_code, 4, none)
abbrev mX10_signWord : zMd := (yX10_signWord, prog_12_method_18_code, 3, none)
abbrev mX10_readLine : zMd := (yX10_readLine, prog_12_method_42_code, 6, (some .boolean))
abbrev mX10_fail : zMd := (yX10_fail, prog_12_method_24_code, 2, (some .boolean))
abbrev mX10_register : zMd := (yX10_register, prog_12_method_22_code, 3, (some .int))
abbrev mX10_is : zMd := (yX10_is, prog_12_method_21_code, 5, (some .boolean))
abbrev mX10_byteOf : zMd := (yX10_byteOf, prog_12_method_20_code, 2, (some .int))
abbrev mX10_number : zMd := (yX10_number, prog_12_method_26_code, 3, (some .int))
abbrev mX10_isName : zMd := (yX10_isName, prog_12_method_25_code, 4, (some .boolean))
abbrev mX10_state : zMd := (yX10_state, prog_12_method_40_code, 4, (some .boolean))
abbrev mX10_isSign : zMd := (yX10_isSign, prog_12_method_19_code, 2, (some .boolean))
abbrev mX10_operands : zMd := (yX10_operands, prog_12_method_41_code, 3, (some .boolean))
abbrev mX10_takeOperand : zMd := (yX10_takeOperand, prog_12_method_39_code, 5, (some .boolean))
abbrev mX10_isBase : zMd := (yX10_isBase, prog_12_method_37_code, 6, (some .boolean))
abbrev mX10_tally : zMd := (yX10_tally, prog_12_method_28_code, 1, (some .boolean))
abbrev mX10_emit : zMd := (yX10_emit, prog_12_method_27_code, 4, none)
abbrev mX10_based : zMd := (yX10_based, prog_12_method_36_code, 3, (some .boolean))
abbrev mX10_closes : zMd := (yX10_closes, prog_12_method_35_code, 1, (some .boolean))
abbrev mX10_marked : zMd := (yX10_marked, prog_12_method_38_code, 3, (some .boolean))
abbrev mX10_mark : zMd := (yX10_mark, prog_12_method_23_code, 2, (some .int))
abbrev mX10_expression : zMd := (yX10_expression, prog_12_method_34_code, 4, (some .boolean))
abbrev mX10_wanted : zMd := (yX10_wanted, prog_12_method_33_code, 4, (some .int))
abbrev mX10_ahead : zMd := (yX10_ahead, prog_12_method_31_code, 1, none)
abbrev mX10_operator : zMd := (yX10_operator, prog_12_method_30_code, 1, (some .int))
abbrev mX10_binds : zMd := (yX10_binds, prog_12_method_29_code, 1, (some .int))
abbrev mX10_reduce : zMd := (yX10_reduce, prog_12_method_32_code, 2, none)
abbrev mX10_keep : zMd := (yX10_keep, prog_12_method_44_code, 2, none)
abbrev mX10_fault : zMd := (yX10_fault, prog_12_method_45_code, 2, (some .int))
abbrev mX10_count : zMd := (yX10_count, prog_12_method_46_code, 2, (some .int))
abbrev mX10_statement : zMd := (yX10_statement, prog_12_method_47_code, 3, (some .int))
abbrev mX10_operand : zMd := (yX10_operand, prog_12_method_48_code, 3, (some .int))
abbrev mX10_item : zMd := (yX10_item, prog_12_method_49_code, 3, (some .int))
abbrev mX10_constant : zMd := (yX10_constant, prog_12_method_51_code, 8, (some .long))
abbrev mX10_worked : zMd := (yX10_worked, prog_12_method_50_code, 3, (some .int))
abbrev mX10_name : zMd := (yX10_name, prog_12_method_52_code, 3, (some .int))
abbrev mX10_string : zMd := (yX10_string, prog_12_method_53_code, 3, (some .int))
abbrev mX10_find : zMd := (yX10_find, prog_12_method_54_code, 9, (some .int))
abbrev mX10_tell : zMd := (yX10_tell, prog_12_method_69_code, 4, (some .int))
abbrev mX10_sayNumber : zMd := (yX10_sayNumber, prog_12_method_56_code, 5, none)
abbrev mX10_say : zMd := (yX10_say, prog_12_method_55_code, 2, none)
abbrev mX10_sayName : zMd := (yX10_sayName, prog_12_method_57_code, 3, none)
abbrev mX10_sayOperand : zMd := (yX10_sayOperand, prog_12_method_68_code, 3, none)
abbrev mX10_sayRegister : zMd := (yX10_sayRegister, prog_12_method_58_code, 2, none)
abbrev mX10_sayString : zMd := (yX10_sayString, prog_12_method_59_code, 4, none)
abbrev mX10_sayMark : zMd := (yX10_sayMark, prog_12_method_67_code, 2, none)
abbrev mX10_sayItems : zMd := (yX10_sayItems, prog_12_method_66_code, 10, none)
abbrev mX10_findBegins : zMd := (yX10_findBegins, prog_12_method_62_code, 7, none)
abbrev mX10_whatOf : zMd := (yX10_whatOf, prog_12_method_61_code, 2, (some .int))
abbrev mX10_add : zMd := (yX10_add, prog_12_method_63_code, 2, none)
abbrev mX10_saySign : zMd := (yX10_saySign, prog_12_method_60_code, 2, none)
abbrev mX10_sayLeaf : zMd := (yX10_sayLeaf, prog_12_method_65_code, 4, none)
abbrev mX10_addSide : zMd := (yX10_addSide, prog_12_method_64_code, 3, none)
abbrev mX10_letter : zMd := (yX10_letter, prog_12_method_70_code, 2, (some .int))
theorem fX6_18 : zFl RX6 18 3 0 := ⟨RX6, TX6, 4, rfl, by decide, inX6, zT_mk (zm_1 (List.mem_of_getElem? (i := 47) rfl)) rfl⟩
theorem fX6_15 : zFl RX6 15 3 1 := ⟨RX6, TX6, 4, rfl, by decide, inX6, zT_mk (zm_1 (List.mem_of_getElem? (i := 48) rfl)) rfl⟩
theorem fX6_9 : zFl RX6 9 3 2 := ⟨RX6, TX6, 4, rfl, by decide, inX6, zT_mk (zm_1 (List.mem_of_getElem? (i := 49) rfl)) rfl⟩
theorem fX6_22 : zFl RX6 22 3 3 := ⟨RX6, TX6, 4, rfl, by decide, inX6, zT_mk (zm_1 (List.mem_of_getElem? (i := 50) rfl)) rfl⟩
theorem fX8_9 : zFl RX8 9 5 0 := ⟨RX8, TX8, 6, rfl, by decide, inX8, zT_mk (zm_1 (List.mem_of_getElem? (i := 65) rfl)) rfl⟩
theorem fX8_20 : zFl RX8 20 5 1 := ⟨RX8, TX8, 6, rfl, by decide, inX8, zT_mk (zm_1 (List.mem_of_getElem? (i := 67) rfl)) rfl⟩
theorem fX8_24 : zFl RX8 24 5 2 := ⟨RX8, TX8, 6, rfl, by decide, inX8, zT_mk (zm_1 (List.mem_of_getElem? (i := 68) rfl)) rfl⟩
theorem fX8_28 : zFl RX8 28 5 3 := ⟨RX8, TX8, 6, rfl, by decide, inX8, zT_mk (zm_1 (List.mem_of_getElem? (i := 70) rfl)) rfl⟩
theorem fX8_31 : zFl RX8 31 5 4 := ⟨RX8, TX8, 6, rfl, by decide, inX8, zT_mk (zm_1 (List.mem_of_getElem? (i := 71) rfl)) rfl⟩
theorem fX8_37 : zFl RX8 37 5 5 := ⟨RX8, TX8, 6, rfl, by decide, inX8, zT_mk (zm_1 (List.mem_of_getElem? (i := 72) rfl)) rfl⟩
theorem fX0_14 : zFl RX0 14 0 0 := ⟨RX0, TX0, 6, rfl, by decide, inX0, zT_mk (zm_1 (List.mem_of_getElem? (i := 94) rfl)) rfl⟩
theorem fX0_20 : zFl RX0 20 0 1 := ⟨RX0, TX0, 6, rfl, by decide, inX0, zT_mk (zm_1 (List.mem_of_getElem? (i := 98) rfl)) rfl⟩
theorem fX0_23 : zFl RX0 23 0 2 := ⟨RX0, TX0, 6, rfl, by decide, inX0, zT_mk (zm_1 (List.mem_of_getElem? (i := 103) rfl)) rfl⟩
theorem fX0_26 : zFl RX0 26 0 3 := ⟨RX0, TX0, 6, rfl, by decide, inX0, zT_mk (zm_1 (List.mem_of_getElem? (i := 108) rfl)) rfl⟩
theorem fX0_29 : zFl RX0 29 0 4 := ⟨RX0, TX0, 6, rfl, by decide, inX0, zT_mk (zm_1 (List.mem_of_getElem? (i := 112) rfl)) rfl⟩
theorem fX0_37 : zFl RX0 37 0 5 := ⟨RX0, TX0, 6, rfl, by decide, inX0, zT_mk (zm_1 (List.mem_of_getElem? (i := 114) rfl)) rfl⟩
theorem fX3_12 : zFl RX3 12 1 0 := ⟨RX3, TX3, 11, rfl, by decide, inX3, zT_mk (zm_1 (List.mem_of_getElem? (i := 129) rfl)) rfl⟩
theorem fX3_21 : zFl RX3 21 1 1 := ⟨RX3, TX3, 11, rfl, by decide, inX3, zT_mk (zm_1 (List.mem_of_getElem? (i := 131) rfl)) rfl⟩
theorem fX3_25 : zFl RX3 25 1 2 := ⟨RX3, TX3, 11, rfl, by decide, inX3, zT_mk (zm_1 (List.mem_of_getElem? (i := 133) rfl)) rfl⟩
theorem fX3_41 : zFl RX3 41 1 3 := ⟨RX3, TX3, 11, rfl, by decide, inX3, zT_mk (zm_1 (List.mem_of_getElem? (i := 134) rfl)) rfl⟩
theorem fX3_63 : zFl RX3 63 1 4 := ⟨RX3, TX3, 11, rfl, by decide, inX3, zT_mk (zm_1 (List.mem_of_getElem? (i := 135) rfl)) rfl⟩
theorem fX3_69 : zFl RX3 69 1 5 := ⟨RX3, TX3, 11, rfl, by decide, inX3, zT_mk (zm_1 (List.mem_of_getElem? (i := 136) rfl)) rfl⟩
theorem fX3_161 : zFl RX3 161 1 6 := ⟨RX3, TX3, 11, rfl, by decide, inX3, zT_mk (zm_1 (List.mem_of_getElem? (i := 137) rfl)) rfl⟩
theorem fX3_167 : zFl RX3 167 1 7 := ⟨RX3, TX3, 11, rfl, by decide, inX3, zT_mk (zm_1 (List.mem_of_getElem? (i := 138) rfl)) rfl⟩
theorem fX3_170 : zFl RX3 170 1 8 := ⟨RX3, TX3, 11, rfl, by decide, inX3, zT_mk (zm_1 (List.mem_of_getElem? (i := 139) rfl)) rfl⟩
theorem fX3_32 : zFl RX3 32 1 9 := ⟨RX3, TX3, 11, rfl, by decide, inX3, zT_mk (zm_1 (List.mem_of_getElem? (i := 140) rfl)) rfl⟩
theorem fX3_28 : zFl RX3 28 1 10 := ⟨RX3, TX3, 11, rfl, by decide, inX3, zT_mk (zm_1 (List.mem_of_getElem? (i := 142) rfl)) rfl⟩
theorem fX4_9 : zFl RX4 9 2 0 := ⟨RX4, TX4, 1, rfl, by decide, inX4, zT_mk (zm_1 (List.mem_of_getElem? (i := 173) rfl)) rfl⟩
theorem fX7_11 : zFl RX7 11 4 0 := ⟨RX7, TX7, 5, rfl, by decide, inX7, zT_mk (zm_1 (List.mem_of_getElem? (i := 183) rfl)) rfl⟩
theorem fX7_30 : zFl RX7 30 4 1 := ⟨RX7, TX7, 5, rfl, by decide, inX7, zT_mk (zm_1 (List.mem_of_getElem? (i := 184) rfl)) rfl⟩
theorem fX7_15 : zFl RX7 15 4 2 := ⟨RX7, TX7, 5, rfl, by decide, inX7, zT_mk (zm_1 (List.mem_of_getElem? (i := 185) rfl)) rfl⟩
theorem fX7_105 : zFl RX7 105 4 3 := ⟨RX7, TX7, 5, rfl, by decide, inX7, zT_mk (zm_1 (List.mem_of_getElem? (i := 186) rfl)) rfl⟩
theorem fX7_113 : zFl RX7 113 4 4 := ⟨RX7, TX7, 5, rfl, by decide, inX7, zT_mk (zm_1 (List.mem_of_getElem? (i := 187) rfl)) rfl⟩
theorem fX9_9 : zFl RX9 9 6 0 := ⟨RX9, TX9, 5, rfl, by decide, inX9, zT_mk (zm_1 (List.mem_of_getElem? (i := 199) rfl)) rfl⟩
theorem fX9_13 : zFl RX9 13 6 1 := ⟨RX9, TX9, 5, rfl, by decide, inX9, zT_mk (zm_1 (List.mem_of_getElem? (i := 200) rfl)) rfl⟩
theorem fX9_19 : zFl RX9 19 6 2 := ⟨RX9, TX9, 5, rfl, by decide, inX9, zT_mk (zm_1 (List.mem_of_getElem? (i := 201) rfl)) rfl⟩
theorem fX9_26 : zFl RX9 26 6 3 := ⟨RX9, TX9, 5, rfl, by decide, inX9, zT_mk (zm_1 (List.mem_of_getElem? (i := 202) rfl)) rfl⟩
theorem fX9_33 : zFl RX9 33 6 4 := ⟨RX9, TX9, 5, rfl, by decide, inX9, zT_mk (zm_1 (List.mem_of_getElem? (i := 203) rfl)) rfl⟩
theorem fX10_62 : zFl RX10 62 7 0 := ⟨RX10, TX10, 36, rfl, by decide, inX10, zT_mk (zm_4 (List.mem_of_getElem? (i := 66) rfl)) rfl⟩
theorem fX10_7 : zFl RX10 7 7 1 := ⟨RX10, TX10, 36, rfl, by decide, inX10, zT_mk (zm_4 (List.mem_of_getElem? (i := 67) rfl)) rfl⟩
theorem fX10_13 : zFl RX10 13 7 2 := ⟨RX10, TX10, 36, rfl, by decide, inX10, zT_mk (zm_4 (List.mem_of_getElem? (i := 68) rfl)) rfl⟩
theorem fX10_69 : zFl RX10 69 7 3 := ⟨RX10, TX10, 36, rfl, by decide, inX10, zT_mk (zm_4 (List.mem_of_getElem? (i := 69) rfl)) rfl⟩
theorem fX10_16 : zFl RX10 16 7 4 := ⟨RX10, TX10, 36, rfl, by decide, inX10, zT_mk (zm_4 (List.mem_of_getElem? (i := 70) rfl)) rfl⟩
theorem fX10_19 : zFl RX10 19 7 5 := ⟨RX10, TX10, 36, rfl, by decide, inX10, zT_mk (zm_4 (List.mem_of_getElem? (i := 71) rfl)) rfl⟩
theorem fX10_22 : zFl RX10 22 7 6 := ⟨RX10, TX10, 36, rfl, by decide, inX10, zT_mk (zm_4 (List.mem_of_getElem? (i := 72) rfl)) rfl⟩
theorem fX10_25 : zFl RX10 25 7 7 := ⟨RX10, TX10, 36, rfl, by decide, inX10, zT_mk (zm_4 (List.mem_of_getElem? (i := 73) rfl)) rfl⟩
theorem fX10_28 : zFl RX10 28 7 8 := ⟨RX10, TX10, 36, rfl, by decide, inX10, zT_mk (zm_4 (List.mem_of_getElem? (i := 74) rfl)) rfl⟩
theorem fX10_31 : zFl RX10 31 7 9 := ⟨RX10, TX10, 36, rfl, by decide, inX10, zT_mk (zm_4 (List.mem_of_getElem? (i := 75) rfl)) rfl⟩
theorem fX10_34 : zFl RX10 34 7 10 := ⟨RX10, TX10, 36, rfl, by decide, inX10, zT_mk (zm_4 (List.mem_of_getElem? (i := 76) rfl)) rfl⟩
theorem fX10_126 : zFl RX10 126 7 11 := ⟨RX10, TX10, 36, rfl, by decide, inX10, zT_mk (zm_4 (List.mem_of_getElem? (i := 77) rfl)) rfl⟩
theorem fX10_208 : zFl RX10 208 7 12 := ⟨RX10, TX10, 36, rfl, by decide, inX10, zT_mk (zm_4 (List.mem_of_getElem? (i := 78) rfl)) rfl⟩
theorem fX10_235 : zFl RX10 235 7 13 := ⟨RX10, TX10, 36, rfl, by decide, inX10, zT_mk (zm_4 (List.mem_of_getElem? (i := 79) rfl)) rfl⟩
theorem fX10_37 : zFl RX10 37 7 14 := ⟨RX10, TX10, 36, rfl, by decide, inX10, zT_mk (zm_4 (List.mem_of_getElem? (i := 80) rfl)) rfl⟩
theorem fX10_79 : zFl RX10 79 7 15 := ⟨RX10, TX10, 36, rfl, by decide, inX10, zT_mk (zm_4 (List.mem_of_getElem? (i := 81) rfl)) rfl⟩
theorem fX10_82 : zFl RX10 82 7 16 := ⟨RX10, TX10, 36, rfl, by decide, inX10, zT_mk (zm_4 (List.mem_of_getElem? (i := 82) rfl)) rfl⟩
theorem fX10_85 : zFl RX10 85 7 17 := ⟨RX10, TX10, 36, rfl, by decide, inX10, zT_mk (zm_4 (List.mem_of_getElem? (i := 83) rfl)) rfl⟩
theorem fX10_88 : zFl RX10 88 7 18 := ⟨RX10, TX10, 36, rfl, by decide, inX10, zT_mk (zm_4 (List.mem_of_getElem? (i := 84) rfl)) rfl⟩
theorem fX10_220 : zFl RX10 220 7 19 := ⟨RX10, TX10, 36, rfl, by decide, inX10, zT_mk (zm_4 (List.mem_of_getElem? (i := 85) rfl)) rfl⟩
theorem fX10_136 : zFl RX10 136 7 20 := ⟨RX10, TX10, 36, rfl, by decide, inX10, zT_mk (zm_4 (List.mem_of_getElem? (i := 86) rfl)) rfl⟩
theorem fX10_139 : zFl RX10 139 7 21 := ⟨RX10, TX10, 36, rfl, by decide, inX10, zT_mk (zm_4 (List.mem_of_getElem? (i := 87) rfl)) rfl⟩
theorem fX10_41 : zFl RX10 41 7 22 := ⟨RX10, TX10, 36, rfl, by decide, inX10, zT_mk (zm_4 (List.mem_of_getElem? (i := 88) rfl)) rfl⟩
theorem fX10_155 : zFl RX10 155 7 23 := ⟨RX10, TX10, 36, rfl, by decide, inX10, zT_mk (zm_4 (List.mem_of_getElem? (i := 89) rfl)) rfl⟩
theorem fX10_146 : zFl RX10 146 7 24 := ⟨RX10, TX10, 36, rfl, by decide, inX10, zT_mk (zm_4 (List.mem_of_getElem? (i := 90) rfl)) rfl⟩
theorem fX10_149 : zFl RX10 149 7 25 := ⟨RX10, TX10, 36, rfl, by decide, inX10, zT_mk (zm_4 (List.mem_of_getElem? (i := 91) rfl)) rfl⟩
theorem fX10_161 : zFl RX10 161 7 26 := ⟨RX10, TX10, 36, rfl, by decide, inX10, zT_mk (zm_4 (List.mem_of_getElem? (i := 92) rfl)) rfl⟩
theorem fX10_174 : zFl RX10 174 7 27 := ⟨RX10, TX10, 36, rfl, by decide, inX10, zT_mk (zm_4 (List.mem_of_getElem? (i := 93) rfl)) rfl⟩
theorem fX10_44 : zFl RX10 44 7 28 := ⟨RX10, TX10, 36, rfl, by decide, inX10, zT_mk (zm_4 (List.mem_of_getElem? (i := 94) rfl)) rfl⟩
theorem fX10_249 : zFl RX10 249 7 29 := ⟨RX10, TX10, 36, rfl, by decide, inX10, zT_mk (zm_4 (List.mem_of_getElem? (i := 95) rfl)) rfl⟩
theorem fX10_47 : zFl RX10 47 7 30 := ⟨RX10, TX10, 36, rfl, by decide, inX10, zT_mk (zm_4 (List.mem_of_getElem? (i := 96) rfl)) rfl⟩
theorem fX10_50 : zFl RX10 50 7 31 := ⟨RX10, TX10, 36, rfl, by decide, inX10, zT_mk (zm_4 (List.mem_of_getElem? (i := 97) rfl)) rfl⟩
theorem fX10_53 : zFl RX10 53 7 32 := ⟨RX10, TX10, 36, rfl, by decide, inX10, zT_mk (zm_4 (List.mem_of_getElem? (i := 98) rfl)) rfl⟩
theorem fX10_56 : zFl RX10 56 7 33 := ⟨RX10, TX10, 36, rfl, by decide, inX10, zT_mk (zm_4 (List.mem_of_getElem? (i := 99) rfl)) rfl⟩
theorem fX10_59 : zFl RX10 59 7 34 := ⟨RX10, TX10, 36, rfl, by decide, inX10, zT_mk (zm_4 (List.mem_of_getElem? (i := 100) rfl)) rfl⟩
theorem fX10_266 : zFl RX10 266 7 35 := ⟨RX10, TX10, 36, rfl, by decide, inX10, zT_mk (zm_4 (List.mem_of_getElem? (i := 101) rfl)) rfl⟩
theorem fX0_33 : zFn RX0 33 3 3 := ⟨RX6, TX6, 4, "UnitText", rfl, by decide, inX6, zNs_mk (zm_1 (List.mem_of_getElem? (i := 51) rfl)) rfl⟩
theorem fX8_34 : zFn RX8 34 3 3 := ⟨RX6, TX6, 4, "UnitText", rfl, by decide, inX6, zNs_mk (zm_1 (List.mem_of_getElem? (i := 52) rfl)) rfl⟩
theorem fX3_55 : zFn RX3 55 3 3 := ⟨RX6, TX6, 4, "UnitText", rfl, by decide, inX6, zNs_mk (zm_1 (List.mem_of_getElem? (i := 53) rfl)) rfl⟩
theorem fX9_88 : zFn RX9 88 3 3 := ⟨RX6, TX6, 4, "UnitText", rfl, by decide, inX6, zNs_mk (zm_1 (List.mem_of_getElem? (i := 54) rfl)) rfl⟩
theorem fX3_116 : zFn RX3 116 5 0 := ⟨RX8, TX8, 6, "UnitText", rfl, by decide, inX8, zNs_mk (zm_1 (List.mem_of_getElem? (i := 66) rfl)) rfl⟩
theorem fX9_45 : zFn RX9 45 5 2 := ⟨RX8, TX8, 6, "UnitText", rfl, by decide, inX8, zNs_mk (zm_1 (List.mem_of_getElem? (i := 69) rfl)) rfl⟩
theorem fX7_18 : zFn RX7 18 0 0 := ⟨RX0, TX0, 6, "UnitText", rfl, by decide, inX0, zNs_mk (zm_1 (List.mem_of_getElem? (i := 95) rfl)) rfl⟩
theorem fX3_51 : zFn RX3 51 0 0 := ⟨RX0, TX0, 6, "UnitText", rfl, by decide, inX0, zNs_mk (zm_1 (List.mem_of_getElem? (i := 96) rfl)) rfl⟩
theorem fX9_82 : zFn RX9 82 0 0 := ⟨RX0, TX0, 6, "UnitText", rfl, by decide, inX0, zNs_mk (zm_1 (List.mem_of_getElem? (i := 97) rfl)) rfl⟩
theorem fX4_15 : zFn RX4 15 0 1 := ⟨RX0, TX0, 6, "UnitText", rfl, by decide, inX0, zNs_mk (zm_1 (List.mem_of_getElem? (i := 99) rfl)) rfl⟩
theorem fX9_93 : zFn RX9 93 0 1 := ⟨RX0, TX0, 6, "UnitText", rfl, by decide, inX0, zNs_mk (zm_1 (List.mem_of_getElem? (i := 100) rfl)) rfl⟩
theorem fX7_73 : zFn RX7 73 0 1 := ⟨RX0, TX0, 6, "UnitText", rfl, by decide, inX0, zNs_mk (zm_1 (List.mem_of_getElem? (i := 101) rfl)) rfl⟩
theorem fX3_100 : zFn RX3 100 0 1 := ⟨RX0, TX0, 6, "UnitText", rfl, by decide, inX0, zNs_mk (zm_1 (List.mem_of_getElem? (i := 102) rfl)) rfl⟩
theorem fX4_27 : zFn RX4 27 0 2 := ⟨RX0, TX0, 6, "UnitText", rfl, by decide, inX0, zNs_mk (zm_1 (List.mem_of_getElem? (i := 104) rfl)) rfl⟩
theorem fX9_96 : zFn RX9 96 0 2 := ⟨RX0, TX0, 6, "UnitText", rfl, by decide, inX0, zNs_mk (zm_1 (List.mem_of_getElem? (i := 105) rfl)) rfl⟩
theorem fX3_164 : zFn RX3 164 0 2 := ⟨RX0, TX0, 6, "UnitText", rfl, by decide, inX0, zNs_mk (zm_1 (List.mem_of_getElem? (i := 106) rfl)) rfl⟩
theorem fX7_147 : zFn RX7 147 0 2 := ⟨RX0, TX0, 6, "UnitText", rfl, by decide, inX0, zNs_mk (zm_1 (List.mem_of_getElem? (i := 107) rfl)) rfl⟩
theorem fX7_63 : zFn RX7 63 0 3 := ⟨RX0, TX0, 6, "UnitText", rfl, by decide, inX0, zNs_mk (zm_1 (List.mem_of_getElem? (i := 109) rfl)) rfl⟩
theorem fX9_99 : zFn RX9 99 0 3 := ⟨RX0, TX0, 6, "UnitText", rfl, by decide, inX0, zNs_mk (zm_1 (List.mem_of_getElem? (i := 110) rfl)) rfl⟩
theorem fX3_124 : zFn RX3 124 0 3 := ⟨RX0, TX0, 6, "UnitText", rfl, by decide, inX0, zNs_mk (zm_1 (List.mem_of_getElem? (i := 111) rfl)) rfl⟩
theorem fX7_66 : zFn RX7 66 0 4 := ⟨RX0, TX0, 6, "UnitText", rfl, by decide, inX0, zNs_mk (zm_1 (List.mem_of_getElem? (i := 113) rfl)) rfl⟩
theorem fX3_178 : zFn RX3 178 0 5 := ⟨RX0, TX0, 6, "UnitText", rfl, by decide, inX0, zNs_mk (zm_1 (List.mem_of_getElem? (i := 115) rfl)) rfl⟩
theorem fX9_41 : zFn RX9 41 1 0 := ⟨RX3, TX3, 11, "UnitText", rfl, by decide, inX3, zNs_mk (zm_1 (List.mem_of_getElem? (i := 130) rfl)) rfl⟩
theorem fX9_78 : zFn RX9 78 1 1 := ⟨RX3, TX3, 11, "UnitText", rfl, by decide, inX3, zNs_mk (zm_1 (List.mem_of_getElem? (i := 132) rfl)) rfl⟩
theorem fX9_72 : zFn RX9 72 1 9 := ⟨RX3, TX3, 11, "UnitText", rfl, by decide, inX3, zNs_mk (zm_1 (List.mem_of_getElem? (i := 141) rfl)) rfl⟩
theorem fX9_75 : zFn RX9 75 1 10 := ⟨RX3, TX3, 11, "UnitText", rfl, by decide, inX3, zNs_mk (zm_1 (List.mem_of_getElem? (i := 143) rfl)) rfl⟩
theorem wX0_0 : zFw 0 0 true (.object "UnitText$Table") := ⟨RX0, TX0, 6, tyX0, rfl, tyX0_ok, nmX0, rfl, rfl, by decide +kernel⟩
theorem wX0_1 : zFw 0 1 true (.object "UnitText$Table") := ⟨RX0, TX0, 6, tyX0, rfl, tyX0_ok, nmX0, rfl, rfl, by decide +kernel⟩
theorem wX0_2 : zFw 0 2 true (.object "UnitText$Table") := ⟨RX0, TX0, 6, tyX0, rfl, tyX0_ok, nmX0, rfl, rfl, by decide +kernel⟩
theorem wX0_3 : zFw 0 3 true (.object "UnitText$Table") := ⟨RX0, TX0, 6, tyX0, rfl, tyX0_ok, nmX0, rfl, rfl, by decide +kernel⟩
theorem wX0_4 : zFw 0 4 true (.array .int) := ⟨RX0, TX0, 6, tyX0, rfl, tyX0_ok, nmX0, rfl, rfl, by decide +kernel⟩
theorem wX0_5 : zFw 0 5 false (.int) := ⟨RX0, TX0, 6, tyX0, rfl, tyX0_ok, nmX0, rfl, rfl, by decide +kernel⟩
theorem wX3_0 : zFw 1 0 true (.object "UnitText$Words") := ⟨RX3, TX3, 11, tyX3, rfl, tyX3_ok, nmX3, rfl, rfl, by decide +kernel⟩
theorem wX3_1 : zFw 1 1 false (.object "UnitText$Book") := ⟨RX3, TX3, 11, tyX3, rfl, tyX3_ok, nmX3, rfl, rfl, by decide +kernel⟩
theorem wX3_2 : zFw 1 2 false (.object "UnitText$Book") := ⟨RX3, TX3, 11, tyX3, rfl, tyX3_ok, nmX3, rfl, rfl, by decide +kernel⟩
theorem wX3_3 : zFw 1 3 false (.int) := ⟨RX3, TX3, 11, tyX3, rfl, tyX3_ok, nmX3, rfl, rfl, by decide +kernel⟩
theorem wX3_4 : zFw 1 4 false (.int) := ⟨RX3, TX3, 11, tyX3, rfl, tyX3_ok, nmX3, rfl, rfl, by decide +kernel⟩
theorem wX3_5 : zFw 1 5 false (.int) := ⟨RX3, TX3, 11, tyX3, rfl, tyX3_ok, nmX3, rfl, rfl, by decide +kernel⟩
theorem wX3_6 : zFw 1 6 false (.int) := ⟨RX3, TX3, 11, tyX3, rfl, tyX3_ok, nmX3, rfl, rfl, by decide +kernel⟩
theorem wX3_7 : zFw 1 7 false (.int) := ⟨RX3, TX3, 11, tyX3, rfl, tyX3_ok, nmX3, rfl, rfl, by decide +kernel⟩
theorem wX3_8 : zFw 1 8 false (.int) := ⟨RX3, TX3, 11, tyX3, rfl, tyX3_ok, nmX3, rfl, rfl, by decide +kernel⟩
theorem wX3_9 : zFw 1 9 false (.int) := ⟨RX3, TX3, 11, tyX3, rfl, tyX3_ok, nmX3, rfl, rfl, by decide +kernel⟩
theorem wX3_10 : zFw 1 10 false (.int) := ⟨RX3, TX3, 11, tyX3, rfl, tyX3_ok, nmX3, rfl, rfl, by decide +kernel⟩
theorem wX4_0 : zFw 2 0 true (.array .int) := ⟨RX4, TX4, 1, tyX4, rfl, tyX4_ok, nmX4, rfl, rfl, by decide +kernel⟩
theorem wX6_0 : zFw 3 0 true (.array .int) := ⟨RX6, TX6, 4, tyX6, rfl, tyX6_ok, nmX6, rfl, rfl, by decide +kernel⟩
theorem wX6_1 : zFw 3 1 true (.int) := ⟨RX6, TX6, 4, tyX6, rfl, tyX6_ok, nmX6, rfl, rfl, by decide +kernel⟩
theorem wX6_2 : zFw 3 2 true (.int) := ⟨RX6, TX6, 4, tyX6, rfl, tyX6_ok, nmX6, rfl, rfl, by decide +kernel⟩
theorem wX6_3 : zFw 3 3 false (.int) := ⟨RX6, TX6, 4, tyX6, rfl, tyX6_ok, nmX6, rfl, rfl, by decide +kernel⟩
theorem wX7_0 : zFw 4 0 true (.array .int) := ⟨RX7, TX7, 5, tyX7, rfl, tyX7_ok, nmX7, rfl, rfl, by decide +kernel⟩
theorem wX7_1 : zFw 4 1 false (.int) := ⟨RX7, TX7, 5, tyX7, rfl, tyX7_ok, nmX7, rfl, rfl, by decide +kernel⟩
theorem wX7_2 : zFw 4 2 true (.array .int) := ⟨RX7, TX7, 5, tyX7, rfl, tyX7_ok, nmX7, rfl, rfl, by decide +kernel⟩
theorem wX7_3 : zFw 4 3 false (.int) := ⟨RX7, TX7, 5, tyX7, rfl, tyX7_ok, nmX7, rfl, rfl, by decide +kernel⟩
theorem wX7_4 : zFw 4 4 false (.int) := ⟨RX7, TX7, 5, tyX7, rfl, tyX7_ok, nmX7, rfl, rfl, by decide +kernel⟩
theorem wX8_0 : zFw 5 0 true (.array .int) := ⟨RX8, TX8, 6, tyX8, rfl, tyX8_ok, nmX8, rfl, rfl, by decide +kernel⟩
theorem wX8_1 : zFw 5 1 true (.object "UnitText$Table") := ⟨RX8, TX8, 6, tyX8, rfl, tyX8_ok, nmX8, rfl, rfl, by decide +kernel⟩
theorem wX8_2 : zFw 5 2 false (.int) := ⟨RX8, TX8, 6, tyX8, rfl, tyX8_ok, nmX8, rfl, rfl, by decide +kernel⟩
theorem wX8_3 : zFw 5 3 false (.int) := ⟨RX8, TX8, 6, tyX8, rfl, tyX8_ok, nmX8, rfl, rfl, by decide +kernel⟩
theorem wX8_4 : zFw 5 4 false (.int) := ⟨RX8, TX8, 6, tyX8, rfl, tyX8_ok, nmX8, rfl, rfl, by decide +kernel⟩
theorem wX8_5 : zFw 5 5 false (.int) := ⟨RX8, TX8, 6, tyX8, rfl, tyX8_ok, nmX8, rfl, rfl, by decide +kernel⟩
theorem wX9_0 : zFw 6 0 true (.array .int) := ⟨RX9, TX9, 5, tyX9, rfl, tyX9_ok, nmX9, rfl, rfl, by decide +kernel⟩
theorem wX9_1 : zFw 6 1 true (.array .int) := ⟨RX9, TX9, 5, tyX9, rfl, tyX9_ok, nmX9, rfl, rfl, by decide +kernel⟩
theorem wX9_2 : zFw 6 2 true (.object "UnitText$Reader") := ⟨RX9, TX9, 5, tyX9, rfl, tyX9_ok, nmX9, rfl, rfl, by decide +kernel⟩
theorem wX9_3 : zFw 6 3 true (.object "UnitText$Reckoner") := ⟨RX9, TX9, 5, tyX9, rfl, tyX9_ok, nmX9, rfl, rfl, by decide +kernel⟩
theorem wX9_4 : zFw 6 4 true (.object "UnitText$Teller") := ⟨RX9, TX9, 5, tyX9, rfl, tyX9_ok, nmX9, rfl, rfl, by decide +kernel⟩
theorem wX10_0 : zFw 7 0 false (.int) := ⟨RX10, TX10, 36, tyX10, rfl, tyX10_ok, nmX10, rfl, rfl, by decide +kernel⟩
theorem wX10_1 : zFw 7 1 true (.array .int) := ⟨RX10, TX10, 36, tyX10, rfl, tyX10_ok, nmX10, rfl, rfl, by decide +kernel⟩
theorem wX10_2 : zFw 7 2 true (.array .int) := ⟨RX10, TX10, 36, tyX10, rfl, tyX10_ok, nmX10, rfl, rfl, by decide +kernel⟩
theorem wX10_3 : zFw 7 3 false (.int) := ⟨RX10, TX10, 36, tyX10, rfl, tyX10_ok, nmX10, rfl, rfl, by decide +kernel⟩
theorem wX10_4 : zFw 7 4 true (.array .int) := ⟨RX10, TX10, 36, tyX10, rfl, tyX10_ok, nmX10, rfl, rfl, by decide +kernel⟩
theorem wX10_5 : zFw 7 5 true (.array .int) := ⟨RX10, TX10, 36, tyX10, rfl, tyX10_ok, nmX10, rfl, rfl, by decide +kernel⟩
theorem wX10_6 : zFw 7 6 true (.array .int) := ⟨RX10, TX10, 36, tyX10, rfl, tyX10_ok, nmX10, rfl, rfl, by decide +kernel⟩
theorem wX10_7 : zFw 7 7 true (.array .int) := ⟨RX10, TX10, 36, tyX10, rfl, tyX10_ok, nmX10, rfl, rfl, by decide +kernel⟩
theorem wX10_8 : zFw 7 8 true (.array .int) := ⟨RX10, TX10, 36, tyX10, rfl, tyX10_ok, nmX10, rfl, rfl, by decide +kernel⟩
theorem wX10_9 : zFw 7 9 true (.array .int) := ⟨RX10, TX10, 36, tyX10, rfl, tyX10_ok, nmX10, rfl, rfl, by decide +kernel⟩
theorem wX10_10 : zFw 7 10 true (.array .int) := ⟨RX10, TX10, 36, tyX10, rfl, tyX10_ok, nmX10, rfl, rfl, by decide +kernel⟩
theorem wX10_11 : zFw 7 11 false (.int) := ⟨RX10, TX10, 36, tyX10, rfl, tyX10_ok, nmX10, rfl, rfl, by decide +kernel⟩
theorem wX10_12 : zFw 7 12 false (.int) := ⟨RX10, TX10, 36, tyX10, rfl, tyX10_ok, nmX10, rfl, rfl, by decide +kernel⟩
theorem wX10_13 : zFw 7 13 false (.int) := ⟨RX10, TX10, 36, tyX10, rfl, tyX10_ok, nmX10, rfl, rfl, by decide +kernel⟩
theorem wX10_14 : zFw 7 14 false (.int) := ⟨RX10, TX10, 36, tyX10, rfl, tyX10_ok, nmX10, rfl, rfl, by decide +kernel⟩
theorem wX10_15 : zFw 7 15 false (.int) := ⟨RX10, TX10, 36, tyX10, rfl, tyX10_ok, nmX10, rfl, rfl, by decide +kernel⟩
theorem wX10_16 : zFw 7 16 false (.int) := ⟨RX10, TX10, 36, tyX10, rfl, tyX10_ok, nmX10, rfl, rfl, by decide +kernel⟩
theorem wX10_17 : zFw 7 17 false (.int) := ⟨RX10, TX10, 36, tyX10, rfl, tyX10_ok, nmX10, rfl, rfl, by decide +kernel⟩
theorem wX10_18 : zFw 7 18 false (.int) := ⟨RX10, TX10, 36, tyX10, rfl, tyX10_ok, nmX10, rfl, rfl, by decide +kernel⟩
theorem wX10_19 : zFw 7 19 false (.int) := ⟨RX10, TX10, 36, tyX10, rfl, tyX10_ok, nmX10, rfl, rfl, by decide +kernel⟩
theorem wX10_20 : zFw 7 20 false (.int) := ⟨RX10, TX10, 36, tyX10, rfl, tyX10_ok, nmX10, rfl, rfl, by decide +kernel⟩
theorem wX10_21 : zFw 7 21 false (.int) := ⟨RX10, TX10, 36, tyX10, rfl, tyX10_ok, nmX10, rfl, rfl, by decide +kernel⟩
theorem wX10_22 : zFw 7 22 true (.array .int) := ⟨RX10, TX10, 36, tyX10, rfl, tyX10_ok, nmX10, rfl, rfl, by decide +kernel⟩
theorem wX10_23 : zFw 7 23 false (.int) := ⟨RX10, TX10, 36, tyX10, rfl, tyX10_ok, nmX10, rfl, rfl, by decide +kernel⟩
theorem wX10_24 : zFw 7 24 false (.int) := ⟨RX10, TX10, 36, tyX10, rfl, tyX10_ok, nmX10, rfl, rfl, by decide +kernel⟩
theorem wX10_25 : zFw 7 25 false (.int) := ⟨RX10, TX10, 36, tyX10, rfl, tyX10_ok, nmX10, rfl, rfl, by decide +kernel⟩
theorem wX10_26 : zFw 7 26 false (.int) := ⟨RX10, TX10, 36, tyX10, rfl, tyX10_ok, nmX10, rfl, rfl, by decide +kernel⟩
theorem wX10_27 : zFw 7 27 false (.int) := ⟨RX10, TX10, 36, tyX10, rfl, tyX10_ok, nmX10, rfl, rfl, by decide +kernel⟩
theorem wX10_28 : zFw 7 28 true (.array .int) := ⟨RX10, TX10, 36, tyX10, rfl, tyX10_ok, nmX10, rfl, rfl, by decide +kernel⟩
theorem wX10_29 : zFw 7 29 false (.int) := ⟨RX10, TX10, 36, tyX10, rfl, tyX10_ok, nmX10, rfl, rfl, by decide +kernel⟩
theorem wX10_30 : zFw 7 30 true (.array .int) := ⟨RX10, TX10, 36, tyX10, rfl, tyX10_ok, nmX10, rfl, rfl, by decide +kernel⟩
theorem wX10_31 : zFw 7 31 true (.array .int) := ⟨RX10, TX10, 36, tyX10, rfl, tyX10_ok, nmX10, rfl, rfl, by decide +kernel⟩
theorem wX10_32 : zFw 7 32 true (.array .int) := ⟨RX10, TX10, 36, tyX10, rfl, tyX10_ok, nmX10, rfl, rfl, by decide +kernel⟩
theorem wX10_33 : zFw 7 33 true (.array .int) := ⟨RX10, TX10, 36, tyX10, rfl, tyX10_ok, nmX10, rfl, rfl, by decide +kernel⟩
theorem wX10_34 : zFw 7 34 true (.array .int) := ⟨RX10, TX10, 36, tyX10, rfl, tyX10_ok, nmX10, rfl, rfl, by decide +kernel⟩
theorem wX10_35 : zFw 7 35 false (.int) := ⟨RX10, TX10, 36, tyX10, rfl, tyX10_ok, nmX10, rfl, rfl, by decide +kernel⟩
theorem kL_15 : zCi RL 15 mX9_init 0 := ⟨zT_mk (zm_1 (List.mem_of_getElem? (i := 23) rfl)) rfl, zT_mk (zm_1 (List.mem_of_getElem? (i := 25) rfl)) rfl, zT_mk (zm_1 (List.mem_of_getElem? (i := 24) rfl)) rfl, zT_mk (zm_1 (List.mem_of_getElem? (i := 1) rfl)) rfl, rfl, rfl, ⟨by decide, by decide, by decide +kernel⟩, by decide⟩
theorem kX9_18 : zCi RX9 18 mX3_init 0 := ⟨zT_mk (zm_1 (List.mem_of_getElem? (i := 31) rfl)) rfl, zT_mk (zm_1 (List.mem_of_getElem? (i := 33) rfl)) rfl, zT_mk (zm_1 (List.mem_of_getElem? (i := 32) rfl)) rfl, zT_mk (zm_1 (List.mem_of_getElem? (i := 2) rfl)) rfl, rfl, rfl, ⟨by decide, by decide, by decide +kernel⟩, by decide⟩
theorem kX3_11 : zCi RX3 11 mX8_init 0 := ⟨zT_mk (zm_1 (List.mem_of_getElem? (i := 37) rfl)) rfl, zT_mk (zm_1 (List.mem_of_getElem? (i := 39) rfl)) rfl, zT_mk (zm_1 (List.mem_of_getElem? (i := 38) rfl)) rfl, zT_mk (zm_1 (List.mem_of_getElem? (i := 3) rfl)) rfl, rfl, rfl, ⟨by decide, by decide, by decide +kernel⟩, by decide⟩
theorem kX8_17 : zCi RX8 17 mX6_init 2 := ⟨zT_mk (zm_1 (List.mem_of_getElem? (i := 43) rfl)) rfl, zT_mk (zm_1 (List.mem_of_getElem? (i := 45) rfl)) rfl, zT_mk (zm_1 (List.mem_of_getElem? (i := 44) rfl)) rfl, zT_mk (zm_1 (List.mem_of_getElem? (i := 4) rfl)) rfl, rfl, rfl, ⟨by decide, by decide, by decide +kernel⟩, by decide⟩
theorem kX3_20 : zCi RX3 20 mX0_init 0 := ⟨zT_mk (zm_1 (List.mem_of_getElem? (i := 88) rfl)) rfl, zT_mk (zm_1 (List.mem_of_getElem? (i := 90) rfl)) rfl, zT_mk (zm_1 (List.mem_of_getElem? (i := 89) rfl)) rfl, zT_mk (zm_1 (List.mem_of_getElem? (i := 5) rfl)) rfl, rfl, rfl, ⟨by decide, by decide, by decide +kernel⟩, by decide⟩
theorem kX0_11 : zCi RX0 11 mX6_init 2 := ⟨zT_mk (zm_1 (List.mem_of_getElem? (i := 93) rfl)) rfl, zT_mk (zm_1 (List.mem_of_getElem? (i := 45) rfl)) rfl, zT_mk (zm_1 (List.mem_of_getElem? (i := 44) rfl)) rfl, zT_mk (zm_1 (List.mem_of_getElem? (i := 4) rfl)) rfl, rfl, rfl, ⟨by decide, by decide, by decide +kernel⟩, by decide⟩
theorem kX9_25 : zCi RX9 25 mX4_init 0 := ⟨zT_mk (zm_1 (List.mem_of_getElem? (i := 169) rfl)) rfl, zT_mk (zm_1 (List.mem_of_getElem? (i := 171) rfl)) rfl, zT_mk (zm_1 (List.mem_of_getElem? (i := 170) rfl)) rfl, zT_mk (zm_1 (List.mem_of_getElem? (i := 6) rfl)) rfl, rfl, rfl, ⟨by decide, by decide, by decide +kernel⟩, by decide⟩
theorem kX9_32 : zCi RX9 32 mX7_init 0 := ⟨zT_mk (zm_1 (List.mem_of_getElem? (i := 179) rfl)) rfl, zT_mk (zm_1 (List.mem_of_getElem? (i := 181) rfl)) rfl, zT_mk (zm_1 (List.mem_of_getElem? (i := 180) rfl)) rfl, zT_mk (zm_1 (List.mem_of_getElem? (i := 7) rfl)) rfl, rfl, rfl, ⟨by decide, by decide, by decide +kernel⟩, by decide⟩
theorem kL_19 : zCv RL 19 mX9_feed 5 := ⟨zT_mk (zm_1 (List.mem_of_getElem? (i := 215) rfl)) rfl, zT_mk (zm_1 (List.mem_of_getElem? (i := 218) rfl)) rfl, zT_mk (zm_1 (List.mem_of_getElem? (i := 216) rfl)) rfl, zT_mk (zm_1 (List.mem_of_getElem? (i := 217) rfl)) rfl, zT_mk (zm_1 (List.mem_of_getElem? (i := 1) rfl)) rfl, ⟨by decide, by decide, by decide +kernel⟩, by decide⟩
theorem kX9_37 : zCv RX9 37 mX9_letWait 2 := ⟨zT_mk (zm_1 (List.mem_of_getElem? (i := 219) rfl)) rfl, zT_mk (zm_1 (List.mem_of_getElem? (i := 222) rfl)) rfl, zT_mk (zm_1 (List.mem_of_getElem? (i := 221) rfl)) rfl, zT_mk (zm_p1 (List.mem_of_getElem? (i := 0) rfl)) rfl, zT_mk (zm_1 (List.mem_of_getElem? (i := 1) rfl)) rfl, ⟨by decide, by decide, by decide +kernel⟩, by decide⟩
theorem kL_24 : zCv RL 24 mX9_end 1 := ⟨zT_mk (zm_1 (List.mem_of_getElem? (i := 223) rfl)) rfl, zT_mk (zm_1 (List.mem_of_getElem? (i := 226) rfl)) rfl, zT_mk (zm_1 (List.mem_of_getElem? (i := 224) rfl)) rfl, zT_mk (zm_1 (List.mem_of_getElem? (i := 225) rfl)) rfl, zT_mk (zm_1 (List.mem_of_getElem? (i := 1) rfl)) rfl, ⟨by decide, by decide, by decide +kernel⟩, by decide⟩
theorem kX9_51 : zCv RX9 51 mX8_addByte 1 := ⟨zT_mk (zm_1 (List.mem_of_getElem? (i := 227) rfl)) rfl, zT_mk (zm_1 (List.mem_of_getElem? (i := 230) rfl)) rfl, zT_mk (zm_1 (List.mem_of_getElem? (i := 228) rfl)) rfl, zT_mk (zm_1 (List.mem_of_getElem? (i := 229) rfl)) rfl, zT_mk (zm_1 (List.mem_of_getElem? (i := 3) rfl)) rfl, ⟨by decide, by decide, by decide +kernel⟩, by decide⟩
theorem kL_38 : zCv RL 38 mX9_fault 1 := ⟨zT_mk (zm_1 (List.mem_of_getElem? (i := 231) rfl)) rfl, zT_mk (zm_1 (List.mem_of_getElem? (i := 234) rfl)) rfl, zT_mk (zm_1 (List.mem_of_getElem? (i := 232) rfl)) rfl, zT_mk (zm_1 (List.mem_of_getElem? (i := 233) rfl)) rfl, zT_mk (zm_1 (List.mem_of_getElem? (i := 1) rfl)) rfl, ⟨by decide, by decide, by decide +kernel⟩, by decide⟩
theorem kL_42 : zCv RL 42 mX9_count 1 := ⟨zT_mk (zm_1 (List.mem_of_getElem? (i := 235) rfl)) rfl, zT_mk (zm_1 (List.mem_of_getElem? (i := 238) rfl)) rfl, zT_mk (zm_1 (List.mem_of_getElem? (i := 236) rfl)) rfl, zT_mk (zm_1 (List.mem_of_getElem? (i := 237) rfl)) rfl, zT_mk (zm_1 (List.mem_of_getElem? (i := 1) rfl)) rfl, ⟨by decide, by decide, by decide +kernel⟩, by decide⟩
theorem kL_46 : zCv RL 46 mX9_statement 2 := ⟨zT_mk (zm_1 (List.mem_of_getElem? (i := 239) rfl)) rfl, zT_mk (zm_2 (List.mem_of_getElem? (i := 2) rfl)) rfl, zT_mk (zm_2 (List.mem_of_getElem? (i := 0) rfl)) rfl, zT_mk (zm_2 (List.mem_of_getElem? (i := 1) rfl)) rfl, zT_mk (zm_1 (List.mem_of_getElem? (i := 1) rfl)) rfl, ⟨by decide, by decide, by decide +kernel⟩, by decide⟩
theorem kX9_102 : zCv RX9 102 mX6_cell 3 := ⟨zT_mk (zm_2 (List.mem_of_getElem? (i := 3) rfl)) rfl, zT_mk (zm_2 (List.mem_of_getElem? (i := 6) rfl)) rfl, zT_mk (zm_2 (List.mem_of_getElem? (i := 4) rfl)) rfl, zT_mk (zm_2 (List.mem_of_getElem? (i := 5) rfl)) rfl, zT_mk (zm_1 (List.mem_of_getElem? (i := 4) rfl)) rfl, ⟨by decide, by decide, by decide +kernel⟩, by decide⟩
theorem kL_51 : zCv RL 51 mX9_operand 2 := ⟨zT_mk (zm_2 (List.mem_of_getElem? (i := 7) rfl)) rfl, zT_mk (zm_2 (List.mem_of_getElem? (i := 10) rfl)) rfl, zT_mk (zm_2 (List.mem_of_getElem? (i := 8) rfl)) rfl, zT_mk (zm_2 (List.mem_of_getElem? (i := 9) rfl)) rfl, zT_mk (zm_1 (List.mem_of_getElem? (i := 1) rfl)) rfl, ⟨by decide, by decide, by decide +kernel⟩, by decide⟩
theorem kL_55 : zCv RL 55 mX9_constant 1 := ⟨zT_mk (zm_2 (List.mem_of_getElem? (i := 11) rfl)) rfl, zT_mk (zm_2 (List.mem_of_getElem? (i := 14) rfl)) rfl, zT_mk (zm_2 (List.mem_of_getElem? (i := 12) rfl)) rfl, zT_mk (zm_2 (List.mem_of_getElem? (i := 13) rfl)) rfl, zT_mk (zm_1 (List.mem_of_getElem? (i := 1) rfl)) rfl, ⟨by decide, by decide, by decide +kernel⟩, by decide⟩
theorem kX9_106 : zCv RX9 106 mX4_workOut 2 := ⟨zT_mk (zm_2 (List.mem_of_getElem? (i := 15) rfl)) rfl, zT_mk (zm_2 (List.mem_of_getElem? (i := 18) rfl)) rfl, zT_mk (zm_2 (List.mem_of_getElem? (i := 16) rfl)) rfl, zT_mk (zm_2 (List.mem_of_getElem? (i := 17) rfl)) rfl, zT_mk (zm_1 (List.mem_of_getElem? (i := 6) rfl)) rfl, ⟨by decide, by decide, by decide +kernel⟩, by decide⟩
theorem kX4_21 : zCv RX4 21 mX6_cell 3 := ⟨zT_mk (zm_2 (List.mem_of_getElem? (i := 19) rfl)) rfl, zT_mk (zm_2 (List.mem_of_getElem? (i := 6) rfl)) rfl, zT_mk (zm_2 (List.mem_of_getElem? (i := 4) rfl)) rfl, zT_mk (zm_2 (List.mem_of_getElem? (i := 5) rfl)) rfl, zT_mk (zm_1 (List.mem_of_getElem? (i := 4) rfl)) rfl, ⟨by decide, by decide, by decide +kernel⟩, by decide⟩
theorem kX4_32 : zCs RX4 32 mX1_isAhead 1 := ⟨zT_mk (zm_2 (List.mem_of_getElem? (i := 20) rfl)) rfl, zT_mk (zm_2 (List.mem_of_getElem? (i := 22) rfl)) rfl, zT_mk (zm_2 (List.mem_of_getElem? (i := 21) rfl)) rfl, zT_mk (zm_1 (List.mem_of_getElem? (i := 20) rfl)) rfl, ⟨by decide, by decide, by decide +kernel⟩, by decide⟩
theorem kX4_36 : zCs RX4 36 mX1_isTwoSided 1 := ⟨zT_mk (zm_2 (List.mem_of_getElem? (i := 23) rfl)) rfl, zT_mk (zm_2 (List.mem_of_getElem? (i := 25) rfl)) rfl, zT_mk (zm_2 (List.mem_of_getElem? (i := 24) rfl)) rfl, zT_mk (zm_1 (List.mem_of_getElem? (i := 20) rfl)) rfl, ⟨by decide, by decide, by decide +kernel⟩, by decide⟩
theorem kX4_39 : zCs RX4 39 mX4_join 3 := ⟨zT_mk (zm_2 (List.mem_of_getElem? (i := 26) rfl)) rfl, zT_mk (zm_2 (List.mem_of_getElem? (i := 28) rfl)) rfl, zT_mk (zm_2 (List.mem_of_getElem? (i := 27) rfl)) rfl, zT_mk (zm_1 (List.mem_of_getElem? (i := 6) rfl)) rfl, ⟨by decide, by decide, by decide +kernel⟩, by decide⟩
theorem kL_60 : zCv RL 60 mX9_item 2 := ⟨zT_mk (zm_2 (List.mem_of_getElem? (i := 30) rfl)) rfl, zT_mk (zm_2 (List.mem_of_getElem? (i := 33) rfl)) rfl, zT_mk (zm_2 (List.mem_of_getElem? (i := 31) rfl)) rfl, zT_mk (zm_2 (List.mem_of_getElem? (i := 32) rfl)) rfl, zT_mk (zm_1 (List.mem_of_getElem? (i := 1) rfl)) rfl, ⟨by decide, by decide, by decide +kernel⟩, by decide⟩
theorem kL_64 : zCv RL 64 mX9_name 2 := ⟨zT_mk (zm_2 (List.mem_of_getElem? (i := 34) rfl)) rfl, zT_mk (zm_2 (List.mem_of_getElem? (i := 37) rfl)) rfl, zT_mk (zm_2 (List.mem_of_getElem? (i := 35) rfl)) rfl, zT_mk (zm_2 (List.mem_of_getElem? (i := 36) rfl)) rfl, zT_mk (zm_1 (List.mem_of_getElem? (i := 1) rfl)) rfl, ⟨by decide, by decide, by decide +kernel⟩, by decide⟩
theorem kX9_110 : zCv RX9 110 mX0_byteOfName 2 := ⟨zT_mk (zm_2 (List.mem_of_getElem? (i := 38) rfl)) rfl, zT_mk (zm_2 (List.mem_of_getElem? (i := 41) rfl)) rfl, zT_mk (zm_2 (List.mem_of_getElem? (i := 39) rfl)) rfl, zT_mk (zm_2 (List.mem_of_getElem? (i := 40) rfl)) rfl, zT_mk (zm_1 (List.mem_of_getElem? (i := 5) rfl)) rfl, ⟨by decide, by decide, by decide +kernel⟩, by decide⟩
theorem kX0_52 : zCv RX0 52 mX6_cell 3 := ⟨zT_mk (zm_2 (List.mem_of_getElem? (i := 42) rfl)) rfl, zT_mk (zm_2 (List.mem_of_getElem? (i := 6) rfl)) rfl, zT_mk (zm_2 (List.mem_of_getElem? (i := 4) rfl)) rfl, zT_mk (zm_2 (List.mem_of_getElem? (i := 5) rfl)) rfl, zT_mk (zm_1 (List.mem_of_getElem? (i := 4) rfl)) rfl, ⟨by decide, by decide, by decide +kernel⟩, by decide⟩
theorem kX0_56 : zCv RX0 56 mX0_byteBehind 3 := ⟨zT_mk (zm_2 (List.mem_of_getElem? (i := 43) rfl)) rfl, zT_mk (zm_2 (List.mem_of_getElem? (i := 46) rfl)) rfl, zT_mk (zm_2 (List.mem_of_getElem? (i := 45) rfl)) rfl, zT_mk (zm_p1 (List.mem_of_getElem? (i := 1) rfl)) rfl, zT_mk (zm_1 (List.mem_of_getElem? (i := 5) rfl)) rfl, ⟨by decide, by decide, by decide +kernel⟩, by decide⟩
theorem kL_68 : zCv RL 68 mX9_string 2 := ⟨zT_mk (zm_2 (List.mem_of_getElem? (i := 47) rfl)) rfl, zT_mk (zm_2 (List.mem_of_getElem? (i := 50) rfl)) rfl, zT_mk (zm_2 (List.mem_of_getElem? (i := 48) rfl)) rfl, zT_mk (zm_2 (List.mem_of_getElem? (i := 49) rfl)) rfl, zT_mk (zm_1 (List.mem_of_getElem? (i := 1) rfl)) rfl, ⟨by decide, by decide, by decide +kernel⟩, by decide⟩
theorem kX9_114 : zCv RX9 114 mX0_byteOfString 2 := ⟨zT_mk (zm_2 (List.mem_of_getElem? (i := 51) rfl)) rfl, zT_mk (zm_2 (List.mem_of_getElem? (i := 54) rfl)) rfl, zT_mk (zm_2 (List.mem_of_getElem? (i := 52) rfl)) rfl, zT_mk (zm_2 (List.mem_of_getElem? (i := 53) rfl)) rfl, zT_mk (zm_1 (List.mem_of_getElem? (i := 5) rfl)) rfl, ⟨by decide, by decide, by decide +kernel⟩, by decide⟩
theorem kL_74 : zCv RL 74 mX9_find 2 := ⟨zT_mk (zm_2 (List.mem_of_getElem? (i := 55) rfl)) rfl, zT_mk (zm_2 (List.mem_of_getElem? (i := 58) rfl)) rfl, zT_mk (zm_2 (List.mem_of_getElem? (i := 56) rfl)) rfl, zT_mk (zm_2 (List.mem_of_getElem? (i := 57) rfl)) rfl, zT_mk (zm_1 (List.mem_of_getElem? (i := 1) rfl)) rfl, ⟨by decide, by decide, by decide +kernel⟩, by decide⟩
theorem kX9_117 : zCv RX9 117 mX0_findName 3 := ⟨zT_mk (zm_2 (List.mem_of_getElem? (i := 59) rfl)) rfl, zT_mk (zm_2 (List.mem_of_getElem? (i := 62) rfl)) rfl, zT_mk (zm_2 (List.mem_of_getElem? (i := 60) rfl)) rfl, zT_mk (zm_2 (List.mem_of_getElem? (i := 61) rfl)) rfl, zT_mk (zm_1 (List.mem_of_getElem? (i := 5) rfl)) rfl, ⟨by decide, by decide, by decide +kernel⟩, by decide⟩
theorem kL_79 : zCv RL 79 mX9_tell 1 := ⟨zT_mk (zm_2 (List.mem_of_getElem? (i := 63) rfl)) rfl, zT_mk (zm_2 (List.mem_of_getElem? (i := 66) rfl)) rfl, zT_mk (zm_2 (List.mem_of_getElem? (i := 64) rfl)) rfl, zT_mk (zm_2 (List.mem_of_getElem? (i := 65) rfl)) rfl, zT_mk (zm_1 (List.mem_of_getElem? (i := 1) rfl)) rfl, ⟨by decide, by decide, by decide +kernel⟩, by decide⟩
theorem kX9_121 : zCv RX9 121 mX7_write 2 := ⟨zT_mk (zm_2 (List.mem_of_getElem? (i := 67) rfl)) rfl, zT_mk (zm_2 (List.mem_of_getElem? (i := 70) rfl)) rfl, zT_mk (zm_2 (List.mem_of_getElem? (i := 68) rfl)) rfl, zT_mk (zm_2 (List.mem_of_getElem? (i := 69) rfl)) rfl, zT_mk (zm_1 (List.mem_of_getElem? (i := 7) rfl)) rfl, ⟨by decide, by decide, by decide +kernel⟩, by decide⟩
theorem kX7_24 : zCv RX7 24 mX6_cell 3 := ⟨zT_mk (zm_2 (List.mem_of_getElem? (i := 71) rfl)) rfl, zT_mk (zm_2 (List.mem_of_getElem? (i := 6) rfl)) rfl, zT_mk (zm_2 (List.mem_of_getElem? (i := 4) rfl)) rfl, zT_mk (zm_2 (List.mem_of_getElem? (i := 5) rfl)) rfl, zT_mk (zm_1 (List.mem_of_getElem? (i := 4) rfl)) rfl, ⟨by decide, by decide, by decide +kernel⟩, by decide⟩
theorem kX7_34 : zCv RX7 34 mX7_putByte 1 := ⟨zT_mk (zm_2 (List.mem_of_getElem? (i := 72) rfl)) rfl, zT_mk (zm_2 (List.mem_of_getElem? (i := 75) rfl)) rfl, zT_mk (zm_2 (List.mem_of_getElem? (i := 74) rfl)) rfl, zT_mk (zm_p1 (List.mem_of_getElem? (i := 2) rfl)) rfl, zT_mk (zm_1 (List.mem_of_getElem? (i := 7) rfl)) rfl, ⟨by decide, by decide, by decide +kernel⟩, by decide⟩
theorem kX7_38 : zCv RX7 38 mX7_putName 2 := ⟨zT_mk (zm_2 (List.mem_of_getElem? (i := 76) rfl)) rfl, zT_mk (zm_2 (List.mem_of_getElem? (i := 79) rfl)) rfl, zT_mk (zm_2 (List.mem_of_getElem? (i := 78) rfl)) rfl, zT_mk (zm_p1 (List.mem_of_getElem? (i := 3) rfl)) rfl, zT_mk (zm_1 (List.mem_of_getElem? (i := 7) rfl)) rfl, ⟨by decide, by decide, by decide +kernel⟩, by decide⟩
theorem kX7_46 : zCv RX7 46 mX7_putText 1 := ⟨zT_mk (zm_2 (List.mem_of_getElem? (i := 82) rfl)) rfl, zT_mk (zm_2 (List.mem_of_getElem? (i := 85) rfl)) rfl, zT_mk (zm_2 (List.mem_of_getElem? (i := 84) rfl)) rfl, zT_mk (zm_p1 (List.mem_of_getElem? (i := 4) rfl)) rfl, zT_mk (zm_1 (List.mem_of_getElem? (i := 7) rfl)) rfl, ⟨by decide, by decide, by decide +kernel⟩, by decide⟩
theorem kX7_53 : zCv RX7 53 mJ0_length_8abf5 0 := ⟨zT_mk (zm_2 (List.mem_of_getElem? (i := 86) rfl)) rfl, zT_mk (zm_2 (List.mem_of_getElem? (i := 89) rfl)) rfl, zT_mk (zm_2 (List.mem_of_getElem? (i := 87) rfl)) rfl, zT_mk (zm_2 (List.mem_of_getElem? (i := 88) rfl)) rfl, zT_mk (zm_1 (List.mem_of_getElem? (i := 16) rfl)) rfl, ⟨by decide, by decide, by decide +kernel⟩, by decide⟩
theorem kJ0_335 : zCv RJ0 335 mJ0_coder_7d493 0 := ⟨zT_mk (zm_2 (List.mem_of_getElem? (i := 90) rfl)) rfl, zT_mk (zm_2 (List.mem_of_getElem? (i := 93) rfl)) rfl, zT_mk (zm_2 (List.mem_of_getElem? (i := 91) rfl)) rfl, zT_mk (zm_2 (List.mem_of_getElem? (i := 92) rfl)) rfl, zT_mk (zm_1 (List.mem_of_getElem? (i := 16) rfl)) rfl, ⟨by decide, by decide, by decide +kernel⟩, by decide⟩
theorem kX7_59 : zCv RX7 59 mJ0_charAt_5068e 1 := ⟨zT_mk (zm_2 (List.mem_of_getElem? (i := 96) rfl)) rfl, zT_mk (zm_2 (List.mem_of_getElem? (i := 99) rfl)) rfl, zT_mk (zm_2 (List.mem_of_getElem? (i := 97) rfl)) rfl, zT_mk (zm_2 (List.mem_of_getElem? (i := 98) rfl)) rfl, zT_mk (zm_1 (List.mem_of_getElem? (i := 16) rfl)) rfl, ⟨by decide, by decide, by decide +kernel⟩, by decide⟩
theorem kJ0_492 : zCv RJ0 492 mJ0_isLatin1_aae02 0 := ⟨zT_mk (zm_2 (List.mem_of_getElem? (i := 100) rfl)) rfl, zT_mk (zm_2 (List.mem_of_getElem? (i := 103) rfl)) rfl, zT_mk (zm_2 (List.mem_of_getElem? (i := 101) rfl)) rfl, zT_mk (zm_2 (List.mem_of_getElem? (i := 102) rfl)) rfl, zT_mk (zm_1 (List.mem_of_getElem? (i := 16) rfl)) rfl, ⟨by decide, by decide, by decide +kernel⟩, by decide⟩
theorem kJ0_495 : zCs RJ0 495 mJ1_charAt_3b067 2 := ⟨zT_mk (zm_2 (List.mem_of_getElem? (i := 104) rfl)) rfl, zT_mk (zm_2 (List.mem_of_getElem? (i := 106) rfl)) rfl, zT_mk (zm_2 (List.mem_of_getElem? (i := 105) rfl)) rfl, zT_mk (zm_1 (List.mem_of_getElem? (i := 17) rfl)) rfl, ⟨by decide, by decide, by decide +kernel⟩, by decide⟩
theorem kJ1_9 : zCs RJ1 9 mJ0_checkIndex_df160 2 := ⟨zT_mk (zm_2 (List.mem_of_getElem? (i := 107) rfl)) rfl, zT_mk (zm_2 (List.mem_of_getElem? (i := 109) rfl)) rfl, zT_mk (zm_2 (List.mem_of_getElem? (i := 108) rfl)) rfl, zT_mk (zm_1 (List.mem_of_getElem? (i := 16) rfl)) rfl, ⟨by decide, by decide, by decide +kernel⟩, by decide⟩
theorem kJ0_1059 : zCs RJ0 1059 mJ3_checkIndex_8e157 3 := ⟨zT_mk (zm_2 (List.mem_of_getElem? (i := 112) rfl)) rfl, zT_mk (zm_2 (List.mem_of_getElem? (i := 114) rfl)) rfl, zT_mk (zm_2 (List.mem_of_getElem? (i := 113) rfl)) rfl, zT_mk (zm_1 (List.mem_of_getElem? (i := 18) rfl)) rfl, ⟨by decide, by decide, by decide +kernel⟩, by decide⟩
theorem kJ0_498 : zCs RJ0 498 mJ2_charAt_3b067 2 := ⟨zT_mk (zm_2 (List.mem_of_getElem? (i := 115) rfl)) rfl, zT_mk (zm_2 (List.mem_of_getElem? (i := 117) rfl)) rfl, zT_mk (zm_2 (List.mem_of_getElem? (i := 116) rfl)) rfl, zT_mk (zm_1 (List.mem_of_getElem? (i := 19) rfl)) rfl, ⟨by decide, by decide, by decide +kernel⟩, by decide⟩
theorem kJ2_67 : zCs RJ2 67 mJ2_checkIndex_2214a 2 := ⟨zT_mk (zm_2 (List.mem_of_getElem? (i := 118) rfl)) rfl, zT_mk (zm_2 (List.mem_of_getElem? (i := 120) rfl)) rfl, zT_mk (zm_2 (List.mem_of_getElem? (i := 119) rfl)) rfl, zT_mk (zm_1 (List.mem_of_getElem? (i := 19) rfl)) rfl, ⟨by decide, by decide, by decide +kernel⟩, by decide⟩
theorem kJ2_48 : zCs RJ2 48 mJ2_length_9d52b 1 := ⟨zT_mk (zm_2 (List.mem_of_getElem? (i := 121) rfl)) rfl, zT_mk (zm_2 (List.mem_of_getElem? (i := 123) rfl)) rfl, zT_mk (zm_2 (List.mem_of_getElem? (i := 122) rfl)) rfl, zT_mk (zm_1 (List.mem_of_getElem? (i := 19) rfl)) rfl, ⟨by decide, by decide, by decide +kernel⟩, by decide⟩
theorem kJ2_414 : zCs RJ2 414 mJ0_checkIndex_df160 2 := ⟨zT_mk (zm_2 (List.mem_of_getElem? (i := 124) rfl)) rfl, zT_mk (zm_2 (List.mem_of_getElem? (i := 109) rfl)) rfl, zT_mk (zm_2 (List.mem_of_getElem? (i := 108) rfl)) rfl, zT_mk (zm_1 (List.mem_of_getElem? (i := 16) rfl)) rfl, ⟨by decide, by decide, by decide +kernel⟩, by decide⟩
theorem kJ2_71 : zCs RJ2 71 mJ2_getChar_3b067 2 := ⟨zT_mk (zm_2 (List.mem_of_getElem? (i := 125) rfl)) rfl, zT_mk (zm_2 (List.mem_of_getElem? (i := 127) rfl)) rfl, zT_mk (zm_2 (List.mem_of_getElem? (i := 126) rfl)) rfl, zT_mk (zm_1 (List.mem_of_getElem? (i := 19) rfl)) rfl, ⟨by decide, by decide, by decide +kernel⟩, by decide⟩
theorem kX7_50 : zCv RX7 50 mX7_putOperand 2 := ⟨zT_mk (zm_2 (List.mem_of_getElem? (i := 134) rfl)) rfl, zT_mk (zm_2 (List.mem_of_getElem? (i := 137) rfl)) rfl, zT_mk (zm_2 (List.mem_of_getElem? (i := 136) rfl)) rfl, zT_mk (zm_p1 (List.mem_of_getElem? (i := 5) rfl)) rfl, zT_mk (zm_1 (List.mem_of_getElem? (i := 7) rfl)) rfl, ⟨by decide, by decide, by decide +kernel⟩, by decide⟩
theorem kX7_76 : zCv RX7 76 mX7_putString 2 := ⟨zT_mk (zm_2 (List.mem_of_getElem? (i := 138) rfl)) rfl, zT_mk (zm_2 (List.mem_of_getElem? (i := 141) rfl)) rfl, zT_mk (zm_2 (List.mem_of_getElem? (i := 140) rfl)) rfl, zT_mk (zm_p1 (List.mem_of_getElem? (i := 6) rfl)) rfl, zT_mk (zm_1 (List.mem_of_getElem? (i := 7) rfl)) rfl, ⟨by decide, by decide, by decide +kernel⟩, by decide⟩
theorem kX7_88 : zCv RX7 88 mX0_byteOfString 2 := ⟨zT_mk (zm_2 (List.mem_of_getElem? (i := 142) rfl)) rfl, zT_mk (zm_2 (List.mem_of_getElem? (i := 54) rfl)) rfl, zT_mk (zm_2 (List.mem_of_getElem? (i := 52) rfl)) rfl, zT_mk (zm_2 (List.mem_of_getElem? (i := 53) rfl)) rfl, zT_mk (zm_1 (List.mem_of_getElem? (i := 5) rfl)) rfl, ⟨by decide, by decide, by decide +kernel⟩, by decide⟩
theorem kX7_92 : zCv RX7 92 mX7_putStringByte 1 := ⟨zT_mk (zm_2 (List.mem_of_getElem? (i := 143) rfl)) rfl, zT_mk (zm_2 (List.mem_of_getElem? (i := 146) rfl)) rfl, zT_mk (zm_2 (List.mem_of_getElem? (i := 145) rfl)) rfl, zT_mk (zm_p1 (List.mem_of_getElem? (i := 7) rfl)) rfl, zT_mk (zm_1 (List.mem_of_getElem? (i := 7) rfl)) rfl, ⟨by decide, by decide, by decide +kernel⟩, by decide⟩
theorem kX7_79 : zCv RX7 79 mX7_putRegister 2 := ⟨zT_mk (zm_2 (List.mem_of_getElem? (i := 152) rfl)) rfl, zT_mk (zm_2 (List.mem_of_getElem? (i := 155) rfl)) rfl, zT_mk (zm_2 (List.mem_of_getElem? (i := 154) rfl)) rfl, zT_mk (zm_p1 (List.mem_of_getElem? (i := 8) rfl)) rfl, zT_mk (zm_1 (List.mem_of_getElem? (i := 7) rfl)) rfl, ⟨by decide, by decide, by decide +kernel⟩, by decide⟩
theorem kX7_85 : zCv RX7 85 mX7_putNumber 1 := ⟨zT_mk (zm_2 (List.mem_of_getElem? (i := 156) rfl)) rfl, zT_mk (zm_2 (List.mem_of_getElem? (i := 159) rfl)) rfl, zT_mk (zm_2 (List.mem_of_getElem? (i := 158) rfl)) rfl, zT_mk (zm_p1 (List.mem_of_getElem? (i := 9) rfl)) rfl, zT_mk (zm_1 (List.mem_of_getElem? (i := 7) rfl)) rfl, ⟨by decide, by decide, by decide +kernel⟩, by decide⟩
theorem kX7_82 : zCv RX7 82 mX7_putExpression 2 := ⟨zT_mk (zm_2 (List.mem_of_getElem? (i := 162) rfl)) rfl, zT_mk (zm_2 (List.mem_of_getElem? (i := 165) rfl)) rfl, zT_mk (zm_2 (List.mem_of_getElem? (i := 164) rfl)) rfl, zT_mk (zm_p1 (List.mem_of_getElem? (i := 10) rfl)) rfl, zT_mk (zm_1 (List.mem_of_getElem? (i := 7) rfl)) rfl, ⟨by decide, by decide, by decide +kernel⟩, by decide⟩
theorem kX7_108 : zCs RX7 108 mJ9_min_7cf53 2 := ⟨zT_mk (zm_2 (List.mem_of_getElem? (i := 166) rfl)) rfl, zT_mk (zm_2 (List.mem_of_getElem? (i := 168) rfl)) rfl, zT_mk (zm_2 (List.mem_of_getElem? (i := 167) rfl)) rfl, zT_mk (zm_1 (List.mem_of_getElem? (i := 9) rfl)) rfl, ⟨by decide, by decide, by decide +kernel⟩, by decide⟩
theorem kX7_116 : zCv RX7 116 mX7_findBegins 1 := ⟨zT_mk (zm_2 (List.mem_of_getElem? (i := 169) rfl)) rfl, zT_mk (zm_2 (List.mem_of_getElem? (i := 172) rfl)) rfl, zT_mk (zm_2 (List.mem_of_getElem? (i := 171) rfl)) rfl, zT_mk (zm_p1 (List.mem_of_getElem? (i := 11) rfl)) rfl, zT_mk (zm_1 (List.mem_of_getElem? (i := 7) rfl)) rfl, ⟨by decide, by decide, by decide +kernel⟩, by decide⟩
theorem kX7_132 : zCv RX7 132 mX7_sortAt 2 := ⟨zT_mk (zm_2 (List.mem_of_getElem? (i := 173) rfl)) rfl, zT_mk (zm_2 (List.mem_of_getElem? (i := 176) rfl)) rfl, zT_mk (zm_2 (List.mem_of_getElem? (i := 175) rfl)) rfl, zT_mk (zm_p1 (List.mem_of_getElem? (i := 12) rfl)) rfl, zT_mk (zm_1 (List.mem_of_getElem? (i := 7) rfl)) rfl, ⟨by decide, by decide, by decide +kernel⟩, by decide⟩
theorem kX7_136 : zCs RX7 136 mX1_isTwoSided 1 := ⟨zT_mk (zm_2 (List.mem_of_getElem? (i := 177) rfl)) rfl, zT_mk (zm_2 (List.mem_of_getElem? (i := 25) rfl)) rfl, zT_mk (zm_2 (List.mem_of_getElem? (i := 24) rfl)) rfl, zT_mk (zm_1 (List.mem_of_getElem? (i := 20) rfl)) rfl, ⟨by decide, by decide, by decide +kernel⟩, by decide⟩
theorem kX7_140 : zCv RX7 140 mX7_beginOf 1 := ⟨zT_mk (zm_2 (List.mem_of_getElem? (i := 178) rfl)) rfl, zT_mk (zm_2 (List.mem_of_getElem? (i := 181) rfl)) rfl, zT_mk (zm_2 (List.mem_of_getElem? (i := 180) rfl)) rfl, zT_mk (zm_p1 (List.mem_of_getElem? (i := 13) rfl)) rfl, zT_mk (zm_1 (List.mem_of_getElem? (i := 7) rfl)) rfl, ⟨by decide, by decide, by decide +kernel⟩, by decide⟩
theorem kX7_144 : zCs RX7 144 mX1_isAhead 1 := ⟨zT_mk (zm_2 (List.mem_of_getElem? (i := 182) rfl)) rfl, zT_mk (zm_2 (List.mem_of_getElem? (i := 22) rfl)) rfl, zT_mk (zm_2 (List.mem_of_getElem? (i := 21) rfl)) rfl, zT_mk (zm_1 (List.mem_of_getElem? (i := 20) rfl)) rfl, ⟨by decide, by decide, by decide +kernel⟩, by decide⟩
theorem kX7_120 : zCs RX7 120 mX2_nameOf 1 := ⟨zT_mk (zm_2 (List.mem_of_getElem? (i := 183) rfl)) rfl, zT_mk (zm_2 (List.mem_of_getElem? (i := 185) rfl)) rfl, zT_mk (zm_2 (List.mem_of_getElem? (i := 184) rfl)) rfl, zT_mk (zm_1 (List.mem_of_getElem? (i := 15) rfl)) rfl, ⟨by decide, by decide, by decide +kernel⟩, by decide⟩
theorem kX7_128 : zCv RX7 128 mX7_putTree 4 := ⟨zT_mk (zm_2 (List.mem_of_getElem? (i := 190) rfl)) rfl, zT_mk (zm_2 (List.mem_of_getElem? (i := 193) rfl)) rfl, zT_mk (zm_2 (List.mem_of_getElem? (i := 192) rfl)) rfl, zT_mk (zm_p1 (List.mem_of_getElem? (i := 14) rfl)) rfl, zT_mk (zm_1 (List.mem_of_getElem? (i := 7) rfl)) rfl, ⟨by decide, by decide, by decide +kernel⟩, by decide⟩
theorem kX7_150 : zCs RX7 150 mX1_levelOf 1 := ⟨zT_mk (zm_2 (List.mem_of_getElem? (i := 194) rfl)) rfl, zT_mk (zm_2 (List.mem_of_getElem? (i := 196) rfl)) rfl, zT_mk (zm_2 (List.mem_of_getElem? (i := 195) rfl)) rfl, zT_mk (zm_1 (List.mem_of_getElem? (i := 20) rfl)) rfl, ⟨by decide, by decide, by decide +kernel⟩, by decide⟩
theorem kX7_153 : zCs RX7 153 mX1_signOf 1 := ⟨zT_mk (zm_2 (List.mem_of_getElem? (i := 199) rfl)) rfl, zT_mk (zm_2 (List.mem_of_getElem? (i := 201) rfl)) rfl, zT_mk (zm_2 (List.mem_of_getElem? (i := 200) rfl)) rfl, zT_mk (zm_1 (List.mem_of_getElem? (i := 20) rfl)) rfl, ⟨by decide, by decide, by decide +kernel⟩, by decide⟩
theorem kX7_156 : zCv RX7 156 mX7_putLeaf 3 := ⟨zT_mk (zm_2 (List.mem_of_getElem? (i := 213) rfl)) rfl, zT_mk (zm_2 (List.mem_of_getElem? (i := 216) rfl)) rfl, zT_mk (zm_2 (List.mem_of_getElem? (i := 215) rfl)) rfl, zT_mk (zm_p1 (List.mem_of_getElem? (i := 15) rfl)) rfl, zT_mk (zm_1 (List.mem_of_getElem? (i := 7) rfl)) rfl, ⟨by decide, by decide, by decide +kernel⟩, by decide⟩
theorem kL_83 : zCv RL 83 mX9_letter 1 := ⟨zT_mk (zm_2 (List.mem_of_getElem? (i := 218) rfl)) rfl, zT_mk (zm_2 (List.mem_of_getElem? (i := 221) rfl)) rfl, zT_mk (zm_2 (List.mem_of_getElem? (i := 219) rfl)) rfl, zT_mk (zm_2 (List.mem_of_getElem? (i := 220) rfl)) rfl, zT_mk (zm_1 (List.mem_of_getElem? (i := 1) rfl)) rfl, ⟨by decide, by decide, by decide +kernel⟩, by decide⟩
theorem kX9_125 : zCv RX9 125 mX7_byteOfOut 1 := ⟨zT_mk (zm_2 (List.mem_of_getElem? (i := 222) rfl)) rfl, zT_mk (zm_2 (List.mem_of_getElem? (i := 225) rfl)) rfl, zT_mk (zm_2 (List.mem_of_getElem? (i := 223) rfl)) rfl, zT_mk (zm_2 (List.mem_of_getElem? (i := 224) rfl)) rfl, zT_mk (zm_1 (List.mem_of_getElem? (i := 7) rfl)) rfl, ⟨by decide, by decide, by decide +kernel⟩, by decide⟩
theorem kL_7 : zCv RL 7 mX9_read 0 := ⟨zT_mk (zm_2 (List.mem_of_getElem? (i := 230) rfl)) rfl, zT_mk (zm_2 (List.mem_of_getElem? (i := 233) rfl)) rfl, zT_mk (zm_2 (List.mem_of_getElem? (i := 231) rfl)) rfl, zT_mk (zm_2 (List.mem_of_getElem? (i := 232) rfl)) rfl, zT_mk (zm_1 (List.mem_of_getElem? (i := 1) rfl)) rfl, ⟨by decide, by decide, by decide +kernel⟩, by decide⟩
theorem kX9_55 : zCv RX9 55 mX3_begin 0 := ⟨zT_mk (zm_2 (List.mem_of_getElem? (i := 234) rfl)) rfl, zT_mk (zm_2 (List.mem_of_getElem? (i := 237) rfl)) rfl, zT_mk (zm_2 (List.mem_of_getElem? (i := 235) rfl)) rfl, zT_mk (zm_2 (List.mem_of_getElem? (i := 236) rfl)) rfl, zT_mk (zm_1 (List.mem_of_getElem? (i := 2) rfl)) rfl, ⟨by decide, by decide, by decide +kernel⟩, by decide⟩
theorem kX3_35 : zCv RX3 35 mX0_clear 0 := ⟨zT_mk (zm_2 (List.mem_of_getElem? (i := 238) rfl)) rfl, zT_mk (zm_3 (List.mem_of_getElem? (i := 1) rfl)) rfl, zT_mk (zm_2 (List.mem_of_getElem? (i := 239) rfl)) rfl, zT_mk (zm_3 (List.mem_of_getElem? (i := 0) rfl)) rfl, zT_mk (zm_1 (List.mem_of_getElem? (i := 5) rfl)) rfl, ⟨by decide, by decide, by decide +kernel⟩, by decide⟩
theorem kX3_38 : zCv RX3 38 mX8_scan 0 := ⟨zT_mk (zm_3 (List.mem_of_getElem? (i := 2) rfl)) rfl, zT_mk (zm_3 (List.mem_of_getElem? (i := 5) rfl)) rfl, zT_mk (zm_3 (List.mem_of_getElem? (i := 3) rfl)) rfl, zT_mk (zm_3 (List.mem_of_getElem? (i := 4) rfl)) rfl, zT_mk (zm_1 (List.mem_of_getElem? (i := 3) rfl)) rfl, ⟨by decide, by decide, by decide +kernel⟩, by decide⟩
theorem kX8_40 : zCv RX8 40 mX8_scanOne 0 := ⟨zT_mk (zm_3 (List.mem_of_getElem? (i := 6) rfl)) rfl, zT_mk (zm_3 (List.mem_of_getElem? (i := 9) rfl)) rfl, zT_mk (zm_3 (List.mem_of_getElem? (i := 8) rfl)) rfl, zT_mk (zm_p2 (List.mem_of_getElem? (i := 0) rfl)) rfl, zT_mk (zm_1 (List.mem_of_getElem? (i := 3) rfl)) rfl, ⟨by decide, by decide, by decide +kernel⟩, by decide⟩
theorem kX8_54 : zCv RX8 54 mX8_byteAt 1 := ⟨zT_mk (zm_3 (List.mem_of_getElem? (i := 10) rfl)) rfl, zT_mk (zm_3 (List.mem_of_getElem? (i := 13) rfl)) rfl, zT_mk (zm_3 (List.mem_of_getElem? (i := 11) rfl)) rfl, zT_mk (zm_3 (List.mem_of_getElem? (i := 12) rfl)) rfl, zT_mk (zm_1 (List.mem_of_getElem? (i := 3) rfl)) rfl, ⟨by decide, by decide, by decide +kernel⟩, by decide⟩
theorem kX8_58 : zCv RX8 58 mX8_scanComment 0 := ⟨zT_mk (zm_3 (List.mem_of_getElem? (i := 14) rfl)) rfl, zT_mk (zm_3 (List.mem_of_getElem? (i := 17) rfl)) rfl, zT_mk (zm_3 (List.mem_of_getElem? (i := 16) rfl)) rfl, zT_mk (zm_p2 (List.mem_of_getElem? (i := 1) rfl)) rfl, zT_mk (zm_1 (List.mem_of_getElem? (i := 3) rfl)) rfl, ⟨by decide, by decide, by decide +kernel⟩, by decide⟩
theorem kX8_61 : zCs RX8 61 mX8_isDigit 1 := ⟨zT_mk (zm_3 (List.mem_of_getElem? (i := 18) rfl)) rfl, zT_mk (zm_3 (List.mem_of_getElem? (i := 20) rfl)) rfl, zT_mk (zm_3 (List.mem_of_getElem? (i := 19) rfl)) rfl, zT_mk (zm_1 (List.mem_of_getElem? (i := 3) rfl)) rfl, ⟨by decide, by decide, by decide +kernel⟩, by decide⟩
theorem kX8_65 : zCv RX8 65 mX8_scanNumber 0 := ⟨zT_mk (zm_3 (List.mem_of_getElem? (i := 21) rfl)) rfl, zT_mk (zm_3 (List.mem_of_getElem? (i := 24) rfl)) rfl, zT_mk (zm_3 (List.mem_of_getElem? (i := 23) rfl)) rfl, zT_mk (zm_p2 (List.mem_of_getElem? (i := 2) rfl)) rfl, zT_mk (zm_1 (List.mem_of_getElem? (i := 3) rfl)) rfl, ⟨by decide, by decide, by decide +kernel⟩, by decide⟩
theorem kX8_92 : zCv RX8 92 mX8_scanDigits 2 := ⟨zT_mk (zm_3 (List.mem_of_getElem? (i := 25) rfl)) rfl, zT_mk (zm_3 (List.mem_of_getElem? (i := 28) rfl)) rfl, zT_mk (zm_3 (List.mem_of_getElem? (i := 27) rfl)) rfl, zT_mk (zm_p2 (List.mem_of_getElem? (i := 3) rfl)) rfl, zT_mk (zm_1 (List.mem_of_getElem? (i := 3) rfl)) rfl, ⟨by decide, by decide, by decide +kernel⟩, by decide⟩
theorem kX8_96 : zCs RX8 96 mX8_digitOf 1 := ⟨zT_mk (zm_3 (List.mem_of_getElem? (i := 29) rfl)) rfl, zT_mk (zm_3 (List.mem_of_getElem? (i := 31) rfl)) rfl, zT_mk (zm_3 (List.mem_of_getElem? (i := 30) rfl)) rfl, zT_mk (zm_1 (List.mem_of_getElem? (i := 3) rfl)) rfl, ⟨by decide, by decide, by decide +kernel⟩, by decide⟩
theorem kX8_101 : zCs RX8 101 mJ9_min_f86c9 2 := ⟨zT_mk (zm_3 (List.mem_of_getElem? (i := 33) rfl)) rfl, zT_mk (zm_3 (List.mem_of_getElem? (i := 35) rfl)) rfl, zT_mk (zm_3 (List.mem_of_getElem? (i := 34) rfl)) rfl, zT_mk (zm_1 (List.mem_of_getElem? (i := 9) rfl)) rfl, ⟨by decide, by decide, by decide +kernel⟩, by decide⟩
theorem kX8_83 : zCv RX8 83 mX8_bad 1 := ⟨zT_mk (zm_3 (List.mem_of_getElem? (i := 36) rfl)) rfl, zT_mk (zm_3 (List.mem_of_getElem? (i := 39) rfl)) rfl, zT_mk (zm_3 (List.mem_of_getElem? (i := 38) rfl)) rfl, zT_mk (zm_p2 (List.mem_of_getElem? (i := 4) rfl)) rfl, zT_mk (zm_1 (List.mem_of_getElem? (i := 3) rfl)) rfl, ⟨by decide, by decide, by decide +kernel⟩, by decide⟩
theorem kX8_68 : zCs RX8 68 mX8_isNameByte 1 := ⟨zT_mk (zm_3 (List.mem_of_getElem? (i := 40) rfl)) rfl, zT_mk (zm_3 (List.mem_of_getElem? (i := 42) rfl)) rfl, zT_mk (zm_3 (List.mem_of_getElem? (i := 41) rfl)) rfl, zT_mk (zm_1 (List.mem_of_getElem? (i := 3) rfl)) rfl, ⟨by decide, by decide, by decide +kernel⟩, by decide⟩
theorem kX8_71 : zCv RX8 71 mX8_scanName 0 := ⟨zT_mk (zm_3 (List.mem_of_getElem? (i := 43) rfl)) rfl, zT_mk (zm_3 (List.mem_of_getElem? (i := 46) rfl)) rfl, zT_mk (zm_3 (List.mem_of_getElem? (i := 45) rfl)) rfl, zT_mk (zm_p2 (List.mem_of_getElem? (i := 5) rfl)) rfl, zT_mk (zm_1 (List.mem_of_getElem? (i := 3) rfl)) rfl, ⟨by decide, by decide, by decide +kernel⟩, by decide⟩
theorem kX8_86 : zCs RX8 86 mX5_numberOf 3 := ⟨zT_mk (zm_3 (List.mem_of_getElem? (i := 47) rfl)) rfl, zT_mk (zm_3 (List.mem_of_getElem? (i := 49) rfl)) rfl, zT_mk (zm_3 (List.mem_of_getElem? (i := 48) rfl)) rfl, zT_mk (zm_1 (List.mem_of_getElem? (i := 10) rfl)) rfl, ⟨by decide, by decide, by decide +kernel⟩, by decide⟩
theorem kX5_9 : zCs RX5 9 mX5_memberAt 3 := ⟨zT_mk (zm_3 (List.mem_of_getElem? (i := 50) rfl)) rfl, zT_mk (zm_3 (List.mem_of_getElem? (i := 52) rfl)) rfl, zT_mk (zm_3 (List.mem_of_getElem? (i := 51) rfl)) rfl, zT_mk (zm_1 (List.mem_of_getElem? (i := 10) rfl)) rfl, ⟨by decide, by decide, by decide +kernel⟩, by decide⟩
theorem kX5_19 : zCs RX5 19 mX8_isDigit 1 := ⟨zT_mk (zm_3 (List.mem_of_getElem? (i := 53) rfl)) rfl, zT_mk (zm_3 (List.mem_of_getElem? (i := 20) rfl)) rfl, zT_mk (zm_3 (List.mem_of_getElem? (i := 19) rfl)) rfl, zT_mk (zm_1 (List.mem_of_getElem? (i := 3) rfl)) rfl, ⟨by decide, by decide, by decide +kernel⟩, by decide⟩
theorem kX5_15 : zCs RX5 15 mX5_ofFamily 2 := ⟨zT_mk (zm_3 (List.mem_of_getElem? (i := 54) rfl)) rfl, zT_mk (zm_3 (List.mem_of_getElem? (i := 56) rfl)) rfl, zT_mk (zm_3 (List.mem_of_getElem? (i := 55) rfl)) rfl, zT_mk (zm_1 (List.mem_of_getElem? (i := 10) rfl)) rfl, ⟨by decide, by decide, by decide +kernel⟩, by decide⟩
theorem kX8_74 : zCv RX8 74 mX8_scanCharacter 0 := ⟨zT_mk (zm_3 (List.mem_of_getElem? (i := 57) rfl)) rfl, zT_mk (zm_3 (List.mem_of_getElem? (i := 60) rfl)) rfl, zT_mk (zm_3 (List.mem_of_getElem? (i := 59) rfl)) rfl, zT_mk (zm_p2 (List.mem_of_getElem? (i := 6) rfl)) rfl, zT_mk (zm_1 (List.mem_of_getElem? (i := 3) rfl)) rfl, ⟨by decide, by decide, by decide +kernel⟩, by decide⟩
theorem kX8_107 : zCv RX8 107 mX8_codeAt 2 := ⟨zT_mk (zm_3 (List.mem_of_getElem? (i := 61) rfl)) rfl, zT_mk (zm_3 (List.mem_of_getElem? (i := 64) rfl)) rfl, zT_mk (zm_3 (List.mem_of_getElem? (i := 62) rfl)) rfl, zT_mk (zm_3 (List.mem_of_getElem? (i := 63) rfl)) rfl, zT_mk (zm_1 (List.mem_of_getElem? (i := 3) rfl)) rfl, ⟨by decide, by decide, by decide +kernel⟩, by decide⟩
theorem kX8_110 : zCv RX8 110 mX8_widthAt 1 := ⟨zT_mk (zm_3 (List.mem_of_getElem? (i := 65) rfl)) rfl, zT_mk (zm_3 (List.mem_of_getElem? (i := 68) rfl)) rfl, zT_mk (zm_3 (List.mem_of_getElem? (i := 66) rfl)) rfl, zT_mk (zm_3 (List.mem_of_getElem? (i := 67) rfl)) rfl, zT_mk (zm_1 (List.mem_of_getElem? (i := 3) rfl)) rfl, ⟨by decide, by decide, by decide +kernel⟩, by decide⟩
theorem kX8_77 : zCv RX8 77 mX8_scanString 0 := ⟨zT_mk (zm_3 (List.mem_of_getElem? (i := 69) rfl)) rfl, zT_mk (zm_3 (List.mem_of_getElem? (i := 72) rfl)) rfl, zT_mk (zm_3 (List.mem_of_getElem? (i := 71) rfl)) rfl, zT_mk (zm_p2 (List.mem_of_getElem? (i := 7) rfl)) rfl, zT_mk (zm_1 (List.mem_of_getElem? (i := 3) rfl)) rfl, ⟨by decide, by decide, by decide +kernel⟩, by decide⟩
theorem kX8_80 : zCv RX8 80 mX8_scanSign 1 := ⟨zT_mk (zm_3 (List.mem_of_getElem? (i := 73) rfl)) rfl, zT_mk (zm_3 (List.mem_of_getElem? (i := 76) rfl)) rfl, zT_mk (zm_3 (List.mem_of_getElem? (i := 75) rfl)) rfl, zT_mk (zm_p2 (List.mem_of_getElem? (i := 8) rfl)) rfl, zT_mk (zm_1 (List.mem_of_getElem? (i := 3) rfl)) rfl, ⟨by decide, by decide, by decide +kernel⟩, by decide⟩
theorem kX8_115 : zCs RX8 115 mX8_kindOfSign 1 := ⟨zT_mk (zm_3 (List.mem_of_getElem? (i := 77) rfl)) rfl, zT_mk (zm_3 (List.mem_of_getElem? (i := 79) rfl)) rfl, zT_mk (zm_3 (List.mem_of_getElem? (i := 78) rfl)) rfl, zT_mk (zm_1 (List.mem_of_getElem? (i := 3) rfl)) rfl, ⟨by decide, by decide, by decide +kernel⟩, by decide⟩
theorem kX8_44 : zCv RX8 44 mX8_addWord 3 := ⟨zT_mk (zm_3 (List.mem_of_getElem? (i := 80) rfl)) rfl, zT_mk (zm_3 (List.mem_of_getElem? (i := 83) rfl)) rfl, zT_mk (zm_3 (List.mem_of_getElem? (i := 82) rfl)) rfl, zT_mk (zm_p2 (List.mem_of_getElem? (i := 9) rfl)) rfl, zT_mk (zm_1 (List.mem_of_getElem? (i := 3) rfl)) rfl, ⟨by decide, by decide, by decide +kernel⟩, by decide⟩
theorem kX8_48 : zCv RX8 48 mX6_addRow 0 := ⟨zT_mk (zm_3 (List.mem_of_getElem? (i := 84) rfl)) rfl, zT_mk (zm_3 (List.mem_of_getElem? (i := 87) rfl)) rfl, zT_mk (zm_3 (List.mem_of_getElem? (i := 85) rfl)) rfl, zT_mk (zm_3 (List.mem_of_getElem? (i := 86) rfl)) rfl, zT_mk (zm_1 (List.mem_of_getElem? (i := 4) rfl)) rfl, ⟨by decide, by decide, by decide +kernel⟩, by decide⟩
theorem kX8_51 : zCv RX8 51 mX6_setCell 3 := ⟨zT_mk (zm_3 (List.mem_of_getElem? (i := 88) rfl)) rfl, zT_mk (zm_3 (List.mem_of_getElem? (i := 91) rfl)) rfl, zT_mk (zm_3 (List.mem_of_getElem? (i := 89) rfl)) rfl, zT_mk (zm_3 (List.mem_of_getElem? (i := 90) rfl)) rfl, zT_mk (zm_1 (List.mem_of_getElem? (i := 4) rfl)) rfl, ⟨by decide, by decide, by decide +kernel⟩, by decide⟩
theorem kX3_44 : zCv RX3 44 mX3_step 0 := ⟨zT_mk (zm_3 (List.mem_of_getElem? (i := 92) rfl)) rfl, zT_mk (zm_3 (List.mem_of_getElem? (i := 95) rfl)) rfl, zT_mk (zm_3 (List.mem_of_getElem? (i := 94) rfl)) rfl, zT_mk (zm_p2 (List.mem_of_getElem? (i := 10) rfl)) rfl, zT_mk (zm_1 (List.mem_of_getElem? (i := 2) rfl)) rfl, ⟨by decide, by decide, by decide +kernel⟩, by decide⟩
theorem kX3_59 : zCv RX3 59 mX8_kindOf 1 := ⟨zT_mk (zm_3 (List.mem_of_getElem? (i := 96) rfl)) rfl, zT_mk (zm_3 (List.mem_of_getElem? (i := 99) rfl)) rfl, zT_mk (zm_3 (List.mem_of_getElem? (i := 97) rfl)) rfl, zT_mk (zm_3 (List.mem_of_getElem? (i := 98) rfl)) rfl, zT_mk (zm_1 (List.mem_of_getElem? (i := 3) rfl)) rfl, ⟨by decide, by decide, by decide +kernel⟩, by decide⟩
theorem kX8_118 : zCv RX8 118 mX6_cell 3 := ⟨zT_mk (zm_3 (List.mem_of_getElem? (i := 100) rfl)) rfl, zT_mk (zm_2 (List.mem_of_getElem? (i := 6) rfl)) rfl, zT_mk (zm_2 (List.mem_of_getElem? (i := 4) rfl)) rfl, zT_mk (zm_2 (List.mem_of_getElem? (i := 5) rfl)) rfl, zT_mk (zm_1 (List.mem_of_getElem? (i := 4) rfl)) rfl, ⟨by decide, by decide, by decide +kernel⟩, by decide⟩
theorem kX3_66 : zCv RX3 66 mX8_placeOf 1 := ⟨zT_mk (zm_3 (List.mem_of_getElem? (i := 101) rfl)) rfl, zT_mk (zm_3 (List.mem_of_getElem? (i := 104) rfl)) rfl, zT_mk (zm_3 (List.mem_of_getElem? (i := 102) rfl)) rfl, zT_mk (zm_3 (List.mem_of_getElem? (i := 103) rfl)) rfl, zT_mk (zm_1 (List.mem_of_getElem? (i := 3) rfl)) rfl, ⟨by decide, by decide, by decide +kernel⟩, by decide⟩
theorem kX3_72 : zCv RX3 72 mX8_valueOf 1 := ⟨zT_mk (zm_3 (List.mem_of_getElem? (i := 105) rfl)) rfl, zT_mk (zm_3 (List.mem_of_getElem? (i := 108) rfl)) rfl, zT_mk (zm_3 (List.mem_of_getElem? (i := 106) rfl)) rfl, zT_mk (zm_3 (List.mem_of_getElem? (i := 107) rfl)) rfl, zT_mk (zm_1 (List.mem_of_getElem? (i := 3) rfl)) rfl, ⟨by decide, by decide, by decide +kernel⟩, by decide⟩
theorem kX3_75 : zCv RX3 75 mX3_refuse 1 := ⟨zT_mk (zm_3 (List.mem_of_getElem? (i := 109) rfl)) rfl, zT_mk (zm_3 (List.mem_of_getElem? (i := 112) rfl)) rfl, zT_mk (zm_3 (List.mem_of_getElem? (i := 111) rfl)) rfl, zT_mk (zm_p2 (List.mem_of_getElem? (i := 11) rfl)) rfl, zT_mk (zm_1 (List.mem_of_getElem? (i := 2) rfl)) rfl, ⟨by decide, by decide, by decide +kernel⟩, by decide⟩
theorem kX9_58 : zCv RX9 58 mX3_hasLine 0 := ⟨zT_mk (zm_3 (List.mem_of_getElem? (i := 178) rfl)) rfl, zT_mk (zm_3 (List.mem_of_getElem? (i := 181) rfl)) rfl, zT_mk (zm_3 (List.mem_of_getElem? (i := 179) rfl)) rfl, zT_mk (zm_3 (List.mem_of_getElem? (i := 180) rfl)) rfl, zT_mk (zm_1 (List.mem_of_getElem? (i := 2) rfl)) rfl, ⟨by decide, by decide, by decide +kernel⟩, by decide⟩
theorem kX3_47 : zCv RX3 47 mX8_size 0 := ⟨zT_mk (zm_3 (List.mem_of_getElem? (i := 182) rfl)) rfl, zT_mk (zm_3 (List.mem_of_getElem? (i := 185) rfl)) rfl, zT_mk (zm_3 (List.mem_of_getElem? (i := 183) rfl)) rfl, zT_mk (zm_3 (List.mem_of_getElem? (i := 184) rfl)) rfl, zT_mk (zm_1 (List.mem_of_getElem? (i := 3) rfl)) rfl, ⟨by decide, by decide, by decide +kernel⟩, by decide⟩
theorem kX9_62 : zCv RX9 62 mX3_readLabels 1 := ⟨zT_mk (zm_3 (List.mem_of_getElem? (i := 186) rfl)) rfl, zT_mk (zm_3 (List.mem_of_getElem? (i := 189) rfl)) rfl, zT_mk (zm_3 (List.mem_of_getElem? (i := 187) rfl)) rfl, zT_mk (zm_3 (List.mem_of_getElem? (i := 188) rfl)) rfl, zT_mk (zm_1 (List.mem_of_getElem? (i := 2) rfl)) rfl, ⟨by decide, by decide, by decide +kernel⟩, by decide⟩
theorem kX3_86 : zCv RX3 86 mX3_isAtLabel 0 := ⟨zT_mk (zm_3 (List.mem_of_getElem? (i := 190) rfl)) rfl, zT_mk (zm_3 (List.mem_of_getElem? (i := 193) rfl)) rfl, zT_mk (zm_3 (List.mem_of_getElem? (i := 192) rfl)) rfl, zT_mk (zm_p2 (List.mem_of_getElem? (i := 13) rfl)) rfl, zT_mk (zm_1 (List.mem_of_getElem? (i := 2) rfl)) rfl, ⟨by decide, by decide, by decide +kernel⟩, by decide⟩
theorem kX3_90 : zCv RX3 90 mX3_addStatement 3 := ⟨zT_mk (zm_3 (List.mem_of_getElem? (i := 194) rfl)) rfl, zT_mk (zm_3 (List.mem_of_getElem? (i := 197) rfl)) rfl, zT_mk (zm_3 (List.mem_of_getElem? (i := 196) rfl)) rfl, zT_mk (zm_p2 (List.mem_of_getElem? (i := 14) rfl)) rfl, zT_mk (zm_1 (List.mem_of_getElem? (i := 2) rfl)) rfl, ⟨by decide, by decide, by decide +kernel⟩, by decide⟩
theorem kX3_110 : zCv RX3 110 mX6_isFull 0 := ⟨zT_mk (zm_3 (List.mem_of_getElem? (i := 198) rfl)) rfl, zT_mk (zm_3 (List.mem_of_getElem? (i := 201) rfl)) rfl, zT_mk (zm_3 (List.mem_of_getElem? (i := 199) rfl)) rfl, zT_mk (zm_3 (List.mem_of_getElem? (i := 200) rfl)) rfl, zT_mk (zm_1 (List.mem_of_getElem? (i := 4) rfl)) rfl, ⟨by decide, by decide, by decide +kernel⟩, by decide⟩
theorem kX3_113 : zCv RX3 113 mX6_addRow 0 := ⟨zT_mk (zm_3 (List.mem_of_getElem? (i := 202) rfl)) rfl, zT_mk (zm_3 (List.mem_of_getElem? (i := 87) rfl)) rfl, zT_mk (zm_3 (List.mem_of_getElem? (i := 85) rfl)) rfl, zT_mk (zm_3 (List.mem_of_getElem? (i := 86) rfl)) rfl, zT_mk (zm_1 (List.mem_of_getElem? (i := 4) rfl)) rfl, ⟨by decide, by decide, by decide +kernel⟩, by decide⟩
theorem kX3_106 : zCv RX3 106 mX6_setCell 3 := ⟨zT_mk (zm_3 (List.mem_of_getElem? (i := 203) rfl)) rfl, zT_mk (zm_3 (List.mem_of_getElem? (i := 91) rfl)) rfl, zT_mk (zm_3 (List.mem_of_getElem? (i := 89) rfl)) rfl, zT_mk (zm_3 (List.mem_of_getElem? (i := 90) rfl)) rfl, zT_mk (zm_1 (List.mem_of_getElem? (i := 4) rfl)) rfl, ⟨by decide, by decide, by decide +kernel⟩, by decide⟩
theorem kX3_94 : zCv RX3 94 mX3_nameNumber 0 := ⟨zT_mk (zm_3 (List.mem_of_getElem? (i := 204) rfl)) rfl, zT_mk (zm_3 (List.mem_of_getElem? (i := 207) rfl)) rfl, zT_mk (zm_3 (List.mem_of_getElem? (i := 206) rfl)) rfl, zT_mk (zm_p2 (List.mem_of_getElem? (i := 15) rfl)) rfl, zT_mk (zm_1 (List.mem_of_getElem? (i := 2) rfl)) rfl, ⟨by decide, by decide, by decide +kernel⟩, by decide⟩
theorem kX3_120 : zCv RX3 120 mX0_findName 3 := ⟨zT_mk (zm_3 (List.mem_of_getElem? (i := 208) rfl)) rfl, zT_mk (zm_2 (List.mem_of_getElem? (i := 62) rfl)) rfl, zT_mk (zm_2 (List.mem_of_getElem? (i := 60) rfl)) rfl, zT_mk (zm_2 (List.mem_of_getElem? (i := 61) rfl)) rfl, zT_mk (zm_1 (List.mem_of_getElem? (i := 5) rfl)) rfl, ⟨by decide, by decide, by decide +kernel⟩, by decide⟩
theorem kX3_127 : zCv RX3 127 mX0_addName 3 := ⟨zT_mk (zm_3 (List.mem_of_getElem? (i := 209) rfl)) rfl, zT_mk (zm_3 (List.mem_of_getElem? (i := 212) rfl)) rfl, zT_mk (zm_3 (List.mem_of_getElem? (i := 210) rfl)) rfl, zT_mk (zm_3 (List.mem_of_getElem? (i := 211) rfl)) rfl, zT_mk (zm_1 (List.mem_of_getElem? (i := 5) rfl)) rfl, ⟨by decide, by decide, by decide +kernel⟩, by decide⟩
theorem kX0_40 : zCv RX0 40 mX6_addRow 0 := ⟨zT_mk (zm_3 (List.mem_of_getElem? (i := 213) rfl)) rfl, zT_mk (zm_3 (List.mem_of_getElem? (i := 87) rfl)) rfl, zT_mk (zm_3 (List.mem_of_getElem? (i := 85) rfl)) rfl, zT_mk (zm_3 (List.mem_of_getElem? (i := 86) rfl)) rfl, zT_mk (zm_1 (List.mem_of_getElem? (i := 4) rfl)) rfl, ⟨by decide, by decide, by decide +kernel⟩, by decide⟩
theorem kX0_44 : zCv RX0 44 mX6_setCell 3 := ⟨zT_mk (zm_3 (List.mem_of_getElem? (i := 214) rfl)) rfl, zT_mk (zm_3 (List.mem_of_getElem? (i := 91) rfl)) rfl, zT_mk (zm_3 (List.mem_of_getElem? (i := 89) rfl)) rfl, zT_mk (zm_3 (List.mem_of_getElem? (i := 90) rfl)) rfl, zT_mk (zm_1 (List.mem_of_getElem? (i := 4) rfl)) rfl, ⟨by decide, by decide, by decide +kernel⟩, by decide⟩
theorem kX0_48 : zCv RX0 48 mX0_addByte 1 := ⟨zT_mk (zm_3 (List.mem_of_getElem? (i := 215) rfl)) rfl, zT_mk (zm_3 (List.mem_of_getElem? (i := 218) rfl)) rfl, zT_mk (zm_3 (List.mem_of_getElem? (i := 216) rfl)) rfl, zT_mk (zm_3 (List.mem_of_getElem? (i := 217) rfl)) rfl, zT_mk (zm_1 (List.mem_of_getElem? (i := 5) rfl)) rfl, ⟨by decide, by decide, by decide +kernel⟩, by decide⟩
theorem kX3_97 : zCv RX3 97 mX3_demand 1 := ⟨zT_mk (zm_3 (List.mem_of_getElem? (i := 219) rfl)) rfl, zT_mk (zm_3 (List.mem_of_getElem? (i := 222) rfl)) rfl, zT_mk (zm_3 (List.mem_of_getElem? (i := 221) rfl)) rfl, zT_mk (zm_p3 (List.mem_of_getElem? (i := 0) rfl)) rfl, zT_mk (zm_1 (List.mem_of_getElem? (i := 2) rfl)) rfl, ⟨by decide, by decide, by decide +kernel⟩, by decide⟩
theorem kX9_65 : zCv RX9 65 mX3_readWord 1 := ⟨zT_mk (zm_3 (List.mem_of_getElem? (i := 223) rfl)) rfl, zT_mk (zm_3 (List.mem_of_getElem? (i := 226) rfl)) rfl, zT_mk (zm_3 (List.mem_of_getElem? (i := 224) rfl)) rfl, zT_mk (zm_3 (List.mem_of_getElem? (i := 225) rfl)) rfl, zT_mk (zm_1 (List.mem_of_getElem? (i := 2) rfl)) rfl, ⟨by decide, by decide, by decide +kernel⟩, by decide⟩
theorem kX3_103 : zCv RX3 103 mX3_readOperand 0 := ⟨zT_mk (zm_3 (List.mem_of_getElem? (i := 227) rfl)) rfl, zT_mk (zm_3 (List.mem_of_getElem? (i := 230) rfl)) rfl, zT_mk (zm_3 (List.mem_of_getElem? (i := 229) rfl)) rfl, zT_mk (zm_p3 (List.mem_of_getElem? (i := 1) rfl)) rfl, zT_mk (zm_1 (List.mem_of_getElem? (i := 2) rfl)) rfl, ⟨by decide, by decide, by decide +kernel⟩, by decide⟩
theorem kX3_132 : zCv RX3 132 mX3_addOperand 1 := ⟨zT_mk (zm_3 (List.mem_of_getElem? (i := 231) rfl)) rfl, zT_mk (zm_3 (List.mem_of_getElem? (i := 234) rfl)) rfl, zT_mk (zm_3 (List.mem_of_getElem? (i := 233) rfl)) rfl, zT_mk (zm_p3 (List.mem_of_getElem? (i := 2) rfl)) rfl, zT_mk (zm_1 (List.mem_of_getElem? (i := 2) rfl)) rfl, ⟨by decide, by decide, by decide +kernel⟩, by decide⟩
theorem kX3_135 : zCv RX3 135 mX3_readRegister 0 := ⟨zT_mk (zm_3 (List.mem_of_getElem? (i := 235) rfl)) rfl, zT_mk (zm_3 (List.mem_of_getElem? (i := 238) rfl)) rfl, zT_mk (zm_3 (List.mem_of_getElem? (i := 237) rfl)) rfl, zT_mk (zm_p3 (List.mem_of_getElem? (i := 3) rfl)) rfl, zT_mk (zm_1 (List.mem_of_getElem? (i := 2) rfl)) rfl, ⟨by decide, by decide, by decide +kernel⟩, by decide⟩
theorem kX3_173 : zCs RX3 173 mX5_numberOf 3 := ⟨zT_mk (zm_3 (List.mem_of_getElem? (i := 239) rfl)) rfl, zT_mk (zm_3 (List.mem_of_getElem? (i := 49) rfl)) rfl, zT_mk (zm_3 (List.mem_of_getElem? (i := 48) rfl)) rfl, zT_mk (zm_1 (List.mem_of_getElem? (i := 10) rfl)) rfl, ⟨by decide, by decide, by decide +kernel⟩, by decide⟩
theorem kX3_138 : zCv RX3 138 mX3_readString 0 := ⟨zT_mk (zm_4 (List.mem_of_getElem? (i := 0) rfl)) rfl, zT_mk (zm_4 (List.mem_of_getElem? (i := 3) rfl)) rfl, zT_mk (zm_4 (List.mem_of_getElem? (i := 2) rfl)) rfl, zT_mk (zm_p3 (List.mem_of_getElem? (i := 4) rfl)) rfl, zT_mk (zm_1 (List.mem_of_getElem? (i := 2) rfl)) rfl, ⟨by decide, by decide, by decide +kernel⟩, by decide⟩
theorem kX3_181 : zCv RX3 181 mX8_codeAt 2 := ⟨zT_mk (zm_4 (List.mem_of_getElem? (i := 4) rfl)) rfl, zT_mk (zm_3 (List.mem_of_getElem? (i := 64) rfl)) rfl, zT_mk (zm_3 (List.mem_of_getElem? (i := 62) rfl)) rfl, zT_mk (zm_3 (List.mem_of_getElem? (i := 63) rfl)) rfl, zT_mk (zm_1 (List.mem_of_getElem? (i := 3) rfl)) rfl, ⟨by decide, by decide, by decide +kernel⟩, by decide⟩
theorem kX3_185 : zCv RX3 185 mX0_addByte 1 := ⟨zT_mk (zm_4 (List.mem_of_getElem? (i := 5) rfl)) rfl, zT_mk (zm_3 (List.mem_of_getElem? (i := 218) rfl)) rfl, zT_mk (zm_3 (List.mem_of_getElem? (i := 216) rfl)) rfl, zT_mk (zm_3 (List.mem_of_getElem? (i := 217) rfl)) rfl, zT_mk (zm_1 (List.mem_of_getElem? (i := 5) rfl)) rfl, ⟨by decide, by decide, by decide +kernel⟩, by decide⟩
theorem kX3_188 : zCv RX3 188 mX8_widthAt 1 := ⟨zT_mk (zm_4 (List.mem_of_getElem? (i := 6) rfl)) rfl, zT_mk (zm_3 (List.mem_of_getElem? (i := 68) rfl)) rfl, zT_mk (zm_3 (List.mem_of_getElem? (i := 66) rfl)) rfl, zT_mk (zm_3 (List.mem_of_getElem? (i := 67) rfl)) rfl, zT_mk (zm_1 (List.mem_of_getElem? (i := 3) rfl)) rfl, ⟨by decide, by decide, by decide +kernel⟩, by decide⟩
theorem kX3_141 : zCv RX3 141 mX3_countItem 0 := ⟨zT_mk (zm_4 (List.mem_of_getElem? (i := 7) rfl)) rfl, zT_mk (zm_4 (List.mem_of_getElem? (i := 10) rfl)) rfl, zT_mk (zm_4 (List.mem_of_getElem? (i := 9) rfl)) rfl, zT_mk (zm_p3 (List.mem_of_getElem? (i := 5) rfl)) rfl, zT_mk (zm_1 (List.mem_of_getElem? (i := 2) rfl)) rfl, ⟨by decide, by decide, by decide +kernel⟩, by decide⟩
theorem kX3_144 : zCv RX3 144 mX0_addItem 2 := ⟨zT_mk (zm_4 (List.mem_of_getElem? (i := 11) rfl)) rfl, zT_mk (zm_4 (List.mem_of_getElem? (i := 14) rfl)) rfl, zT_mk (zm_4 (List.mem_of_getElem? (i := 12) rfl)) rfl, zT_mk (zm_4 (List.mem_of_getElem? (i := 13) rfl)) rfl, zT_mk (zm_1 (List.mem_of_getElem? (i := 5) rfl)) rfl, ⟨by decide, by decide, by decide +kernel⟩, by decide⟩
theorem kX3_148 : zCv RX3 148 mX3_readBase 0 := ⟨zT_mk (zm_4 (List.mem_of_getElem? (i := 15) rfl)) rfl, zT_mk (zm_4 (List.mem_of_getElem? (i := 18) rfl)) rfl, zT_mk (zm_4 (List.mem_of_getElem? (i := 17) rfl)) rfl, zT_mk (zm_p3 (List.mem_of_getElem? (i := 6) rfl)) rfl, zT_mk (zm_1 (List.mem_of_getElem? (i := 2) rfl)) rfl, ⟨by decide, by decide, by decide +kernel⟩, by decide⟩
theorem kX3_151 : zCs RX3 151 mX3_canBeginExpression 1 := ⟨zT_mk (zm_4 (List.mem_of_getElem? (i := 19) rfl)) rfl, zT_mk (zm_4 (List.mem_of_getElem? (i := 21) rfl)) rfl, zT_mk (zm_4 (List.mem_of_getElem? (i := 20) rfl)) rfl, zT_mk (zm_1 (List.mem_of_getElem? (i := 2) rfl)) rfl, ⟨by decide, by decide, by decide +kernel⟩, by decide⟩
theorem kX3_155 : zCv RX3 155 mX3_readMark 0 := ⟨zT_mk (zm_4 (List.mem_of_getElem? (i := 22) rfl)) rfl, zT_mk (zm_4 (List.mem_of_getElem? (i := 25) rfl)) rfl, zT_mk (zm_4 (List.mem_of_getElem? (i := 24) rfl)) rfl, zT_mk (zm_p3 (List.mem_of_getElem? (i := 7) rfl)) rfl, zT_mk (zm_1 (List.mem_of_getElem? (i := 2) rfl)) rfl, ⟨by decide, by decide, by decide +kernel⟩, by decide⟩
theorem kX3_191 : zCs RX3 191 mX2_numberOf 2 := ⟨zT_mk (zm_4 (List.mem_of_getElem? (i := 26) rfl)) rfl, zT_mk (zm_4 (List.mem_of_getElem? (i := 28) rfl)) rfl, zT_mk (zm_4 (List.mem_of_getElem? (i := 27) rfl)) rfl, zT_mk (zm_1 (List.mem_of_getElem? (i := 15) rfl)) rfl, ⟨by decide, by decide, by decide +kernel⟩, by decide⟩
theorem kX2_17 : zCs RX2 17 mX2_nameOf 1 := ⟨zT_mk (zm_4 (List.mem_of_getElem? (i := 29) rfl)) rfl, zT_mk (zm_2 (List.mem_of_getElem? (i := 185) rfl)) rfl, zT_mk (zm_2 (List.mem_of_getElem? (i := 184) rfl)) rfl, zT_mk (zm_1 (List.mem_of_getElem? (i := 15) rfl)) rfl, ⟨by decide, by decide, by decide +kernel⟩, by decide⟩
theorem kX2_21 : zCv RX2 21 mX8_spells 2 := ⟨zT_mk (zm_4 (List.mem_of_getElem? (i := 30) rfl)) rfl, zT_mk (zm_4 (List.mem_of_getElem? (i := 33) rfl)) rfl, zT_mk (zm_4 (List.mem_of_getElem? (i := 31) rfl)) rfl, zT_mk (zm_4 (List.mem_of_getElem? (i := 32) rfl)) rfl, zT_mk (zm_1 (List.mem_of_getElem? (i := 3) rfl)) rfl, ⟨by decide, by decide, by decide +kernel⟩, by decide⟩
theorem kX8_122 : zCv RX8 122 mX8_kindOf 1 := ⟨zT_mk (zm_4 (List.mem_of_getElem? (i := 34) rfl)) rfl, zT_mk (zm_3 (List.mem_of_getElem? (i := 99) rfl)) rfl, zT_mk (zm_3 (List.mem_of_getElem? (i := 97) rfl)) rfl, zT_mk (zm_3 (List.mem_of_getElem? (i := 98) rfl)) rfl, zT_mk (zm_1 (List.mem_of_getElem? (i := 3) rfl)) rfl, ⟨by decide, by decide, by decide +kernel⟩, by decide⟩
theorem kX8_125 : zCv RX8 125 mX8_valueOf 1 := ⟨zT_mk (zm_4 (List.mem_of_getElem? (i := 35) rfl)) rfl, zT_mk (zm_3 (List.mem_of_getElem? (i := 108) rfl)) rfl, zT_mk (zm_3 (List.mem_of_getElem? (i := 106) rfl)) rfl, zT_mk (zm_3 (List.mem_of_getElem? (i := 107) rfl)) rfl, zT_mk (zm_1 (List.mem_of_getElem? (i := 3) rfl)) rfl, ⟨by decide, by decide, by decide +kernel⟩, by decide⟩
theorem kX8_128 : zCv RX8 128 mJ0_length_8abf5 0 := ⟨zT_mk (zm_4 (List.mem_of_getElem? (i := 36) rfl)) rfl, zT_mk (zm_2 (List.mem_of_getElem? (i := 89) rfl)) rfl, zT_mk (zm_2 (List.mem_of_getElem? (i := 87) rfl)) rfl, zT_mk (zm_2 (List.mem_of_getElem? (i := 88) rfl)) rfl, zT_mk (zm_1 (List.mem_of_getElem? (i := 16) rfl)) rfl, ⟨by decide, by decide, by decide +kernel⟩, by decide⟩
theorem kX8_132 : zCv RX8 132 mX8_placeOf 1 := ⟨zT_mk (zm_4 (List.mem_of_getElem? (i := 37) rfl)) rfl, zT_mk (zm_3 (List.mem_of_getElem? (i := 104) rfl)) rfl, zT_mk (zm_3 (List.mem_of_getElem? (i := 102) rfl)) rfl, zT_mk (zm_3 (List.mem_of_getElem? (i := 103) rfl)) rfl, zT_mk (zm_1 (List.mem_of_getElem? (i := 3) rfl)) rfl, ⟨by decide, by decide, by decide +kernel⟩, by decide⟩
theorem kX8_135 : zCv RX8 135 mJ0_charAt_5068e 1 := ⟨zT_mk (zm_4 (List.mem_of_getElem? (i := 38) rfl)) rfl, zT_mk (zm_2 (List.mem_of_getElem? (i := 99) rfl)) rfl, zT_mk (zm_2 (List.mem_of_getElem? (i := 97) rfl)) rfl, zT_mk (zm_2 (List.mem_of_getElem? (i := 98) rfl)) rfl, zT_mk (zm_1 (List.mem_of_getElem? (i := 16) rfl)) rfl, ⟨by decide, by decide, by decide +kernel⟩, by decide⟩
theorem kX3_158 : zCv RX3 158 mX3_readSides 2 := ⟨zT_mk (zm_4 (List.mem_of_getElem? (i := 39) rfl)) rfl, zT_mk (zm_4 (List.mem_of_getElem? (i := 42) rfl)) rfl, zT_mk (zm_4 (List.mem_of_getElem? (i := 41) rfl)) rfl, zT_mk (zm_p3 (List.mem_of_getElem? (i := 8) rfl)) rfl, zT_mk (zm_1 (List.mem_of_getElem? (i := 2) rfl)) rfl, ⟨by decide, by decide, by decide +kernel⟩, by decide⟩
theorem kX3_196 : zCv RX3 196 mX3_readOne 1 := ⟨zT_mk (zm_4 (List.mem_of_getElem? (i := 43) rfl)) rfl, zT_mk (zm_4 (List.mem_of_getElem? (i := 46) rfl)) rfl, zT_mk (zm_4 (List.mem_of_getElem? (i := 45) rfl)) rfl, zT_mk (zm_p3 (List.mem_of_getElem? (i := 9) rfl)) rfl, zT_mk (zm_1 (List.mem_of_getElem? (i := 2) rfl)) rfl, ⟨by decide, by decide, by decide +kernel⟩, by decide⟩
theorem kX3_202 : zCv RX3 202 mX3_checkOne 1 := ⟨zT_mk (zm_4 (List.mem_of_getElem? (i := 47) rfl)) rfl, zT_mk (zm_4 (List.mem_of_getElem? (i := 50) rfl)) rfl, zT_mk (zm_4 (List.mem_of_getElem? (i := 49) rfl)) rfl, zT_mk (zm_p3 (List.mem_of_getElem? (i := 10) rfl)) rfl, zT_mk (zm_1 (List.mem_of_getElem? (i := 2) rfl)) rfl, ⟨by decide, by decide, by decide +kernel⟩, by decide⟩
theorem kX3_205 : zCs RX3 205 mX3_sortAhead 1 := ⟨zT_mk (zm_4 (List.mem_of_getElem? (i := 51) rfl)) rfl, zT_mk (zm_4 (List.mem_of_getElem? (i := 53) rfl)) rfl, zT_mk (zm_4 (List.mem_of_getElem? (i := 52) rfl)) rfl, zT_mk (zm_1 (List.mem_of_getElem? (i := 2) rfl)) rfl, ⟨by decide, by decide, by decide +kernel⟩, by decide⟩
theorem kX3_208 : zCs RX3 208 mX1_isAhead 1 := ⟨zT_mk (zm_4 (List.mem_of_getElem? (i := 54) rfl)) rfl, zT_mk (zm_2 (List.mem_of_getElem? (i := 22) rfl)) rfl, zT_mk (zm_2 (List.mem_of_getElem? (i := 21) rfl)) rfl, zT_mk (zm_1 (List.mem_of_getElem? (i := 20) rfl)) rfl, ⟨by decide, by decide, by decide +kernel⟩, by decide⟩
theorem kX3_199 : zCs RX3 199 mX1_levelOf 1 := ⟨zT_mk (zm_4 (List.mem_of_getElem? (i := 55) rfl)) rfl, zT_mk (zm_2 (List.mem_of_getElem? (i := 196) rfl)) rfl, zT_mk (zm_2 (List.mem_of_getElem? (i := 195) rfl)) rfl, zT_mk (zm_1 (List.mem_of_getElem? (i := 20) rfl)) rfl, ⟨by decide, by decide, by decide +kernel⟩, by decide⟩
theorem kX9_68 : zCv RX9 68 mX3_finish 0 := ⟨zT_mk (zm_4 (List.mem_of_getElem? (i := 56) rfl)) rfl, zT_mk (zm_4 (List.mem_of_getElem? (i := 59) rfl)) rfl, zT_mk (zm_4 (List.mem_of_getElem? (i := 57) rfl)) rfl, zT_mk (zm_4 (List.mem_of_getElem? (i := 58) rfl)) rfl, zT_mk (zm_1 (List.mem_of_getElem? (i := 2) rfl)) rfl, ⟨by decide, by decide, by decide +kernel⟩, by decide⟩
theorem kL_18 : zCi RL 18 mX10_init 0 := ⟨zT_mk (zm_4 (List.mem_of_getElem? (i := 62) rfl)) rfl, zT_mk (zm_4 (List.mem_of_getElem? (i := 64) rfl)) rfl, zT_mk (zm_4 (List.mem_of_getElem? (i := 63) rfl)) rfl, zT_mk (zm_1 (List.mem_of_getElem? (i := 8) rfl)) rfl, rfl, rfl, ⟨by decide, by decide, by decide +kernel⟩, by decide⟩
theorem kL_35 : zCv RL 35 mX10_thrown 0 := ⟨zT_mk (zm_4 (List.mem_of_getElem? (i := 175) rfl)) rfl, zT_mk (zm_4 (List.mem_of_getElem? (i := 178) rfl)) rfl, zT_mk (zm_4 (List.mem_of_getElem? (i := 176) rfl)) rfl, zT_mk (zm_4 (List.mem_of_getElem? (i := 177) rfl)) rfl, zT_mk (zm_1 (List.mem_of_getElem? (i := 8) rfl)) rfl, ⟨by decide, by decide, by decide +kernel⟩, by decide⟩
theorem kL_23 : zCv RL 23 mX10_feed 5 := ⟨zT_mk (zm_4 (List.mem_of_getElem? (i := 179) rfl)) rfl, zT_mk (zm_4 (List.mem_of_getElem? (i := 182) rfl)) rfl, zT_mk (zm_4 (List.mem_of_getElem? (i := 180) rfl)) rfl, zT_mk (zm_4 (List.mem_of_getElem? (i := 181) rfl)) rfl, zT_mk (zm_1 (List.mem_of_getElem? (i := 8) rfl)) rfl, ⟨by decide, by decide, by decide +kernel⟩, by decide⟩
theorem kX10_65 : zCv RX10 65 mX10_wait 2 := ⟨zT_mk (zm_4 (List.mem_of_getElem? (i := 183) rfl)) rfl, zT_mk (zm_4 (List.mem_of_getElem? (i := 186) rfl)) rfl, zT_mk (zm_4 (List.mem_of_getElem? (i := 185) rfl)) rfl, zT_mk (zm_p3 (List.mem_of_getElem? (i := 11) rfl)) rfl, zT_mk (zm_1 (List.mem_of_getElem? (i := 8) rfl)) rfl, ⟨by decide, by decide, by decide +kernel⟩, by decide⟩
theorem kL_28 : zCv RL 28 mX10_end 1 := ⟨zT_mk (zm_4 (List.mem_of_getElem? (i := 187) rfl)) rfl, zT_mk (zm_4 (List.mem_of_getElem? (i := 190) rfl)) rfl, zT_mk (zm_4 (List.mem_of_getElem? (i := 188) rfl)) rfl, zT_mk (zm_4 (List.mem_of_getElem? (i := 189) rfl)) rfl, zT_mk (zm_1 (List.mem_of_getElem? (i := 8) rfl)) rfl, ⟨by decide, by decide, by decide +kernel⟩, by decide⟩
theorem kL_34 : zCv RL 34 mX10_read 0 := ⟨zT_mk (zm_4 (List.mem_of_getElem? (i := 191) rfl)) rfl, zT_mk (zm_4 (List.mem_of_getElem? (i := 194) rfl)) rfl, zT_mk (zm_4 (List.mem_of_getElem? (i := 192) rfl)) rfl, zT_mk (zm_4 (List.mem_of_getElem? (i := 193) rfl)) rfl, zT_mk (zm_1 (List.mem_of_getElem? (i := 8) rfl)) rfl, ⟨by decide, by decide, by decide +kernel⟩, by decide⟩
theorem kX10_177 : zCv RX10 177 mX10_next 0 := ⟨zT_mk (zm_4 (List.mem_of_getElem? (i := 195) rfl)) rfl, zT_mk (zm_4 (List.mem_of_getElem? (i := 198) rfl)) rfl, zT_mk (zm_4 (List.mem_of_getElem? (i := 197) rfl)) rfl, zT_mk (zm_p3 (List.mem_of_getElem? (i := 12) rfl)) rfl, zT_mk (zm_1 (List.mem_of_getElem? (i := 8) rfl)) rfl, ⟨by decide, by decide, by decide +kernel⟩, by decide⟩
theorem kX10_91 : zCv RX10 91 mX10_bad 2 := ⟨zT_mk (zm_4 (List.mem_of_getElem? (i := 199) rfl)) rfl, zT_mk (zm_4 (List.mem_of_getElem? (i := 202) rfl)) rfl, zT_mk (zm_4 (List.mem_of_getElem? (i := 201) rfl)) rfl, zT_mk (zm_p3 (List.mem_of_getElem? (i := 13) rfl)) rfl, zT_mk (zm_1 (List.mem_of_getElem? (i := 8) rfl)) rfl, ⟨by decide, by decide, by decide +kernel⟩, by decide⟩
theorem kX10_72 : zCs RX10 72 mX10_isLetter 1 := ⟨zT_mk (zm_4 (List.mem_of_getElem? (i := 203) rfl)) rfl, zT_mk (zm_4 (List.mem_of_getElem? (i := 205) rfl)) rfl, zT_mk (zm_4 (List.mem_of_getElem? (i := 204) rfl)) rfl, zT_mk (zm_1 (List.mem_of_getElem? (i := 8) rfl)) rfl, ⟨by decide, by decide, by decide +kernel⟩, by decide⟩
theorem kX10_94 : zCv RX10 94 mX10_nameWord 0 := ⟨zT_mk (zm_4 (List.mem_of_getElem? (i := 206) rfl)) rfl, zT_mk (zm_4 (List.mem_of_getElem? (i := 209) rfl)) rfl, zT_mk (zm_4 (List.mem_of_getElem? (i := 208) rfl)) rfl, zT_mk (zm_p3 (List.mem_of_getElem? (i := 14) rfl)) rfl, zT_mk (zm_1 (List.mem_of_getElem? (i := 8) rfl)) rfl, ⟨by decide, by decide, by decide +kernel⟩, by decide⟩
theorem kX10_110 : zCs RX10 110 mX10_isInName 1 := ⟨zT_mk (zm_4 (List.mem_of_getElem? (i := 210) rfl)) rfl, zT_mk (zm_4 (List.mem_of_getElem? (i := 212) rfl)) rfl, zT_mk (zm_4 (List.mem_of_getElem? (i := 211) rfl)) rfl, zT_mk (zm_1 (List.mem_of_getElem? (i := 8) rfl)) rfl, ⟨by decide, by decide, by decide +kernel⟩, by decide⟩
theorem kX10_76 : zCs RX10 76 mX10_isDigit 1 := ⟨zT_mk (zm_4 (List.mem_of_getElem? (i := 213) rfl)) rfl, zT_mk (zm_4 (List.mem_of_getElem? (i := 215) rfl)) rfl, zT_mk (zm_4 (List.mem_of_getElem? (i := 214) rfl)) rfl, zT_mk (zm_1 (List.mem_of_getElem? (i := 8) rfl)) rfl, ⟨by decide, by decide, by decide +kernel⟩, by decide⟩
theorem kX10_97 : zCv RX10 97 mX10_numberWord 0 := ⟨zT_mk (zm_4 (List.mem_of_getElem? (i := 216) rfl)) rfl, zT_mk (zm_4 (List.mem_of_getElem? (i := 219) rfl)) rfl, zT_mk (zm_4 (List.mem_of_getElem? (i := 218) rfl)) rfl, zT_mk (zm_p3 (List.mem_of_getElem? (i := 15) rfl)) rfl, zT_mk (zm_1 (List.mem_of_getElem? (i := 8) rfl)) rfl, ⟨by decide, by decide, by decide +kernel⟩, by decide⟩
theorem kX10_113 : zCv RX10 113 mX10_at 1 := ⟨zT_mk (zm_4 (List.mem_of_getElem? (i := 220) rfl)) rfl, zT_mk (zm_4 (List.mem_of_getElem? (i := 223) rfl)) rfl, zT_mk (zm_4 (List.mem_of_getElem? (i := 222) rfl)) rfl, zT_mk (zm_p4 (List.mem_of_getElem? (i := 0) rfl)) rfl, zT_mk (zm_1 (List.mem_of_getElem? (i := 8) rfl)) rfl, ⟨by decide, by decide, by decide +kernel⟩, by decide⟩
theorem kX10_117 : zCs RX10 117 mX10_digitOf 1 := ⟨zT_mk (zm_4 (List.mem_of_getElem? (i := 224) rfl)) rfl, zT_mk (zm_4 (List.mem_of_getElem? (i := 226) rfl)) rfl, zT_mk (zm_4 (List.mem_of_getElem? (i := 225) rfl)) rfl, zT_mk (zm_1 (List.mem_of_getElem? (i := 8) rfl)) rfl, ⟨by decide, by decide, by decide +kernel⟩, by decide⟩
theorem kX10_100 : zCv RX10 100 mX10_character 0 := ⟨zT_mk (zm_4 (List.mem_of_getElem? (i := 228) rfl)) rfl, zT_mk (zm_4 (List.mem_of_getElem? (i := 231) rfl)) rfl, zT_mk (zm_4 (List.mem_of_getElem? (i := 230) rfl)) rfl, zT_mk (zm_p4 (List.mem_of_getElem? (i := 1) rfl)) rfl, zT_mk (zm_1 (List.mem_of_getElem? (i := 8) rfl)) rfl, ⟨by decide, by decide, by decide +kernel⟩, by decide⟩
theorem kX10_122 : zCv RX10 122 mX10_inside 2 := ⟨zT_mk (zm_4 (List.mem_of_getElem? (i := 232) rfl)) rfl, zT_mk (zm_4 (List.mem_of_getElem? (i := 235) rfl)) rfl, zT_mk (zm_4 (List.mem_of_getElem? (i := 234) rfl)) rfl, zT_mk (zm_p4 (List.mem_of_getElem? (i := 2) rfl)) rfl, zT_mk (zm_1 (List.mem_of_getElem? (i := 8) rfl)) rfl, ⟨by decide, by decide, by decide +kernel⟩, by decide⟩
theorem kX10_103 : zCv RX10 103 mX10_stringWord 0 := ⟨zT_mk (zm_4 (List.mem_of_getElem? (i := 236) rfl)) rfl, zT_mk (zm_4 (List.mem_of_getElem? (i := 239) rfl)) rfl, zT_mk (zm_4 (List.mem_of_getElem? (i := 238) rfl)) rfl, zT_mk (zm_p4 (List.mem_of_getElem? (i := 3) rfl)) rfl, zT_mk (zm_1 (List.mem_of_getElem? (i := 8) rfl)) rfl, ⟨by decide, by decide, by decide +kernel⟩, by decide⟩
theorem kX10_106 : zCv RX10 106 mX10_signWord 1 := ⟨zT_mk (zm_5 (List.mem_of_getElem? (i := 0) rfl)) rfl, zT_mk (zm_5 (List.mem_of_getElem? (i := 3) rfl)) rfl, zT_mk (zm_5 (List.mem_of_getElem? (i := 2) rfl)) rfl, zT_mk (zm_p4 (List.mem_of_getElem? (i := 4) rfl)) rfl, zT_mk (zm_1 (List.mem_of_getElem? (i := 8) rfl)) rfl, ⟨by decide, by decide, by decide +kernel⟩, by decide⟩
theorem kX10_232 : zCv RX10 232 mX10_readLine 0 := ⟨zT_mk (zm_5 (List.mem_of_getElem? (i := 4) rfl)) rfl, zT_mk (zm_5 (List.mem_of_getElem? (i := 7) rfl)) rfl, zT_mk (zm_5 (List.mem_of_getElem? (i := 6) rfl)) rfl, zT_mk (zm_p4 (List.mem_of_getElem? (i := 5) rfl)) rfl, zT_mk (zm_1 (List.mem_of_getElem? (i := 8) rfl)) rfl, ⟨by decide, by decide, by decide +kernel⟩, by decide⟩
theorem kX10_152 : zCv RX10 152 mX10_fail 1 := ⟨zT_mk (zm_5 (List.mem_of_getElem? (i := 8) rfl)) rfl, zT_mk (zm_5 (List.mem_of_getElem? (i := 11) rfl)) rfl, zT_mk (zm_5 (List.mem_of_getElem? (i := 10) rfl)) rfl, zT_mk (zm_p4 (List.mem_of_getElem? (i := 6) rfl)) rfl, zT_mk (zm_1 (List.mem_of_getElem? (i := 8) rfl)) rfl, ⟨by decide, by decide, by decide +kernel⟩, by decide⟩
theorem kX10_170 : zCv RX10 170 mX10_register 0 := ⟨zT_mk (zm_5 (List.mem_of_getElem? (i := 12) rfl)) rfl, zT_mk (zm_5 (List.mem_of_getElem? (i := 15) rfl)) rfl, zT_mk (zm_5 (List.mem_of_getElem? (i := 14) rfl)) rfl, zT_mk (zm_p4 (List.mem_of_getElem? (i := 7) rfl)) rfl, zT_mk (zm_1 (List.mem_of_getElem? (i := 8) rfl)) rfl, ⟨by decide, by decide, by decide +kernel⟩, by decide⟩
theorem kX10_132 : zCv RX10 132 mX10_is 4 := ⟨zT_mk (zm_5 (List.mem_of_getElem? (i := 16) rfl)) rfl, zT_mk (zm_5 (List.mem_of_getElem? (i := 19) rfl)) rfl, zT_mk (zm_5 (List.mem_of_getElem? (i := 18) rfl)) rfl, zT_mk (zm_p4 (List.mem_of_getElem? (i := 8) rfl)) rfl, zT_mk (zm_1 (List.mem_of_getElem? (i := 8) rfl)) rfl, ⟨by decide, by decide, by decide +kernel⟩, by decide⟩
theorem kX10_129 : zCv RX10 129 mX10_byteOf 1 := ⟨zT_mk (zm_5 (List.mem_of_getElem? (i := 20) rfl)) rfl, zT_mk (zm_5 (List.mem_of_getElem? (i := 23) rfl)) rfl, zT_mk (zm_5 (List.mem_of_getElem? (i := 22) rfl)) rfl, zT_mk (zm_p4 (List.mem_of_getElem? (i := 9) rfl)) rfl, zT_mk (zm_1 (List.mem_of_getElem? (i := 8) rfl)) rfl, ⟨by decide, by decide, by decide +kernel⟩, by decide⟩
theorem kX10_184 : zCv RX10 184 mX10_number 0 := ⟨zT_mk (zm_5 (List.mem_of_getElem? (i := 24) rfl)) rfl, zT_mk (zm_5 (List.mem_of_getElem? (i := 27) rfl)) rfl, zT_mk (zm_5 (List.mem_of_getElem? (i := 26) rfl)) rfl, zT_mk (zm_p4 (List.mem_of_getElem? (i := 10) rfl)) rfl, zT_mk (zm_1 (List.mem_of_getElem? (i := 8) rfl)) rfl, ⟨by decide, by decide, by decide +kernel⟩, by decide⟩
theorem kX10_142 : zCv RX10 142 mX10_isName 2 := ⟨zT_mk (zm_5 (List.mem_of_getElem? (i := 28) rfl)) rfl, zT_mk (zm_5 (List.mem_of_getElem? (i := 31) rfl)) rfl, zT_mk (zm_5 (List.mem_of_getElem? (i := 30) rfl)) rfl, zT_mk (zm_p4 (List.mem_of_getElem? (i := 11) rfl)) rfl, zT_mk (zm_1 (List.mem_of_getElem? (i := 8) rfl)) rfl, ⟨by decide, by decide, by decide +kernel⟩, by decide⟩
theorem kX10_226 : zCv RX10 226 mX10_state 2 := ⟨zT_mk (zm_5 (List.mem_of_getElem? (i := 32) rfl)) rfl, zT_mk (zm_5 (List.mem_of_getElem? (i := 35) rfl)) rfl, zT_mk (zm_5 (List.mem_of_getElem? (i := 34) rfl)) rfl, zT_mk (zm_p4 (List.mem_of_getElem? (i := 12) rfl)) rfl, zT_mk (zm_1 (List.mem_of_getElem? (i := 8) rfl)) rfl, ⟨by decide, by decide, by decide +kernel⟩, by decide⟩
theorem kX10_167 : zCv RX10 167 mX10_isSign 1 := ⟨zT_mk (zm_5 (List.mem_of_getElem? (i := 36) rfl)) rfl, zT_mk (zm_5 (List.mem_of_getElem? (i := 39) rfl)) rfl, zT_mk (zm_5 (List.mem_of_getElem? (i := 38) rfl)) rfl, zT_mk (zm_p4 (List.mem_of_getElem? (i := 13) rfl)) rfl, zT_mk (zm_1 (List.mem_of_getElem? (i := 8) rfl)) rfl, ⟨by decide, by decide, by decide +kernel⟩, by decide⟩
theorem kX10_229 : zCv RX10 229 mX10_operands 1 := ⟨zT_mk (zm_5 (List.mem_of_getElem? (i := 40) rfl)) rfl, zT_mk (zm_5 (List.mem_of_getElem? (i := 43) rfl)) rfl, zT_mk (zm_5 (List.mem_of_getElem? (i := 42) rfl)) rfl, zT_mk (zm_p4 (List.mem_of_getElem? (i := 14) rfl)) rfl, zT_mk (zm_1 (List.mem_of_getElem? (i := 8) rfl)) rfl, ⟨by decide, by decide, by decide +kernel⟩, by decide⟩
theorem kX10_223 : zCv RX10 223 mX10_takeOperand 0 := ⟨zT_mk (zm_5 (List.mem_of_getElem? (i := 44) rfl)) rfl, zT_mk (zm_5 (List.mem_of_getElem? (i := 47) rfl)) rfl, zT_mk (zm_5 (List.mem_of_getElem? (i := 46) rfl)) rfl, zT_mk (zm_p4 (List.mem_of_getElem? (i := 15) rfl)) rfl, zT_mk (zm_1 (List.mem_of_getElem? (i := 8) rfl)) rfl, ⟨by decide, by decide, by decide +kernel⟩, by decide⟩
theorem kX10_211 : zCv RX10 211 mX10_isBase 0 := ⟨zT_mk (zm_5 (List.mem_of_getElem? (i := 48) rfl)) rfl, zT_mk (zm_5 (List.mem_of_getElem? (i := 51) rfl)) rfl, zT_mk (zm_5 (List.mem_of_getElem? (i := 50) rfl)) rfl, zT_mk (zm_p5 (List.mem_of_getElem? (i := 0) rfl)) rfl, zT_mk (zm_1 (List.mem_of_getElem? (i := 8) rfl)) rfl, ⟨by decide, by decide, by decide +kernel⟩, by decide⟩
theorem kX10_180 : zCv RX10 180 mX10_tally 0 := ⟨zT_mk (zm_5 (List.mem_of_getElem? (i := 52) rfl)) rfl, zT_mk (zm_5 (List.mem_of_getElem? (i := 55) rfl)) rfl, zT_mk (zm_5 (List.mem_of_getElem? (i := 54) rfl)) rfl, zT_mk (zm_p5 (List.mem_of_getElem? (i := 1) rfl)) rfl, zT_mk (zm_1 (List.mem_of_getElem? (i := 8) rfl)) rfl, ⟨by decide, by decide, by decide +kernel⟩, by decide⟩
theorem kX10_158 : zCv RX10 158 mX10_emit 2 := ⟨zT_mk (zm_5 (List.mem_of_getElem? (i := 56) rfl)) rfl, zT_mk (zm_5 (List.mem_of_getElem? (i := 59) rfl)) rfl, zT_mk (zm_5 (List.mem_of_getElem? (i := 58) rfl)) rfl, zT_mk (zm_p5 (List.mem_of_getElem? (i := 2) rfl)) rfl, zT_mk (zm_1 (List.mem_of_getElem? (i := 8) rfl)) rfl, ⟨by decide, by decide, by decide +kernel⟩, by decide⟩
theorem kX10_214 : zCv RX10 214 mX10_based 1 := ⟨zT_mk (zm_5 (List.mem_of_getElem? (i := 60) rfl)) rfl, zT_mk (zm_5 (List.mem_of_getElem? (i := 63) rfl)) rfl, zT_mk (zm_5 (List.mem_of_getElem? (i := 62) rfl)) rfl, zT_mk (zm_p5 (List.mem_of_getElem? (i := 3) rfl)) rfl, zT_mk (zm_1 (List.mem_of_getElem? (i := 8) rfl)) rfl, ⟨by decide, by decide, by decide +kernel⟩, by decide⟩
theorem kX10_199 : zCv RX10 199 mX10_closes 0 := ⟨zT_mk (zm_5 (List.mem_of_getElem? (i := 64) rfl)) rfl, zT_mk (zm_5 (List.mem_of_getElem? (i := 67) rfl)) rfl, zT_mk (zm_5 (List.mem_of_getElem? (i := 66) rfl)) rfl, zT_mk (zm_p5 (List.mem_of_getElem? (i := 4) rfl)) rfl, zT_mk (zm_1 (List.mem_of_getElem? (i := 8) rfl)) rfl, ⟨by decide, by decide, by decide +kernel⟩, by decide⟩
theorem kX10_217 : zCv RX10 217 mX10_marked 1 := ⟨zT_mk (zm_5 (List.mem_of_getElem? (i := 68) rfl)) rfl, zT_mk (zm_5 (List.mem_of_getElem? (i := 71) rfl)) rfl, zT_mk (zm_5 (List.mem_of_getElem? (i := 70) rfl)) rfl, zT_mk (zm_p5 (List.mem_of_getElem? (i := 5) rfl)) rfl, zT_mk (zm_1 (List.mem_of_getElem? (i := 8) rfl)) rfl, ⟨by decide, by decide, by decide +kernel⟩, by decide⟩
theorem kX10_202 : zCv RX10 202 mX10_mark 0 := ⟨zT_mk (zm_5 (List.mem_of_getElem? (i := 72) rfl)) rfl, zT_mk (zm_5 (List.mem_of_getElem? (i := 75) rfl)) rfl, zT_mk (zm_5 (List.mem_of_getElem? (i := 74) rfl)) rfl, zT_mk (zm_p5 (List.mem_of_getElem? (i := 6) rfl)) rfl, zT_mk (zm_1 (List.mem_of_getElem? (i := 8) rfl)) rfl, ⟨by decide, by decide, by decide +kernel⟩, by decide⟩
theorem kX10_205 : zCv RX10 205 mX10_expression 0 := ⟨zT_mk (zm_5 (List.mem_of_getElem? (i := 76) rfl)) rfl, zT_mk (zm_5 (List.mem_of_getElem? (i := 79) rfl)) rfl, zT_mk (zm_5 (List.mem_of_getElem? (i := 78) rfl)) rfl, zT_mk (zm_p5 (List.mem_of_getElem? (i := 7) rfl)) rfl, zT_mk (zm_1 (List.mem_of_getElem? (i := 8) rfl)) rfl, ⟨by decide, by decide, by decide +kernel⟩, by decide⟩
theorem kX10_190 : zCv RX10 190 mX10_wanted 0 := ⟨zT_mk (zm_5 (List.mem_of_getElem? (i := 80) rfl)) rfl, zT_mk (zm_5 (List.mem_of_getElem? (i := 83) rfl)) rfl, zT_mk (zm_5 (List.mem_of_getElem? (i := 82) rfl)) rfl, zT_mk (zm_p5 (List.mem_of_getElem? (i := 8) rfl)) rfl, zT_mk (zm_1 (List.mem_of_getElem? (i := 8) rfl)) rfl, ⟨by decide, by decide, by decide +kernel⟩, by decide⟩
theorem kX10_187 : zCv RX10 187 mX10_ahead 0 := ⟨zT_mk (zm_5 (List.mem_of_getElem? (i := 84) rfl)) rfl, zT_mk (zm_5 (List.mem_of_getElem? (i := 87) rfl)) rfl, zT_mk (zm_5 (List.mem_of_getElem? (i := 86) rfl)) rfl, zT_mk (zm_p5 (List.mem_of_getElem? (i := 9) rfl)) rfl, zT_mk (zm_1 (List.mem_of_getElem? (i := 8) rfl)) rfl, ⟨by decide, by decide, by decide +kernel⟩, by decide⟩
theorem kX10_193 : zCv RX10 193 mX10_operator 0 := ⟨zT_mk (zm_5 (List.mem_of_getElem? (i := 88) rfl)) rfl, zT_mk (zm_5 (List.mem_of_getElem? (i := 91) rfl)) rfl, zT_mk (zm_5 (List.mem_of_getElem? (i := 90) rfl)) rfl, zT_mk (zm_p5 (List.mem_of_getElem? (i := 10) rfl)) rfl, zT_mk (zm_1 (List.mem_of_getElem? (i := 8) rfl)) rfl, ⟨by decide, by decide, by decide +kernel⟩, by decide⟩
theorem kX10_164 : zCs RX10 164 mX10_binds 1 := ⟨zT_mk (zm_5 (List.mem_of_getElem? (i := 92) rfl)) rfl, zT_mk (zm_5 (List.mem_of_getElem? (i := 94) rfl)) rfl, zT_mk (zm_5 (List.mem_of_getElem? (i := 93) rfl)) rfl, zT_mk (zm_1 (List.mem_of_getElem? (i := 8) rfl)) rfl, ⟨by decide, by decide, by decide +kernel⟩, by decide⟩
theorem kX10_196 : zCv RX10 196 mX10_reduce 1 := ⟨zT_mk (zm_5 (List.mem_of_getElem? (i := 95) rfl)) rfl, zT_mk (zm_5 (List.mem_of_getElem? (i := 98) rfl)) rfl, zT_mk (zm_5 (List.mem_of_getElem? (i := 97) rfl)) rfl, zT_mk (zm_p5 (List.mem_of_getElem? (i := 11) rfl)) rfl, zT_mk (zm_1 (List.mem_of_getElem? (i := 8) rfl)) rfl, ⟨by decide, by decide, by decide +kernel⟩, by decide⟩
theorem kX10_238 : zCv RX10 238 mX10_keep 0 := ⟨zT_mk (zm_5 (List.mem_of_getElem? (i := 99) rfl)) rfl, zT_mk (zm_5 (List.mem_of_getElem? (i := 102) rfl)) rfl, zT_mk (zm_5 (List.mem_of_getElem? (i := 101) rfl)) rfl, zT_mk (zm_p5 (List.mem_of_getElem? (i := 12) rfl)) rfl, zT_mk (zm_1 (List.mem_of_getElem? (i := 8) rfl)) rfl, ⟨by decide, by decide, by decide +kernel⟩, by decide⟩
theorem kL_41 : zCv RL 41 mX10_fault 1 := ⟨zT_mk (zm_5 (List.mem_of_getElem? (i := 103) rfl)) rfl, zT_mk (zm_5 (List.mem_of_getElem? (i := 106) rfl)) rfl, zT_mk (zm_5 (List.mem_of_getElem? (i := 104) rfl)) rfl, zT_mk (zm_5 (List.mem_of_getElem? (i := 105) rfl)) rfl, zT_mk (zm_1 (List.mem_of_getElem? (i := 8) rfl)) rfl, ⟨by decide, by decide, by decide +kernel⟩, by decide⟩
theorem kL_45 : zCv RL 45 mX10_count 1 := ⟨zT_mk (zm_5 (List.mem_of_getElem? (i := 107) rfl)) rfl, zT_mk (zm_5 (List.mem_of_getElem? (i := 110) rfl)) rfl, zT_mk (zm_5 (List.mem_of_getElem? (i := 108) rfl)) rfl, zT_mk (zm_5 (List.mem_of_getElem? (i := 109) rfl)) rfl, zT_mk (zm_1 (List.mem_of_getElem? (i := 8) rfl)) rfl, ⟨by decide, by decide, by decide +kernel⟩, by decide⟩
theorem kL_50 : zCv RL 50 mX10_statement 2 := ⟨zT_mk (zm_5 (List.mem_of_getElem? (i := 111) rfl)) rfl, zT_mk (zm_5 (List.mem_of_getElem? (i := 114) rfl)) rfl, zT_mk (zm_5 (List.mem_of_getElem? (i := 112) rfl)) rfl, zT_mk (zm_5 (List.mem_of_getElem? (i := 113) rfl)) rfl, zT_mk (zm_1 (List.mem_of_getElem? (i := 8) rfl)) rfl, ⟨by decide, by decide, by decide +kernel⟩, by decide⟩
theorem kL_54 : zCv RL 54 mX10_operand 2 := ⟨zT_mk (zm_5 (List.mem_of_getElem? (i := 115) rfl)) rfl, zT_mk (zm_5 (List.mem_of_getElem? (i := 118) rfl)) rfl, zT_mk (zm_5 (List.mem_of_getElem? (i := 116) rfl)) rfl, zT_mk (zm_5 (List.mem_of_getElem? (i := 117) rfl)) rfl, zT_mk (zm_1 (List.mem_of_getElem? (i := 8) rfl)) rfl, ⟨by decide, by decide, by decide +kernel⟩, by decide⟩
theorem kL_63 : zCv RL 63 mX10_item 2 := ⟨zT_mk (zm_5 (List.mem_of_getElem? (i := 119) rfl)) rfl, zT_mk (zm_5 (List.mem_of_getElem? (i := 122) rfl)) rfl, zT_mk (zm_5 (List.mem_of_getElem? (i := 120) rfl)) rfl, zT_mk (zm_5 (List.mem_of_getElem? (i := 121) rfl)) rfl, zT_mk (zm_1 (List.mem_of_getElem? (i := 8) rfl)) rfl, ⟨by decide, by decide, by decide +kernel⟩, by decide⟩
theorem kL_59 : zCv RL 59 mX10_constant 1 := ⟨zT_mk (zm_5 (List.mem_of_getElem? (i := 123) rfl)) rfl, zT_mk (zm_5 (List.mem_of_getElem? (i := 126) rfl)) rfl, zT_mk (zm_5 (List.mem_of_getElem? (i := 124) rfl)) rfl, zT_mk (zm_5 (List.mem_of_getElem? (i := 125) rfl)) rfl, zT_mk (zm_1 (List.mem_of_getElem? (i := 8) rfl)) rfl, ⟨by decide, by decide, by decide +kernel⟩, by decide⟩
theorem kX10_243 : zCs RX10 243 mX10_worked 3 := ⟨zT_mk (zm_5 (List.mem_of_getElem? (i := 128) rfl)) rfl, zT_mk (zm_5 (List.mem_of_getElem? (i := 130) rfl)) rfl, zT_mk (zm_5 (List.mem_of_getElem? (i := 129) rfl)) rfl, zT_mk (zm_1 (List.mem_of_getElem? (i := 8) rfl)) rfl, ⟨by decide, by decide, by decide +kernel⟩, by decide⟩
theorem kL_67 : zCv RL 67 mX10_name 2 := ⟨zT_mk (zm_5 (List.mem_of_getElem? (i := 131) rfl)) rfl, zT_mk (zm_5 (List.mem_of_getElem? (i := 134) rfl)) rfl, zT_mk (zm_5 (List.mem_of_getElem? (i := 132) rfl)) rfl, zT_mk (zm_5 (List.mem_of_getElem? (i := 133) rfl)) rfl, zT_mk (zm_1 (List.mem_of_getElem? (i := 8) rfl)) rfl, ⟨by decide, by decide, by decide +kernel⟩, by decide⟩
theorem kL_71 : zCv RL 71 mX10_string 2 := ⟨zT_mk (zm_5 (List.mem_of_getElem? (i := 135) rfl)) rfl, zT_mk (zm_5 (List.mem_of_getElem? (i := 138) rfl)) rfl, zT_mk (zm_5 (List.mem_of_getElem? (i := 136) rfl)) rfl, zT_mk (zm_5 (List.mem_of_getElem? (i := 137) rfl)) rfl, zT_mk (zm_1 (List.mem_of_getElem? (i := 8) rfl)) rfl, ⟨by decide, by decide, by decide +kernel⟩, by decide⟩
theorem kL_78 : zCv RL 78 mX10_find 2 := ⟨zT_mk (zm_5 (List.mem_of_getElem? (i := 139) rfl)) rfl, zT_mk (zm_5 (List.mem_of_getElem? (i := 142) rfl)) rfl, zT_mk (zm_5 (List.mem_of_getElem? (i := 140) rfl)) rfl, zT_mk (zm_5 (List.mem_of_getElem? (i := 141) rfl)) rfl, zT_mk (zm_1 (List.mem_of_getElem? (i := 8) rfl)) rfl, ⟨by decide, by decide, by decide +kernel⟩, by decide⟩
theorem kL_82 : zCv RL 82 mX10_tell 1 := ⟨zT_mk (zm_5 (List.mem_of_getElem? (i := 144) rfl)) rfl, zT_mk (zm_5 (List.mem_of_getElem? (i := 147) rfl)) rfl, zT_mk (zm_5 (List.mem_of_getElem? (i := 145) rfl)) rfl, zT_mk (zm_5 (List.mem_of_getElem? (i := 146) rfl)) rfl, zT_mk (zm_1 (List.mem_of_getElem? (i := 8) rfl)) rfl, ⟨by decide, by decide, by decide +kernel⟩, by decide⟩
theorem kX10_259 : zCv RX10 259 mX10_sayNumber 1 := ⟨zT_mk (zm_5 (List.mem_of_getElem? (i := 148) rfl)) rfl, zT_mk (zm_5 (List.mem_of_getElem? (i := 151) rfl)) rfl, zT_mk (zm_5 (List.mem_of_getElem? (i := 150) rfl)) rfl, zT_mk (zm_p5 (List.mem_of_getElem? (i := 13) rfl)) rfl, zT_mk (zm_1 (List.mem_of_getElem? (i := 8) rfl)) rfl, ⟨by decide, by decide, by decide +kernel⟩, by decide⟩
theorem kX10_256 : zCv RX10 256 mX10_say 1 := ⟨zT_mk (zm_5 (List.mem_of_getElem? (i := 154) rfl)) rfl, zT_mk (zm_5 (List.mem_of_getElem? (i := 157) rfl)) rfl, zT_mk (zm_5 (List.mem_of_getElem? (i := 156) rfl)) rfl, zT_mk (zm_p5 (List.mem_of_getElem? (i := 14) rfl)) rfl, zT_mk (zm_1 (List.mem_of_getElem? (i := 8) rfl)) rfl, ⟨by decide, by decide, by decide +kernel⟩, by decide⟩
theorem kX10_274 : zCv RX10 274 mX10_sayName 1 := ⟨zT_mk (zm_5 (List.mem_of_getElem? (i := 158) rfl)) rfl, zT_mk (zm_5 (List.mem_of_getElem? (i := 161) rfl)) rfl, zT_mk (zm_5 (List.mem_of_getElem? (i := 160) rfl)) rfl, zT_mk (zm_p5 (List.mem_of_getElem? (i := 15) rfl)) rfl, zT_mk (zm_1 (List.mem_of_getElem? (i := 8) rfl)) rfl, ⟨by decide, by decide, by decide +kernel⟩, by decide⟩
theorem kX10_302 : zCv RX10 302 mX10_sayOperand 1 := ⟨zT_mk (zm_5 (List.mem_of_getElem? (i := 162) rfl)) rfl, zT_mk (zm_5 (List.mem_of_getElem? (i := 165) rfl)) rfl, zT_mk (zm_5 (List.mem_of_getElem? (i := 164) rfl)) rfl, zT_mk (zm_p6 (List.mem_of_getElem? (i := 0) rfl)) rfl, zT_mk (zm_1 (List.mem_of_getElem? (i := 8) rfl)) rfl, ⟨by decide, by decide, by decide +kernel⟩, by decide⟩
theorem kX10_290 : zCv RX10 290 mX10_sayRegister 1 := ⟨zT_mk (zm_5 (List.mem_of_getElem? (i := 166) rfl)) rfl, zT_mk (zm_5 (List.mem_of_getElem? (i := 169) rfl)) rfl, zT_mk (zm_5 (List.mem_of_getElem? (i := 168) rfl)) rfl, zT_mk (zm_p6 (List.mem_of_getElem? (i := 1) rfl)) rfl, zT_mk (zm_1 (List.mem_of_getElem? (i := 8) rfl)) rfl, ⟨by decide, by decide, by decide +kernel⟩, by decide⟩
theorem kX10_293 : zCv RX10 293 mX10_sayString 1 := ⟨zT_mk (zm_5 (List.mem_of_getElem? (i := 170) rfl)) rfl, zT_mk (zm_5 (List.mem_of_getElem? (i := 173) rfl)) rfl, zT_mk (zm_5 (List.mem_of_getElem? (i := 172) rfl)) rfl, zT_mk (zm_p6 (List.mem_of_getElem? (i := 2) rfl)) rfl, zT_mk (zm_1 (List.mem_of_getElem? (i := 8) rfl)) rfl, ⟨by decide, by decide, by decide +kernel⟩, by decide⟩
theorem kX10_296 : zCv RX10 296 mX10_sayMark 1 := ⟨zT_mk (zm_5 (List.mem_of_getElem? (i := 174) rfl)) rfl, zT_mk (zm_5 (List.mem_of_getElem? (i := 177) rfl)) rfl, zT_mk (zm_5 (List.mem_of_getElem? (i := 176) rfl)) rfl, zT_mk (zm_p6 (List.mem_of_getElem? (i := 3) rfl)) rfl, zT_mk (zm_1 (List.mem_of_getElem? (i := 8) rfl)) rfl, ⟨by decide, by decide, by decide +kernel⟩, by decide⟩
theorem kX10_299 : zCv RX10 299 mX10_sayItems 2 := ⟨zT_mk (zm_5 (List.mem_of_getElem? (i := 178) rfl)) rfl, zT_mk (zm_5 (List.mem_of_getElem? (i := 181) rfl)) rfl, zT_mk (zm_5 (List.mem_of_getElem? (i := 180) rfl)) rfl, zT_mk (zm_p6 (List.mem_of_getElem? (i := 4) rfl)) rfl, zT_mk (zm_1 (List.mem_of_getElem? (i := 8) rfl)) rfl, ⟨by decide, by decide, by decide +kernel⟩, by decide⟩
theorem kX10_277 : zCv RX10 277 mX10_findBegins 2 := ⟨zT_mk (zm_5 (List.mem_of_getElem? (i := 182) rfl)) rfl, zT_mk (zm_5 (List.mem_of_getElem? (i := 185) rfl)) rfl, zT_mk (zm_5 (List.mem_of_getElem? (i := 184) rfl)) rfl, zT_mk (zm_p6 (List.mem_of_getElem? (i := 5) rfl)) rfl, zT_mk (zm_1 (List.mem_of_getElem? (i := 8) rfl)) rfl, ⟨by decide, by decide, by decide +kernel⟩, by decide⟩
theorem kX10_263 : zCv RX10 263 mX10_whatOf 1 := ⟨zT_mk (zm_5 (List.mem_of_getElem? (i := 186) rfl)) rfl, zT_mk (zm_5 (List.mem_of_getElem? (i := 189) rfl)) rfl, zT_mk (zm_5 (List.mem_of_getElem? (i := 188) rfl)) rfl, zT_mk (zm_p6 (List.mem_of_getElem? (i := 6) rfl)) rfl, zT_mk (zm_1 (List.mem_of_getElem? (i := 8) rfl)) rfl, ⟨by decide, by decide, by decide +kernel⟩, by decide⟩
theorem kX10_269 : zCv RX10 269 mX10_add 1 := ⟨zT_mk (zm_5 (List.mem_of_getElem? (i := 190) rfl)) rfl, zT_mk (zm_5 (List.mem_of_getElem? (i := 193) rfl)) rfl, zT_mk (zm_5 (List.mem_of_getElem? (i := 192) rfl)) rfl, zT_mk (zm_p6 (List.mem_of_getElem? (i := 7) rfl)) rfl, zT_mk (zm_1 (List.mem_of_getElem? (i := 8) rfl)) rfl, ⟨by decide, by decide, by decide +kernel⟩, by decide⟩
theorem kX10_280 : zCv RX10 280 mX10_saySign 1 := ⟨zT_mk (zm_5 (List.mem_of_getElem? (i := 194) rfl)) rfl, zT_mk (zm_5 (List.mem_of_getElem? (i := 197) rfl)) rfl, zT_mk (zm_5 (List.mem_of_getElem? (i := 196) rfl)) rfl, zT_mk (zm_p6 (List.mem_of_getElem? (i := 8) rfl)) rfl, zT_mk (zm_1 (List.mem_of_getElem? (i := 8) rfl)) rfl, ⟨by decide, by decide, by decide +kernel⟩, by decide⟩
theorem kX10_283 : zCv RX10 283 mX10_sayLeaf 1 := ⟨zT_mk (zm_5 (List.mem_of_getElem? (i := 198) rfl)) rfl, zT_mk (zm_5 (List.mem_of_getElem? (i := 201) rfl)) rfl, zT_mk (zm_5 (List.mem_of_getElem? (i := 200) rfl)) rfl, zT_mk (zm_p6 (List.mem_of_getElem? (i := 9) rfl)) rfl, zT_mk (zm_1 (List.mem_of_getElem? (i := 8) rfl)) rfl, ⟨by decide, by decide, by decide +kernel⟩, by decide⟩
theorem kX10_286 : zCv RX10 286 mX10_addSide 2 := ⟨zT_mk (zm_5 (List.mem_of_getElem? (i := 203) rfl)) rfl, zT_mk (zm_5 (List.mem_of_getElem? (i := 206) rfl)) rfl, zT_mk (zm_5 (List.mem_of_getElem? (i := 205) rfl)) rfl, zT_mk (zm_p6 (List.mem_of_getElem? (i := 10) rfl)) rfl, zT_mk (zm_1 (List.mem_of_getElem? (i := 8) rfl)) rfl, ⟨by decide, by decide, by decide +kernel⟩, by decide⟩
theorem kL_86 : zCv RL 86 mX10_letter 1 := ⟨zT_mk (zm_5 (List.mem_of_getElem? (i := 207) rfl)) rfl, zT_mk (zm_5 (List.mem_of_getElem? (i := 210) rfl)) rfl, zT_mk (zm_5 (List.mem_of_getElem? (i := 208) rfl)) rfl, zT_mk (zm_5 (List.mem_of_getElem? (i := 209) rfl)) rfl, zT_mk (zm_1 (List.mem_of_getElem? (i := 8) rfl)) rfl, ⟨by decide, by decide, by decide +kernel⟩, by decide⟩
theorem nL_8 : zNw RL 8 6 [.null, .null, .null, .null, .null] := ⟨RX9, TX9, 5, tyX9, rfl, rfl, inX9, tyX9_ok, zT_mk (zm_1 (List.mem_of_getElem? (i := 21) rfl)) rfl, zT_mk (zm_1 (List.mem_of_getElem? (i := 22) rfl)) rfl, zT_mk (zm_1 (List.mem_of_getElem? (i := 1) rfl)) rfl, fun j hj => by match j, hj with
  | 0, _ => rfl
  | 1, _ => rfl
  | 2, _ => rfl
  | 3, _ => rfl
  | 4, _ => rfl
  | j + 5, hj => exact absurd hj (by omega)⟩
theorem nX9_16 : zNw RX9 16 1 [.null, .null, .null, .int 0, .int 0, .int 0, .int 0, .int 0, .int 0, .int 0, .int 0] := ⟨RX3, TX3, 11, tyX3, rfl, rfl, inX3, tyX3_ok, zT_mk (zm_1 (List.mem_of_getElem? (i := 29) rfl)) rfl, zT_mk (zm_1 (List.mem_of_getElem? (i := 30) rfl)) rfl, zT_mk (zm_1 (List.mem_of_getElem? (i := 2) rfl)) rfl, fun j hj => by match j, hj with
  | 0, _ => rfl
  | 1, _ => rfl
  | 2, _ => rfl
  | 3, _ => rfl
  | 4, _ => rfl
  | 5, _ => rfl
  | 6, _ => rfl
  | 7, _ => rfl
  | 8, _ => rfl
  | 9, _ => rfl
  | 10, _ => rfl
  | j + 11, hj => exact absurd hj (by omega)⟩
theorem nX3_9 : zNw RX3 9 5 [.null, .null, .int 0, .int 0, .int 0, .int 0] := ⟨RX8, TX8, 6, tyX8, rfl, rfl, inX8, tyX8_ok, zT_mk (zm_1 (List.mem_of_getElem? (i := 35) rfl)) rfl, zT_mk (zm_1 (List.mem_of_getElem? (i := 36) rfl)) rfl, zT_mk (zm_1 (List.mem_of_getElem? (i := 3) rfl)) rfl, fun j hj => by match j, hj with
  | 0, _ => rfl
  | 1, _ => rfl
  | 2, _ => rfl
  | 3, _ => rfl
  | 4, _ => rfl
  | 5, _ => rfl
  | j + 6, hj => exact absurd hj (by omega)⟩
theorem nX8_15 : zNw RX8 15 3 [.null, .int 0, .int 0, .int 0] := ⟨RX6, TX6, 4, tyX6, rfl, rfl, inX6, tyX6_ok, zT_mk (zm_1 (List.mem_of_getElem? (i := 41) rfl)) rfl, zT_mk (zm_1 (List.mem_of_getElem? (i := 42) rfl)) rfl, zT_mk (zm_1 (List.mem_of_getElem? (i := 4) rfl)) rfl, fun j hj => by match j, hj with
  | 0, _ => rfl
  | 1, _ => rfl
  | 2, _ => rfl
  | 3, _ => rfl
  | j + 4, hj => exact absurd hj (by omega)⟩
theorem nX3_18 : zNw RX3 18 0 [.null, .null, .null, .null, .null, .int 0] := ⟨RX0, TX0, 6, tyX0, rfl, rfl, inX0, tyX0_ok, zT_mk (zm_1 (List.mem_of_getElem? (i := 86) rfl)) rfl, zT_mk (zm_1 (List.mem_of_getElem? (i := 87) rfl)) rfl, zT_mk (zm_1 (List.mem_of_getElem? (i := 5) rfl)) rfl, fun j hj => by match j, hj with
  | 0, _ => rfl
  | 1, _ => rfl
  | 2, _ => rfl
  | 3, _ => rfl
  | 4, _ => rfl
  | 5, _ => rfl
  | j + 6, hj => exact absurd hj (by omega)⟩
theorem nX0_9 : zNw RX0 9 3 [.null, .int 0, .int 0, .int 0] := ⟨RX6, TX6, 4, tyX6, rfl, rfl, inX6, tyX6_ok, zT_mk (zm_1 (List.mem_of_getElem? (i := 92) rfl)) rfl, zT_mk (zm_1 (List.mem_of_getElem? (i := 42) rfl)) rfl, zT_mk (zm_1 (List.mem_of_getElem? (i := 4) rfl)) rfl, fun j hj => by match j, hj with
  | 0, _ => rfl
  | 1, _ => rfl
  | 2, _ => rfl
  | 3, _ => rfl
  | j + 4, hj => exact absurd hj (by omega)⟩
theorem nX9_23 : zNw RX9 23 2 [.null] := ⟨RX4, TX4, 1, tyX4, rfl, rfl, inX4, tyX4_ok, zT_mk (zm_1 (List.mem_of_getElem? (i := 167) rfl)) rfl, zT_mk (zm_1 (List.mem_of_getElem? (i := 168) rfl)) rfl, zT_mk (zm_1 (List.mem_of_getElem? (i := 6) rfl)) rfl, fun j hj => by match j, hj with
  | 0, _ => rfl
  | j + 1, hj => exact absurd hj (by omega)⟩
theorem nX9_30 : zNw RX9 30 4 [.null, .int 0, .null, .int 0, .int 0] := ⟨RX7, TX7, 5, tyX7, rfl, rfl, inX7, tyX7_ok, zT_mk (zm_1 (List.mem_of_getElem? (i := 177) rfl)) rfl, zT_mk (zm_1 (List.mem_of_getElem? (i := 178) rfl)) rfl, zT_mk (zm_1 (List.mem_of_getElem? (i := 7) rfl)) rfl, fun j hj => by match j, hj with
  | 0, _ => rfl
  | 1, _ => rfl
  | 2, _ => rfl
  | 3, _ => rfl
  | 4, _ => rfl
  | j + 5, hj => exact absurd hj (by omega)⟩
theorem nL_16 : zNw RL 16 7 [.int 0, .null, .null, .int 0, .null, .null, .null, .null, .null, .null, .null, .int 0, .int 0, .int 0, .int 0, .int 0, .int 0, .int 0, .int 0, .int 0, .int 0, .int 0, .null, .int 0, .int 0, .int 0, .int 0, .int 0, .null, .int 0, .null, .null, .null, .null, .null, .int 0] := ⟨RX10, TX10, 36, tyX10, rfl, rfl, inX10, tyX10_ok, zT_mk (zm_4 (List.mem_of_getElem? (i := 60) rfl)) rfl, zT_mk (zm_4 (List.mem_of_getElem? (i := 61) rfl)) rfl, zT_mk (zm_1 (List.mem_of_getElem? (i := 8) rfl)) rfl, fun j hj => by match j, hj with
  | 0, _ => rfl
  | 1, _ => rfl
  | 2, _ => rfl
  | 3, _ => rfl
  | 4, _ => rfl
  | 5, _ => rfl
  | 6, _ => rfl
  | 7, _ => rfl
  | 8, _ => rfl
  | 9, _ => rfl
  | 10, _ => rfl
  | 11, _ => rfl
  | 12, _ => rfl
  | 13, _ => rfl
  | 14, _ => rfl
  | 15, _ => rfl
  | 16, _ => rfl
  | 17, _ => rfl
  | 18, _ => rfl
  | 19, _ => rfl
  | 20, _ => rfl
  | 21, _ => rfl
  | 22, _ => rfl
  | 23, _ => rfl
  | 24, _ => rfl
  | 25, _ => rfl
  | 26, _ => rfl
  | 27, _ => rfl
  | 28, _ => rfl
  | 29, _ => rfl
  | 30, _ => rfl
  | 31, _ => rfl
  | 32, _ => rfl
  | 33, _ => rfl
  | 34, _ => rfl
  | 35, _ => rfl
  | j + 36, hj => exact absurd hj (by omega)⟩
theorem lX4_43 : Cond.constantLong RX4 43 (1099511627776) ∈ zT := zT_mk (zm_2 (List.mem_of_getElem? (i := 29) rfl)) rfl
theorem lX7_69 : Cond.constantLong RX7 69 (4294967295) ∈ zT := zT_mk (zm_2 (List.mem_of_getElem? (i := 160) rfl)) rfl
theorem lX7_71 : Cond.constantLong RX7 71 (10) ∈ zT := zT_mk (zm_2 (List.mem_of_getElem? (i := 161) rfl)) rfl
theorem lX8_99 : Cond.constantLong RX8 99 (4294967296) ∈ zT := zT_mk (zm_3 (List.mem_of_getElem? (i := 32) rfl)) rfl
theorem lX10_120 : Cond.constantLong RX10 120 (4294967296) ∈ zT := zT_mk (zm_4 (List.mem_of_getElem? (i := 227) rfl)) rfl
theorem lX10_241 : Cond.constantLong RX10 241 (1099511627776) ∈ zT := zT_mk (zm_5 (List.mem_of_getElem? (i := 127) rfl)) rfl
theorem lX10_247 : Cond.constantLong RX10 247 (255) ∈ zT := zT_mk (zm_5 (List.mem_of_getElem? (i := 143) rfl)) rfl
theorem lX10_252 : Cond.constantLong RX10 252 (9) ∈ zT := zT_mk (zm_5 (List.mem_of_getElem? (i := 152) rfl)) rfl
theorem lX10_254 : Cond.constantLong RX10 254 (10) ∈ zT := zT_mk (zm_5 (List.mem_of_getElem? (i := 153) rfl)) rfl
theorem lX10_272 : Cond.constantLong RX10 272 (4294967295) ∈ zT := zT_mk (zm_5 (List.mem_of_getElem? (i := 202) rfl)) rfl
theorem lL_72 : Cond.constantLong RL 72 (4294967295) ∈ zT := zT_mk (zm_5 (List.mem_of_getElem? (i := 211) rfl)) rfl
theorem gJ0_38 : Cond.fieldLink RJ0 38 "java/lang/String" "COMPACT_STRINGS" "Z" ∈ zT := zT_mk (zm_2 (List.mem_of_getElem? (i := 94) rfl)) rfl
theorem gJ0_1053 : Cond.fieldLink RJ0 1053 "jdk/internal/util/Preconditions" "SIOOBE_FORMATTER" "Ljava/util/function/BiFunction;" ∈ zT := zT_mk (zm_2 (List.mem_of_getElem? (i := 110) rfl)) rfl
theorem gJ2_44 : Cond.fieldLink RJ2 44 "java/lang/StringUTF16" "$assertionsDisabled" "Z" ∈ zT := zT_mk (zm_2 (List.mem_of_getElem? (i := 128) rfl)) rfl
theorem gJ2_59 : Cond.fieldLink RJ2 59 "java/lang/StringUTF16" "HI_BYTE_SHIFT" "I" ∈ zT := zT_mk (zm_2 (List.mem_of_getElem? (i := 130) rfl)) rfl
theorem gJ2_63 : Cond.fieldLink RJ2 63 "java/lang/StringUTF16" "LO_BYTE_SHIFT" "I" ∈ zT := zT_mk (zm_2 (List.mem_of_getElem? (i := 132) rfl)) rfl
theorem gX1_9 : Cond.fieldLink RX1 9 "UnitText$Items" "LEVELS" "[I" ∈ zT := zT_mk (zm_2 (List.mem_of_getElem? (i := 197) rfl)) rfl
theorem gJ0_9 : Cond.fieldLink RJ0 9 "java/lang/String" "value" "[B" ∈ zT := zT_mk (zm_5 (List.mem_of_getElem? (i := 214) rfl)) rfl
theorem gJ0_15 : Cond.fieldLink RJ0 15 "java/lang/String" "coder" "B" ∈ zT := zT_mk (zm_5 (List.mem_of_getElem? (i := 215) rfl)) rfl
theorem oX9_1 : Cond.methodLink RX9 1 Lib.objectInit ∈ zT ∧ Cond.instanceMethod Lib.objectInit ∈ zT ∧ Cond.code Lib.objectInit ⟨#[0xb1]⟩ 1 none ∈ zT := ⟨zT_mk (zm_1 (List.mem_of_getElem? (i := 26) rfl)) rfl, zT_mk (zm_1 (List.mem_of_getElem? (i := 27) rfl)) rfl, zT_mk (zm_1 (List.mem_of_getElem? (i := 28) rfl)) rfl⟩
theorem oX3_3 : Cond.methodLink RX3 3 Lib.objectInit ∈ zT ∧ Cond.instanceMethod Lib.objectInit ∈ zT ∧ Cond.code Lib.objectInit ⟨#[0xb1]⟩ 1 none ∈ zT := ⟨zT_mk (zm_1 (List.mem_of_getElem? (i := 34) rfl)) rfl, zT_mk (zm_1 (List.mem_of_getElem? (i := 27) rfl)) rfl, zT_mk (zm_1 (List.mem_of_getElem? (i := 28) rfl)) rfl⟩
theorem oX8_3 : Cond.methodLink RX8 3 Lib.objectInit ∈ zT ∧ Cond.instanceMethod Lib.objectInit ∈ zT ∧ Cond.code Lib.objectInit ⟨#[0xb1]⟩ 1 none ∈ zT := ⟨zT_mk (zm_1 (List.mem_of_getElem? (i := 40) rfl)) rfl, zT_mk (zm_1 (List.mem_of_getElem? (i := 27) rfl)) rfl, zT_mk (zm_1 (List.mem_of_getElem? (i := 28) rfl)) rfl⟩
theorem oX6_3 : Cond.methodLink RX6 3 Lib.objectInit ∈ zT ∧ Cond.instanceMethod Lib.objectInit ∈ zT ∧ Cond.code Lib.objectInit ⟨#[0xb1]⟩ 1 none ∈ zT := ⟨zT_mk (zm_1 (List.mem_of_getElem? (i := 46) rfl)) rfl, zT_mk (zm_1 (List.mem_of_getElem? (i := 27) rfl)) rfl, zT_mk (zm_1 (List.mem_of_getElem? (i := 28) rfl)) rfl⟩
theorem oX0_3 : Cond.methodLink RX0 3 Lib.objectInit ∈ zT ∧ Cond.instanceMethod Lib.objectInit ∈ zT ∧ Cond.code Lib.objectInit ⟨#[0xb1]⟩ 1 none ∈ zT := ⟨zT_mk (zm_1 (List.mem_of_getElem? (i := 91) rfl)) rfl, zT_mk (zm_1 (List.mem_of_getElem? (i := 27) rfl)) rfl, zT_mk (zm_1 (List.mem_of_getElem? (i := 28) rfl)) rfl⟩
theorem oX4_3 : Cond.methodLink RX4 3 Lib.objectInit ∈ zT ∧ Cond.instanceMethod Lib.objectInit ∈ zT ∧ Cond.code Lib.objectInit ⟨#[0xb1]⟩ 1 none ∈ zT := ⟨zT_mk (zm_1 (List.mem_of_getElem? (i := 172) rfl)) rfl, zT_mk (zm_1 (List.mem_of_getElem? (i := 27) rfl)) rfl, zT_mk (zm_1 (List.mem_of_getElem? (i := 28) rfl)) rfl⟩
theorem oX7_3 : Cond.methodLink RX7 3 Lib.objectInit ∈ zT ∧ Cond.instanceMethod Lib.objectInit ∈ zT ∧ Cond.code Lib.objectInit ⟨#[0xb1]⟩ 1 none ∈ zT := ⟨zT_mk (zm_1 (List.mem_of_getElem? (i := 182) rfl)) rfl, zT_mk (zm_1 (List.mem_of_getElem? (i := 27) rfl)) rfl, zT_mk (zm_1 (List.mem_of_getElem? (i := 28) rfl)) rfl⟩
theorem oX10_1 : Cond.methodLink RX10 1 Lib.objectInit ∈ zT ∧ Cond.instanceMethod Lib.objectInit ∈ zT ∧ Cond.code Lib.objectInit ⟨#[0xb1]⟩ 1 none ∈ zT := ⟨zT_mk (zm_4 (List.mem_of_getElem? (i := 65) rfl)) rfl, zT_mk (zm_1 (List.mem_of_getElem? (i := 27) rfl)) rfl, zT_mk (zm_1 (List.mem_of_getElem? (i := 28) rfl)) rfl⟩
theorem ac_int : Cond.arrayClass .int ∈ zT := zT_mk (zm_1 (List.mem_of_getElem? (i := 64) rfl)) rfl
theorem ac_byte : Cond.arrayClass .byte ∈ zT := zT_mk (zm_2 (List.mem_of_getElem? (i := 217) rfl)) rfl
theorem ac_long : Cond.arrayClass .long ∈ zT := zT_mk (zm_5 (List.mem_of_getElem? (i := 212) rfl)) rfl
