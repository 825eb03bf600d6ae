abbrev mX0_init : MD := (yX0_init, cX0_init, 1, none)
abbrev mX0_size : MD := (yX0_size, cX0_size, 1, (some .int))
abbrev mX0_at : MD := (yX0_at, cX0_at, 2, (some .int))
abbrev mX0_append : MD := (yX0_append, cX0_append, 5, none)
abbrev mX0_appendAll : MD := (yX0_appendAll, cX0_appendAll, 2, none)
abbrev mX0_cut : MD := (yX0_cut, cX0_cut, 2, none)
abbrev mX0_bigEndian : MD := (yX0_bigEndian, cX0_bigEndian, 6, (some .long))
abbrev mX0_slice : MD := (yX0_slice, cX0_slice, 3, (some (.array .byte)))
abbrev mX0_hasSameBytes : MD := (yX0_hasSameBytes, cX0_hasSameBytes, 3, (some .boolean))
abbrev mX1_firstWrong : MD := (yX1_firstWrong, cX1_firstWrong, 5, (some .int))
abbrev mX1_lengthAt : MD := (yX1_lengthAt, cX1_lengthAt, 8, (some .int))
abbrev mX1_saidLength : MD := (yX1_saidLength, cX1_saidLength, 1, (some .int))
abbrev mX1_shortestLength : MD := (yX1_shortestLength, cX1_shortestLength, 1, (some .int))
abbrev mX2_init : MD := (yX2_init, cX2_init, 1, none)
abbrev mX2_look : MD := (yX2_look, cX2_look, 4, none)
abbrev mX2_isGroup : MD := (yX2_isGroup, cX2_isGroup, 1, (some .boolean))
abbrev mX2_ownBytes : MD := (yX2_ownBytes, cX2_ownBytes, 1, (some .long))
abbrev mX2_lookUp : MD := (yX2_lookUp, cX2_lookUp, 7, none)
abbrev mX2_lookAtType : MD := (yX2_lookAtType, cX2_lookAtType, 3, none)
abbrev mX2_take : MD := (yX2_take, cX2_take, 5, none)
abbrev mX3_init : MD := (yX3_init, cX3_init, 1, none)
abbrev mX3_write : MD := (yX3_write, cX3_write, 5, (some .boolean))
abbrev mX3_writeValue : MD := (yX3_writeValue, cX3_writeValue, 5, none)
abbrev mX3_beginGroup : MD := (yX3_beginGroup, cX3_beginGroup, 4, none)
abbrev mX3_writeReference : MD := (yX3_writeReference, cX3_writeReference, 4, none)
abbrev mX3_writeTime : MD := (yX3_writeTime, cX3_writeTime, 7, none)
abbrev mX3_writeRow : MD := (yX3_writeRow, cX3_writeRow, 3, none)
abbrev mX3_writeHead : MD := (yX3_writeHead, cX3_writeHead, 5, none)
abbrev mX3_extensionLead : MD := (yX3_extensionLead, cX3_extensionLead, 2, (some .int))
abbrev mX3_writeInteger : MD := (yX3_writeInteger, cX3_writeInteger, 5, none)
abbrev mX3_integerStep : MD := (yX3_integerStep, cX3_integerStep, 5, (some .int))
abbrev mX3_writeBytes : MD := (yX3_writeBytes, cX3_writeBytes, 4, none)
abbrev mX3_fits : MD := (yX3_fits, cX3_fits, 2, (some .boolean))
abbrev mX4_init : MD := (yX4_init, cX4_init, 1, none)
abbrev mX4_readTape : MD := (yX4_readTape, cX4_readTape, 7, (some .int))
abbrev mX4_endOfValue : MD := (yX4_endOfValue, cX4_endOfValue, 7, (some .int))
abbrev mX4_refuse : MD := (yX4_refuse, cX4_refuse, 3, (some .int))
abbrev mX4_readValue : MD := (yX4_readValue, cX4_readValue, 5, (some .int))
abbrev mX4_readGroup : MD := (yX4_readGroup, cX4_readGroup, 10, (some .int))
abbrev mX4_readRow : MD := (yX4_readRow, cX4_readRow, 7, (some .int))
abbrev mX4_readTime : MD := (yX4_readTime, cX4_readTime, 11, (some .int))
abbrev mX4_readReference : MD := (yX4_readReference, cX4_readReference, 7, (some .int))
abbrev mX4_readPlain : MD := (yX4_readPlain, cX4_readPlain, 6, (some .int))
abbrev mX4_readInteger : MD := (yX4_readInteger, cX4_readInteger, 8, (some .long))
abbrev mX4_keepPlain : MD := (yX4_keepPlain, cX4_keepPlain, 7, (some .int))
abbrev mX5_init : MD := (yX5_init, cX5_init, 7, none)
abbrev mX5_isGroup : MD := (yX5_isGroup, cX5_isGroup, 1, (some .boolean))
abbrev mX5_isHigh : MD := (yX5_isHigh, cX5_isHigh, 1, (some .boolean))
abbrev mX5_length : MD := (yX5_length, cX5_length, 1, (some .int))
abbrev mX5_append : MD := (yX5_append, cX5_append, 2, none)
abbrev mX6_init : MD := (yX6_init, cX6_init, 1, none)
abbrev mX6_size : MD := (yX6_size, cX6_size, 1, (some .int))
abbrev mX6_has : MD := (yX6_has, cX6_has, 2, (some .boolean))
abbrev mX6_at : MD := (yX6_at, cX6_at, 2, (some (.object "PackedGraph$Value")))
abbrev mX6_takes : MD := (yX6_takes, cX6_takes, 2, (some .boolean))
abbrev mX6_takesParts : MD := (yX6_takesParts, cX6_takesParts, 3, (some .boolean))
abbrev mX6_hold : MD := (yX6_hold, cX6_hold, 2, none)
abbrev mX6_keep : MD := (yX6_keep, cX6_keep, 7, (some .int))
abbrev mX6_keepOnly : MD := (yX6_keepOnly, cX6_keepOnly, 5, none)
abbrev mX7_init : MD := (yX7_init, cX7_init, 1, none)
abbrev mX7_feed : MD := (yX7_feed, cX7_feed, 6, (some .int))
abbrev mX7_end : MD := (yX7_end, cX7_end, 2, none)
abbrev mX7_unpack : MD := (yX7_unpack, cX7_unpack, 2, (some .int))
abbrev mX7_fault : MD := (yX7_fault, cX7_fault, 2, (some .int))
abbrev mX7_skip : MD := (yX7_skip, cX7_skip, 2, (some .int))
abbrev mX7_pack : MD := (yX7_pack, cX7_pack, 2, (some .int))
abbrev mX7_shown : MD := (yX7_shown, cX7_shown, 2, (some .int))
abbrev mX7_nil : MD := (yX7_nil, cX7_nil, 1, (some .int))
abbrev mX7_truth : MD := (yX7_truth, cX7_truth, 2, (some .int))
abbrev mX7_integer : MD := (yX7_integer, cX7_integer, 4, (some .int))
abbrev mX7_real : MD := (yX7_real, cX7_real, 4, (some .int))
abbrev mX7_row : MD := (yX7_row, cX7_row, 2, (some .int))
abbrev mX7_extension : MD := (yX7_extension, cX7_extension, 2, (some .int))
abbrev mX7_time : MD := (yX7_time, cX7_time, 4, (some .int))
abbrev mX7_group : MD := (yX7_group, cX7_group, 2, (some .int))
abbrev mX7_add : MD := (yX7_add, cX7_add, 4, (some .int))
abbrev mX7_put : MD := (yX7_put, cX7_put, 5, (some .int))
abbrev mX7_about : MD := (yX7_about, cX7_about, 4, (some .int))
abbrev mX7_number : MD := (yX7_number, cX7_number, 3, (some .long))
abbrev mX7_part : MD := (yX7_part, cX7_part, 4, (some .int))
abbrev mX7_same : MD := (yX7_same, cX7_same, 3, (some .boolean))
abbrev mX7_find : MD := (yX7_find, cX7_find, 6, (some .int))
abbrev mX7_count : MD := (yX7_count, cX7_count, 2, (some .int))
abbrev mX7_clear : MD := (yX7_clear, cX7_clear, 2, (some .int))
abbrev mX7_needValue : MD := (yX7_needValue, cX7_needValue, 2, none)
abbrev mX7_needKind : MD := (yX7_needKind, cX7_needKind, 3, none)
abbrev mX7_needRoom : MD := (yX7_needRoom, cX7_needRoom, 2, none)
abbrev mX7_needParts : MD := (yX7_needParts, cX7_needParts, 2, none)
abbrev mX7_keepTape : MD := (yX7_keepTape, cX7_keepTape, 4, (some .int))
abbrev mX8_init : MD := (yX8_init, cX8_init, 1, none)
abbrev mX8_thrown : MD := (yX8_thrown, cX8_thrown, 1, (some .int))
abbrev mX8_kindOf : MD := (yX8_kindOf, cX8_kindOf, 1, (some .int))
abbrev mX8_width : MD := (yX8_width, cX8_width, 1, (some .int))
abbrev mX8_number : MD := (yX8_number, cX8_number, 7, (some .long))
abbrev mX8_many : MD := (yX8_many, cX8_many, 3, (some .long))
abbrev mX8_headOf : MD := (yX8_headOf, cX8_headOf, 1, (some .int))
abbrev mX8_isGroup : MD := (yX8_isGroup, cX8_isGroup, 1, (some .boolean))
abbrev mX8_skip : MD := (yX8_skip, cX8_skip, 10, (some .int))
abbrev mX8_goodPart : MD := (yX8_goodPart, cX8_goodPart, 10, (some .int))
abbrev mX8_make : MD := (yX8_make, cX8_make, 5, (some .int))
abbrev mX8_makeRow : MD := (yX8_makeRow, cX8_makeRow, 6, (some .int))
abbrev mX8_link : MD := (yX8_link, cX8_link, 4, none)
abbrev mX8_isValue : MD := (yX8_isValue, cX8_isValue, 2, (some .boolean))
abbrev mX8_nil : MD := (yX8_nil, cX8_nil, 1, (some .int))
abbrev mX8_truth : MD := (yX8_truth, cX8_truth, 3, (some .int))
abbrev mX8_integer : MD := (yX8_integer, cX8_integer, 5, (some .int))
abbrev mX8_real : MD := (yX8_real, cX8_real, 4, (some .int))
abbrev mX8_row : MD := (yX8_row, cX8_row, 4, (some .int))
abbrev mX8_extension : MD := (yX8_extension, cX8_extension, 4, (some .int))
abbrev mX8_time : MD := (yX8_time, cX8_time, 5, (some .int))
abbrev mX8_group : MD := (yX8_group, cX8_group, 2, (some .int))
abbrev mX8_add : MD := (yX8_add, cX8_add, 3, (some .int))
abbrev mX8_put : MD := (yX8_put, cX8_put, 4, (some .int))
abbrev mX8_fail : MD := (yX8_fail, cX8_fail, 3, (some .boolean))
abbrev mX8_readOne : MD := (yX8_readOne, cX8_readOne, 13, (some .boolean))
abbrev mX8_readPlain : MD := (yX8_readPlain, cX8_readPlain, 6, none)
abbrev mX8_integerAt : MD := (yX8_integerAt, cX8_integerAt, 6, (some .long))
abbrev mX8_refer : MD := (yX8_refer, cX8_refer, 8, (some .boolean))
abbrev mX8_readGroup : MD := (yX8_readGroup, cX8_readGroup, 7, (some .boolean))
abbrev mX8_readAll : MD := (yX8_readAll, cX8_readAll, 4, (some .boolean))
abbrev mX8_unpack : MD := (yX8_unpack, cX8_unpack, 5, (some .int))
abbrev mX8_fault : MD := (yX8_fault, cX8_fault, 2, (some .int))
abbrev mX8_byteTo : MD := (yX8_byteTo, cX8_byteTo, 3, none)
abbrev mX8_numberTo : MD := (yX8_numberTo, cX8_numberTo, 6, none)
abbrev mX8_countTo : MD := (yX8_countTo, cX8_countTo, 8, none)
abbrev mX8_integerSize : MD := (yX8_integerSize, cX8_integerSize, 5, (some .int))
abbrev mX8_integerTo : MD := (yX8_integerTo, cX8_integerTo, 7, none)
abbrev mX8_extensionTo : MD := (yX8_extensionTo, cX8_extensionTo, 5, none)
abbrev mX8_bytesTo : MD := (yX8_bytesTo, cX8_bytesTo, 4, none)
abbrev mX8_plainTo : MD := (yX8_plainTo, cX8_plainTo, 3, none)
abbrev mX8_timeTo : MD := (yX8_timeTo, cX8_timeTo, 5, none)
abbrev mX8_valueTo : MD := (yX8_valueTo, cX8_valueTo, 3, (some .boolean))
abbrev mX8_packTo : MD := (yX8_packTo, cX8_packTo, 5, (some .boolean))
abbrev mX8_pack : MD := (yX8_pack, cX8_pack, 3, (some .int))
abbrev mX8_shown : MD := (yX8_shown, cX8_shown, 2, (some .int))
abbrev mX8_isSamePacked : MD := (yX8_isSamePacked, cX8_isSamePacked, 5, (some .boolean))
abbrev mX8_same : MD := (yX8_same, cX8_same, 6, (some .boolean))
abbrev mX8_find : MD := (yX8_find, cX8_find, 5, (some .int))
abbrev mX8_feed : MD := (yX8_feed, cX8_feed, 8, (some .int))
abbrev mX8_end : MD := (yX8_end, cX8_end, 2, none)
abbrev mX8_about : MD := (yX8_about, cX8_about, 3, (some .int))
abbrev mX8_number_ : MD := (yX8_number_, cX8_number_, 3, (some .long))
abbrev mX8_part : MD := (yX8_part, cX8_part, 6, (some .int))
abbrev mX8_count : MD := (yX8_count, cX8_count, 2, (some .int))
abbrev mX8_clear : MD := (yX8_clear, cX8_clear, 2, (some .int))
abbrev mJxa1e45_init_da8c8 : MD := (yJxa1e45_init_da8c8, cJxa1e45_init_da8c8, 1, none)
abbrev mJxc12de_init_da8c8 : MD := (yJxc12de_init_da8c8, cJxc12de_init_da8c8, 1, none)
abbrev mJx4a65c_init_da8c8 : MD := (yJx4a65c_init_da8c8, cJx4a65c_init_da8c8, 1, none)
abbrev mJx4a65c_grow_92f84 : MD := (yJx4a65c_grow_92f84, cJx4a65c_grow_92f84, 4, (some (.array (.object "java/lang/Object"))))
abbrev mJx4a65c_grow_d5877 : MD := (yJx4a65c_grow_d5877, cJx4a65c_grow_d5877, 1, (some (.array (.object "java/lang/Object"))))
abbrev mJx4a65c_size_8abf5 : MD := (yJx4a65c_size_8abf5, cJx4a65c_size_8abf5, 1, (some .int))
abbrev mJx4a65c_elementData_915e3 : MD := (yJx4a65c_elementData_915e3, cJx4a65c_elementData_915e3, 2, (some (.object "java/lang/Object")))
abbrev mJx4a65c_get_915e3 : MD := (yJx4a65c_get_915e3, cJx4a65c_get_915e3, 2, (some (.object "java/lang/Object")))
abbrev mJx4a65c_add_72be8 : MD := (yJx4a65c_add_72be8, cJx4a65c_add_72be8, 4, none)
abbrev mJx4a65c_add_9ea2d : MD := (yJx4a65c_add_9ea2d, cJx4a65c_add_9ea2d, 2, (some .boolean))
abbrev mJx4a65c_remove_915e3 : MD := (yJx4a65c_remove_915e3, cJx4a65c_remove_915e3, 4, (some (.object "java/lang/Object")))
abbrev mJx4a65c_fastRemove_b59b0 : MD := (yJx4a65c_fastRemove_b59b0, cJx4a65c_fastRemove_b59b0, 4, none)
abbrev mJx4a65c_clear_da8c8 : MD := (yJx4a65c_clear_da8c8, cJx4a65c_clear_da8c8, 4, none)
abbrev mJ7_copyOf_1904c : MD := (yJ7_copyOf_1904c, cJ7_copyOf_1904c, 2, (some (.array (.object "java/lang/Object"))))
abbrev mJ7_copyOf_6403c : MD := (yJ7_copyOf_6403c, cJ7_copyOf_6403c, 4, (some (.array (.object "java/lang/Object"))))
abbrev mJ7_copyOf_9075b : MD := (yJ7_copyOf_9075b, cJ7_copyOf_9075b, 3, (some (.array .byte)))
abbrev mJ7_copyOf_59c91 : MD := (yJ7_copyOf_59c91, cJ7_copyOf_59c91, 3, (some (.array .int)))
abbrev mJ7_checkLength_df160 : MD := (yJ7_checkLength_df160, cJ7_checkLength_df160, 2, none)
abbrev mJ7_copyOfRange_39247 : MD := (yJ7_copyOfRange_39247, cJ7_copyOfRange_39247, 3, (some (.array .byte)))
abbrev mJ7_copyOfRangeByte_39247 : MD := (yJ7_copyOfRangeByte_39247, cJ7_copyOfRangeByte_39247, 5, (some (.array .byte)))
abbrev mJ15_checkIndex_7cf53 : MD := (yJ15_checkIndex_7cf53, cJ15_checkIndex_7cf53, 2, (some .int))
abbrev mJ8_newLength_cabcc : MD := (yJ8_newLength_cabcc, cJ8_newLength_cabcc, 4, (some .int))
abbrev mJ3_checkIndex_8e157 : MD := (yJ3_checkIndex_8e157, cJ3_checkIndex_8e157, 3, (some .int))
abbrev mL_feed : MD := (yL_feed, cL_feed, 8, (some .int))
abbrev mL_end : MD := (yL_end, cL_end, 3, (some .int))
abbrev mL_fault : MD := (yL_fault, cL_fault, 4, (some .int))
abbrev mL_skip : MD := (yL_skip, cL_skip, 4, (some .int))
abbrev mL_pack : MD := (yL_pack, cL_pack, 4, (some .int))
abbrev mL_shown : MD := (yL_shown, cL_shown, 4, (some .int))
abbrev mL_nil : MD := (yL_nil, cL_nil, 3, (some .int))
abbrev mL_truth : MD := (yL_truth, cL_truth, 4, (some .int))
abbrev mL_integer : MD := (yL_integer, cL_integer, 6, (some .int))
abbrev mL_real : MD := (yL_real, cL_real, 6, (some .int))
abbrev mL_row : MD := (yL_row, cL_row, 4, (some .int))
abbrev mL_extension : MD := (yL_extension, cL_extension, 4, (some .int))
abbrev mL_time : MD := (yL_time, cL_time, 6, (some .int))
abbrev mL_group : MD := (yL_group, cL_group, 4, (some .int))
abbrev mL_add : MD := (yL_add, cL_add, 5, (some .int))
abbrev mL_put : MD := (yL_put, cL_put, 6, (some .int))
abbrev mL_about : MD := (yL_about, cL_about, 5, (some .int))
abbrev mL_number : MD := (yL_number, cL_number, 4, (some .int))
abbrev mL_part : MD := (yL_part, cL_part, 5, (some .int))
abbrev mL_same : MD := (yL_same, cL_same, 5, (some .int))
abbrev mL_find : MD := (yL_find, cL_find, 5, (some .int))
abbrev mL_count : MD := (yL_count, cL_count, 4, (some .int))
set_option maxRecDepth 20000 in
theorem cl_X0 : CLok RX0 TX0 2 tyX0 := ⟨(by show ∀ w ∈ u_ws RX0 TX0 2, w ∈ lw_tbl ∧ goodWord w = true; decide +kernel), tyX0_ok, nmX0⟩
set_option maxRecDepth 20000 in
theorem cl_X2 : CLok RX2 TX2 4 tyX2 := ⟨(by show ∀ w ∈ u_ws RX2 TX2 4, w ∈ lw_tbl ∧ goodWord w = true; decide +kernel), tyX2_ok, nmX2⟩
set_option maxRecDepth 20000 in
theorem cl_X3 : CLok RX3 TX3 4 tyX3 := ⟨(by show ∀ w ∈ u_ws RX3 TX3 4, w ∈ lw_tbl ∧ goodWord w = true; decide +kernel), tyX3_ok, nmX3⟩
set_option maxRecDepth 20000 in
theorem cl_X4 : CLok RX4 TX4 5 tyX4 := ⟨(by show ∀ w ∈ u_ws RX4 TX4 5, w ∈ lw_tbl ∧ goodWord w = true; decide +kernel), tyX4_ok, nmX4⟩
set_option maxRecDepth 20000 in
theorem cl_X5 : CLok RX5 TX5 8 tyX5 := ⟨(by show ∀ w ∈ u_ws RX5 TX5 8, w ∈ lw_tbl ∧ goodWord w = true; decide +kernel), tyX5_ok, nmX5⟩
set_option maxRecDepth 20000 in
theorem cl_X6 : CLok RX6 TX6 3 tyX6 := ⟨(by show ∀ w ∈ u_ws RX6 TX6 3, w ∈ lw_tbl ∧ goodWord w = true; decide +kernel), tyX6_ok, nmX6⟩
set_option maxRecDepth 20000 in
theorem cl_X7 : CLok RX7 TX7 6 tyX7 := ⟨(by show ∀ w ∈ u_ws RX7 TX7 6, w ∈ lw_tbl ∧ goodWord w = true; decide +kernel), tyX7_ok, nmX7⟩
set_option maxRecDepth 20000 in
theorem cl_X8 : CLok RX8 TX8 36 tyX8 := ⟨(by show ∀ w ∈ u_ws RX8 TX8 36, w ∈ lw_tbl ∧ goodWord w = true; decide +kernel), tyX8_ok, nmX8⟩
set_option maxRecDepth 20000 in
theorem cl_Jx4a65c : CLok RJx4a65c TJx4a65c 3 tyJx4a65c := ⟨(by show ∀ w ∈ u_ws RJx4a65c TJx4a65c 3, w ∈ lw_tbl ∧ goodWord w = true; decide +kernel), tyJx4a65c_ok, nmJx4a65c⟩
theorem fl_X0_7 : FLk RX0 7 0 0 (.array .byte) false := ⟨RX0, TX0, 2, tyX0, "PackedGraph$ByteRow", rfl, by decide, cl_X0, wd_48, Or.inl rfl, rfl, by decide +kernel, fun h => nomatch h⟩
theorem fl_X0_13 : FLk RX0 13 0 1 .int false := ⟨RX0, TX0, 2, tyX0, "PackedGraph$ByteRow", rfl, by decide, cl_X0, wd_49, Or.inl rfl, rfl, by decide +kernel, fun h => nomatch h⟩
theorem iv_X0_17 : CS RX0 17 mJ7_copyOf_9075b 2 := ⟨⟨wd_15, wd_562, by decide, by decide +kernel, by decide⟩, wd_833, wd_561⟩
theorem gs_X0_35 : Cond.fieldLinkNest RX0 35 "PackedGraph" "NO_BYTES" "[B" "PackedGraph" ∈ lw_tbl := ww_455
theorem iv_X0_40 : CS RX0 40 mJ7_copyOfRange_39247 3 := ⟨⟨wd_15, wd_458, by decide, by decide +kernel, by decide⟩, wd_456, wd_457⟩
theorem iv_X1_9 : CS RX1 9 mX1_lengthAt 3 := ⟨⟨wd_23, wd_439, by decide, by decide +kernel, by decide⟩, wd_437, wd_438⟩
theorem iv_X1_15 : CV RX1 15 RX0 mX0_at 1 := ⟨⟨wd_2, wd_229, by decide, by decide +kernel, by decide⟩, wd_440, wd_227, wd_228⟩
theorem iv_X1_21 : CS RX1 21 mX1_saidLength 1 := ⟨⟨wd_23, wd_443, by decide, by decide +kernel, by decide⟩, wd_441, wd_442⟩
theorem iv_X1_24 : CS RX1 24 mX1_shortestLength 1 := ⟨⟨wd_23, wd_446, by decide, by decide +kernel, by decide⟩, wd_444, wd_445⟩
theorem kc_X1_27 : W9 (.constant RX1 27 (1114111)) := wd_447
theorem kc_X1_28 : W9 (.constant RX1 28 (55296)) := wd_448
theorem kc_X1_29 : W9 (.constant RX1 29 (57343)) := wd_449
theorem kc_X1_30 : W9 (.constant RX1 30 (65536)) := wd_450
theorem iv_X2_9 : CV RX2 9 RX0 mX0_at 1 := ⟨⟨wd_2, wd_229, by decide, by decide +kernel, by decide⟩, wd_226, wd_227, wd_228⟩
theorem fl_X2_15 : FLk RX2 15 1 3 .int false := ⟨RX2, TX2, 4, tyX2, "PackedGraph$Lead", rfl, by decide, cl_X2, wd_120, Or.inl rfl, rfl, by decide +kernel, fun h => nomatch h⟩
theorem iv_X2_21 : CV RX2 21 RX2 mX2_take 3 := ⟨⟨wd_8, wd_233, by decide, by decide +kernel, by decide⟩, wd_230, wd_232, ws_2⟩
theorem iv_X2_25 : CV RX2 25 RX2 mX2_lookUp 3 := ⟨⟨wd_8, wd_237, by decide, by decide +kernel, by decide⟩, wd_234, wd_236, ws_3⟩
theorem fl_X2_29 : FLk RX2 29 1 0 .int false := ⟨RX2, TX2, 4, tyX2, "PackedGraph$Lead", rfl, by decide, cl_X2, wd_114, Or.inl rfl, rfl, by decide +kernel, fun h => nomatch h⟩
theorem fl_X2_32 : FLk RX2 32 1 1 .int false := ⟨RX2, TX2, 4, tyX2, "PackedGraph$Lead", rfl, by decide, cl_X2, wd_116, Or.inl rfl, rfl, by decide +kernel, fun h => nomatch h⟩
theorem iv_X2_35 : CV RX2 35 RX2 mX2_lookAtType 2 := ⟨⟨wd_8, wd_253, by decide, by decide +kernel, by decide⟩, wd_250, wd_252, ws_4⟩
theorem iv_X2_39 : CV RX2 39 RX2 mX2_isGroup 0 := ⟨⟨wd_8, wd_261, by decide, by decide +kernel, by decide⟩, wd_258, wd_259, wd_260⟩
theorem fl_X2_43 : FLk RX2 43 1 2 .long false := ⟨RX2, TX2, 4, tyX2, "PackedGraph$Lead", rfl, by decide, cl_X2, wd_119, Or.inl rfl, rfl, by decide +kernel, fun h => nomatch h⟩
theorem gs_X2_47 : W9 (.fieldLink RX2 47 "PackedGraph$Lead" "LENGTH_BYTES" "[I") := wd_238
theorem gs_X2_51 : W9 (.fieldLink RX2 51 "PackedGraph$Lead" "FIXED_LENGTHS" "[I") := wd_240
theorem iv_X2_54 : CV RX2 54 RX0 mX0_size 0 := ⟨⟨wd_2, wd_217, by decide, by decide +kernel, by decide⟩, wd_242, wd_215, wd_216⟩
theorem iv_X2_58 : CV RX2 58 RX0 mX0_bigEndian 2 := ⟨⟨wd_2, wd_246, by decide, by decide +kernel, by decide⟩, wd_243, wd_244, wd_245⟩
theorem gs_X2_62 : W9 (.fieldLink RX2 62 "PackedGraph$Lead" "KINDS" "[I") := wd_247
theorem kc_X2_65 : W9 (.constantLong RX2 65 (2)) := wd_249
theorem nw_X3_9 : CNk RX3 9 0 [.null, .int 0] 2 := ⟨RX0, TX0, tyX0, rfl, cl_X0, wd_157, wd_43, wd_2, fun j hj => match j, hj with | 0, _ => rfl | 1, _ => rfl | j + 2, hj => absurd hj (by omega)⟩
theorem iv_X3_11 : CIn RX3 11 mX0_init 0 := ⟨"PackedGraph", ⟨wd_2, wd_46, by decide, by decide +kernel, by decide⟩, ww_158, wd_45, rfl, rfl⟩
theorem fl_X3_12 : FLk RX3 12 2 0 (.object "PackedGraph$ByteRow") true := ⟨RX3, TX3, 4, tyX3, "PackedGraph$Packer", rfl, by decide, cl_X3, wd_161, Or.inl rfl, rfl, by decide +kernel, fun _ => rfl⟩
theorem nw_X3_18 : CNk RX3 18 8 [.int 0, .null, .int 0] 3 := ⟨RJx4a65c, TJx4a65c, tyJx4a65c, rfl, cl_Jx4a65c, wd_159, wd_63, wd_6, fun j hj => match j, hj with | 0, _ => rfl | 1, _ => rfl | 2, _ => rfl | j + 3, hj => absurd hj (by omega)⟩
theorem iv_X3_20 : CI RX3 20 mJx4a65c_init_da8c8 0 := ⟨⟨wd_6, wd_66, by decide, by decide +kernel, by decide⟩, wd_160, wd_65, rfl, rfl⟩
theorem fl_X3_21 : FLk RX3 21 2 1 (.object "java/util/ArrayList") true := ⟨RX3, TX3, 4, tyX3, "PackedGraph$Packer", rfl, by decide, cl_X3, wd_163, Or.inl rfl, rfl, by decide +kernel, fun _ => rfl⟩
theorem iv_X3_25 : CV RX3 25 RX0 mX0_cut 1 := ⟨⟨wd_2, wd_796, by decide, by decide +kernel, by decide⟩, wd_918, wd_794, wd_795⟩
theorem fl_X3_29 : FLk RX3 29 2 2 .int false := ⟨RX3, TX3, 4, tyX3, "PackedGraph$Packer", rfl, by decide, cl_X3, wd_164, Or.inl rfl, rfl, by decide +kernel, fun h => nomatch h⟩
theorem fl_X3_33 : FLk RX3 33 2 3 .boolean false := ⟨RX3, TX3, 4, tyX3, "PackedGraph$Packer", rfl, by decide, cl_X3, wd_165, Or.inl rfl, rfl, by decide +kernel, fun h => nomatch h⟩
theorem iv_X3_37 : CV RX3 37 RX6 mX6_at 1 := ⟨⟨wd_3, wd_399, by decide, by decide +kernel, by decide⟩, wd_919, wd_397, wd_398⟩
theorem iv_X3_43 : CV RX3 43 RX3 mX3_writeValue 3 := ⟨⟨wd_9, wd_923, by decide, by decide +kernel, by decide⟩, wd_920, wd_922, ws_18⟩
theorem iv_X3_47 : CV RX3 47 RJx4a65c mJx4a65c_size_8abf5 0 := ⟨⟨wd_6, wd_209, by decide, by decide +kernel, by decide⟩, wd_971, wd_207, wd_208⟩
theorem iv_X3_51 : CV RX3 51 RJx4a65c mJx4a65c_get_915e3 1 := ⟨⟨wd_6, wd_403, by decide, by decide +kernel, by decide⟩, wd_993, wd_401, wd_402⟩
theorem fl_X3_57 : FLn RX3 57 4 7 .int := ⟨RX5, TX5, 8, tyX5, "PackedGraph$Value", "PackedGraph", rfl, by decide, cl_X5, ww_315, rfl, rfl, by decide +kernel⟩
theorem iv_X3_60 : CV RX3 60 RJx4a65c mJx4a65c_clear_da8c8 0 := ⟨⟨wd_6, wd_792, by decide, by decide +kernel, by decide⟩, wd_995, wd_790, wd_791⟩
theorem iv_X3_63 : CV RX3 63 RX3 mX3_writeReference 1 := ⟨⟨wd_9, wd_927, by decide, by decide +kernel, by decide⟩, wd_924, wd_926, ws_19⟩
theorem fl_X3_66 : FLnF RX3 66 4 0 .int := ⟨RX5, TX5, 8, tyX5, "PackedGraph$Value", "PackedGraph", rfl, by decide, cl_X5, ww_295, rfl, by decide +kernel⟩
theorem kc_X3_69 : W9 (.constantLong RX3 69 (192)) := wd_956
theorem iv_X3_71 : CV RX3 71 RX3 mX3_writeBytes 2 := ⟨⟨wd_9, wd_944, by decide, by decide +kernel, by decide⟩, wd_941, wd_943, ws_21⟩
theorem fl_X3_75 : FLnF RX3 75 4 3 .int := ⟨RX5, TX5, 8, tyX5, "PackedGraph$Value", "PackedGraph", rfl, by decide, cl_X5, ww_303, rfl, by decide +kernel⟩
theorem fl_X3_78 : FLnF RX3 78 4 2 .long := ⟨RX5, TX5, 8, tyX5, "PackedGraph$Value", "PackedGraph", rfl, by decide, cl_X5, ww_300, rfl, by decide +kernel⟩
theorem iv_X3_82 : CV RX3 82 RX5 mX5_isHigh 0 := ⟨⟨wd_19, wd_960, by decide, by decide +kernel, by decide⟩, wd_957, wd_958, wd_959⟩
theorem iv_X3_86 : CV RX3 86 RX3 mX3_writeInteger 2 := ⟨⟨wd_9, wd_955, by decide, by decide +kernel, by decide⟩, wd_952, wd_954, ws_23⟩
theorem kc_X3_90 : W9 (.constantLong RX3 90 (202)) := wd_961
theorem kc_X3_92 : W9 (.constantLong RX3 92 (203)) := wd_962
theorem iv_X3_94 : CV RX3 94 RX3 mX3_writeTime 2 := ⟨⟨wd_9, wd_966, by decide, by decide +kernel, by decide⟩, wd_963, wd_965, ws_24⟩
theorem iv_X3_97 : CV RX3 97 RX3 mX3_beginGroup 2 := ⟨⟨wd_9, wd_970, by decide, by decide +kernel, by decide⟩, wd_967, wd_969, ws_25⟩
theorem fl_X3_101 : FLn RX3 101 4 6 .int := ⟨RX5, TX5, 8, tyX5, "PackedGraph$Value", "PackedGraph", rfl, by decide, cl_X5, ww_311, rfl, rfl, by decide +kernel⟩
theorem fl_X3_104 : FLn RX3 104 4 5 (.array .int) := ⟨RX5, TX5, 8, tyX5, "PackedGraph$Value", "PackedGraph", rfl, by decide, cl_X5, ww_309, rfl, rfl, by decide +kernel⟩
theorem iv_X3_108 : CV RX3 108 RX3 mX3_writeRow 1 := ⟨⟨wd_9, wd_986, by decide, by decide +kernel, by decide⟩, wd_983, wd_985, ws_26⟩
theorem iv_X3_112 : CV RX3 112 RJx4a65c mJx4a65c_add_9ea2d 1 := ⟨⟨wd_6, wd_336, by decide, by decide +kernel, by decide⟩, wd_972, wd_334, wd_335⟩
theorem iv_X3_116 : CV RX3 116 RX5 mX5_length 0 := ⟨⟨wd_19, wd_976, by decide, by decide +kernel, by decide⟩, wd_973, wd_974, wd_975⟩
theorem kc_X3_119 : W9 (.constantLong RX3 119 (220)) := wd_981
theorem kc_X3_121 : W9 (.constantLong RX3 121 (222)) := wd_982
theorem iv_X3_123 : CS RX3 123 mX3_integerStep 2 := ⟨⟨wd_9, wd_930, by decide, by decide +kernel, by decide⟩, wd_928, wd_929⟩
theorem iv_X3_127 : CS RX3 127 mX3_extensionLead 1 := ⟨⟨wd_9, wd_936, by decide, by decide +kernel, by decide⟩, wd_934, wd_935⟩
theorem iv_X3_131 : CV RX3 131 RX3 mX3_writeHead 3 := ⟨⟨wd_9, wd_940, by decide, by decide +kernel, by decide⟩, wd_937, wd_939, ws_20⟩
theorem kc_X3_135 : W9 (.constantLong RX3 135 (-1)) := wd_933
theorem fl_X3_137 : FLnF RX3 137 4 4 (.array .byte) := ⟨RX5, TX5, 8, tyX5, "PackedGraph$Value", "PackedGraph", rfl, by decide, cl_X5, ww_306, rfl, by decide +kernel⟩
theorem iv_X3_141 : CV RX3 141 RX3 mX3_fits 1 := ⟨⟨wd_9, wd_948, by decide, by decide +kernel, by decide⟩, wd_945, wd_947, ws_22⟩
theorem iv_X3_145 : CV RX3 145 RX0 mX0_appendAll 1 := ⟨⟨wd_2, wd_990, by decide, by decide +kernel, by decide⟩, wd_987, wd_988, wd_989⟩
theorem kc_X3_149 : W9 (.constant RX3 149 (65536)) := wd_951
theorem kc_X3_150 : W9 (.constantLong RX3 150 (-32)) := wd_931
theorem kc_X3_152 : W9 (.constantLong RX3 152 (128)) := wd_932
theorem iv_X3_154 : CV RX3 154 RX0 mX0_append 2 := ⟨⟨wd_2, wd_832, by decide, by decide +kernel, by decide⟩, wd_950, wd_830, wd_831⟩
theorem iv_X3_157 : CV RX3 157 RX0 mX0_size 0 := ⟨⟨wd_2, wd_217, by decide, by decide +kernel, by decide⟩, wd_949, wd_215, wd_216⟩
theorem nw_X4_9 : CNk RX4 9 1 [.int 0, .int 0, .long 0, .int 0] 4 := ⟨RX2, TX2, tyX2, rfl, cl_X2, wd_108, wd_109, wd_8, fun j hj => match j, hj with | 0, _ => rfl | 1, _ => rfl | 2, _ => rfl | 3, _ => rfl | j + 4, hj => absurd hj (by omega)⟩
theorem iv_X4_11 : CIn RX4 11 mX2_init 0 := ⟨"PackedGraph", ⟨wd_8, wd_112, by decide, by decide +kernel, by decide⟩, ww_110, wd_111, rfl, rfl⟩
theorem fl_X4_12 : FLk RX4 12 3 0 (.object "PackedGraph$Lead") true := ⟨RX4, TX4, 5, tyX4, "PackedGraph$Reader", rfl, by decide, cl_X4, wd_133, Or.inl rfl, rfl, by decide +kernel, fun _ => rfl⟩
theorem nw_X4_18 : CNk RX4 18 8 [.int 0, .null, .int 0] 3 := ⟨RJx4a65c, TJx4a65c, tyJx4a65c, rfl, cl_Jx4a65c, wd_131, wd_63, wd_6, fun j hj => match j, hj with | 0, _ => rfl | 1, _ => rfl | 2, _ => rfl | j + 3, hj => absurd hj (by omega)⟩
theorem iv_X4_20 : CI RX4 20 mJx4a65c_init_da8c8 0 := ⟨⟨wd_6, wd_66, by decide, by decide +kernel, by decide⟩, wd_132, wd_65, rfl, rfl⟩
theorem fl_X4_21 : FLk RX4 21 3 1 (.object "java/util/ArrayList") true := ⟨RX4, TX4, 5, tyX4, "PackedGraph$Reader", rfl, by decide, cl_X4, wd_134, Or.inl rfl, rfl, by decide +kernel, fun _ => rfl⟩
theorem iv_X4_25 : CV RX4 25 RX6 mX6_size 0 := ⟨⟨wd_3, wd_205, by decide, by decide +kernel, by decide⟩, wd_202, wd_203, wd_204⟩
theorem fl_X4_31 : FLn RX4 31 5 1 .int := ⟨RX6, TX6, 3, tyX6, "PackedGraph$Values", "PackedGraph", rfl, by decide, cl_X6, ww_89, rfl, rfl, by decide +kernel⟩
theorem fl_X4_35 : FLn RX4 35 5 2 .int := ⟨RX6, TX6, 3, tyX6, "PackedGraph$Values", "PackedGraph", rfl, by decide, cl_X6, ww_92, rfl, rfl, by decide +kernel⟩
theorem fl_X4_38 : FLk RX4 38 3 2 .int false := ⟨RX4, TX4, 5, tyX4, "PackedGraph$Reader", rfl, by decide, cl_X4, wd_135, Or.inl rfl, rfl, by decide +kernel, fun h => nomatch h⟩
theorem fl_X4_41 : FLk RX4 41 3 3 .int false := ⟨RX4, TX4, 5, tyX4, "PackedGraph$Reader", rfl, by decide, cl_X4, wd_136, Or.inl rfl, rfl, by decide +kernel, fun h => nomatch h⟩
theorem fl_X4_44 : FLk RX4 44 3 4 .int false := ⟨RX4, TX4, 5, tyX4, "PackedGraph$Reader", rfl, by decide, cl_X4, wd_138, Or.inl rfl, rfl, by decide +kernel, fun h => nomatch h⟩
theorem iv_X4_47 : CV RX4 47 RX4 mX4_readValue 3 := ⟨⟨wd_7, wd_213, by decide, by decide +kernel, by decide⟩, wd_210, wd_212, ws_0⟩
theorem iv_X4_51 : CV RX4 51 RX0 mX0_size 0 := ⟨⟨wd_2, wd_217, by decide, by decide +kernel, by decide⟩, wd_214, wd_215, wd_216⟩
theorem iv_X4_54 : CV RX4 54 RX4 mX4_refuse 2 := ⟨⟨wd_7, wd_221, by decide, by decide +kernel, by decide⟩, wd_218, wd_220, ws_1⟩
theorem iv_X4_58 : CV RX4 58 RX6 mX6_keepOnly 3 := ⟨⟨wd_3, wd_779, by decide, by decide +kernel, by decide⟩, wd_776, wd_777, wd_778⟩
theorem iv_X4_62 : CV RX4 62 RJx4a65c mJx4a65c_clear_da8c8 0 := ⟨⟨wd_6, wd_792, by decide, by decide +kernel, by decide⟩, wd_789, wd_790, wd_791⟩
theorem iv_X4_65 : CV RX4 65 RX2 mX2_look 2 := ⟨⟨wd_8, wd_225, by decide, by decide +kernel, by decide⟩, wd_222, wd_223, wd_224⟩
theorem fl_X4_69 : FLn RX4 69 1 0 .int := ⟨RX2, TX2, 4, tyX2, "PackedGraph$Lead", "PackedGraph", rfl, by decide, cl_X2, ww_115, rfl, rfl, by decide +kernel⟩
theorem iv_X4_72 : CV RX4 72 RX2 mX2_ownBytes 0 := ⟨⟨wd_8, wd_257, by decide, by decide +kernel, by decide⟩, wd_254, wd_255, wd_256⟩
theorem iv_X4_76 : CV RX4 76 RX2 mX2_isGroup 0 := ⟨⟨wd_8, wd_261, by decide, by decide +kernel, by decide⟩, wd_896, wd_259, wd_260⟩
theorem fl_X4_80 : FLn RX4 80 1 2 .long := ⟨RX2, TX2, 4, tyX2, "PackedGraph$Lead", "PackedGraph", rfl, by decide, cl_X2, ww_118, rfl, rfl, by decide +kernel⟩
theorem kc_X4_84 : W9 (.constantLong RX4 84 (-1)) := wd_897
theorem iv_X4_86 : CV RX4 86 RX4 mX4_readGroup 4 := ⟨⟨wd_7, wd_265, by decide, by decide +kernel, by decide⟩, wd_262, wd_264, ws_5⟩
theorem iv_X4_90 : CV RX4 90 RX4 mX4_readRow 3 := ⟨⟨wd_7, wd_433, by decide, by decide +kernel, by decide⟩, wd_430, wd_432, ws_9⟩
theorem iv_X4_93 : CV RX4 93 RX4 mX4_readTime 3 := ⟨⟨wd_7, wd_749, by decide, by decide +kernel, by decide⟩, wd_746, wd_748, ws_11⟩
theorem iv_X4_96 : CV RX4 96 RX4 mX4_readReference 2 := ⟨⟨wd_7, wd_763, by decide, by decide +kernel, by decide⟩, wd_760, wd_762, ws_13⟩
theorem iv_X4_100 : CV RX4 100 RX4 mX4_readPlain 3 := ⟨⟨wd_7, wd_775, by decide, by decide +kernel, by decide⟩, wd_772, wd_774, ws_15⟩
theorem iv_X4_103 : CV RX4 103 RX6 mX6_takes 1 := ⟨⟨wd_3, wd_269, by decide, by decide +kernel, by decide⟩, wd_266, wd_267, wd_268⟩
theorem iv_X4_107 : CV RX4 107 RX6 mX6_takesParts 1 := ⟨⟨wd_3, wd_274, by decide, by decide +kernel, by decide⟩, wd_271, wd_272, wd_273⟩
theorem iv_X4_111 : CV RX4 111 RX6 mX6_hold 1 := ⟨⟨wd_3, wd_279, by decide, by decide +kernel, by decide⟩, wd_276, wd_277, wd_278⟩
theorem gs_X4_115 : Cond.fieldLinkNest RX4 115 "PackedGraph" "NO_BYTES" "[B" "PackedGraph" ∈ lw_tbl := ww_280
theorem iv_X4_119 : CV RX4 119 RX6 mX6_keep 4 := ⟨⟨wd_3, wd_285, by decide, by decide +kernel, by decide⟩, wd_282, wd_283, wd_284⟩
theorem iv_X4_123 : CV RX4 123 RX6 mX6_at 1 := ⟨⟨wd_3, wd_399, by decide, by decide +kernel, by decide⟩, wd_396, wd_397, wd_398⟩
theorem iv_X4_126 : CV RX4 126 RJx4a65c mJx4a65c_add_9ea2d 1 := ⟨⟨wd_6, wd_336, by decide, by decide +kernel, by decide⟩, wd_414, wd_334, wd_335⟩
theorem iv_X4_130 : CV RX4 130 RX5 mX5_append 1 := ⟨⟨wd_19, wd_418, by decide, by decide +kernel, by decide⟩, wd_415, wd_416, wd_417⟩
theorem fl_X4_135 : FLn RX4 135 1 1 .int := ⟨RX2, TX2, 4, tyX2, "PackedGraph$Lead", "PackedGraph", rfl, by decide, cl_X2, ww_117, rfl, rfl, by decide +kernel⟩
theorem iv_X4_138 : CS RX4 138 mX1_firstWrong 3 := ⟨⟨wd_23, wd_436, by decide, by decide +kernel, by decide⟩, wd_434, wd_435⟩
theorem fl_X4_144 : FLn RX4 144 1 3 .int := ⟨RX2, TX2, 4, tyX2, "PackedGraph$Lead", "PackedGraph", rfl, by decide, cl_X2, ww_121, rfl, rfl, by decide +kernel⟩
theorem iv_X4_147 : CV RX4 147 RX0 mX0_slice 2 := ⟨⟨wd_2, wd_454, by decide, by decide +kernel, by decide⟩, wd_451, wd_452, wd_453⟩
theorem kc_X4_151 : W9 (.constantLong RX4 151 (4)) := wd_750
theorem iv_X4_153 : CV RX4 153 RX0 mX0_bigEndian 2 := ⟨⟨wd_2, wd_246, by decide, by decide +kernel, by decide⟩, wd_751, wd_244, wd_245⟩
theorem kc_X4_157 : W9 (.constantLong RX4 157 (8)) := wd_752
theorem kc_X4_159 : W9 (.constantLong RX4 159 (17179869183)) := wd_753
theorem kc_X4_161 : W9 (.constantLong RX4 161 (12)) := wd_754
theorem kc_X4_163 : W9 (.constantLong RX4 163 (999999999)) := wd_755
theorem iv_X4_165 : CV RX4 165 RX4 mX4_keepPlain 5 := ⟨⟨wd_7, wd_759, by decide, by decide +kernel, by decide⟩, wd_756, wd_758, ws_12⟩
theorem iv_X4_169 : CV RX4 169 RX4 mX4_readInteger 2 := ⟨⟨wd_7, wd_767, by decide, by decide +kernel, by decide⟩, wd_764, wd_766, ws_14⟩
theorem iv_X4_173 : CV RX4 173 RJx4a65c mJx4a65c_size_8abf5 0 := ⟨⟨wd_6, wd_209, by decide, by decide +kernel, by decide⟩, wd_769, wd_207, wd_208⟩
theorem iv_X4_174 : CV RX4 174 RJx4a65c mJx4a65c_get_915e3 1 := ⟨⟨wd_6, wd_403, by decide, by decide +kernel, by decide⟩, wd_770, wd_401, wd_402⟩
theorem fl_X4_178 : FLnF RX4 178 4 1 .int := ⟨RX5, TX5, 8, tyX5, "PackedGraph$Value", "PackedGraph", rfl, by decide, cl_X5, ww_298, rfl, by decide +kernel⟩
theorem iv_X4_181 : CV RX4 181 RX0 mX0_at 1 := ⟨⟨wd_2, wd_229, by decide, by decide +kernel, by decide⟩, wd_768, wd_227, wd_228⟩
theorem gs_X5_9 : Cond.fieldLinkNest RX5 9 "PackedGraph" "NO_PARTS" "[I" "PackedGraph" ∈ lw_tbl := ww_292
theorem fl_X5_13 : FLk RX5 13 4 5 (.array .int) false := ⟨RX5, TX5, 8, tyX5, "PackedGraph$Value", rfl, by decide, cl_X5, wd_308, Or.inl rfl, rfl, by decide +kernel, fun h => nomatch h⟩
theorem fl_X5_18 : FLk RX5 18 4 7 .int false := ⟨RX5, TX5, 8, tyX5, "PackedGraph$Value", rfl, by decide, cl_X5, wd_314, Or.inl rfl, rfl, by decide +kernel, fun h => nomatch h⟩
theorem fl_X5_22 : FLk RX5 22 4 0 .int true := ⟨RX5, TX5, 8, tyX5, "PackedGraph$Value", rfl, by decide, cl_X5, wd_294, Or.inl rfl, rfl, by decide +kernel, fun _ => rfl⟩
theorem fl_X5_25 : FLk RX5 25 4 1 .int true := ⟨RX5, TX5, 8, tyX5, "PackedGraph$Value", rfl, by decide, cl_X5, wd_297, Or.inl rfl, rfl, by decide +kernel, fun _ => rfl⟩
theorem fl_X5_28 : FLk RX5 28 4 2 .long true := ⟨RX5, TX5, 8, tyX5, "PackedGraph$Value", rfl, by decide, cl_X5, wd_299, Or.inl rfl, rfl, by decide +kernel, fun _ => rfl⟩
theorem fl_X5_32 : FLk RX5 32 4 3 .int true := ⟨RX5, TX5, 8, tyX5, "PackedGraph$Value", rfl, by decide, cl_X5, wd_302, Or.inl rfl, rfl, by decide +kernel, fun _ => rfl⟩
theorem fl_X5_35 : FLk RX5 35 4 4 (.array .byte) true := ⟨RX5, TX5, 8, tyX5, "PackedGraph$Value", rfl, by decide, cl_X5, wd_305, Or.inl rfl, rfl, by decide +kernel, fun _ => rfl⟩
theorem iv_X5_39 : CV RX5 39 RX5 mX5_isGroup 0 := ⟨⟨wd_19, wd_980, by decide, by decide +kernel, by decide⟩, wd_977, wd_978, wd_979⟩
theorem fl_X5_43 : FLk RX5 43 4 6 .int false := ⟨RX5, TX5, 8, tyX5, "PackedGraph$Value", rfl, by decide, cl_X5, wd_312, Or.inl rfl, rfl, by decide +kernel, fun h => nomatch h⟩
theorem iv_X5_52 : CS RX5 52 mJ7_copyOf_59c91 2 := ⟨⟨wd_15, wd_422, by decide, by decide +kernel, by decide⟩, wd_420, wd_421⟩
theorem nw_X6_9 : CNk RX6 9 8 [.int 0, .null, .int 0] 3 := ⟨RJx4a65c, TJx4a65c, tyJx4a65c, rfl, cl_Jx4a65c, wd_62, wd_63, wd_6, fun j hj => match j, hj with | 0, _ => rfl | 1, _ => rfl | 2, _ => rfl | j + 3, hj => absurd hj (by omega)⟩
theorem iv_X6_11 : CI RX6 11 mJx4a65c_init_da8c8 0 := ⟨⟨wd_6, wd_66, by decide, by decide +kernel, by decide⟩, wd_64, wd_65, rfl, rfl⟩
theorem fl_X6_12 : FLk RX6 12 5 0 (.object "java/util/ArrayList") true := ⟨RX6, TX6, 3, tyX6, "PackedGraph$Values", rfl, by decide, cl_X6, wd_88, Or.inl rfl, rfl, by decide +kernel, fun _ => rfl⟩
theorem iv_X6_18 : CV RX6 18 RJx4a65c mJx4a65c_size_8abf5 0 := ⟨⟨wd_6, wd_209, by decide, by decide +kernel, by decide⟩, wd_206, wd_207, wd_208⟩
theorem iv_X6_22 : CV RX6 22 RJx4a65c mJx4a65c_get_915e3 1 := ⟨⟨wd_6, wd_403, by decide, by decide +kernel, by decide⟩, wd_400, wd_401, wd_402⟩
theorem fl_X6_28 : FLk RX6 28 5 2 .int false := ⟨RX6, TX6, 3, tyX6, "PackedGraph$Values", rfl, by decide, cl_X6, wd_93, Or.inl rfl, rfl, by decide +kernel, fun h => nomatch h⟩
theorem kc_X6_32 : W9 (.constant RX6 32 (65536)) := wd_270
theorem fl_X6_33 : FLk RX6 33 5 1 .int false := ⟨RX6, TX6, 3, tyX6, "PackedGraph$Values", rfl, by decide, cl_X6, wd_90, Or.inl rfl, rfl, by decide +kernel, fun h => nomatch h⟩
theorem kc_X6_36 : W9 (.constantLong RX6 36 (6000)) := wd_275
theorem nw_X6_26 : CNk RX6 26 4 [.int 0, .int 0, .long 0, .int 0, .null, .null, .int 0, .int 0] 8 := ⟨RX5, TX5, tyX5, rfl, cl_X5, wd_286, wd_287, wd_19, fun j hj => match j, hj with | 0, _ => rfl | 1, _ => rfl | 2, _ => rfl | 3, _ => rfl | 4, _ => rfl | 5, _ => rfl | 6, _ => rfl | 7, _ => rfl | j + 8, hj => absurd hj (by omega)⟩
theorem iv_X6_38 : CI RX6 38 mX5_init 5 := ⟨⟨wd_19, wd_290, by decide, by decide +kernel, by decide⟩, wd_288, wd_289, rfl, rfl⟩
theorem iv_X6_41 : CV RX6 41 RJx4a65c mJx4a65c_add_9ea2d 1 := ⟨⟨wd_6, wd_336, by decide, by decide +kernel, by decide⟩, wd_333, wd_334, wd_335⟩
theorem iv_X6_45 : CV RX6 45 RJx4a65c mJx4a65c_remove_915e3 1 := ⟨⟨wd_6, wd_783, by decide, by decide +kernel, by decide⟩, wd_780, wd_781, wd_782⟩
theorem nw_X7_7 : CNk RX7 7 0 [.null, .int 0] 2 := ⟨RX0, TX0, tyX0, rfl, cl_X0, wd_42, wd_43, wd_2, fun j hj => match j, hj with | 0, _ => rfl | 1, _ => rfl | j + 2, hj => absurd hj (by omega)⟩
theorem iv_X7_9 : CIn RX7 9 mX0_init 0 := ⟨"PackedGraph", ⟨wd_2, wd_46, by decide, by decide +kernel, by decide⟩, ww_44, wd_45, rfl, rfl⟩
theorem fl_X7_10 : FLk RX7 10 6 0 (.object "PackedGraph$ByteRow") true := ⟨RX7, TX7, 6, tyX7, "PackedGraph", rfl, by decide, cl_X7, wd_175, Or.inl rfl, rfl, by decide +kernel, fun _ => rfl⟩
theorem nw_X7_16 : CNk RX7 16 5 [.null, .int 0, .int 0] 3 := ⟨RX6, TX6, tyX6, rfl, cl_X6, wd_56, wd_57, wd_3, fun j hj => match j, hj with | 0, _ => rfl | 1, _ => rfl | 2, _ => rfl | j + 3, hj => absurd hj (by omega)⟩
theorem iv_X7_18 : CIn RX7 18 mX6_init 0 := ⟨"PackedGraph", ⟨wd_3, wd_60, by decide, by decide +kernel, by decide⟩, ww_58, wd_59, rfl, rfl⟩
theorem fl_X7_19 : FLk RX7 19 6 1 (.object "PackedGraph$Values") true := ⟨RX7, TX7, 6, tyX7, "PackedGraph", rfl, by decide, cl_X7, wd_176, Or.inl rfl, rfl, by decide +kernel, fun _ => rfl⟩
theorem nw_X7_23 : CNk RX7 23 3 [.null, .null, .int 0, .int 0, .int 0] 5 := ⟨RX4, TX4, tyX4, rfl, cl_X4, wd_102, wd_103, wd_7, fun j hj => match j, hj with | 0, _ => rfl | 1, _ => rfl | 2, _ => rfl | 3, _ => rfl | 4, _ => rfl | j + 5, hj => absurd hj (by omega)⟩
theorem iv_X7_25 : CIn RX7 25 mX4_init 0 := ⟨"PackedGraph", ⟨wd_7, wd_106, by decide, by decide +kernel, by decide⟩, ww_104, wd_105, rfl, rfl⟩
theorem fl_X7_26 : FLk RX7 26 6 2 (.object "PackedGraph$Reader") true := ⟨RX7, TX7, 6, tyX7, "PackedGraph", rfl, by decide, cl_X7, wd_177, Or.inl rfl, rfl, by decide +kernel, fun _ => rfl⟩
theorem nw_X7_30 : CNk RX7 30 2 [.null, .null, .int 0, .int 0] 4 := ⟨RX3, TX3, tyX3, rfl, cl_X3, wd_151, wd_152, wd_9, fun j hj => match j, hj with | 0, _ => rfl | 1, _ => rfl | 2, _ => rfl | 3, _ => rfl | j + 4, hj => absurd hj (by omega)⟩
theorem iv_X7_32 : CIn RX7 32 mX3_init 0 := ⟨"PackedGraph", ⟨wd_9, wd_155, by decide, by decide +kernel, by decide⟩, ww_153, wd_154, rfl, rfl⟩
theorem fl_X7_33 : FLk RX7 33 6 3 (.object "PackedGraph$Packer") true := ⟨RX7, TX7, 6, tyX7, "PackedGraph", rfl, by decide, cl_X7, wd_178, Or.inl rfl, rfl, by decide +kernel, fun _ => rfl⟩
theorem fl_X7_37 : FLk RX7 37 6 4 (.object "PackedGraph$Packer") true := ⟨RX7, TX7, 6, tyX7, "PackedGraph", rfl, by decide, cl_X7, wd_179, Or.inl rfl, rfl, by decide +kernel, fun _ => rfl⟩
theorem fl_X7_40 : FLk RX7 40 6 5 (.object "PackedGraph$Packer") true := ⟨RX7, TX7, 6, tyX7, "PackedGraph", rfl, by decide, cl_X7, wd_180, Or.inl rfl, rfl, by decide +kernel, fun _ => rfl⟩
theorem iv_X7_43 : CV RX7 43 RX0 mX0_size 0 := ⟨⟨wd_2, wd_217, by decide, by decide +kernel, by decide⟩, wd_811, wd_215, wd_216⟩
theorem kc_X7_47 : W9 (.constant RX7 47 (65536)) := wd_812
theorem iv_X7_55 : CV RX7 55 RX0 mX0_append 2 := ⟨⟨wd_2, wd_832, by decide, by decide +kernel, by decide⟩, wd_829, wd_830, wd_831⟩
theorem iv_X7_64 : CV RX7 64 RX0 mX0_cut 1 := ⟨⟨wd_2, wd_796, by decide, by decide +kernel, by decide⟩, wd_793, wd_794, wd_795⟩
theorem iv_X7_68 : CV RX7 68 RX4 mX4_readTape 2 := ⟨⟨wd_7, wd_201, by decide, by decide +kernel, by decide⟩, wd_198, wd_199, wd_200⟩
theorem fl_X7_77 : FLn RX7 77 3 3 .int := ⟨RX4, TX4, 5, tyX4, "PackedGraph$Reader", "PackedGraph", rfl, by decide, cl_X4, ww_137, rfl, rfl, by decide +kernel⟩
theorem fl_X7_81 : FLn RX7 81 3 4 .int := ⟨RX4, TX4, 5, tyX4, "PackedGraph$Reader", "PackedGraph", rfl, by decide, cl_X4, ww_139, rfl, rfl, by decide +kernel⟩
theorem iv_X7_86 : CV RX7 86 RX4 mX4_endOfValue 2 := ⟨⟨wd_7, wd_895, by decide, by decide +kernel, by decide⟩, wd_892, wd_893, wd_894⟩
theorem iv_X7_90 : CV RX7 90 RX7 mX7_needValue 1 := ⟨⟨wd_1, wd_908, by decide, by decide +kernel, by decide⟩, wd_905, wd_907, ws_17⟩
theorem iv_X7_93 : CV RX7 93 RX3 mX3_write 3 := ⟨⟨wd_9, wd_917, by decide, by decide +kernel, by decide⟩, wd_914, wd_915, wd_916⟩
theorem fl_X7_99 : FLnF RX7 99 2 0 (.object "PackedGraph$ByteRow") := ⟨RX3, TX3, 4, tyX3, "PackedGraph$Packer", "PackedGraph", rfl, by decide, cl_X3, ww_162, rfl, by decide +kernel⟩
theorem iv_X7_104 : CV RX7 104 RX0 mX0_at 1 := ⟨⟨wd_2, wd_229, by decide, by decide +kernel, by decide⟩, wd_1005, wd_227, wd_228⟩
theorem iv_X7_108 : CV RX7 108 RX7 mX7_needRoom 1 := ⟨⟨wd_1, wd_1016, by decide, by decide +kernel, by decide⟩, wd_1013, wd_1015, ws_27⟩
theorem gs_X7_111 : W9 (.fieldLink RX7 111 "PackedGraph" "NO_BYTES" "[B") := wd_1019
theorem iv_X7_115 : CV RX7 115 RX6 mX6_keep 4 := ⟨⟨wd_3, wd_285, by decide, by decide +kernel, by decide⟩, wd_1020, wd_283, wd_284⟩
theorem kc_X7_119 : W9 (.constantLong RX7 119 (4294967295)) := wd_1042
theorem iv_X7_123 : CS RX7 123 mX1_firstWrong 3 := ⟨⟨wd_23, wd_436, by decide, by decide +kernel, by decide⟩, wd_1051, wd_435⟩
theorem iv_X7_131 : CV RX7 131 RX7 mX7_keepTape 2 := ⟨⟨wd_1, wd_1056, by decide, by decide +kernel, by decide⟩, wd_1053, wd_1055, ws_28⟩
theorem kc_X7_137 : W9 (.constant RX7 137 (999999999)) := wd_1073
theorem iv_X7_142 : CV RX7 142 RX7 mX7_needKind 2 := ⟨⟨wd_1, wd_1093, by decide, by decide +kernel, by decide⟩, wd_1090, wd_1092, ws_29⟩
theorem iv_X7_146 : CV RX7 146 RX7 mX7_needParts 1 := ⟨⟨wd_1, wd_1099, by decide, by decide +kernel, by decide⟩, wd_1096, wd_1098, ws_30⟩
theorem iv_X7_149 : CV RX7 149 RX6 mX6_hold 1 := ⟨⟨wd_3, wd_279, by decide, by decide +kernel, by decide⟩, wd_1102, wd_277, wd_278⟩
theorem iv_X7_152 : CV RX7 152 RX6 mX6_at 1 := ⟨⟨wd_3, wd_399, by decide, by decide +kernel, by decide⟩, wd_1094, wd_397, wd_398⟩
theorem iv_X7_155 : CV RX7 155 RX5 mX5_append 1 := ⟨⟨wd_19, wd_418, by decide, by decide +kernel, by decide⟩, wd_1103, wd_416, wd_417⟩
theorem iv_X7_159 : CV RX7 159 RX5 mX5_length 0 := ⟨⟨wd_19, wd_976, by decide, by decide +kernel, by decide⟩, wd_1104, wd_974, wd_975⟩
theorem fl_X7_162 : FLnF RX7 162 4 0 .int := ⟨RX5, TX5, 8, tyX5, "PackedGraph$Value", "PackedGraph", rfl, by decide, cl_X5, ww_296, rfl, by decide +kernel⟩
theorem fl_X7_165 : FLnF RX7 165 4 3 .int := ⟨RX5, TX5, 8, tyX5, "PackedGraph$Value", "PackedGraph", rfl, by decide, cl_X5, ww_304, rfl, by decide +kernel⟩
theorem iv_X7_168 : CV RX7 168 RX5 mX5_isGroup 0 := ⟨⟨wd_19, wd_980, by decide, by decide +kernel, by decide⟩, wd_1119, wd_978, wd_979⟩
theorem iv_X7_176 : CV RX7 176 RX5 mX5_isHigh 0 := ⟨⟨wd_19, wd_960, by decide, by decide +kernel, by decide⟩, wd_1143, wd_958, wd_959⟩
theorem fl_X7_184 : FLnF RX7 184 4 2 .long := ⟨RX5, TX5, 8, tyX5, "PackedGraph$Value", "PackedGraph", rfl, by decide, cl_X5, ww_301, rfl, by decide +kernel⟩
theorem fl_X7_188 : FLnF RX7 188 4 4 (.array .byte) := ⟨RX5, TX5, 8, tyX5, "PackedGraph$Value", "PackedGraph", rfl, by decide, cl_X5, ww_307, rfl, by decide +kernel⟩
theorem fl_X7_191 : FLn RX7 191 4 6 .int := ⟨RX5, TX5, 8, tyX5, "PackedGraph$Value", "PackedGraph", rfl, by decide, cl_X5, ww_313, rfl, rfl, by decide +kernel⟩
theorem fl_X7_194 : FLn RX7 194 4 5 (.array .int) := ⟨RX5, TX5, 8, tyX5, "PackedGraph$Value", "PackedGraph", rfl, by decide, cl_X5, ww_310, rfl, rfl, by decide +kernel⟩
theorem iv_X7_202 : CV RX7 202 RX0 mX0_hasSameBytes 1 := ⟨⟨wd_2, wd_1166, by decide, by decide +kernel, by decide⟩, wd_1163, wd_1164, wd_1165⟩
theorem iv_X7_208 : CV RX7 208 RX6 mX6_size 0 := ⟨⟨wd_3, wd_205, by decide, by decide +kernel, by decide⟩, wd_801, wd_203, wd_204⟩
theorem fl_X7_209 : FLn RX7 209 5 1 .int := ⟨RX6, TX6, 3, tyX6, "PackedGraph$Values", "PackedGraph", rfl, by decide, cl_X6, ww_91, rfl, rfl, by decide +kernel⟩
theorem fl_X7_212 : FLn RX7 212 5 2 .int := ⟨RX6, TX6, 3, tyX6, "PackedGraph$Values", "PackedGraph", rfl, by decide, cl_X6, ww_94, rfl, rfl, by decide +kernel⟩
theorem iv_X7_217 : CV RX7 217 RX6 mX6_keepOnly 3 := ⟨⟨wd_3, wd_779, by decide, by decide +kernel, by decide⟩, wd_802, wd_777, wd_778⟩
theorem iv_X7_221 : CV RX7 221 RX6 mX6_has 1 := ⟨⟨wd_3, wd_912, by decide, by decide +kernel, by decide⟩, wd_909, wd_910, wd_911⟩
theorem iv_X7_229 : CV RX7 229 RX6 mX6_takes 1 := ⟨⟨wd_3, wd_269, by decide, by decide +kernel, by decide⟩, wd_1017, wd_267, wd_268⟩
theorem iv_X7_234 : CV RX7 234 RX6 mX6_takesParts 1 := ⟨⟨wd_3, wd_274, by decide, by decide +kernel, by decide⟩, wd_1100, wd_272, wd_273⟩
theorem iv_X7_240 : CV RX7 240 RX0 mX0_slice 2 := ⟨⟨wd_2, wd_454, by decide, by decide +kernel, by decide⟩, wd_1057, wd_452, wd_453⟩
theorem kc_X8_7 : W9 (.constant RX8 7 (65536)) := wd_1189
theorem fl_X8_8 : FLk RX8 8 7 1 (.array .byte) true := ⟨RX8, TX8, 36, tyX8, "PackedGraphModel", rfl, by decide, cl_X8, wd_1191, Or.inl rfl, rfl, by decide +kernel, fun _ => rfl⟩
theorem fl_X8_14 : FLk RX8 14 7 3 (.array .byte) true := ⟨RX8, TX8, 36, tyX8, "PackedGraphModel", rfl, by decide, cl_X8, wd_1193, Or.inl rfl, rfl, by decide +kernel, fun _ => rfl⟩
theorem fl_X8_17 : FLk RX8 17 7 6 (.array .int) true := ⟨RX8, TX8, 36, tyX8, "PackedGraphModel", rfl, by decide, cl_X8, wd_1196, Or.inl rfl, rfl, by decide +kernel, fun _ => rfl⟩
theorem fl_X8_21 : FLk RX8 21 7 7 (.array .long) true := ⟨RX8, TX8, 36, tyX8, "PackedGraphModel", rfl, by decide, cl_X8, wd_1197, Or.inl rfl, rfl, by decide +kernel, fun _ => rfl⟩
theorem fl_X8_25 : FLk RX8 25 7 8 (.array .boolean) true := ⟨RX8, TX8, 36, tyX8, "PackedGraphModel", rfl, by decide, cl_X8, wd_1198, Or.inl rfl, rfl, by decide +kernel, fun _ => rfl⟩
theorem fl_X8_29 : FLk RX8 29 7 9 (.array .int) true := ⟨RX8, TX8, 36, tyX8, "PackedGraphModel", rfl, by decide, cl_X8, wd_1199, Or.inl rfl, rfl, by decide +kernel, fun _ => rfl⟩
theorem fl_X8_32 : FLk RX8 32 7 10 (.array .int) true := ⟨RX8, TX8, 36, tyX8, "PackedGraphModel", rfl, by decide, cl_X8, wd_1200, Or.inl rfl, rfl, by decide +kernel, fun _ => rfl⟩
theorem fl_X8_35 : FLk RX8 35 7 11 (.array .int) true := ⟨RX8, TX8, 36, tyX8, "PackedGraphModel", rfl, by decide, cl_X8, wd_1201, Or.inl rfl, rfl, by decide +kernel, fun _ => rfl⟩
theorem fl_X8_38 : FLk RX8 38 7 12 (.array .int) true := ⟨RX8, TX8, 36, tyX8, "PackedGraphModel", rfl, by decide, cl_X8, wd_1202, Or.inl rfl, rfl, by decide +kernel, fun _ => rfl⟩
theorem fl_X8_41 : FLk RX8 41 7 14 (.array .int) true := ⟨RX8, TX8, 36, tyX8, "PackedGraphModel", rfl, by decide, cl_X8, wd_1204, Or.inl rfl, rfl, by decide +kernel, fun _ => rfl⟩
theorem fl_X8_44 : FLk RX8 44 7 15 (.array .int) true := ⟨RX8, TX8, 36, tyX8, "PackedGraphModel", rfl, by decide, cl_X8, wd_1205, Or.inl rfl, rfl, by decide +kernel, fun _ => rfl⟩
theorem fl_X8_47 : FLk RX8 47 7 16 (.array .byte) true := ⟨RX8, TX8, 36, tyX8, "PackedGraphModel", rfl, by decide, cl_X8, wd_1206, Or.inl rfl, rfl, by decide +kernel, fun _ => rfl⟩
theorem fl_X8_50 : FLk RX8 50 7 18 (.array .byte) true := ⟨RX8, TX8, 36, tyX8, "PackedGraphModel", rfl, by decide, cl_X8, wd_1208, Or.inl rfl, rfl, by decide +kernel, fun _ => rfl⟩
theorem fl_X8_53 : FLk RX8 53 7 19 (.array .byte) true := ⟨RX8, TX8, 36, tyX8, "PackedGraphModel", rfl, by decide, cl_X8, wd_1209, Or.inl rfl, rfl, by decide +kernel, fun _ => rfl⟩
theorem fl_X8_56 : FLk RX8 56 7 22 (.array .int) true := ⟨RX8, TX8, 36, tyX8, "PackedGraphModel", rfl, by decide, cl_X8, wd_1212, Or.inl rfl, rfl, by decide +kernel, fun _ => rfl⟩
theorem fl_X8_59 : FLk RX8 59 7 23 (.array .int) true := ⟨RX8, TX8, 36, tyX8, "PackedGraphModel", rfl, by decide, cl_X8, wd_1213, Or.inl rfl, rfl, by decide +kernel, fun _ => rfl⟩
theorem fl_X8_62 : FLk RX8 62 7 27 (.array .int) true := ⟨RX8, TX8, 36, tyX8, "PackedGraphModel", rfl, by decide, cl_X8, wd_1217, Or.inl rfl, rfl, by decide +kernel, fun _ => rfl⟩
theorem fl_X8_65 : FLk RX8 65 7 28 (.array .long) true := ⟨RX8, TX8, 36, tyX8, "PackedGraphModel", rfl, by decide, cl_X8, wd_1218, Or.inl rfl, rfl, by decide +kernel, fun _ => rfl⟩
theorem fl_X8_68 : FLk RX8 68 7 32 (.array .int) true := ⟨RX8, TX8, 36, tyX8, "PackedGraphModel", rfl, by decide, cl_X8, wd_1222, Or.inl rfl, rfl, by decide +kernel, fun _ => rfl⟩
theorem fl_X8_71 : FLk RX8 71 7 0 .int false := ⟨RX8, TX8, 36, tyX8, "PackedGraphModel", rfl, by decide, cl_X8, wd_1190, Or.inl rfl, rfl, by decide +kernel, fun h => nomatch h⟩
theorem kc_X8_75 : W9 (.constantLong RX8 75 (256)) := wd_1326
theorem iv_X8_77 : CS RX8 77 mX8_kindOf 1 := ⟨⟨wd_10, wd_1311, by decide, by decide +kernel, by decide⟩, wd_1309, wd_1310⟩
theorem iv_X8_81 : CS RX8 81 mX8_width 1 := ⟨⟨wd_10, wd_1317, by decide, by decide +kernel, by decide⟩, wd_1315, wd_1316⟩
theorem iv_X8_84 : CV RX8 84 RX8 mX8_number 3 := ⟨⟨wd_10, wd_1325, by decide, by decide +kernel, by decide⟩, wd_1322, wd_1324, ws_32⟩
theorem fl_X8_88 : FLk RX8 88 7 2 .int false := ⟨RX8, TX8, 36, tyX8, "PackedGraphModel", rfl, by decide, cl_X8, wd_1192, Or.inl rfl, rfl, by decide +kernel, fun h => nomatch h⟩
theorem iv_X8_91 : CS RX8 91 mX8_headOf 1 := ⟨⟨wd_10, wd_1314, by decide, by decide +kernel, by decide⟩, wd_1312, wd_1313⟩
theorem iv_X8_94 : CV RX8 94 RX8 mX8_many 2 := ⟨⟨wd_10, wd_1321, by decide, by decide +kernel, by decide⟩, wd_1318, wd_1320, ws_31⟩
theorem kc_X8_98 : W9 (.constantLong RX8 98 (2)) := wd_1327
theorem iv_X8_100 : CS RX8 100 mX8_isGroup 1 := ⟨⟨wd_10, wd_1330, by decide, by decide +kernel, by decide⟩, wd_1328, wd_1329⟩
theorem kc_X8_104 : W9 (.constant RX8 104 (1114111)) := wd_1359
theorem kc_X8_105 : W9 (.constant RX8 105 (55296)) := wd_1360
theorem kc_X8_106 : W9 (.constant RX8 106 (57343)) := wd_1361
theorem fl_X8_107 : FLk RX8 107 7 5 .int false := ⟨RX8, TX8, 36, tyX8, "PackedGraphModel", rfl, by decide, cl_X8, wd_1195, Or.inl rfl, rfl, by decide +kernel, fun h => nomatch h⟩
theorem iv_X8_110 : CV RX8 110 RX8 mX8_make 2 := ⟨⟨wd_10, wd_1338, by decide, by decide +kernel, by decide⟩, wd_1335, wd_1337, ws_33⟩
theorem fl_X8_114 : FLk RX8 114 7 17 .int false := ⟨RX8, TX8, 36, tyX8, "PackedGraphModel", rfl, by decide, cl_X8, wd_1207, Or.inl rfl, rfl, by decide +kernel, fun h => nomatch h⟩
theorem fl_X8_117 : FLk RX8 117 7 13 .int false := ⟨RX8, TX8, 36, tyX8, "PackedGraphModel", rfl, by decide, cl_X8, wd_1203, Or.inl rfl, rfl, by decide +kernel, fun h => nomatch h⟩
theorem kc_X8_120 : W9 (.constantLong RX8 120 (4294967295)) := wd_1351
theorem iv_X8_122 : CS RX8 122 mX8_goodPart 3 := ⟨⟨wd_10, wd_1358, by decide, by decide +kernel, by decide⟩, wd_1356, wd_1357⟩
theorem iv_X8_126 : CV RX8 126 RX8 mX8_makeRow 3 := ⟨⟨wd_10, wd_1365, by decide, by decide +kernel, by decide⟩, wd_1362, wd_1364, ws_34⟩
theorem kc_X8_130 : W9 (.constant RX8 130 (999999999)) := wd_1374
theorem iv_X8_131 : CV RX8 131 RX8 mX8_isValue 1 := ⟨⟨wd_10, wd_1386, by decide, by decide +kernel, by decide⟩, wd_1383, wd_1385, ws_35⟩
theorem iv_X8_134 : CV RX8 134 RX8 mX8_link 2 := ⟨⟨wd_10, wd_1390, by decide, by decide +kernel, by decide⟩, wd_1387, wd_1389, ws_36⟩
theorem fl_X8_138 : FLk RX8 138 7 29 .int false := ⟨RX8, TX8, 36, tyX8, "PackedGraphModel", rfl, by decide, cl_X8, wd_1219, Or.inl rfl, rfl, by decide +kernel, fun h => nomatch h⟩
theorem fl_X8_141 : FLk RX8 141 7 30 .int false := ⟨RX8, TX8, 36, tyX8, "PackedGraphModel", rfl, by decide, cl_X8, wd_1220, Or.inl rfl, rfl, by decide +kernel, fun h => nomatch h⟩
theorem fl_X8_144 : FLk RX8 144 7 31 .int false := ⟨RX8, TX8, 36, tyX8, "PackedGraphModel", rfl, by decide, cl_X8, wd_1221, Or.inl rfl, rfl, by decide +kernel, fun h => nomatch h⟩
theorem iv_X8_147 : CV RX8 147 RX8 mX8_fail 2 := ⟨⟨wd_10, wd_1410, by decide, by decide +kernel, by decide⟩, wd_1407, wd_1409, ws_39⟩
theorem iv_X8_151 : CV RX8 151 RX8 mX8_readGroup 3 := ⟨⟨wd_10, wd_1414, by decide, by decide +kernel, by decide⟩, wd_1411, wd_1413, ws_40⟩
theorem iv_X8_155 : CV RX8 155 RX8 mX8_refer 3 := ⟨⟨wd_10, wd_1419, by decide, by decide +kernel, by decide⟩, wd_1416, wd_1418, ws_41⟩
theorem kc_X8_159 : W9 (.constantLong RX8 159 (8)) := wd_1425
theorem kc_X8_161 : W9 (.constantLong RX8 161 (12)) := wd_1426
theorem kc_X8_163 : W9 (.constantLong RX8 163 (4)) := wd_1427
theorem kc_X8_165 : W9 (.constantLong RX8 165 (999999999)) := wd_1428
theorem kc_X8_167 : W9 (.constantLong RX8 167 (65536)) := wd_1429
theorem fl_X8_169 : FLk RX8 169 7 34 .int false := ⟨RX8, TX8, 36, tyX8, "PackedGraphModel", rfl, by decide, cl_X8, wd_1224, Or.inl rfl, rfl, by decide +kernel, fun h => nomatch h⟩
theorem kc_X8_172 : W9 (.constantLong RX8 172 (17179869183)) := wd_1430
theorem iv_X8_174 : CV RX8 174 RX8 mX8_readPlain 3 := ⟨⟨wd_10, wd_1434, by decide, by decide +kernel, by decide⟩, wd_1431, wd_1433, ws_43⟩
theorem iv_X8_178 : CV RX8 178 RX8 mX8_integerAt 2 := ⟨⟨wd_10, wd_1423, by decide, by decide +kernel, by decide⟩, wd_1420, wd_1422, ws_42⟩
theorem kc_X8_181 : W9 (.constantLong RX8 181 (-1)) := wd_1424
theorem fl_X8_183 : FLk RX8 183 7 33 .int false := ⟨RX8, TX8, 36, tyX8, "PackedGraphModel", rfl, by decide, cl_X8, wd_1223, Or.inl rfl, rfl, by decide +kernel, fun h => nomatch h⟩
theorem fl_X8_186 : FLk RX8 186 7 26 .int false := ⟨RX8, TX8, 36, tyX8, "PackedGraphModel", rfl, by decide, cl_X8, wd_1216, Or.inl rfl, rfl, by decide +kernel, fun h => nomatch h⟩
theorem fl_X8_189 : FLk RX8 189 7 35 .long false := ⟨RX8, TX8, 36, tyX8, "PackedGraphModel", rfl, by decide, cl_X8, wd_1225, Or.inl rfl, rfl, by decide +kernel, fun h => nomatch h⟩
theorem kc_X8_193 : W9 (.constantLong RX8 193 (6000)) := wd_1415
theorem iv_X8_195 : CV RX8 195 RX8 mX8_readOne 0 := ⟨⟨wd_10, wd_1406, by decide, by decide +kernel, by decide⟩, wd_1403, wd_1405, ws_38⟩
theorem iv_X8_199 : CV RX8 199 RX8 mX8_readAll 0 := ⟨⟨wd_10, wd_1402, by decide, by decide +kernel, by decide⟩, wd_1399, wd_1401, ws_37⟩
theorem fl_X8_202 : FLk RX8 202 7 20 .int false := ⟨RX8, TX8, 36, tyX8, "PackedGraphModel", rfl, by decide, cl_X8, wd_1210, Or.inl rfl, rfl, by decide +kernel, fun h => nomatch h⟩
theorem fl_X8_205 : FLk RX8 205 7 25 .boolean false := ⟨RX8, TX8, 36, tyX8, "PackedGraphModel", rfl, by decide, cl_X8, wd_1215, Or.inl rfl, rfl, by decide +kernel, fun h => nomatch h⟩
theorem iv_X8_209 : CV RX8 209 RX8 mX8_byteTo 2 := ⟨⟨wd_10, wd_1458, by decide, by decide +kernel, by decide⟩, wd_1455, wd_1457, ws_47⟩
theorem iv_X8_213 : CV RX8 213 RX8 mX8_numberTo 3 := ⟨⟨wd_10, wd_1471, by decide, by decide +kernel, by decide⟩, wd_1468, wd_1470, ws_49⟩
theorem kc_X8_217 : W9 (.constantLong RX8 217 (-32)) := wd_1466
theorem kc_X8_219 : W9 (.constantLong RX8 219 (128)) := wd_1467
theorem iv_X8_221 : CS RX8 221 mX8_integerSize 2 := ⟨⟨wd_10, wd_1465, by decide, by decide +kernel, by decide⟩, wd_1463, wd_1464⟩
theorem iv_X8_225 : CV RX8 225 RX8 mX8_countTo 7 := ⟨⟨wd_10, wd_1475, by decide, by decide +kernel, by decide⟩, wd_1472, wd_1474, ws_50⟩
theorem iv_X8_229 : CV RX8 229 RX8 mX8_integerTo 3 := ⟨⟨wd_10, wd_1462, by decide, by decide +kernel, by decide⟩, wd_1459, wd_1461, ws_48⟩
theorem iv_X8_233 : CV RX8 233 RX8 mX8_bytesTo 2 := ⟨⟨wd_10, wd_1479, by decide, by decide +kernel, by decide⟩, wd_1476, wd_1478, ws_51⟩
theorem iv_X8_236 : CV RX8 236 RX8 mX8_extensionTo 3 := ⟨⟨wd_10, wd_1483, by decide, by decide +kernel, by decide⟩, wd_1480, wd_1482, ws_52⟩
theorem iv_X8_240 : CV RX8 240 RX8 mX8_timeTo 3 := ⟨⟨wd_10, wd_1487, by decide, by decide +kernel, by decide⟩, wd_1484, wd_1486, ws_53⟩
theorem kc_X8_243 : W9 (.constantLong RX8 243 (4294967296)) := wd_1488
theorem kc_X8_245 : W9 (.constantLong RX8 245 (17179869184)) := wd_1489
theorem iv_X8_247 : CV RX8 247 RX8 mX8_plainTo 2 := ⟨⟨wd_10, wd_1454, by decide, by decide +kernel, by decide⟩, wd_1451, wd_1453, ws_46⟩
theorem fl_X8_250 : FLk RX8 250 7 21 .int false := ⟨RX8, TX8, 36, tyX8, "PackedGraphModel", rfl, by decide, cl_X8, wd_1211, Or.inl rfl, rfl, by decide +kernel, fun h => nomatch h⟩
theorem fl_X8_253 : FLk RX8 253 7 24 .int false := ⟨RX8, TX8, 36, tyX8, "PackedGraphModel", rfl, by decide, cl_X8, wd_1214, Or.inl rfl, rfl, by decide +kernel, fun h => nomatch h⟩
theorem iv_X8_256 : CV RX8 256 RX8 mX8_valueTo 2 := ⟨⟨wd_10, wd_1450, by decide, by decide +kernel, by decide⟩, wd_1447, wd_1449, ws_45⟩
theorem iv_X8_260 : CV RX8 260 RX8 mX8_packTo 2 := ⟨⟨wd_10, wd_1446, by decide, by decide +kernel, by decide⟩, wd_1443, wd_1445, ws_44⟩
theorem fl_X8_263 : FLk RX8 263 7 4 .int false := ⟨RX8, TX8, 36, tyX8, "PackedGraphModel", rfl, by decide, cl_X8, wd_1194, Or.inl rfl, rfl, by decide +kernel, fun h => nomatch h⟩
theorem iv_X8_266 : CV RX8 266 RX8 mX8_isSamePacked 2 := ⟨⟨wd_10, wd_1501, by decide, by decide +kernel, by decide⟩, wd_1498, wd_1500, ws_54⟩
theorem iv_Jxc12de_1 : CI RJxc12de 1 mJxa1e45_init_da8c8 0 := ⟨⟨wd_4, wd_72, by decide, by decide +kernel, by decide⟩, wd_70, wd_71, rfl, rfl⟩
theorem fl_Jxc12de_7 : FLk RJxc12de 7 8 0 .int false := ⟨RJx4a65c, TJx4a65c, 3, tyJx4a65c, "java/util/AbstractList", rfl, by decide, cl_Jx4a65c, wd_78, Or.inl rfl, rfl, by decide +kernel, fun h => nomatch h⟩
theorem iv_Jx4a65c_1 : CI RJx4a65c 1 mJxc12de_init_da8c8 0 := ⟨⟨wd_5, wd_69, by decide, by decide +kernel, by decide⟩, wd_67, wd_68, rfl, rfl⟩
theorem gs_Jx4a65c_39 : W9 (.fieldLink RJx4a65c 39 "java/util/ArrayList" "DEFAULTCAPACITY_EMPTY_ELEMENTDATA" "[Ljava/lang/Object;") := wd_74
theorem fl_Jx4a65c_9 : FLk RJx4a65c 9 8 1 (.array (.object "java/lang/Object")) false := ⟨RJx4a65c, TJx4a65c, 3, tyJx4a65c, "java/util/ArrayList", rfl, by decide, cl_Jx4a65c, wd_76, Or.inl rfl, rfl, by decide +kernel, fun h => nomatch h⟩
theorem iv_Jx4a65c_73 : CS RJx4a65c 73 mJ8_newLength_cabcc 3 := ⟨⟨wd_20, wd_351, by decide, by decide +kernel, by decide⟩, wd_349, wd_350⟩
theorem iv_Jx4a65c_66 : CS RJx4a65c 66 mJ7_copyOf_1904c 2 := ⟨⟨wd_15, wd_361, by decide, by decide +kernel, by decide⟩, wd_359, wd_360⟩
theorem fl_Jx4a65c_48 : FLk RJx4a65c 48 8 2 .int false := ⟨RJx4a65c, TJx4a65c, 3, tyJx4a65c, "java/util/ArrayList", rfl, by decide, cl_Jx4a65c, wd_77, Or.inl rfl, rfl, by decide +kernel, fun h => nomatch h⟩
theorem iv_Jx4a65c_69 : CV RJx4a65c 69 RJx4a65c mJx4a65c_grow_92f84 1 := ⟨⟨wd_6, wd_348, by decide, by decide +kernel, by decide⟩, wd_345, wd_347, ws_8⟩
theorem iv_Jx4a65c_118 : CS RJx4a65c 118 mJ15_checkIndex_7cf53 2 := ⟨⟨wd_21, wd_406, by decide, by decide +kernel, by decide⟩, wd_404, wd_405⟩
theorem iv_Jx4a65c_123 : CV RJx4a65c 123 RJx4a65c mJx4a65c_elementData_915e3 1 := ⟨⟨wd_6, wd_413, by decide, by decide +kernel, by decide⟩, wd_410, wd_411, wd_412⟩
theorem iv_Jx4a65c_129 : CV RJx4a65c 129 RJx4a65c mJx4a65c_grow_d5877 0 := ⟨⟨wd_6, wd_344, by decide, by decide +kernel, by decide⟩, wd_341, wd_343, ws_7⟩
theorem fl_Jx4a65c_63 : FLk RJx4a65c 63 8 0 .int false := ⟨RJx4a65c, TJx4a65c, 3, tyJx4a65c, "java/util/ArrayList", rfl, by decide, cl_Jx4a65c, wd_79, Or.inr wd_80, rfl, by decide +kernel, fun h => nomatch h⟩
theorem iv_Jx4a65c_131 : CV RJx4a65c 131 RJx4a65c mJx4a65c_add_72be8 3 := ⟨⟨wd_6, wd_340, by decide, by decide +kernel, by decide⟩, wd_337, wd_339, ws_6⟩
theorem iv_Jx4a65c_144 : CV RJx4a65c 144 RJx4a65c mJx4a65c_fastRemove_b59b0 2 := ⟨⟨wd_6, wd_787, by decide, by decide +kernel, by decide⟩, wd_784, wd_786, ws_16⟩
theorem iv_J7_300 : CS RJ7 300 mJ7_copyOf_6403c 3 := ⟨⟨wd_15, wd_384, by decide, by decide +kernel, by decide⟩, wd_382, wd_383⟩
theorem iv_J7_339 : CS RJ7 339 mJ7_copyOfRangeByte_39247 3 := ⟨⟨wd_15, wd_461, by decide, by decide +kernel, by decide⟩, wd_459, wd_460⟩
theorem iv_J7_343 : CS RJ7 343 mJ7_checkLength_df160 2 := ⟨⟨wd_15, wd_464, by decide, by decide +kernel, by decide⟩, wd_462, wd_463⟩
theorem iv_J15_105 : CS RJ15 105 mJ3_checkIndex_8e157 3 := ⟨⟨wd_22, wd_409, by decide, by decide +kernel, by decide⟩, wd_407, wd_408⟩
theorem kc_J8_200 : W9 (.constant RJ8 200 (2147483639)) := wd_355
theorem iv_L_7 : CV RL 7 RX7 mX7_feed 5 := ⟨⟨wd_1, wd_810, by decide, by decide +kernel, by decide⟩, wd_807, wd_808, wd_809⟩
theorem iv_L_15 : CV RL 15 RX7 mX7_end 1 := ⟨⟨wd_1, wd_841, by decide, by decide +kernel, by decide⟩, wd_838, wd_839, wd_840⟩
theorem iv_L_21 : CV RL 21 RX7 mX7_fault 1 := ⟨⟨wd_1, wd_870, by decide, by decide +kernel, by decide⟩, wd_867, wd_868, wd_869⟩
theorem iv_L_27 : CV RL 27 RX7 mX7_skip 1 := ⟨⟨wd_1, wd_890, by decide, by decide +kernel, by decide⟩, wd_887, wd_888, wd_889⟩
theorem iv_L_30 : CV RL 30 RX7 mX7_pack 1 := ⟨⟨wd_1, wd_904, by decide, by decide +kernel, by decide⟩, wd_901, wd_902, wd_903⟩
theorem iv_L_33 : CV RL 33 RX7 mX7_shown 1 := ⟨⟨wd_1, wd_1003, by decide, by decide +kernel, by decide⟩, wd_1000, wd_1001, wd_1002⟩
theorem iv_L_36 : CV RL 36 RX7 mX7_nil 0 := ⟨⟨wd_1, wd_1012, by decide, by decide +kernel, by decide⟩, wd_1009, wd_1010, wd_1011⟩
theorem iv_L_40 : CV RL 40 RX7 mX7_truth 1 := ⟨⟨wd_1, wd_1027, by decide, by decide +kernel, by decide⟩, wd_1024, wd_1025, wd_1026⟩
theorem iv_L_44 : CV RL 44 RX7 mX7_integer 2 := ⟨⟨wd_1, wd_1034, by decide, by decide +kernel, by decide⟩, wd_1031, wd_1032, wd_1033⟩
theorem iv_L_48 : CV RL 48 RX7 mX7_real 2 := ⟨⟨wd_1, wd_1041, by decide, by decide +kernel, by decide⟩, wd_1038, wd_1039, wd_1040⟩
theorem iv_L_51 : CV RL 51 RX7 mX7_row 1 := ⟨⟨wd_1, wd_1049, by decide, by decide +kernel, by decide⟩, wd_1046, wd_1047, wd_1048⟩
theorem iv_L_54 : CV RL 54 RX7 mX7_extension 1 := ⟨⟨wd_1, wd_1064, by decide, by decide +kernel, by decide⟩, wd_1061, wd_1062, wd_1063⟩
theorem iv_L_57 : CV RL 57 RX7 mX7_time 2 := ⟨⟨wd_1, wd_1072, by decide, by decide +kernel, by decide⟩, wd_1069, wd_1070, wd_1071⟩
theorem iv_L_61 : CV RL 61 RX7 mX7_group 1 := ⟨⟨wd_1, wd_1081, by decide, by decide +kernel, by decide⟩, wd_1078, wd_1079, wd_1080⟩
theorem iv_L_64 : CV RL 64 RX7 mX7_add 2 := ⟨⟨wd_1, wd_1089, by decide, by decide +kernel, by decide⟩, wd_1086, wd_1087, wd_1088⟩
theorem iv_L_68 : CV RL 68 RX7 mX7_put 3 := ⟨⟨wd_1, wd_1111, by decide, by decide +kernel, by decide⟩, wd_1108, wd_1109, wd_1110⟩
theorem iv_L_72 : CV RL 72 RX7 mX7_about 2 := ⟨⟨wd_1, wd_1118, by decide, by decide +kernel, by decide⟩, wd_1115, wd_1116, wd_1117⟩
theorem iv_L_75 : CV RL 75 RX7 mX7_number 1 := ⟨⟨wd_1, wd_1141, by decide, by decide +kernel, by decide⟩, wd_1138, wd_1139, wd_1140⟩
theorem iv_L_81 : CV RL 81 RX7 mX7_part 2 := ⟨⟨wd_1, wd_1153, by decide, by decide +kernel, by decide⟩, wd_1150, wd_1151, wd_1152⟩
theorem iv_L_84 : CV RL 84 RX7 mX7_same 2 := ⟨⟨wd_1, wd_1161, by decide, by decide +kernel, by decide⟩, wd_1158, wd_1159, wd_1160⟩
theorem iv_L_88 : CV RL 88 RX7 mX7_find 2 := ⟨⟨wd_1, wd_1173, by decide, by decide +kernel, by decide⟩, wd_1170, wd_1171, wd_1172⟩
theorem iv_L_91 : CV RL 91 RX7 mX7_count 1 := ⟨⟨wd_1, wd_1181, by decide, by decide +kernel, by decide⟩, wd_1178, wd_1179, wd_1180⟩
theorem nw_L_8 : CNk RL 8 6 [.null, .null, .null, .null, .null, .null] 6 := ⟨RX7, TX7, tyX7, rfl, cl_X7, wd_34, wd_35, wd_1, fun j hj => match j, hj with | 0, _ => rfl | 1, _ => rfl | 2, _ => rfl | 3, _ => rfl | 4, _ => rfl | 5, _ => rfl | j + 6, hj => absurd hj (by omega)⟩
theorem iv_L_94 : CI RL 94 mX7_init 0 := ⟨⟨wd_1, wd_38, by decide, by decide +kernel, by decide⟩, wd_36, wd_37, rfl, rfl⟩
theorem nw_L_95 : CNk RL 95 7 [.int 0, .null, .int 0, .null, .int 0, .int 0, .null, .null, .null, .null, .null, .null, .null, .int 0, .null, .null, .null, .int 0, .null, .null, .int 0, .int 0, .null, .null, .int 0, .int 0, .int 0, .null, .null, .int 0, .int 0, .int 0, .null, .int 0, .int 0, .long 0] 36 := ⟨RX8, TX8, tyX8, rfl, cl_X8, wd_1183, wd_1184, wd_10, fun j hj => match j, hj with | 0, _ => rfl | 1, _ => rfl | 2, _ => rfl | 3, _ => rfl | 4, _ => rfl | 5, _ => rfl | 6, _ => rfl | 7, _ => rfl | 8, _ => rfl | 9, _ => rfl | 10, _ => rfl | 11, _ => rfl | 12, _ => rfl | 13, _ => rfl | 14, _ => rfl | 15, _ => rfl | 16, _ => rfl | 17, _ => rfl | 18, _ => rfl | 19, _ => rfl | 20, _ => rfl | 21, _ => rfl | 22, _ => rfl | 23, _ => rfl | 24, _ => rfl | 25, _ => rfl | 26, _ => rfl | 27, _ => rfl | 28, _ => rfl | 29, _ => rfl | 30, _ => rfl | 31, _ => rfl | 32, _ => rfl | 33, _ => rfl | 34, _ => rfl | 35, _ => rfl | j + 36, hj => absurd hj (by omega)⟩
theorem iv_L_97 : CI RL 97 mX8_init 0 := ⟨⟨wd_10, wd_1187, by decide, by decide +kernel, by decide⟩, wd_1185, wd_1186, rfl, rfl⟩
theorem iv_L_103 : CV RL 103 RX8 mX8_feed 5 := ⟨⟨wd_10, wd_1509, by decide, by decide +kernel, by decide⟩, wd_1506, wd_1507, wd_1508⟩
theorem iv_L_104 : CV RL 104 RX8 mX8_thrown 0 := ⟨⟨wd_10, wd_1304, by decide, by decide +kernel, by decide⟩, wd_1301, wd_1302, wd_1303⟩
theorem iv_L_110 : CV RL 110 RX8 mX8_end 1 := ⟨⟨wd_10, wd_1513, by decide, by decide +kernel, by decide⟩, wd_1510, wd_1511, wd_1512⟩
theorem iv_L_111 : CV RL 111 RX7 mX7_unpack 0 := ⟨⟨wd_1, wd_197, by decide, by decide +kernel, by decide⟩, wd_194, wd_195, wd_196⟩
theorem iv_L_114 : CV RL 114 RX8 mX8_unpack 0 := ⟨⟨wd_10, wd_1398, by decide, by decide +kernel, by decide⟩, wd_1395, wd_1396, wd_1397⟩
theorem iv_L_118 : CV RL 118 RX8 mX8_fault 1 := ⟨⟨wd_10, wd_1438, by decide, by decide +kernel, by decide⟩, wd_1435, wd_1436, wd_1437⟩
theorem iv_L_121 : CV RL 121 RX8 mX8_skip 1 := ⟨⟨wd_10, wd_1308, by decide, by decide +kernel, by decide⟩, wd_1305, wd_1306, wd_1307⟩
theorem iv_L_124 : CV RL 124 RX8 mX8_pack 1 := ⟨⟨wd_10, wd_1442, by decide, by decide +kernel, by decide⟩, wd_1439, wd_1440, wd_1441⟩
theorem iv_L_127 : CV RL 127 RX8 mX8_shown 1 := ⟨⟨wd_10, wd_1493, by decide, by decide +kernel, by decide⟩, wd_1490, wd_1491, wd_1492⟩
theorem iv_L_131 : CV RL 131 RX8 mX8_nil 0 := ⟨⟨wd_10, wd_1334, by decide, by decide +kernel, by decide⟩, wd_1331, wd_1332, wd_1333⟩
theorem iv_L_135 : CV RL 135 RX8 mX8_truth 1 := ⟨⟨wd_10, wd_1342, by decide, by decide +kernel, by decide⟩, wd_1339, wd_1340, wd_1341⟩
theorem kc_L_136 : W9 (.constantLong RL 136 (4294967295)) := wd_1534
theorem iv_L_141 : CV RL 141 RX8 mX8_integer 2 := ⟨⟨wd_10, wd_1346, by decide, by decide +kernel, by decide⟩, wd_1343, wd_1344, wd_1345⟩
theorem iv_L_144 : CV RL 144 RX8 mX8_real 2 := ⟨⟨wd_10, wd_1350, by decide, by decide +kernel, by decide⟩, wd_1347, wd_1348, wd_1349⟩
theorem iv_L_147 : CV RL 147 RX8 mX8_row 1 := ⟨⟨wd_10, wd_1355, by decide, by decide +kernel, by decide⟩, wd_1352, wd_1353, wd_1354⟩
theorem iv_L_150 : CV RL 150 RX8 mX8_extension 1 := ⟨⟨wd_10, wd_1369, by decide, by decide +kernel, by decide⟩, wd_1366, wd_1367, wd_1368⟩
theorem iv_L_154 : CV RL 154 RX8 mX8_time 2 := ⟨⟨wd_10, wd_1373, by decide, by decide +kernel, by decide⟩, wd_1370, wd_1371, wd_1372⟩
theorem iv_L_157 : CV RL 157 RX8 mX8_group 1 := ⟨⟨wd_10, wd_1378, by decide, by decide +kernel, by decide⟩, wd_1375, wd_1376, wd_1377⟩
theorem iv_L_161 : CV RL 161 RX8 mX8_add 2 := ⟨⟨wd_10, wd_1382, by decide, by decide +kernel, by decide⟩, wd_1379, wd_1380, wd_1381⟩
theorem iv_L_165 : CV RL 165 RX8 mX8_put 3 := ⟨⟨wd_10, wd_1394, by decide, by decide +kernel, by decide⟩, wd_1391, wd_1392, wd_1393⟩
theorem iv_L_168 : CV RL 168 RX8 mX8_about 2 := ⟨⟨wd_10, wd_1517, by decide, by decide +kernel, by decide⟩, wd_1514, wd_1515, wd_1516⟩
theorem iv_L_171 : CV RL 171 RX8 mX8_number_ 1 := ⟨⟨wd_10, wd_1521, by decide, by decide +kernel, by decide⟩, wd_1518, wd_1519, wd_1520⟩
theorem iv_L_174 : CV RL 174 RX8 mX8_part 2 := ⟨⟨wd_10, wd_1525, by decide, by decide +kernel, by decide⟩, wd_1522, wd_1523, wd_1524⟩
theorem iv_L_177 : CV RL 177 RX8 mX8_same 2 := ⟨⟨wd_10, wd_1497, by decide, by decide +kernel, by decide⟩, wd_1494, wd_1495, wd_1496⟩
theorem iv_L_180 : CV RL 180 RX8 mX8_find 2 := ⟨⟨wd_10, wd_1505, by decide, by decide +kernel, by decide⟩, wd_1502, wd_1503, wd_1504⟩
theorem iv_L_183 : CV RL 183 RX8 mX8_count 1 := ⟨⟨wd_10, wd_1529, by decide, by decide +kernel, by decide⟩, wd_1526, wd_1527, wd_1528⟩
theorem iv_L_184 : CV RL 184 RX7 mX7_clear 0 := ⟨⟨wd_1, wd_800, by decide, by decide +kernel, by decide⟩, wd_797, wd_798, wd_799⟩
theorem iv_L_187 : CV RL 187 RX8 mX8_clear 0 := ⟨⟨wd_10, wd_1533, by decide, by decide +kernel, by decide⟩, wd_1530, wd_1531, wd_1532⟩
