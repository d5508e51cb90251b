abbrev mX11_init : cw_M := (yX11_init, cX11_init, 1, none, { frames := 3, cells := 67, slots := 11386, locals := 52 })
set_option maxRecDepth 100000 in
theorem cd_X11_init : cw_cd mX11_init := ⟨(cw_mem (List.mem_append_right _ (List.mem_of_getElem? (i := 25) (by rfl))) rfl), (cw_mem (List.mem_append_right _ (List.mem_of_getElem? (i := 1) (by rfl))) rfl)⟩
set_option maxRecDepth 100000 in
theorem ar_X11_init : cw_ar mX11_init 0 := ⟨by decide +kernel, by decide +kernel, by decide +kernel⟩
abbrev mX9_init : cw_M := (yX9_init, cX9_init, 2, none, { frames := 1, cells := 3, slots := 24, locals := 12 })
set_option maxRecDepth 100000 in
theorem cd_X9_init : cw_cd mX9_init := ⟨(cw_mem (List.mem_append_right _ (List.mem_of_getElem? (i := 33) (by rfl))) rfl), (cw_mem (List.mem_append_right _ (List.mem_of_getElem? (i := 2) (by rfl))) rfl)⟩
set_option maxRecDepth 100000 in
theorem ar_X9_init : cw_ar mX9_init 1 := ⟨by decide +kernel, by decide +kernel, by decide +kernel⟩
abbrev mX2_init : cw_M := (yX2_init, cX2_init, 1, none, { frames := 1, cells := 2, slots := 12, locals := 12 })
set_option maxRecDepth 100000 in
theorem cd_X2_init : cw_cd mX2_init := ⟨(cw_mem (List.mem_append_right _ (List.mem_of_getElem? (i := 54) (by rfl))) rfl), (cw_mem (List.mem_append_right _ (List.mem_of_getElem? (i := 3) (by rfl))) rfl)⟩
set_option maxRecDepth 100000 in
theorem ar_X2_init : cw_ar mX2_init 0 := ⟨by decide +kernel, by decide +kernel, by decide +kernel⟩
abbrev mX6_init : cw_M := (yX6_init, cX6_init, 1, none, { frames := 1, cells := 3, slots := 30, locals := 12 })
set_option maxRecDepth 100000 in
theorem cd_X6_init : cw_cd mX6_init := ⟨(cw_mem (List.mem_append_right _ (List.mem_of_getElem? (i := 71) (by rfl))) rfl), (cw_mem (List.mem_append_right _ (List.mem_of_getElem? (i := 4) (by rfl))) rfl)⟩
set_option maxRecDepth 100000 in
theorem ar_X6_init : cw_ar mX6_init 0 := ⟨by decide +kernel, by decide +kernel, by decide +kernel⟩
abbrev mX8_init : cw_M := (yX8_init, cX8_init, 1, none, { frames := 1, cells := 2, slots := 1084, locals := 12 })
set_option maxRecDepth 100000 in
theorem cd_X8_init : cw_cd mX8_init := ⟨(cw_mem (List.mem_append_right _ (List.mem_of_getElem? (i := 91) (by rfl))) rfl), (cw_mem (List.mem_append_right _ (List.mem_of_getElem? (i := 5) (by rfl))) rfl)⟩
set_option maxRecDepth 100000 in
theorem ar_X8_init : cw_ar mX8_init 0 := ⟨by decide +kernel, by decide +kernel, by decide +kernel⟩
abbrev mX1_init : cw_M := (yX1_init, cX1_init, 1, none, { frames := 1, cells := 9, slots := 3906, locals := 12 })
set_option maxRecDepth 100000 in
theorem cd_X1_init : cw_cd mX1_init := ⟨(cw_mem (List.mem_append_right _ (List.mem_of_getElem? (i := 105) (by rfl))) rfl), (cw_mem (List.mem_append_right _ (List.mem_of_getElem? (i := 6) (by rfl))) rfl)⟩
set_option maxRecDepth 100000 in
theorem ar_X1_init : cw_ar mX1_init 0 := ⟨by decide +kernel, by decide +kernel, by decide +kernel⟩
abbrev mX0_init : cw_M := (yX0_init, cX0_init, 1, none, { frames := 1, cells := 2, slots := 384, locals := 12 })
set_option maxRecDepth 100000 in
theorem cd_X0_init : cw_cd mX0_init := ⟨(cw_mem (List.mem_append_right _ (List.mem_of_getElem? (i := 143) (by rfl))) rfl), (cw_mem (List.mem_append_right _ (List.mem_of_getElem? (i := 7) (by rfl))) rfl)⟩
set_option maxRecDepth 100000 in
theorem ar_X0_init : cw_ar mX0_init 0 := ⟨by decide +kernel, by decide +kernel, by decide +kernel⟩
abbrev mX4_init : cw_M := (yX4_init, cX4_init, 1, none, { frames := 2, cells := 11, slots := 933, locals := 32 })
set_option maxRecDepth 100000 in
theorem cd_X4_init : cw_cd mX4_init := ⟨(cw_mem (List.mem_append_right _ (List.mem_of_getElem? (i := 156) (by rfl))) rfl), (cw_mem (List.mem_append_right _ (List.mem_of_getElem? (i := 8) (by rfl))) rfl)⟩
set_option maxRecDepth 100000 in
theorem ar_X4_init : cw_ar mX4_init 0 := ⟨by decide +kernel, by decide +kernel, by decide +kernel⟩
abbrev mX7_init : cw_M := (yX7_init, cX7_init, 1, none, { frames := 1, cells := 1, slots := 0, locals := 12 })
set_option maxRecDepth 100000 in
theorem cd_X7_init : cw_cd mX7_init := ⟨(cw_mem (List.mem_append_right _ (List.mem_of_getElem? (i := 162) (by rfl))) rfl), (cw_mem (List.mem_append_right _ (List.mem_of_getElem? (i := 9) (by rfl))) rfl)⟩
set_option maxRecDepth 100000 in
theorem ar_X7_init : cw_ar mX7_init 0 := ⟨by decide +kernel, by decide +kernel, by decide +kernel⟩
abbrev mX10_init : cw_M := (yX10_init, cX10_init, 1, none, { frames := 1, cells := 7, slots := 896, locals := 12 })
set_option maxRecDepth 100000 in
theorem cd_X10_init : cw_cd mX10_init := ⟨(cw_mem (List.mem_append_right _ (List.mem_of_getElem? (i := 191) (by rfl))) rfl), (cw_mem (List.mem_append_right _ (List.mem_of_getElem? (i := 10) (by rfl))) rfl)⟩
set_option maxRecDepth 100000 in
theorem ar_X10_init : cw_ar mX10_init 0 := ⟨by decide +kernel, by decide +kernel, by decide +kernel⟩
abbrev mX3_init : cw_M := (yX3_init, cX3_init, 1, none, { frames := 1, cells := 6, slots := 904, locals := 12 })
set_option maxRecDepth 100000 in
theorem cd_X3_init : cw_cd mX3_init := ⟨(cw_mem (List.mem_append_right _ (List.mem_of_getElem? (i := 266) (by rfl))) rfl), (cw_mem (List.mem_append_right _ (List.mem_of_getElem? (i := 11) (by rfl))) rfl)⟩
set_option maxRecDepth 100000 in
theorem ar_X3_init : cw_ar mX3_init 0 := ⟨by decide +kernel, by decide +kernel, by decide +kernel⟩
abbrev mX5_init : cw_M := (yX5_init, cX5_init, 1, none, { frames := 1, cells := 6, slots := 1128, locals := 12 })
set_option maxRecDepth 100000 in
theorem cd_X5_init : cw_cd mX5_init := ⟨(cw_mem (List.mem_append_right _ (List.mem_of_getElem? (i := 294) (by rfl))) rfl), (cw_mem (List.mem_append_right _ (List.mem_of_getElem? (i := 12) (by rfl))) rfl)⟩
set_option maxRecDepth 100000 in
theorem ar_X5_init : cw_ar mX5_init 0 := ⟨by decide +kernel, by decide +kernel, by decide +kernel⟩
abbrev mX11_feed : cw_M := (yX11_feed, cX11_feed, 6, (some .int), { frames := 1, cells := 0, slots := 0, locals := 22 })
set_option maxRecDepth 100000 in
theorem cd_X11_feed : cw_cd mX11_feed := ⟨(cw_mem (List.mem_append_right _ (List.mem_of_getElem? (i := 373) (by rfl))) rfl), (cw_mem (List.mem_append_right _ (List.mem_of_getElem? (i := 1) (by rfl))) rfl)⟩
set_option maxRecDepth 100000 in
theorem ar_X11_feed : cw_ar mX11_feed 5 := ⟨by decide +kernel, by decide +kernel, by decide +kernel⟩
abbrev mX11_append : cw_M := (yX11_append, cX11_append, 3, none, { frames := 0, cells := 0, slots := 0, locals := 0 })
set_option maxRecDepth 100000 in
theorem cd_X11_append : cw_cd mX11_append := ⟨(cw_mem (List.mem_append_right _ (List.mem_of_getElem? (i := 377) (by rfl))) rfl), (cw_mem (List.mem_append_right _ (List.mem_of_getElem? (i := 1) (by rfl))) rfl)⟩
set_option maxRecDepth 100000 in
theorem ar_X11_append : cw_ar mX11_append 1 := ⟨by decide +kernel, by decide +kernel, by decide +kernel⟩
abbrev mX11_back : cw_M := (yX11_back, cX11_back, 2, (some .int), { frames := 0, cells := 0, slots := 0, locals := 0 })
set_option maxRecDepth 100000 in
theorem cd_X11_back : cw_cd mX11_back := ⟨(cw_mem (List.mem_append_right _ (List.mem_of_getElem? (i := 381) (by rfl))) rfl), (cw_mem (List.mem_append_right _ (List.mem_of_getElem? (i := 1) (by rfl))) rfl)⟩
set_option maxRecDepth 100000 in
theorem ar_X11_back : cw_ar mX11_back 1 := ⟨by decide +kernel, by decide +kernel, by decide +kernel⟩
abbrev mX11_read : cw_M := (yX11_read, cX11_read, 2, (some .int), { frames := 8, cells := 0, slots := 0, locals := 174 })
set_option maxRecDepth 100000 in
theorem cd_X11_read : cw_cd mX11_read := ⟨(cw_mem (List.mem_append_right _ (List.mem_of_getElem? (i := 385) (by rfl))) rfl), (cw_mem (List.mem_append_right _ (List.mem_of_getElem? (i := 1) (by rfl))) rfl)⟩
set_option maxRecDepth 100000 in
theorem ar_X11_read : cw_ar mX11_read 0 := ⟨by decide +kernel, by decide +kernel, by decide +kernel⟩
abbrev mX4_parse : cw_M := (yX4_parse, cX4_parse, 6, (some .int), { frames := 7, cells := 0, slots := 0, locals := 149 })
set_option maxRecDepth 100000 in
theorem cd_X4_parse : cw_cd mX4_parse := ⟨(cw_mem (List.mem_append_right _ (List.mem_of_getElem? (i := 389) (by rfl))) rfl), (cw_mem (List.mem_append_right _ (List.mem_of_getElem? (i := 8) (by rfl))) rfl)⟩
set_option maxRecDepth 100000 in
theorem ar_X4_parse : cw_ar mX4_parse 2 := ⟨by decide +kernel, by decide +kernel, by decide +kernel⟩
abbrev mX10_renew : cw_M := (yX10_renew, cX10_renew, 1, none, { frames := 0, cells := 0, slots := 0, locals := 0 })
set_option maxRecDepth 100000 in
theorem cd_X10_renew : cw_cd mX10_renew := ⟨(cw_mem (List.mem_append_right _ (List.mem_of_getElem? (i := 393) (by rfl))) rfl), (cw_mem (List.mem_append_right _ (List.mem_of_getElem? (i := 10) (by rfl))) rfl)⟩
set_option maxRecDepth 100000 in
theorem ar_X10_renew : cw_ar mX10_renew 0 := ⟨by decide +kernel, by decide +kernel, by decide +kernel⟩
abbrev mX7_start : cw_M := (yX7_start, cX7_start, 3, none, { frames := 1, cells := 0, slots := 0, locals := 21 })
set_option maxRecDepth 100000 in
theorem cd_X7_start : cw_cd mX7_start := ⟨(cw_mem (List.mem_append_right _ (List.mem_of_getElem? (i := 397) (by rfl))) rfl), (cw_mem (List.mem_append_right _ (List.mem_of_getElem? (i := 9) (by rfl))) rfl)⟩
set_option maxRecDepth 100000 in
theorem ar_X7_start : cw_ar mX7_start 2 := ⟨by decide +kernel, by decide +kernel, by decide +kernel⟩
abbrev mJ9_min_7cf53 : cw_M := (yJ9_min_7cf53, cJ9_min_7cf53, 2, (some .int), { frames := 0, cells := 0, slots := 0, locals := 0 })
set_option maxRecDepth 100000 in
theorem cd_J9_min_7cf53 : cw_cd mJ9_min_7cf53 := ⟨(cw_mem (List.mem_append_right _ (List.mem_of_getElem? (i := 400) (by rfl))) rfl), (cw_mem (List.mem_append_right _ (List.mem_of_getElem? (i := 14) (by rfl))) rfl)⟩
set_option maxRecDepth 100000 in
theorem ar_J9_min_7cf53 : cw_ar mJ9_min_7cf53 2 := ⟨by decide +kernel, by decide +kernel, by decide +kernel⟩
abbrev mX7_advance : cw_M := (yX7_advance, cX7_advance, 1, none, { frames := 6, cells := 0, slots := 0, locals := 129 })
set_option maxRecDepth 100000 in
theorem cd_X7_advance : cw_cd mX7_advance := ⟨(cw_mem (List.mem_append_right _ (List.mem_of_getElem? (i := 404) (by rfl))) rfl), (cw_mem (List.mem_append_right _ (List.mem_of_getElem? (i := 9) (by rfl))) rfl)⟩
set_option maxRecDepth 100000 in
theorem ar_X7_advance : cw_ar mX7_advance 0 := ⟨by decide +kernel, by decide +kernel, by decide +kernel⟩
abbrev mX7_behindBlanks : cw_M := (yX7_behindBlanks, cX7_behindBlanks, 2, (some .int), { frames := 1, cells := 0, slots := 0, locals := 20 })
set_option maxRecDepth 100000 in
theorem cd_X7_behindBlanks : cw_cd mX7_behindBlanks := ⟨(cw_mem (List.mem_append_right _ (List.mem_of_getElem? (i := 408) (by rfl))) rfl), (cw_mem (List.mem_append_right _ (List.mem_of_getElem? (i := 9) (by rfl))) rfl)⟩
set_option maxRecDepth 100000 in
theorem ar_X7_behindBlanks : cw_ar mX7_behindBlanks 0 := ⟨by decide +kernel, by decide +kernel, by decide +kernel⟩
abbrev mX7_isBlank : cw_M := (yX7_isBlank, cX7_isBlank, 1, (some .boolean), { frames := 0, cells := 0, slots := 0, locals := 0 })
set_option maxRecDepth 100000 in
theorem cd_X7_isBlank : cw_cd mX7_isBlank := ⟨(cw_mem (List.mem_append_right _ (List.mem_of_getElem? (i := 411) (by rfl))) rfl), (cw_mem (List.mem_append_right _ (List.mem_of_getElem? (i := 9) (by rfl))) rfl)⟩
set_option maxRecDepth 100000 in
theorem ar_X7_isBlank : cw_ar mX7_isBlank 1 := ⟨by decide +kernel, by decide +kernel, by decide +kernel⟩
abbrev mX7_isLetter : cw_M := (yX7_isLetter, cX7_isLetter, 1, (some .boolean), { frames := 0, cells := 0, slots := 0, locals := 0 })
set_option maxRecDepth 100000 in
theorem cd_X7_isLetter : cw_cd mX7_isLetter := ⟨(cw_mem (List.mem_append_right _ (List.mem_of_getElem? (i := 414) (by rfl))) rfl), (cw_mem (List.mem_append_right _ (List.mem_of_getElem? (i := 9) (by rfl))) rfl)⟩
set_option maxRecDepth 100000 in
theorem ar_X7_isLetter : cw_ar mX7_isLetter 1 := ⟨by decide +kernel, by decide +kernel, by decide +kernel⟩
abbrev mX7_scanWord : cw_M := (yX7_scanWord, cX7_scanWord, 2, none, { frames := 5, cells := 0, slots := 0, locals := 108 })
set_option maxRecDepth 100000 in
theorem cd_X7_scanWord : cw_cd mX7_scanWord := ⟨(cw_mem (List.mem_append_right _ (List.mem_of_getElem? (i := 418) (by rfl))) rfl), (cw_mem (List.mem_append_right _ (List.mem_of_getElem? (i := 9) (by rfl))) rfl)⟩
set_option maxRecDepth 100000 in
theorem ar_X7_scanWord : cw_ar mX7_scanWord 0 := ⟨by decide +kernel, by decide +kernel, by decide +kernel⟩
abbrev mJ0_length_8abf5 : cw_M := (yJ0_length_8abf5, cJ0_length_8abf5, 1, (some .int), { frames := 1, cells := 0, slots := 0, locals := 20 })
set_option maxRecDepth 100000 in
theorem cd_J0_length_8abf5 : cw_cd mJ0_length_8abf5 := ⟨(cw_mem (List.mem_append_right _ (List.mem_of_getElem? (i := 423) (by rfl))) rfl), (cw_mem (List.mem_append_right _ (List.mem_of_getElem? (i := 15) (by rfl))) rfl)⟩
set_option maxRecDepth 100000 in
theorem ar_J0_length_8abf5 : cw_ar mJ0_length_8abf5 0 := ⟨by decide +kernel, by decide +kernel, by decide +kernel⟩
abbrev mJ0_coder_7d493 : cw_M := (yJ0_coder_7d493, cJ0_coder_7d493, 1, (some .byte), { frames := 0, cells := 0, slots := 0, locals := 0 })
set_option maxRecDepth 100000 in
theorem cd_J0_coder_7d493 : cw_cd mJ0_coder_7d493 := ⟨(cw_mem (List.mem_append_right _ (List.mem_of_getElem? (i := 427) (by rfl))) rfl), (cw_mem (List.mem_append_right _ (List.mem_of_getElem? (i := 15) (by rfl))) rfl)⟩
set_option maxRecDepth 100000 in
theorem ar_J0_coder_7d493 : cw_ar mJ0_coder_7d493 0 := ⟨by decide +kernel, by decide +kernel, by decide +kernel⟩
abbrev mX7_isWord : cw_M := (yX7_isWord, cX7_isWord, 4, (some .boolean), { frames := 4, cells := 0, slots := 0, locals := 85 })
set_option maxRecDepth 100000 in
theorem cd_X7_isWord : cw_cd mX7_isWord := ⟨(cw_mem (List.mem_append_right _ (List.mem_of_getElem? (i := 433) (by rfl))) rfl), (cw_mem (List.mem_append_right _ (List.mem_of_getElem? (i := 9) (by rfl))) rfl)⟩
set_option maxRecDepth 100000 in
theorem ar_X7_isWord : cw_ar mX7_isWord 1 := ⟨by decide +kernel, by decide +kernel, by decide +kernel⟩
abbrev mJ0_charAt_5068e : cw_M := (yJ0_charAt_5068e, cJ0_charAt_5068e, 2, (some .char), { frames := 3, cells := 0, slots := 0, locals := 64 })
set_option maxRecDepth 100000 in
theorem cd_J0_charAt_5068e : cw_cd mJ0_charAt_5068e := ⟨(cw_mem (List.mem_append_right _ (List.mem_of_getElem? (i := 437) (by rfl))) rfl), (cw_mem (List.mem_append_right _ (List.mem_of_getElem? (i := 15) (by rfl))) rfl)⟩
set_option maxRecDepth 100000 in
theorem ar_J0_charAt_5068e : cw_ar mJ0_charAt_5068e 1 := ⟨by decide +kernel, by decide +kernel, by decide +kernel⟩
abbrev mJ0_isLatin1_aae02 : cw_M := (yJ0_isLatin1_aae02, cJ0_isLatin1_aae02, 1, (some .boolean), { frames := 0, cells := 0, slots := 0, locals := 0 })
set_option maxRecDepth 100000 in
theorem cd_J0_isLatin1_aae02 : cw_cd mJ0_isLatin1_aae02 := ⟨(cw_mem (List.mem_append_right _ (List.mem_of_getElem? (i := 441) (by rfl))) rfl), (cw_mem (List.mem_append_right _ (List.mem_of_getElem? (i := 15) (by rfl))) rfl)⟩
set_option maxRecDepth 100000 in
theorem ar_J0_isLatin1_aae02 : cw_ar mJ0_isLatin1_aae02 0 := ⟨by decide +kernel, by decide +kernel, by decide +kernel⟩
abbrev mJ1_charAt_3b067 : cw_M := (yJ1_charAt_3b067, cJ1_charAt_3b067, 2, (some .char), { frames := 2, cells := 0, slots := 0, locals := 43 })
set_option maxRecDepth 100000 in
theorem cd_J1_charAt_3b067 : cw_cd mJ1_charAt_3b067 := ⟨(cw_mem (List.mem_append_right _ (List.mem_of_getElem? (i := 444) (by rfl))) rfl), (cw_mem (List.mem_append_right _ (List.mem_of_getElem? (i := 16) (by rfl))) rfl)⟩
set_option maxRecDepth 100000 in
theorem ar_J1_charAt_3b067 : cw_ar mJ1_charAt_3b067 2 := ⟨by decide +kernel, by decide +kernel, by decide +kernel⟩
abbrev mJ0_checkIndex_df160 : cw_M := (yJ0_checkIndex_df160, cJ0_checkIndex_df160, 2, none, { frames := 1, cells := 0, slots := 0, locals := 22 })
set_option maxRecDepth 100000 in
theorem cd_J0_checkIndex_df160 : cw_cd mJ0_checkIndex_df160 := ⟨(cw_mem (List.mem_append_right _ (List.mem_of_getElem? (i := 447) (by rfl))) rfl), (cw_mem (List.mem_append_right _ (List.mem_of_getElem? (i := 15) (by rfl))) rfl)⟩
set_option maxRecDepth 100000 in
theorem ar_J0_checkIndex_df160 : cw_ar mJ0_checkIndex_df160 2 := ⟨by decide +kernel, by decide +kernel, by decide +kernel⟩
abbrev mJ3_checkIndex_8e157 : cw_M := (yJ3_checkIndex_8e157, cJ3_checkIndex_8e157, 3, (some .int), { frames := 0, cells := 0, slots := 0, locals := 0 })
set_option maxRecDepth 100000 in
theorem cd_J3_checkIndex_8e157 : cw_cd mJ3_checkIndex_8e157 := ⟨(cw_mem (List.mem_append_right _ (List.mem_of_getElem? (i := 452) (by rfl))) rfl), (cw_mem (List.mem_append_right _ (List.mem_of_getElem? (i := 17) (by rfl))) rfl)⟩
set_option maxRecDepth 100000 in
theorem ar_J3_checkIndex_8e157 : cw_ar mJ3_checkIndex_8e157 3 := ⟨by decide +kernel, by decide +kernel, by decide +kernel⟩
abbrev mJ2_charAt_3b067 : cw_M := (yJ2_charAt_3b067, cJ2_charAt_3b067, 2, (some .char), { frames := 3, cells := 0, slots := 0, locals := 64 })
set_option maxRecDepth 100000 in
theorem cd_J2_charAt_3b067 : cw_cd mJ2_charAt_3b067 := ⟨(cw_mem (List.mem_append_right _ (List.mem_of_getElem? (i := 455) (by rfl))) rfl), (cw_mem (List.mem_append_right _ (List.mem_of_getElem? (i := 18) (by rfl))) rfl)⟩
set_option maxRecDepth 100000 in
theorem ar_J2_charAt_3b067 : cw_ar mJ2_charAt_3b067 2 := ⟨by decide +kernel, by decide +kernel, by decide +kernel⟩
abbrev mJ2_checkIndex_2214a : cw_M := (yJ2_checkIndex_2214a, cJ2_checkIndex_2214a, 2, none, { frames := 2, cells := 0, slots := 0, locals := 43 })
set_option maxRecDepth 100000 in
theorem cd_J2_checkIndex_2214a : cw_cd mJ2_checkIndex_2214a := ⟨(cw_mem (List.mem_append_right _ (List.mem_of_getElem? (i := 458) (by rfl))) rfl), (cw_mem (List.mem_append_right _ (List.mem_of_getElem? (i := 18) (by rfl))) rfl)⟩
set_option maxRecDepth 100000 in
theorem ar_J2_checkIndex_2214a : cw_ar mJ2_checkIndex_2214a 2 := ⟨by decide +kernel, by decide +kernel, by decide +kernel⟩
abbrev mJ2_length_9d52b : cw_M := (yJ2_length_9d52b, cJ2_length_9d52b, 1, (some .int), { frames := 0, cells := 0, slots := 0, locals := 0 })
set_option maxRecDepth 100000 in
theorem cd_J2_length_9d52b : cw_cd mJ2_length_9d52b := ⟨(cw_mem (List.mem_append_right _ (List.mem_of_getElem? (i := 461) (by rfl))) rfl), (cw_mem (List.mem_append_right _ (List.mem_of_getElem? (i := 18) (by rfl))) rfl)⟩
set_option maxRecDepth 100000 in
theorem ar_J2_length_9d52b : cw_ar mJ2_length_9d52b 1 := ⟨by decide +kernel, by decide +kernel, by decide +kernel⟩
abbrev mJ2_getChar_3b067 : cw_M := (yJ2_getChar_3b067, cJ2_getChar_3b067, 2, (some .char), { frames := 1, cells := 0, slots := 0, locals := 20 })
set_option maxRecDepth 100000 in
theorem cd_J2_getChar_3b067 : cw_cd mJ2_getChar_3b067 := ⟨(cw_mem (List.mem_append_right _ (List.mem_of_getElem? (i := 465) (by rfl))) rfl), (cw_mem (List.mem_append_right _ (List.mem_of_getElem? (i := 18) (by rfl))) rfl)⟩
set_option maxRecDepth 100000 in
theorem ar_J2_getChar_3b067 : cw_ar mJ2_getChar_3b067 2 := ⟨by decide +kernel, by decide +kernel, by decide +kernel⟩
abbrev mX7_isDigit : cw_M := (yX7_isDigit, cX7_isDigit, 1, (some .boolean), { frames := 0, cells := 0, slots := 0, locals := 0 })
set_option maxRecDepth 100000 in
theorem cd_X7_isDigit : cw_cd mX7_isDigit := ⟨(cw_mem (List.mem_append_right _ (List.mem_of_getElem? (i := 474) (by rfl))) rfl), (cw_mem (List.mem_append_right _ (List.mem_of_getElem? (i := 9) (by rfl))) rfl)⟩
set_option maxRecDepth 100000 in
theorem ar_X7_isDigit : cw_ar mX7_isDigit 1 := ⟨by decide +kernel, by decide +kernel, by decide +kernel⟩
abbrev mX7_scanInt : cw_M := (yX7_scanInt, cX7_scanInt, 1, none, { frames := 1, cells := 0, slots := 0, locals := 20 })
set_option maxRecDepth 100000 in
theorem cd_X7_scanInt : cw_cd mX7_scanInt := ⟨(cw_mem (List.mem_append_right _ (List.mem_of_getElem? (i := 478) (by rfl))) rfl), (cw_mem (List.mem_append_right _ (List.mem_of_getElem? (i := 9) (by rfl))) rfl)⟩
set_option maxRecDepth 100000 in
theorem ar_X7_scanInt : cw_ar mX7_scanInt 0 := ⟨by decide +kernel, by decide +kernel, by decide +kernel⟩
abbrev mX7_scanSign : cw_M := (yX7_scanSign, cX7_scanSign, 3, none, { frames := 1, cells := 0, slots := 0, locals := 21 })
set_option maxRecDepth 100000 in
theorem cd_X7_scanSign : cw_cd mX7_scanSign := ⟨(cw_mem (List.mem_append_right _ (List.mem_of_getElem? (i := 482) (by rfl))) rfl), (cw_mem (List.mem_append_right _ (List.mem_of_getElem? (i := 9) (by rfl))) rfl)⟩
set_option maxRecDepth 100000 in
theorem ar_X7_scanSign : cw_ar mX7_scanSign 0 := ⟨by decide +kernel, by decide +kernel, by decide +kernel⟩
abbrev mX7_signOf : cw_M := (yX7_signOf, cX7_signOf, 2, (some .int), { frames := 0, cells := 0, slots := 0, locals := 0 })
set_option maxRecDepth 100000 in
theorem cd_X7_signOf : cw_cd mX7_signOf := ⟨(cw_mem (List.mem_append_right _ (List.mem_of_getElem? (i := 485) (by rfl))) rfl), (cw_mem (List.mem_append_right _ (List.mem_of_getElem? (i := 9) (by rfl))) rfl)⟩
set_option maxRecDepth 100000 in
theorem ar_X7_signOf : cw_ar mX7_signOf 2 := ⟨by decide +kernel, by decide +kernel, by decide +kernel⟩
abbrev mX4_faultOf : cw_M := (yX4_faultOf, cX4_faultOf, 5, (some .int), { frames := 3, cells := 0, slots := 0, locals := 62 })
set_option maxRecDepth 100000 in
theorem cd_X4_faultOf : cw_cd mX4_faultOf := ⟨(cw_mem (List.mem_append_right _ (List.mem_of_getElem? (i := 489) (by rfl))) rfl), (cw_mem (List.mem_append_right _ (List.mem_of_getElem? (i := 8) (by rfl))) rfl)⟩
set_option maxRecDepth 100000 in
theorem ar_X4_faultOf : cw_ar mX4_faultOf 2 := ⟨by decide +kernel, by decide +kernel, by decide +kernel⟩
abbrev mX4_stateBehind : cw_M := (yX4_stateBehind, cX4_stateBehind, 2, (some .int), { frames := 2, cells := 0, slots := 0, locals := 41 })
set_option maxRecDepth 100000 in
theorem cd_X4_stateBehind : cw_cd mX4_stateBehind := ⟨(cw_mem (List.mem_append_right _ (List.mem_of_getElem? (i := 493) (by rfl))) rfl), (cw_mem (List.mem_append_right _ (List.mem_of_getElem? (i := 8) (by rfl))) rfl)⟩
set_option maxRecDepth 100000 in
theorem ar_X4_stateBehind : cw_ar mX4_stateBehind 1 := ⟨by decide +kernel, by decide +kernel, by decide +kernel⟩
abbrev mX4_stateBehindUnit : cw_M := (yX4_stateBehindUnit, cX4_stateBehindUnit, 2, (some .int), { frames := 1, cells := 0, slots := 0, locals := 20 })
set_option maxRecDepth 100000 in
theorem cd_X4_stateBehindUnit : cw_cd mX4_stateBehindUnit := ⟨(cw_mem (List.mem_append_right _ (List.mem_of_getElem? (i := 497) (by rfl))) rfl), (cw_mem (List.mem_append_right _ (List.mem_of_getElem? (i := 8) (by rfl))) rfl)⟩
set_option maxRecDepth 100000 in
theorem ar_X4_stateBehindUnit : cw_ar mX4_stateBehindUnit 1 := ⟨by decide +kernel, by decide +kernel, by decide +kernel⟩
abbrev mX4_isRelation : cw_M := (yX4_isRelation, cX4_isRelation, 1, (some .boolean), { frames := 0, cells := 0, slots := 0, locals := 0 })
set_option maxRecDepth 100000 in
theorem cd_X4_isRelation : cw_cd mX4_isRelation := ⟨(cw_mem (List.mem_append_right _ (List.mem_of_getElem? (i := 500) (by rfl))) rfl), (cw_mem (List.mem_append_right _ (List.mem_of_getElem? (i := 8) (by rfl))) rfl)⟩
set_option maxRecDepth 100000 in
theorem ar_X4_isRelation : cw_ar mX4_isRelation 1 := ⟨by decide +kernel, by decide +kernel, by decide +kernel⟩
abbrev mX4_stateBehindDays : cw_M := (yX4_stateBehindDays, cX4_stateBehindDays, 2, (some .int), { frames := 0, cells := 0, slots := 0, locals := 0 })
set_option maxRecDepth 100000 in
theorem cd_X4_stateBehindDays : cw_cd mX4_stateBehindDays := ⟨(cw_mem (List.mem_append_right _ (List.mem_of_getElem? (i := 504) (by rfl))) rfl), (cw_mem (List.mem_append_right _ (List.mem_of_getElem? (i := 8) (by rfl))) rfl)⟩
set_option maxRecDepth 100000 in
theorem ar_X4_stateBehindDays : cw_ar mX4_stateBehindDays 1 := ⟨by decide +kernel, by decide +kernel, by decide +kernel⟩
abbrev mX4_take : cw_M := (yX4_take, cX4_take, 3, none, { frames := 4, cells := 0, slots := 0, locals := 84 })
set_option maxRecDepth 100000 in
theorem cd_X4_take : cw_cd mX4_take := ⟨(cw_mem (List.mem_append_right _ (List.mem_of_getElem? (i := 508) (by rfl))) rfl), (cw_mem (List.mem_append_right _ (List.mem_of_getElem? (i := 8) (by rfl))) rfl)⟩
set_option maxRecDepth 100000 in
theorem ar_X4_take : cw_ar mX4_take 1 := ⟨by decide +kernel, by decide +kernel, by decide +kernel⟩
abbrev mX4_startRule : cw_M := (yX4_startRule, cX4_startRule, 2, none, { frames := 0, cells := 0, slots := 0, locals := 0 })
set_option maxRecDepth 100000 in
theorem cd_X4_startRule : cw_cd mX4_startRule := ⟨(cw_mem (List.mem_append_right _ (List.mem_of_getElem? (i := 512) (by rfl))) rfl), (cw_mem (List.mem_append_right _ (List.mem_of_getElem? (i := 8) (by rfl))) rfl)⟩
set_option maxRecDepth 100000 in
theorem ar_X4_startRule : cw_ar mX4_startRule 1 := ⟨by decide +kernel, by decide +kernel, by decide +kernel⟩
abbrev mX4_takeUntil : cw_M := (yX4_takeUntil, cX4_takeUntil, 1, none, { frames := 0, cells := 0, slots := 0, locals := 0 })
set_option maxRecDepth 100000 in
theorem cd_X4_takeUntil : cw_cd mX4_takeUntil := ⟨(cw_mem (List.mem_append_right _ (List.mem_of_getElem? (i := 516) (by rfl))) rfl), (cw_mem (List.mem_append_right _ (List.mem_of_getElem? (i := 8) (by rfl))) rfl)⟩
set_option maxRecDepth 100000 in
theorem ar_X4_takeUntil : cw_ar mX4_takeUntil 0 := ⟨by decide +kernel, by decide +kernel, by decide +kernel⟩
abbrev mX4_takeUnit : cw_M := (yX4_takeUnit, cX4_takeUnit, 2, none, { frames := 1, cells := 0, slots := 0, locals := 22 })
set_option maxRecDepth 100000 in
theorem cd_X4_takeUnit : cw_cd mX4_takeUnit := ⟨(cw_mem (List.mem_append_right _ (List.mem_of_getElem? (i := 520) (by rfl))) rfl), (cw_mem (List.mem_append_right _ (List.mem_of_getElem? (i := 8) (by rfl))) rfl)⟩
set_option maxRecDepth 100000 in
theorem ar_X4_takeUnit : cw_ar mX4_takeUnit 1 := ⟨by decide +kernel, by decide +kernel, by decide +kernel⟩
abbrev mX4_putOff : cw_M := (yX4_putOff, cX4_putOff, 2, none, { frames := 0, cells := 0, slots := 0, locals := 0 })
set_option maxRecDepth 100000 in
theorem cd_X4_putOff : cw_cd mX4_putOff := ⟨(cw_mem (List.mem_append_right _ (List.mem_of_getElem? (i := 524) (by rfl))) rfl), (cw_mem (List.mem_append_right _ (List.mem_of_getElem? (i := 8) (by rfl))) rfl)⟩
set_option maxRecDepth 100000 in
theorem ar_X4_putOff : cw_ar mX4_putOff 1 := ⟨by decide +kernel, by decide +kernel, by decide +kernel⟩
abbrev mX10_addStep : cw_M := (yX10_addStep, cX10_addStep, 3, none, { frames := 0, cells := 0, slots := 0, locals := 0 })
set_option maxRecDepth 100000 in
theorem cd_X10_addStep : cw_cd mX10_addStep := ⟨(cw_mem (List.mem_append_right _ (List.mem_of_getElem? (i := 528) (by rfl))) rfl), (cw_mem (List.mem_append_right _ (List.mem_of_getElem? (i := 10) (by rfl))) rfl)⟩
set_option maxRecDepth 100000 in
theorem ar_X10_addStep : cw_ar mX10_addStep 2 := ⟨by decide +kernel, by decide +kernel, by decide +kernel⟩
abbrev mX4_takeSign : cw_M := (yX4_takeSign, cX4_takeSign, 2, none, { frames := 3, cells := 0, slots := 0, locals := 63 })
set_option maxRecDepth 100000 in
theorem cd_X4_takeSign : cw_cd mX4_takeSign := ⟨(cw_mem (List.mem_append_right _ (List.mem_of_getElem? (i := 532) (by rfl))) rfl), (cw_mem (List.mem_append_right _ (List.mem_of_getElem? (i := 8) (by rfl))) rfl)⟩
set_option maxRecDepth 100000 in
theorem ar_X4_takeSign : cw_ar mX4_takeSign 1 := ⟨by decide +kernel, by decide +kernel, by decide +kernel⟩
abbrev mX4_release : cw_M := (yX4_release, cX4_release, 4, none, { frames := 2, cells := 0, slots := 0, locals := 40 })
set_option maxRecDepth 100000 in
theorem cd_X4_release : cw_cd mX4_release := ⟨(cw_mem (List.mem_append_right _ (List.mem_of_getElem? (i := 536) (by rfl))) rfl), (cw_mem (List.mem_append_right _ (List.mem_of_getElem? (i := 8) (by rfl))) rfl)⟩
set_option maxRecDepth 100000 in
theorem ar_X4_release : cw_ar mX4_release 1 := ⟨by decide +kernel, by decide +kernel, by decide +kernel⟩
abbrev mX4_rank : cw_M := (yX4_rank, cX4_rank, 1, (some .int), { frames := 1, cells := 0, slots := 0, locals := 20 })
set_option maxRecDepth 100000 in
theorem cd_X4_rank : cw_cd mX4_rank := ⟨(cw_mem (List.mem_append_right _ (List.mem_of_getElem? (i := 539) (by rfl))) rfl), (cw_mem (List.mem_append_right _ (List.mem_of_getElem? (i := 8) (by rfl))) rfl)⟩
set_option maxRecDepth 100000 in
theorem ar_X4_rank : cw_ar mX4_rank 1 := ⟨by decide +kernel, by decide +kernel, by decide +kernel⟩
abbrev mJ9_max_7cf53 : cw_M := (yJ9_max_7cf53, cJ9_max_7cf53, 2, (some .int), { frames := 0, cells := 0, slots := 0, locals := 0 })
set_option maxRecDepth 100000 in
theorem cd_J9_max_7cf53 : cw_cd mJ9_max_7cf53 := ⟨(cw_mem (List.mem_append_right _ (List.mem_of_getElem? (i := 542) (by rfl))) rfl), (cw_mem (List.mem_append_right _ (List.mem_of_getElem? (i := 14) (by rfl))) rfl)⟩
set_option maxRecDepth 100000 in
theorem ar_J9_max_7cf53 : cw_ar mJ9_max_7cf53 2 := ⟨by decide +kernel, by decide +kernel, by decide +kernel⟩
abbrev mX10_addRule : cw_M := (yX10_addRule, cX10_addRule, 4, none, { frames := 0, cells := 0, slots := 0, locals := 0 })
set_option maxRecDepth 100000 in
theorem cd_X10_addRule : cw_cd mX10_addRule := ⟨(cw_mem (List.mem_append_right _ (List.mem_of_getElem? (i := 546) (by rfl))) rfl), (cw_mem (List.mem_append_right _ (List.mem_of_getElem? (i := 10) (by rfl))) rfl)⟩
set_option maxRecDepth 100000 in
theorem ar_X10_addRule : cw_ar mX10_addRule 3 := ⟨by decide +kernel, by decide +kernel, by decide +kernel⟩
abbrev mX4_swapDraft : cw_M := (yX4_swapDraft, cX4_swapDraft, 3, (some (.object "WaveHouse$Treaty")), { frames := 0, cells := 0, slots := 0, locals := 0 })
set_option maxRecDepth 100000 in
theorem cd_X4_swapDraft : cw_cd mX4_swapDraft := ⟨(cw_mem (List.mem_append_right _ (List.mem_of_getElem? (i := 550) (by rfl))) rfl), (cw_mem (List.mem_append_right _ (List.mem_of_getElem? (i := 8) (by rfl))) rfl)⟩
set_option maxRecDepth 100000 in
theorem ar_X4_swapDraft : cw_ar mX4_swapDraft 1 := ⟨by decide +kernel, by decide +kernel, by decide +kernel⟩
abbrev mX11_place : cw_M := (yX11_place, cX11_place, 1, (some .int), { frames := 0, cells := 0, slots := 0, locals := 0 })
set_option maxRecDepth 100000 in
theorem cd_X11_place : cw_cd mX11_place := ⟨(cw_mem (List.mem_append_right _ (List.mem_of_getElem? (i := 554) (by rfl))) rfl), (cw_mem (List.mem_append_right _ (List.mem_of_getElem? (i := 1) (by rfl))) rfl)⟩
set_option maxRecDepth 100000 in
theorem ar_X11_place : cw_ar mX11_place 0 := ⟨by decide +kernel, by decide +kernel, by decide +kernel⟩
abbrev mX11_ground : cw_M := (yX11_ground, cX11_ground, 4, (some .int), { frames := 1, cells := 0, slots := 0, locals := 23 })
set_option maxRecDepth 100000 in
theorem cd_X11_ground : cw_cd mX11_ground := ⟨(cw_mem (List.mem_append_right _ (List.mem_of_getElem? (i := 558) (by rfl))) rfl), (cw_mem (List.mem_append_right _ (List.mem_of_getElem? (i := 1) (by rfl))) rfl)⟩
set_option maxRecDepth 100000 in
theorem ar_X11_ground : cw_ar mX11_ground 3 := ⟨by decide +kernel, by decide +kernel, by decide +kernel⟩
abbrev mX9_add : cw_M := (yX9_add, cX9_add, 4, (some .int), { frames := 0, cells := 0, slots := 0, locals := 0 })
set_option maxRecDepth 100000 in
theorem cd_X9_add : cw_cd mX9_add := ⟨(cw_mem (List.mem_append_right _ (List.mem_of_getElem? (i := 562) (by rfl))) rfl), (cw_mem (List.mem_append_right _ (List.mem_of_getElem? (i := 2) (by rfl))) rfl)⟩
set_option maxRecDepth 100000 in
theorem ar_X9_add : cw_ar mX9_add 3 := ⟨by decide +kernel, by decide +kernel, by decide +kernel⟩
abbrev mX11_mast : cw_M := (yX11_mast, cX11_mast, 3, (some .int), { frames := 1, cells := 0, slots := 0, locals := 22 })
set_option maxRecDepth 100000 in
theorem cd_X11_mast : cw_cd mX11_mast := ⟨(cw_mem (List.mem_append_right _ (List.mem_of_getElem? (i := 566) (by rfl))) rfl), (cw_mem (List.mem_append_right _ (List.mem_of_getElem? (i := 1) (by rfl))) rfl)⟩
set_option maxRecDepth 100000 in
theorem ar_X11_mast : cw_ar mX11_mast 2 := ⟨by decide +kernel, by decide +kernel, by decide +kernel⟩
abbrev mX9_has : cw_M := (yX9_has, cX9_has, 2, (some .boolean), { frames := 0, cells := 0, slots := 0, locals := 0 })
set_option maxRecDepth 100000 in
theorem cd_X9_has : cw_cd mX9_has := ⟨(cw_mem (List.mem_append_right _ (List.mem_of_getElem? (i := 570) (by rfl))) rfl), (cw_mem (List.mem_append_right _ (List.mem_of_getElem? (i := 2) (by rfl))) rfl)⟩
set_option maxRecDepth 100000 in
theorem ar_X9_has : cw_ar mX9_has 1 := ⟨by decide +kernel, by decide +kernel, by decide +kernel⟩
abbrev mX2_add : cw_M := (yX2_add, cX2_add, 3, (some .int), { frames := 0, cells := 0, slots := 0, locals := 0 })
set_option maxRecDepth 100000 in
theorem cd_X2_add : cw_cd mX2_add := ⟨(cw_mem (List.mem_append_right _ (List.mem_of_getElem? (i := 574) (by rfl))) rfl), (cw_mem (List.mem_append_right _ (List.mem_of_getElem? (i := 3) (by rfl))) rfl)⟩
set_option maxRecDepth 100000 in
theorem ar_X2_add : cw_ar mX2_add 2 := ⟨by decide +kernel, by decide +kernel, by decide +kernel⟩
abbrev mX11_programme : cw_M := (yX11_programme, cX11_programme, 4, (some .int), { frames := 1, cells := 0, slots := 0, locals := 23 })
set_option maxRecDepth 100000 in
theorem cd_X11_programme : cw_cd mX11_programme := ⟨(cw_mem (List.mem_append_right _ (List.mem_of_getElem? (i := 578) (by rfl))) rfl), (cw_mem (List.mem_append_right _ (List.mem_of_getElem? (i := 1) (by rfl))) rfl)⟩
set_option maxRecDepth 100000 in
theorem ar_X11_programme : cw_ar mX11_programme 3 := ⟨by decide +kernel, by decide +kernel, by decide +kernel⟩
abbrev mX11_isSpan : cw_M := (yX11_isSpan, cX11_isSpan, 2, (some .boolean), { frames := 0, cells := 0, slots := 0, locals := 0 })
set_option maxRecDepth 100000 in
theorem cd_X11_isSpan : cw_cd mX11_isSpan := ⟨(cw_mem (List.mem_append_right _ (List.mem_of_getElem? (i := 581) (by rfl))) rfl), (cw_mem (List.mem_append_right _ (List.mem_of_getElem? (i := 1) (by rfl))) rfl)⟩
set_option maxRecDepth 100000 in
theorem ar_X11_isSpan : cw_ar mX11_isSpan 2 := ⟨by decide +kernel, by decide +kernel, by decide +kernel⟩
abbrev mX6_add : cw_M := (yX6_add, cX6_add, 4, (some .int), { frames := 0, cells := 0, slots := 0, locals := 0 })
set_option maxRecDepth 100000 in
theorem cd_X6_add : cw_cd mX6_add := ⟨(cw_mem (List.mem_append_right _ (List.mem_of_getElem? (i := 585) (by rfl))) rfl), (cw_mem (List.mem_append_right _ (List.mem_of_getElem? (i := 4) (by rfl))) rfl)⟩
set_option maxRecDepth 100000 in
theorem ar_X6_add : cw_ar mX6_add 3 := ⟨by decide +kernel, by decide +kernel, by decide +kernel⟩
abbrev mX11_sheet : cw_M := (yX11_sheet, cX11_sheet, 3, (some .boolean), { frames := 2, cells := 0, slots := 0, locals := 44 })
set_option maxRecDepth 100000 in
theorem cd_X11_sheet : cw_cd mX11_sheet := ⟨(cw_mem (List.mem_append_right _ (List.mem_of_getElem? (i := 589) (by rfl))) rfl), (cw_mem (List.mem_append_right _ (List.mem_of_getElem? (i := 1) (by rfl))) rfl)⟩
set_option maxRecDepth 100000 in
theorem ar_X11_sheet : cw_ar mX11_sheet 2 := ⟨by decide +kernel, by decide +kernel, by decide +kernel⟩
abbrev mX8_renew : cw_M := (yX8_renew, cX8_renew, 4, none, { frames := 1, cells := 0, slots := 0, locals := 21 })
set_option maxRecDepth 100000 in
theorem cd_X8_renew : cw_cd mX8_renew := ⟨(cw_mem (List.mem_append_right _ (List.mem_of_getElem? (i := 593) (by rfl))) rfl), (cw_mem (List.mem_append_right _ (List.mem_of_getElem? (i := 5) (by rfl))) rfl)⟩
set_option maxRecDepth 100000 in
theorem ar_X8_renew : cw_ar mX8_renew 2 := ⟨by decide +kernel, by decide +kernel, by decide +kernel⟩
abbrev mX11_cell : cw_M := (yX11_cell, cX11_cell, 4, (some .boolean), { frames := 1, cells := 0, slots := 0, locals := 23 })
set_option maxRecDepth 100000 in
theorem cd_X11_cell : cw_cd mX11_cell := ⟨(cw_mem (List.mem_append_right _ (List.mem_of_getElem? (i := 598) (by rfl))) rfl), (cw_mem (List.mem_append_right _ (List.mem_of_getElem? (i := 1) (by rfl))) rfl)⟩
set_option maxRecDepth 100000 in
theorem ar_X11_cell : cw_ar mX11_cell 3 := ⟨by decide +kernel, by decide +kernel, by decide +kernel⟩
abbrev mX8_has : cw_M := (yX8_has, cX8_has, 3, (some .boolean), { frames := 0, cells := 0, slots := 0, locals := 0 })
set_option maxRecDepth 100000 in
theorem cd_X8_has : cw_cd mX8_has := ⟨(cw_mem (List.mem_append_right _ (List.mem_of_getElem? (i := 602) (by rfl))) rfl), (cw_mem (List.mem_append_right _ (List.mem_of_getElem? (i := 5) (by rfl))) rfl)⟩
set_option maxRecDepth 100000 in
theorem ar_X8_has : cw_ar mX8_has 2 := ⟨by decide +kernel, by decide +kernel, by decide +kernel⟩
abbrev mX11_isNumber : cw_M := (yX11_isNumber, cX11_isNumber, 1, (some .boolean), { frames := 0, cells := 0, slots := 0, locals := 0 })
set_option maxRecDepth 100000 in
theorem cd_X11_isNumber : cw_cd mX11_isNumber := ⟨(cw_mem (List.mem_append_right _ (List.mem_of_getElem? (i := 605) (by rfl))) rfl), (cw_mem (List.mem_append_right _ (List.mem_of_getElem? (i := 1) (by rfl))) rfl)⟩
set_option maxRecDepth 100000 in
theorem ar_X11_isNumber : cw_ar mX11_isNumber 1 := ⟨by decide +kernel, by decide +kernel, by decide +kernel⟩
abbrev mX8_put : cw_M := (yX8_put, cX8_put, 4, none, { frames := 0, cells := 0, slots := 0, locals := 0 })
set_option maxRecDepth 100000 in
theorem cd_X8_put : cw_cd mX8_put := ⟨(cw_mem (List.mem_append_right _ (List.mem_of_getElem? (i := 609) (by rfl))) rfl), (cw_mem (List.mem_append_right _ (List.mem_of_getElem? (i := 5) (by rfl))) rfl)⟩
set_option maxRecDepth 100000 in
theorem ar_X8_put : cw_ar mX8_put 3 := ⟨by decide +kernel, by decide +kernel, by decide +kernel⟩
abbrev mX11_clock : cw_M := (yX11_clock, cX11_clock, 2, (some .boolean), { frames := 0, cells := 0, slots := 0, locals := 0 })
set_option maxRecDepth 100000 in
theorem cd_X11_clock : cw_cd mX11_clock := ⟨(cw_mem (List.mem_append_right _ (List.mem_of_getElem? (i := 613) (by rfl))) rfl), (cw_mem (List.mem_append_right _ (List.mem_of_getElem? (i := 1) (by rfl))) rfl)⟩
set_option maxRecDepth 100000 in
theorem ar_X11_clock : cw_ar mX11_clock 1 := ⟨by decide +kernel, by decide +kernel, by decide +kernel⟩
abbrev mX11_report : cw_M := (yX11_report, cX11_report, 6, (some .int), { frames := 2, cells := 0, slots := 0, locals := 51 })
set_option maxRecDepth 100000 in
theorem cd_X11_report : cw_cd mX11_report := ⟨(cw_mem (List.mem_append_right _ (List.mem_of_getElem? (i := 617) (by rfl))) rfl), (cw_mem (List.mem_append_right _ (List.mem_of_getElem? (i := 1) (by rfl))) rfl)⟩
set_option maxRecDepth 100000 in
theorem ar_X11_report : cw_ar mX11_report 5 := ⟨by decide +kernel, by decide +kernel, by decide +kernel⟩
abbrev mX11_isPath : cw_M := (yX11_isPath, cX11_isPath, 4, (some .boolean), { frames := 1, cells := 0, slots := 0, locals := 21 })
set_option maxRecDepth 100000 in
theorem cd_X11_isPath : cw_cd mX11_isPath := ⟨(cw_mem (List.mem_append_right _ (List.mem_of_getElem? (i := 621) (by rfl))) rfl), (cw_mem (List.mem_append_right _ (List.mem_of_getElem? (i := 1) (by rfl))) rfl)⟩
set_option maxRecDepth 100000 in
theorem ar_X11_isPath : cw_ar mX11_isPath 3 := ⟨by decide +kernel, by decide +kernel, by decide +kernel⟩
abbrev mX11_isBand : cw_M := (yX11_isBand, cX11_isBand, 1, (some .boolean), { frames := 0, cells := 0, slots := 0, locals := 0 })
set_option maxRecDepth 100000 in
theorem cd_X11_isBand : cw_cd mX11_isBand := ⟨(cw_mem (List.mem_append_right _ (List.mem_of_getElem? (i := 624) (by rfl))) rfl), (cw_mem (List.mem_append_right _ (List.mem_of_getElem? (i := 1) (by rfl))) rfl)⟩
set_option maxRecDepth 100000 in
theorem ar_X11_isBand : cw_ar mX11_isBand 1 := ⟨by decide +kernel, by decide +kernel, by decide +kernel⟩
abbrev mX11_isHour : cw_M := (yX11_isHour, cX11_isHour, 1, (some .boolean), { frames := 0, cells := 0, slots := 0, locals := 0 })
set_option maxRecDepth 100000 in
theorem cd_X11_isHour : cw_cd mX11_isHour := ⟨(cw_mem (List.mem_append_right _ (List.mem_of_getElem? (i := 627) (by rfl))) rfl), (cw_mem (List.mem_append_right _ (List.mem_of_getElem? (i := 1) (by rfl))) rfl)⟩
set_option maxRecDepth 100000 in
theorem ar_X11_isHour : cw_ar mX11_isHour 1 := ⟨by decide +kernel, by decide +kernel, by decide +kernel⟩
abbrev mX1_addReport : cw_M := (yX1_addReport, cX1_addReport, 7, (some .int), { frames := 1, cells := 0, slots := 0, locals := 25 })
set_option maxRecDepth 100000 in
theorem cd_X1_addReport : cw_cd mX1_addReport := ⟨(cw_mem (List.mem_append_right _ (List.mem_of_getElem? (i := 631) (by rfl))) rfl), (cw_mem (List.mem_append_right _ (List.mem_of_getElem? (i := 6) (by rfl))) rfl)⟩
set_option maxRecDepth 100000 in
theorem ar_X1_addReport : cw_ar mX1_addReport 6 := ⟨by decide +kernel, by decide +kernel, by decide +kernel⟩
abbrev mX1_add : cw_M := (yX1_add, cX1_add, 6, (some .int), { frames := 0, cells := 0, slots := 0, locals := 0 })
set_option maxRecDepth 100000 in
theorem cd_X1_add : cw_cd mX1_add := ⟨(cw_mem (List.mem_append_right _ (List.mem_of_getElem? (i := 635) (by rfl))) rfl), (cw_mem (List.mem_append_right _ (List.mem_of_getElem? (i := 6) (by rfl))) rfl)⟩
set_option maxRecDepth 100000 in
theorem ar_X1_add : cw_ar mX1_add 5 := ⟨by decide +kernel, by decide +kernel, by decide +kernel⟩
abbrev mX11_notice : cw_M := (yX11_notice, cX11_notice, 6, (some .int), { frames := 2, cells := 0, slots := 0, locals := 50 })
set_option maxRecDepth 100000 in
theorem cd_X11_notice : cw_cd mX11_notice := ⟨(cw_mem (List.mem_append_right _ (List.mem_of_getElem? (i := 639) (by rfl))) rfl), (cw_mem (List.mem_append_right _ (List.mem_of_getElem? (i := 1) (by rfl))) rfl)⟩
set_option maxRecDepth 100000 in
theorem ar_X11_notice : cw_ar mX11_notice 5 := ⟨by decide +kernel, by decide +kernel, by decide +kernel⟩
abbrev mX11_isDay : cw_M := (yX11_isDay, cX11_isDay, 1, (some .boolean), { frames := 0, cells := 0, slots := 0, locals := 0 })
set_option maxRecDepth 100000 in
theorem cd_X11_isDay : cw_cd mX11_isDay := ⟨(cw_mem (List.mem_append_right _ (List.mem_of_getElem? (i := 642) (by rfl))) rfl), (cw_mem (List.mem_append_right _ (List.mem_of_getElem? (i := 1) (by rfl))) rfl)⟩
set_option maxRecDepth 100000 in
theorem ar_X11_isDay : cw_ar mX11_isDay 1 := ⟨by decide +kernel, by decide +kernel, by decide +kernel⟩
abbrev mX1_addNotice : cw_M := (yX1_addNotice, cX1_addNotice, 6, (some .int), { frames := 1, cells := 0, slots := 0, locals := 25 })
set_option maxRecDepth 100000 in
theorem cd_X1_addNotice : cw_cd mX1_addNotice := ⟨(cw_mem (List.mem_append_right _ (List.mem_of_getElem? (i := 646) (by rfl))) rfl), (cw_mem (List.mem_append_right _ (List.mem_of_getElem? (i := 6) (by rfl))) rfl)⟩
set_option maxRecDepth 100000 in
theorem ar_X1_addNotice : cw_ar mX1_addNotice 5 := ⟨by decide +kernel, by decide +kernel, by decide +kernel⟩
abbrev mX11_way : cw_M := (yX11_way, cX11_way, 4, (some .int), { frames := 4, cells := 0, slots := 0, locals := 103 })
set_option maxRecDepth 100000 in
theorem cd_X11_way : cw_cd mX11_way := ⟨(cw_mem (List.mem_append_right _ (List.mem_of_getElem? (i := 650) (by rfl))) rfl), (cw_mem (List.mem_append_right _ (List.mem_of_getElem? (i := 1) (by rfl))) rfl)⟩
set_option maxRecDepth 100000 in
theorem ar_X11_way : cw_ar mX11_way 3 := ⟨by decide +kernel, by decide +kernel, by decide +kernel⟩
abbrev mX9_lengthTo : cw_M := (yX9_lengthTo, cX9_lengthTo, 4, (some .int), { frames := 2, cells := 0, slots := 0, locals := 53 })
set_option maxRecDepth 100000 in
theorem cd_X9_lengthTo : cw_cd mX9_lengthTo := ⟨(cw_mem (List.mem_append_right _ (List.mem_of_getElem? (i := 654) (by rfl))) rfl), (cw_mem (List.mem_append_right _ (List.mem_of_getElem? (i := 2) (by rfl))) rfl)⟩
set_option maxRecDepth 100000 in
theorem ar_X9_lengthTo : cw_ar mX9_lengthTo 3 := ⟨by decide +kernel, by decide +kernel, by decide +kernel⟩
abbrev mX9_shortest : cw_M := (yX9_shortest, cX9_shortest, 11, (some .int), { frames := 1, cells := 0, slots := 0, locals := 23 })
set_option maxRecDepth 100000 in
theorem cd_X9_shortest : cw_cd mX9_shortest := ⟨(cw_mem (List.mem_append_right _ (List.mem_of_getElem? (i := 658) (by rfl))) rfl), (cw_mem (List.mem_append_right _ (List.mem_of_getElem? (i := 2) (by rfl))) rfl)⟩
set_option maxRecDepth 100000 in
theorem ar_X9_shortest : cw_ar mX9_shortest 3 := ⟨by decide +kernel, by decide +kernel, by decide +kernel⟩
abbrev mX9_eastward : cw_M := (yX9_eastward, cX9_eastward, 4, (some .int), { frames := 0, cells := 0, slots := 0, locals := 0 })
set_option maxRecDepth 100000 in
theorem cd_X9_eastward : cw_cd mX9_eastward := ⟨(cw_mem (List.mem_append_right _ (List.mem_of_getElem? (i := 662) (by rfl))) rfl), (cw_mem (List.mem_append_right _ (List.mem_of_getElem? (i := 2) (by rfl))) rfl)⟩
set_option maxRecDepth 100000 in
theorem ar_X9_eastward : cw_ar mX9_eastward 3 := ⟨by decide +kernel, by decide +kernel, by decide +kernel⟩
abbrev mJ9_abs_0f7a4 : cw_M := (yJ9_abs_0f7a4, cJ9_abs_0f7a4, 1, (some .int), { frames := 0, cells := 0, slots := 0, locals := 0 })
set_option maxRecDepth 100000 in
theorem cd_J9_abs_0f7a4 : cw_cd mJ9_abs_0f7a4 := ⟨(cw_mem (List.mem_append_right _ (List.mem_of_getElem? (i := 666) (by rfl))) rfl), (cw_mem (List.mem_append_right _ (List.mem_of_getElem? (i := 14) (by rfl))) rfl)⟩
set_option maxRecDepth 100000 in
theorem ar_J9_abs_0f7a4 : cw_ar mJ9_abs_0f7a4 1 := ⟨by decide +kernel, by decide +kernel, by decide +kernel⟩
abbrev mX9_farTo : cw_M := (yX9_farTo, cX9_farTo, 4, (some .int), { frames := 2, cells := 0, slots := 0, locals := 53 })
set_option maxRecDepth 100000 in
theorem cd_X9_farTo : cw_cd mX9_farTo := ⟨(cw_mem (List.mem_append_right _ (List.mem_of_getElem? (i := 670) (by rfl))) rfl), (cw_mem (List.mem_append_right _ (List.mem_of_getElem? (i := 2) (by rfl))) rfl)⟩
set_option maxRecDepth 100000 in
theorem ar_X9_farTo : cw_ar mX9_farTo 3 := ⟨by decide +kernel, by decide +kernel, by decide +kernel⟩
abbrev mX9_aimTo : cw_M := (yX9_aimTo, cX9_aimTo, 8, (some .int), { frames := 3, cells := 0, slots := 0, locals := 76 })
set_option maxRecDepth 100000 in
theorem cd_X9_aimTo : cw_cd mX9_aimTo := ⟨(cw_mem (List.mem_append_right _ (List.mem_of_getElem? (i := 674) (by rfl))) rfl), (cw_mem (List.mem_append_right _ (List.mem_of_getElem? (i := 2) (by rfl))) rfl)⟩
set_option maxRecDepth 100000 in
theorem ar_X9_aimTo : cw_ar mX9_aimTo 3 := ⟨by decide +kernel, by decide +kernel, by decide +kernel⟩
abbrev mX9_kindTo : cw_M := (yX9_kindTo, cX9_kindTo, 4, (some .int), { frames := 2, cells := 0, slots := 0, locals := 53 })
set_option maxRecDepth 100000 in
theorem cd_X9_kindTo : cw_cd mX9_kindTo := ⟨(cw_mem (List.mem_append_right _ (List.mem_of_getElem? (i := 678) (by rfl))) rfl), (cw_mem (List.mem_append_right _ (List.mem_of_getElem? (i := 2) (by rfl))) rfl)⟩
set_option maxRecDepth 100000 in
theorem ar_X9_kindTo : cw_ar mX9_kindTo 3 := ⟨by decide +kernel, by decide +kernel, by decide +kernel⟩
abbrev mJ6_compare_7cf53 : cw_M := (yJ6_compare_7cf53, cJ6_compare_7cf53, 2, (some .int), { frames := 0, cells := 0, slots := 0, locals := 0 })
set_option maxRecDepth 100000 in
theorem cd_J6_compare_7cf53 : cw_cd mJ6_compare_7cf53 := ⟨(cw_mem (List.mem_append_right _ (List.mem_of_getElem? (i := 681) (by rfl))) rfl), (cw_mem (List.mem_append_right _ (List.mem_of_getElem? (i := 19) (by rfl))) rfl)⟩
set_option maxRecDepth 100000 in
theorem ar_J6_compare_7cf53 : cw_ar mJ6_compare_7cf53 2 := ⟨by decide +kernel, by decide +kernel, by decide +kernel⟩
abbrev mX11_sun : cw_M := (yX11_sun, cX11_sun, 6, (some .int), { frames := 2, cells := 0, slots := 0, locals := 50 })
set_option maxRecDepth 100000 in
theorem cd_X11_sun : cw_cd mX11_sun := ⟨(cw_mem (List.mem_append_right _ (List.mem_of_getElem? (i := 688) (by rfl))) rfl), (cw_mem (List.mem_append_right _ (List.mem_of_getElem? (i := 1) (by rfl))) rfl)⟩
set_option maxRecDepth 100000 in
theorem ar_X11_sun : cw_ar mX11_sun 4 := ⟨by decide +kernel, by decide +kernel, by decide +kernel⟩
abbrev mX9_sunAt : cw_M := (yX9_sunAt, cX9_sunAt, 8, (some .int), { frames := 1, cells := 0, slots := 0, locals := 23 })
set_option maxRecDepth 100000 in
theorem cd_X9_sunAt : cw_cd mX9_sunAt := ⟨(cw_mem (List.mem_append_right _ (List.mem_of_getElem? (i := 692) (by rfl))) rfl), (cw_mem (List.mem_append_right _ (List.mem_of_getElem? (i := 2) (by rfl))) rfl)⟩
set_option maxRecDepth 100000 in
theorem ar_X9_sunAt : cw_ar mX9_sunAt 3 := ⟨by decide +kernel, by decide +kernel, by decide +kernel⟩
abbrev mX11_seasonOf : cw_M := (yX11_seasonOf, cX11_seasonOf, 1, (some .int), { frames := 0, cells := 0, slots := 0, locals := 0 })
set_option maxRecDepth 100000 in
theorem cd_X11_seasonOf : cw_cd mX11_seasonOf := ⟨(cw_mem (List.mem_append_right _ (List.mem_of_getElem? (i := 695) (by rfl))) rfl), (cw_mem (List.mem_append_right _ (List.mem_of_getElem? (i := 1) (by rfl))) rfl)⟩
set_option maxRecDepth 100000 in
theorem ar_X11_seasonOf : cw_ar mX11_seasonOf 1 := ⟨by decide +kernel, by decide +kernel, by decide +kernel⟩
abbrev mX9_light : cw_M := (yX9_light, cX9_light, 4, (some .int), { frames := 0, cells := 0, slots := 0, locals := 0 })
set_option maxRecDepth 100000 in
theorem cd_X9_light : cw_cd mX9_light := ⟨(cw_mem (List.mem_append_right _ (List.mem_of_getElem? (i := 698) (by rfl))) rfl), (cw_mem (List.mem_append_right _ (List.mem_of_getElem? (i := 2) (by rfl))) rfl)⟩
set_option maxRecDepth 100000 in
theorem ar_X9_light : cw_ar mX9_light 4 := ⟨by decide +kernel, by decide +kernel, by decide +kernel⟩
abbrev mX11_correction : cw_M := (yX11_correction, cX11_correction, 5, (some .int), { frames := 6, cells := 0, slots := 0, locals := 149 })
set_option maxRecDepth 100000 in
theorem cd_X11_correction : cw_cd mX11_correction := ⟨(cw_mem (List.mem_append_right _ (List.mem_of_getElem? (i := 702) (by rfl))) rfl), (cw_mem (List.mem_append_right _ (List.mem_of_getElem? (i := 1) (by rfl))) rfl)⟩
set_option maxRecDepth 100000 in
theorem ar_X11_correction : cw_ar mX11_correction 4 := ⟨by decide +kernel, by decide +kernel, by decide +kernel⟩
abbrev mX1_canKnow : cw_M := (yX1_canKnow, cX1_canKnow, 2, (some .boolean), { frames := 0, cells := 0, slots := 0, locals := 0 })
set_option maxRecDepth 100000 in
theorem cd_X1_canKnow : cw_cd mX1_canKnow := ⟨(cw_mem (List.mem_append_right _ (List.mem_of_getElem? (i := 706) (by rfl))) rfl), (cw_mem (List.mem_append_right _ (List.mem_of_getElem? (i := 6) (by rfl))) rfl)⟩
set_option maxRecDepth 100000 in
theorem ar_X1_canKnow : cw_ar mX1_canKnow 1 := ⟨by decide +kernel, by decide +kernel, by decide +kernel⟩
abbrev mX11_learn : cw_M := (yX11_learn, cX11_learn, 3, none, { frames := 5, cells := 0, slots := 0, locals := 127 })
set_option maxRecDepth 100000 in
theorem cd_X11_learn : cw_cd mX11_learn := ⟨(cw_mem (List.mem_append_right _ (List.mem_of_getElem? (i := 711) (by rfl))) rfl), (cw_mem (List.mem_append_right _ (List.mem_of_getElem? (i := 1) (by rfl))) rfl)⟩
set_option maxRecDepth 100000 in
theorem ar_X11_learn : cw_ar mX11_learn 1 := ⟨by decide +kernel, by decide +kernel, by decide +kernel⟩
abbrev mX0_renew : cw_M := (yX0_renew, cX0_renew, 1, none, { frames := 1, cells := 0, slots := 0, locals := 23 })
set_option maxRecDepth 100000 in
theorem cd_X0_renew : cw_cd mX0_renew := ⟨(cw_mem (List.mem_append_right _ (List.mem_of_getElem? (i := 715) (by rfl))) rfl), (cw_mem (List.mem_append_right _ (List.mem_of_getElem? (i := 7) (by rfl))) rfl)⟩
set_option maxRecDepth 100000 in
theorem ar_X0_renew : cw_ar mX0_renew 0 := ⟨by decide +kernel, by decide +kernel, by decide +kernel⟩
abbrev mJ7_fill_53178 : cw_M := (yJ7_fill_53178, cJ7_fill_53178, 4, none, { frames := 0, cells := 0, slots := 0, locals := 0 })
set_option maxRecDepth 100000 in
theorem cd_J7_fill_53178 : cw_cd mJ7_fill_53178 := ⟨(cw_mem (List.mem_append_right _ (List.mem_of_getElem? (i := 718) (by rfl))) rfl), (cw_mem (List.mem_append_right _ (List.mem_of_getElem? (i := 20) (by rfl))) rfl)⟩
set_option maxRecDepth 100000 in
theorem ar_J7_fill_53178 : cw_ar mJ7_fill_53178 2 := ⟨by decide +kernel, by decide +kernel, by decide +kernel⟩
abbrev mX1_isNotice : cw_M := (yX1_isNotice, cX1_isNotice, 2, (some .boolean), { frames := 0, cells := 0, slots := 0, locals := 0 })
set_option maxRecDepth 100000 in
theorem cd_X1_isNotice : cw_cd mX1_isNotice := ⟨(cw_mem (List.mem_append_right _ (List.mem_of_getElem? (i := 722) (by rfl))) rfl), (cw_mem (List.mem_append_right _ (List.mem_of_getElem? (i := 6) (by rfl))) rfl)⟩
set_option maxRecDepth 100000 in
theorem ar_X1_isNotice : cw_ar mX1_isNotice 1 := ⟨by decide +kernel, by decide +kernel, by decide +kernel⟩
abbrev mX11_learnReport : cw_M := (yX11_learnReport, cX11_learnReport, 7, none, { frames := 4, cells := 0, slots := 0, locals := 101 })
set_option maxRecDepth 100000 in
theorem cd_X11_learnReport : cw_cd mX11_learnReport := ⟨(cw_mem (List.mem_append_right _ (List.mem_of_getElem? (i := 726) (by rfl))) rfl), (cw_mem (List.mem_append_right _ (List.mem_of_getElem? (i := 1) (by rfl))) rfl)⟩
set_option maxRecDepth 100000 in
theorem ar_X11_learnReport : cw_ar mX11_learnReport 1 := ⟨by decide +kernel, by decide +kernel, by decide +kernel⟩
abbrev mX1_siteOf : cw_M := (yX1_siteOf, cX1_siteOf, 2, (some .int), { frames := 0, cells := 0, slots := 0, locals := 0 })
set_option maxRecDepth 100000 in
theorem cd_X1_siteOf : cw_cd mX1_siteOf := ⟨(cw_mem (List.mem_append_right _ (List.mem_of_getElem? (i := 730) (by rfl))) rfl), (cw_mem (List.mem_append_right _ (List.mem_of_getElem? (i := 6) (by rfl))) rfl)⟩
set_option maxRecDepth 100000 in
theorem ar_X1_siteOf : cw_ar mX1_siteOf 1 := ⟨by decide +kernel, by decide +kernel, by decide +kernel⟩
abbrev mX1_landOf : cw_M := (yX1_landOf, cX1_landOf, 2, (some .int), { frames := 0, cells := 0, slots := 0, locals := 0 })
set_option maxRecDepth 100000 in
theorem cd_X1_landOf : cw_cd mX1_landOf := ⟨(cw_mem (List.mem_append_right _ (List.mem_of_getElem? (i := 734) (by rfl))) rfl), (cw_mem (List.mem_append_right _ (List.mem_of_getElem? (i := 6) (by rfl))) rfl)⟩
set_option maxRecDepth 100000 in
theorem ar_X1_landOf : cw_ar mX1_landOf 1 := ⟨by decide +kernel, by decide +kernel, by decide +kernel⟩
abbrev mX1_bandOf : cw_M := (yX1_bandOf, cX1_bandOf, 2, (some .int), { frames := 0, cells := 0, slots := 0, locals := 0 })
set_option maxRecDepth 100000 in
theorem cd_X1_bandOf : cw_cd mX1_bandOf := ⟨(cw_mem (List.mem_append_right _ (List.mem_of_getElem? (i := 738) (by rfl))) rfl), (cw_mem (List.mem_append_right _ (List.mem_of_getElem? (i := 6) (by rfl))) rfl)⟩
set_option maxRecDepth 100000 in
theorem ar_X1_bandOf : cw_ar mX1_bandOf 1 := ⟨by decide +kernel, by decide +kernel, by decide +kernel⟩
abbrev mX1_dayOf : cw_M := (yX1_dayOf, cX1_dayOf, 2, (some .int), { frames := 0, cells := 0, slots := 0, locals := 0 })
set_option maxRecDepth 100000 in
theorem cd_X1_dayOf : cw_cd mX1_dayOf := ⟨(cw_mem (List.mem_append_right _ (List.mem_of_getElem? (i := 742) (by rfl))) rfl), (cw_mem (List.mem_append_right _ (List.mem_of_getElem? (i := 6) (by rfl))) rfl)⟩
set_option maxRecDepth 100000 in
theorem ar_X1_dayOf : cw_ar mX1_dayOf 1 := ⟨by decide +kernel, by decide +kernel, by decide +kernel⟩
abbrev mX1_fromOf : cw_M := (yX1_fromOf, cX1_fromOf, 2, (some .int), { frames := 0, cells := 0, slots := 0, locals := 0 })
set_option maxRecDepth 100000 in
theorem cd_X1_fromOf : cw_cd mX1_fromOf := ⟨(cw_mem (List.mem_append_right _ (List.mem_of_getElem? (i := 747) (by rfl))) rfl), (cw_mem (List.mem_append_right _ (List.mem_of_getElem? (i := 6) (by rfl))) rfl)⟩
set_option maxRecDepth 100000 in
theorem ar_X1_fromOf : cw_ar mX1_fromOf 1 := ⟨by decide +kernel, by decide +kernel, by decide +kernel⟩
abbrev mX11_firstCell : cw_M := (yX11_firstCell, cX11_firstCell, 6, (some .int), { frames := 3, cells := 0, slots := 0, locals := 76 })
set_option maxRecDepth 100000 in
theorem cd_X11_firstCell : cw_cd mX11_firstCell := ⟨(cw_mem (List.mem_append_right _ (List.mem_of_getElem? (i := 751) (by rfl))) rfl), (cw_mem (List.mem_append_right _ (List.mem_of_getElem? (i := 1) (by rfl))) rfl)⟩
set_option maxRecDepth 100000 in
theorem ar_X11_firstCell : cw_ar mX11_firstCell 4 := ⟨by decide +kernel, by decide +kernel, by decide +kernel⟩
abbrev mX8_numberAt : cw_M := (yX8_numberAt, cX8_numberAt, 3, (some .int), { frames := 1, cells := 0, slots := 0, locals := 22 })
set_option maxRecDepth 100000 in
theorem cd_X8_numberAt : cw_cd mX8_numberAt := ⟨(cw_mem (List.mem_append_right _ (List.mem_of_getElem? (i := 755) (by rfl))) rfl), (cw_mem (List.mem_append_right _ (List.mem_of_getElem? (i := 5) (by rfl))) rfl)⟩
set_option maxRecDepth 100000 in
theorem ar_X8_numberAt : cw_ar mX8_numberAt 2 := ⟨by decide +kernel, by decide +kernel, by decide +kernel⟩
abbrev mX1_heardOf : cw_M := (yX1_heardOf, cX1_heardOf, 2, (some .int), { frames := 0, cells := 0, slots := 0, locals := 0 })
set_option maxRecDepth 100000 in
theorem cd_X1_heardOf : cw_cd mX1_heardOf := ⟨(cw_mem (List.mem_append_right _ (List.mem_of_getElem? (i := 761) (by rfl))) rfl), (cw_mem (List.mem_append_right _ (List.mem_of_getElem? (i := 6) (by rfl))) rfl)⟩
set_option maxRecDepth 100000 in
theorem ar_X1_heardOf : cw_ar mX1_heardOf 1 := ⟨by decide +kernel, by decide +kernel, by decide +kernel⟩
abbrev mX0_add : cw_M := (yX0_add, cX0_add, 6, none, { frames := 1, cells := 0, slots := 0, locals := 22 })
set_option maxRecDepth 100000 in
theorem cd_X0_add : cw_cd mX0_add := ⟨(cw_mem (List.mem_append_right _ (List.mem_of_getElem? (i := 765) (by rfl))) rfl), (cw_mem (List.mem_append_right _ (List.mem_of_getElem? (i := 7) (by rfl))) rfl)⟩
set_option maxRecDepth 100000 in
theorem ar_X0_add : cw_ar mX0_add 4 := ⟨by decide +kernel, by decide +kernel, by decide +kernel⟩
abbrev mX0_path : cw_M := (yX0_path, cX0_path, 3, (some .int), { frames := 0, cells := 0, slots := 0, locals := 0 })
set_option maxRecDepth 100000 in
theorem cd_X0_path : cw_cd mX0_path := ⟨(cw_mem (List.mem_append_right _ (List.mem_of_getElem? (i := 768) (by rfl))) rfl), (cw_mem (List.mem_append_right _ (List.mem_of_getElem? (i := 7) (by rfl))) rfl)⟩
set_option maxRecDepth 100000 in
theorem ar_X0_path : cw_ar mX0_path 3 := ⟨by decide +kernel, by decide +kernel, by decide +kernel⟩
abbrev mX0_mean : cw_M := (yX0_mean, cX0_mean, 5, (some .int), { frames := 1, cells := 0, slots := 0, locals := 22 })
set_option maxRecDepth 100000 in
theorem cd_X0_mean : cw_cd mX0_mean := ⟨(cw_mem (List.mem_append_right _ (List.mem_of_getElem? (i := 772) (by rfl))) rfl), (cw_mem (List.mem_append_right _ (List.mem_of_getElem? (i := 7) (by rfl))) rfl)⟩
set_option maxRecDepth 100000 in
theorem ar_X0_mean : cw_ar mX0_mean 3 := ⟨by decide +kernel, by decide +kernel, by decide +kernel⟩
abbrev mJ9_floorDiv_7cf53 : cw_M := (yJ9_floorDiv_7cf53, cJ9_floorDiv_7cf53, 3, (some .int), { frames := 0, cells := 0, slots := 0, locals := 0 })
set_option maxRecDepth 100000 in
theorem cd_J9_floorDiv_7cf53 : cw_cd mJ9_floorDiv_7cf53 := ⟨(cw_mem (List.mem_append_right _ (List.mem_of_getElem? (i := 775) (by rfl))) rfl), (cw_mem (List.mem_append_right _ (List.mem_of_getElem? (i := 14) (by rfl))) rfl)⟩
set_option maxRecDepth 100000 in
theorem ar_J9_floorDiv_7cf53 : cw_ar mJ9_floorDiv_7cf53 2 := ⟨by decide +kernel, by decide +kernel, by decide +kernel⟩
abbrev mX11_strength : cw_M := (yX11_strength, cX11_strength, 7, (some .int), { frames := 6, cells := 0, slots := 0, locals := 149 })
set_option maxRecDepth 100000 in
theorem cd_X11_strength : cw_cd mX11_strength := ⟨(cw_mem (List.mem_append_right _ (List.mem_of_getElem? (i := 779) (by rfl))) rfl), (cw_mem (List.mem_append_right _ (List.mem_of_getElem? (i := 1) (by rfl))) rfl)⟩
set_option maxRecDepth 100000 in
theorem ar_X11_strength : cw_ar mX11_strength 6 := ⟨by decide +kernel, by decide +kernel, by decide +kernel⟩
abbrev mX11_isSending : cw_M := (yX11_isSending, cX11_isSending, 6, (some .boolean), { frames := 1, cells := 0, slots := 0, locals := 21 })
set_option maxRecDepth 100000 in
theorem cd_X11_isSending : cw_cd mX11_isSending := ⟨(cw_mem (List.mem_append_right _ (List.mem_of_getElem? (i := 783) (by rfl))) rfl), (cw_mem (List.mem_append_right _ (List.mem_of_getElem? (i := 1) (by rfl))) rfl)⟩
set_option maxRecDepth 100000 in
theorem ar_X11_isSending : cw_ar mX11_isSending 5 := ⟨by decide +kernel, by decide +kernel, by decide +kernel⟩
abbrev mX2_has : cw_M := (yX2_has, cX2_has, 2, (some .boolean), { frames := 0, cells := 0, slots := 0, locals := 0 })
set_option maxRecDepth 100000 in
theorem cd_X2_has : cw_cd mX2_has := ⟨(cw_mem (List.mem_append_right _ (List.mem_of_getElem? (i := 787) (by rfl))) rfl), (cw_mem (List.mem_append_right _ (List.mem_of_getElem? (i := 3) (by rfl))) rfl)⟩
set_option maxRecDepth 100000 in
theorem ar_X2_has : cw_ar mX2_has 1 := ⟨by decide +kernel, by decide +kernel, by decide +kernel⟩
abbrev mX2_siteOf : cw_M := (yX2_siteOf, cX2_siteOf, 2, (some .int), { frames := 0, cells := 0, slots := 0, locals := 0 })
set_option maxRecDepth 100000 in
theorem cd_X2_siteOf : cw_cd mX2_siteOf := ⟨(cw_mem (List.mem_append_right _ (List.mem_of_getElem? (i := 791) (by rfl))) rfl), (cw_mem (List.mem_append_right _ (List.mem_of_getElem? (i := 3) (by rfl))) rfl)⟩
set_option maxRecDepth 100000 in
theorem ar_X2_siteOf : cw_ar mX2_siteOf 1 := ⟨by decide +kernel, by decide +kernel, by decide +kernel⟩
abbrev mX11_strengthBy : cw_M := (yX11_strengthBy, cX11_strengthBy, 7, (some .int), { frames := 2, cells := 0, slots := 0, locals := 46 })
set_option maxRecDepth 100000 in
theorem cd_X11_strengthBy : cw_cd mX11_strengthBy := ⟨(cw_mem (List.mem_append_right _ (List.mem_of_getElem? (i := 795) (by rfl))) rfl), (cw_mem (List.mem_append_right _ (List.mem_of_getElem? (i := 1) (by rfl))) rfl)⟩
set_option maxRecDepth 100000 in
theorem ar_X11_strengthBy : cw_ar mX11_strengthBy 5 := ⟨by decide +kernel, by decide +kernel, by decide +kernel⟩
abbrev mX2_powerOf : cw_M := (yX2_powerOf, cX2_powerOf, 2, (some .int), { frames := 0, cells := 0, slots := 0, locals := 0 })
set_option maxRecDepth 100000 in
theorem cd_X2_powerOf : cw_cd mX2_powerOf := ⟨(cw_mem (List.mem_append_right _ (List.mem_of_getElem? (i := 799) (by rfl))) rfl), (cw_mem (List.mem_append_right _ (List.mem_of_getElem? (i := 3) (by rfl))) rfl)⟩
set_option maxRecDepth 100000 in
theorem ar_X2_powerOf : cw_ar mX2_powerOf 1 := ⟨by decide +kernel, by decide +kernel, by decide +kernel⟩
abbrev mX11_yields : cw_M := (yX11_yields, cX11_yields, 7, (some .int), { frames := 5, cells := 0, slots := 0, locals := 129 })
set_option maxRecDepth 100000 in
theorem cd_X11_yields : cw_cd mX11_yields := ⟨(cw_mem (List.mem_append_right _ (List.mem_of_getElem? (i := 803) (by rfl))) rfl), (cw_mem (List.mem_append_right _ (List.mem_of_getElem? (i := 1) (by rfl))) rfl)⟩
set_option maxRecDepth 100000 in
theorem ar_X11_yields : cw_ar mX11_yields 6 := ⟨by decide +kernel, by decide +kernel, by decide +kernel⟩
abbrev mX11_firstYield : cw_M := (yX11_firstYield, cX11_firstYield, 9, (some .int), { frames := 4, cells := 0, slots := 0, locals := 101 })
set_option maxRecDepth 100000 in
theorem cd_X11_firstYield : cw_cd mX11_firstYield := ⟨(cw_mem (List.mem_append_right _ (List.mem_of_getElem? (i := 807) (by rfl))) rfl), (cw_mem (List.mem_append_right _ (List.mem_of_getElem? (i := 1) (by rfl))) rfl)⟩
set_option maxRecDepth 100000 in
theorem ar_X11_firstYield : cw_ar mX11_firstYield 6 := ⟨by decide +kernel, by decide +kernel, by decide +kernel⟩
abbrev mX1_noticesOn : cw_M := (yX1_noticesOn, cX1_noticesOn, 2, (some .int), { frames := 0, cells := 0, slots := 0, locals := 0 })
set_option maxRecDepth 100000 in
theorem cd_X1_noticesOn : cw_cd mX1_noticesOn := ⟨(cw_mem (List.mem_append_right _ (List.mem_of_getElem? (i := 811) (by rfl))) rfl), (cw_mem (List.mem_append_right _ (List.mem_of_getElem? (i := 6) (by rfl))) rfl)⟩
set_option maxRecDepth 100000 in
theorem ar_X1_noticesOn : cw_ar mX1_noticesOn 1 := ⟨by decide +kernel, by decide +kernel, by decide +kernel⟩
abbrev mX1_noticeOn : cw_M := (yX1_noticeOn, cX1_noticeOn, 3, (some .int), { frames := 0, cells := 0, slots := 0, locals := 0 })
set_option maxRecDepth 100000 in
theorem cd_X1_noticeOn : cw_cd mX1_noticeOn := ⟨(cw_mem (List.mem_append_right _ (List.mem_of_getElem? (i := 815) (by rfl))) rfl), (cw_mem (List.mem_append_right _ (List.mem_of_getElem? (i := 6) (by rfl))) rfl)⟩
set_option maxRecDepth 100000 in
theorem ar_X1_noticeOn : cw_ar mX1_noticeOn 2 := ⟨by decide +kernel, by decide +kernel, by decide +kernel⟩
abbrev mX11_clashes : cw_M := (yX11_clashes, cX11_clashes, 6, (some .boolean), { frames := 3, cells := 0, slots := 0, locals := 76 })
set_option maxRecDepth 100000 in
theorem cd_X11_clashes : cw_cd mX11_clashes := ⟨(cw_mem (List.mem_append_right _ (List.mem_of_getElem? (i := 819) (by rfl))) rfl), (cw_mem (List.mem_append_right _ (List.mem_of_getElem? (i := 1) (by rfl))) rfl)⟩
set_option maxRecDepth 100000 in
theorem ar_X11_clashes : cw_ar mX11_clashes 5 := ⟨by decide +kernel, by decide +kernel, by decide +kernel⟩
abbrev mX1_holdsAt : cw_M := (yX1_holdsAt, cX1_holdsAt, 5, (some .boolean), { frames := 0, cells := 0, slots := 0, locals := 0 })
set_option maxRecDepth 100000 in
theorem cd_X1_holdsAt : cw_cd mX1_holdsAt := ⟨(cw_mem (List.mem_append_right _ (List.mem_of_getElem? (i := 823) (by rfl))) rfl), (cw_mem (List.mem_append_right _ (List.mem_of_getElem? (i := 6) (by rfl))) rfl)⟩
set_option maxRecDepth 100000 in
theorem ar_X1_holdsAt : cw_ar mX1_holdsAt 4 := ⟨by decide +kernel, by decide +kernel, by decide +kernel⟩
abbrev mX11_decidingRule : cw_M := (yX11_decidingRule, cX11_decidingRule, 7, (some .int), { frames := 3, cells := 0, slots := 0, locals := 72 })
set_option maxRecDepth 100000 in
theorem cd_X11_decidingRule : cw_cd mX11_decidingRule := ⟨(cw_mem (List.mem_append_right _ (List.mem_of_getElem? (i := 827) (by rfl))) rfl), (cw_mem (List.mem_append_right _ (List.mem_of_getElem? (i := 1) (by rfl))) rfl)⟩
set_option maxRecDepth 100000 in
theorem ar_X11_decidingRule : cw_ar mX11_decidingRule 6 := ⟨by decide +kernel, by decide +kernel, by decide +kernel⟩
abbrev mX10_firstHolding : cw_M := (yX10_firstHolding, cX10_firstHolding, 4, (some .int), { frames := 2, cells := 0, slots := 0, locals := 49 })
set_option maxRecDepth 100000 in
theorem cd_X10_firstHolding : cw_cd mX10_firstHolding := ⟨(cw_mem (List.mem_append_right _ (List.mem_of_getElem? (i := 831) (by rfl))) rfl), (cw_mem (List.mem_append_right _ (List.mem_of_getElem? (i := 10) (by rfl))) rfl)⟩
set_option maxRecDepth 100000 in
theorem ar_X10_firstHolding : cw_ar mX10_firstHolding 2 := ⟨by decide +kernel, by decide +kernel, by decide +kernel⟩
abbrev mX10_relsHold : cw_M := (yX10_relsHold, cX10_relsHold, 8, (some .boolean), { frames := 1, cells := 0, slots := 0, locals := 22 })
set_option maxRecDepth 100000 in
theorem cd_X10_relsHold : cw_cd mX10_relsHold := ⟨(cw_mem (List.mem_append_right _ (List.mem_of_getElem? (i := 835) (by rfl))) rfl), (cw_mem (List.mem_append_right _ (List.mem_of_getElem? (i := 10) (by rfl))) rfl)⟩
set_option maxRecDepth 100000 in
theorem ar_X10_relsHold : cw_ar mX10_relsHold 2 := ⟨by decide +kernel, by decide +kernel, by decide +kernel⟩
abbrev mX10_varOf : cw_M := (yX10_varOf, cX10_varOf, 3, (some .int), { frames := 0, cells := 0, slots := 0, locals := 0 })
set_option maxRecDepth 100000 in
theorem cd_X10_varOf : cw_cd mX10_varOf := ⟨(cw_mem (List.mem_append_right _ (List.mem_of_getElem? (i := 838) (by rfl))) rfl), (cw_mem (List.mem_append_right _ (List.mem_of_getElem? (i := 10) (by rfl))) rfl)⟩
set_option maxRecDepth 100000 in
theorem ar_X10_varOf : cw_ar mX10_varOf 2 := ⟨by decide +kernel, by decide +kernel, by decide +kernel⟩
abbrev mX10_reckon : cw_M := (yX10_reckon, cX10_reckon, 3, (some .int), { frames := 0, cells := 0, slots := 0, locals := 0 })
set_option maxRecDepth 100000 in
theorem cd_X10_reckon : cw_cd mX10_reckon := ⟨(cw_mem (List.mem_append_right _ (List.mem_of_getElem? (i := 841) (by rfl))) rfl), (cw_mem (List.mem_append_right _ (List.mem_of_getElem? (i := 10) (by rfl))) rfl)⟩
set_option maxRecDepth 100000 in
theorem ar_X10_reckon : cw_ar mX10_reckon 3 := ⟨by decide +kernel, by decide +kernel, by decide +kernel⟩
abbrev mX10_compares : cw_M := (yX10_compares, cX10_compares, 3, (some .boolean), { frames := 0, cells := 0, slots := 0, locals := 0 })
set_option maxRecDepth 100000 in
theorem cd_X10_compares : cw_cd mX10_compares := ⟨(cw_mem (List.mem_append_right _ (List.mem_of_getElem? (i := 844) (by rfl))) rfl), (cw_mem (List.mem_append_right _ (List.mem_of_getElem? (i := 10) (by rfl))) rfl)⟩
set_option maxRecDepth 100000 in
theorem ar_X10_compares : cw_ar mX10_compares 3 := ⟨by decide +kernel, by decide +kernel, by decide +kernel⟩
abbrev mX10_weYieldBy : cw_M := (yX10_weYieldBy, cX10_weYieldBy, 2, (some .boolean), { frames := 0, cells := 0, slots := 0, locals := 0 })
set_option maxRecDepth 100000 in
theorem cd_X10_weYieldBy : cw_cd mX10_weYieldBy := ⟨(cw_mem (List.mem_append_right _ (List.mem_of_getElem? (i := 848) (by rfl))) rfl), (cw_mem (List.mem_append_right _ (List.mem_of_getElem? (i := 10) (by rfl))) rfl)⟩
set_option maxRecDepth 100000 in
theorem ar_X10_weYieldBy : cw_ar mX10_weYieldBy 1 := ⟨by decide +kernel, by decide +kernel, by decide +kernel⟩
abbrev mX11_rule : cw_M := (yX11_rule, cX11_rule, 7, (some .int), { frames := 4, cells := 0, slots := 0, locals := 101 })
set_option maxRecDepth 100000 in
theorem cd_X11_rule : cw_cd mX11_rule := ⟨(cw_mem (List.mem_append_right _ (List.mem_of_getElem? (i := 852) (by rfl))) rfl), (cw_mem (List.mem_append_right _ (List.mem_of_getElem? (i := 1) (by rfl))) rfl)⟩
set_option maxRecDepth 100000 in
theorem ar_X11_rule : cw_ar mX11_rule 6 := ⟨by decide +kernel, by decide +kernel, by decide +kernel⟩
abbrev mX11_schedule : cw_M := (yX11_schedule, cX11_schedule, 5, (some .int), { frames := 7, cells := 0, slots := 0, locals := 185 })
set_option maxRecDepth 100000 in
theorem cd_X11_schedule : cw_cd mX11_schedule := ⟨(cw_mem (List.mem_append_right _ (List.mem_of_getElem? (i := 856) (by rfl))) rfl), (cw_mem (List.mem_append_right _ (List.mem_of_getElem? (i := 1) (by rfl))) rfl)⟩
set_option maxRecDepth 100000 in
theorem ar_X11_schedule : cw_ar mX11_schedule 2 := ⟨by decide +kernel, by decide +kernel, by decide +kernel⟩
abbrev mX5_renew : cw_M := (yX5_renew, cX5_renew, 2, none, { frames := 1, cells := 0, slots := 0, locals := 23 })
set_option maxRecDepth 100000 in
theorem cd_X5_renew : cw_cd mX5_renew := ⟨(cw_mem (List.mem_append_right _ (List.mem_of_getElem? (i := 860) (by rfl))) rfl), (cw_mem (List.mem_append_right _ (List.mem_of_getElem? (i := 12) (by rfl))) rfl)⟩
set_option maxRecDepth 100000 in
theorem ar_X5_renew : cw_ar mX5_renew 1 := ⟨by decide +kernel, by decide +kernel, by decide +kernel⟩
abbrev mX11_offerAll : cw_M := (yX11_offerAll, cX11_offerAll, 6, none, { frames := 6, cells := 0, slots := 0, locals := 160 })
set_option maxRecDepth 100000 in
theorem cd_X11_offerAll : cw_cd mX11_offerAll := ⟨(cw_mem (List.mem_append_right _ (List.mem_of_getElem? (i := 865) (by rfl))) rfl), (cw_mem (List.mem_append_right _ (List.mem_of_getElem? (i := 1) (by rfl))) rfl)⟩
set_option maxRecDepth 100000 in
theorem ar_X11_offerAll : cw_ar mX11_offerAll 3 := ⟨by decide +kernel, by decide +kernel, by decide +kernel⟩
abbrev mX3_renew : cw_M := (yX3_renew, cX3_renew, 1, none, { frames := 1, cells := 0, slots := 0, locals := 23 })
set_option maxRecDepth 100000 in
theorem cd_X3_renew : cw_cd mX3_renew := ⟨(cw_mem (List.mem_append_right _ (List.mem_of_getElem? (i := 869) (by rfl))) rfl), (cw_mem (List.mem_append_right _ (List.mem_of_getElem? (i := 11) (by rfl))) rfl)⟩
set_option maxRecDepth 100000 in
theorem ar_X3_renew : cw_ar mX3_renew 0 := ⟨by decide +kernel, by decide +kernel, by decide +kernel⟩
abbrev mX6_isOn : cw_M := (yX6_isOn, cX6_isOn, 3, (some .boolean), { frames := 0, cells := 0, slots := 0, locals := 0 })
set_option maxRecDepth 100000 in
theorem cd_X6_isOn : cw_cd mX6_isOn := ⟨(cw_mem (List.mem_append_right _ (List.mem_of_getElem? (i := 874) (by rfl))) rfl), (cw_mem (List.mem_append_right _ (List.mem_of_getElem? (i := 4) (by rfl))) rfl)⟩
set_option maxRecDepth 100000 in
theorem ar_X6_isOn : cw_ar mX6_isOn 2 := ⟨by decide +kernel, by decide +kernel, by decide +kernel⟩
abbrev mX6_landOf : cw_M := (yX6_landOf, cX6_landOf, 2, (some .int), { frames := 0, cells := 0, slots := 0, locals := 0 })
set_option maxRecDepth 100000 in
theorem cd_X6_landOf : cw_cd mX6_landOf := ⟨(cw_mem (List.mem_append_right _ (List.mem_of_getElem? (i := 878) (by rfl))) rfl), (cw_mem (List.mem_append_right _ (List.mem_of_getElem? (i := 4) (by rfl))) rfl)⟩
set_option maxRecDepth 100000 in
theorem ar_X6_landOf : cw_ar mX6_landOf 1 := ⟨by decide +kernel, by decide +kernel, by decide +kernel⟩
abbrev mX11_isTurned : cw_M := (yX11_isTurned, cX11_isTurned, 5, (some .boolean), { frames := 4, cells := 0, slots := 0, locals := 103 })
set_option maxRecDepth 100000 in
theorem cd_X11_isTurned : cw_cd mX11_isTurned := ⟨(cw_mem (List.mem_append_right _ (List.mem_of_getElem? (i := 882) (by rfl))) rfl), (cw_mem (List.mem_append_right _ (List.mem_of_getElem? (i := 1) (by rfl))) rfl)⟩
set_option maxRecDepth 100000 in
theorem ar_X11_isTurned : cw_ar mX11_isTurned 3 := ⟨by decide +kernel, by decide +kernel, by decide +kernel⟩
abbrev mX5_aimOfMast : cw_M := (yX5_aimOfMast, cX5_aimOfMast, 3, (some .int), { frames := 0, cells := 0, slots := 0, locals := 0 })
set_option maxRecDepth 100000 in
theorem cd_X5_aimOfMast : cw_cd mX5_aimOfMast := ⟨(cw_mem (List.mem_append_right _ (List.mem_of_getElem? (i := 886) (by rfl))) rfl), (cw_mem (List.mem_append_right _ (List.mem_of_getElem? (i := 12) (by rfl))) rfl)⟩
set_option maxRecDepth 100000 in
theorem ar_X5_aimOfMast : cw_ar mX5_aimOfMast 2 := ⟨by decide +kernel, by decide +kernel, by decide +kernel⟩
abbrev mX11_offer : cw_M := (yX11_offer, cX11_offer, 12, none, { frames := 5, cells := 0, slots := 0, locals := 129 })
set_option maxRecDepth 100000 in
theorem cd_X11_offer : cw_cd mX11_offer := ⟨(cw_mem (List.mem_append_right _ (List.mem_of_getElem? (i := 890) (by rfl))) rfl), (cw_mem (List.mem_append_right _ (List.mem_of_getElem? (i := 1) (by rfl))) rfl)⟩
set_option maxRecDepth 100000 in
theorem ar_X11_offer : cw_ar mX11_offer 5 := ⟨by decide +kernel, by decide +kernel, by decide +kernel⟩
abbrev mX9_listenersOf : cw_M := (yX9_listenersOf, cX9_listenersOf, 2, (some .int), { frames := 0, cells := 0, slots := 0, locals := 0 })
set_option maxRecDepth 100000 in
theorem cd_X9_listenersOf : cw_cd mX9_listenersOf := ⟨(cw_mem (List.mem_append_right _ (List.mem_of_getElem? (i := 894) (by rfl))) rfl), (cw_mem (List.mem_append_right _ (List.mem_of_getElem? (i := 2) (by rfl))) rfl)⟩
set_option maxRecDepth 100000 in
theorem ar_X9_listenersOf : cw_ar mX9_listenersOf 1 := ⟨by decide +kernel, by decide +kernel, by decide +kernel⟩
abbrev mX3_offer : cw_M := (yX3_offer, cX3_offer, 8, none, { frames := 0, cells := 0, slots := 0, locals := 0 })
set_option maxRecDepth 100000 in
theorem cd_X3_offer : cw_cd mX3_offer := ⟨(cw_mem (List.mem_append_right _ (List.mem_of_getElem? (i := 898) (by rfl))) rfl), (cw_mem (List.mem_append_right _ (List.mem_of_getElem? (i := 11) (by rfl))) rfl)⟩
set_option maxRecDepth 100000 in
theorem ar_X3_offer : cw_ar mX3_offer 5 := ⟨by decide +kernel, by decide +kernel, by decide +kernel⟩
abbrev mX3_solve : cw_M := (yX3_solve, cX3_solve, 5, none, { frames := 2, cells := 0, slots := 0, locals := 50 })
set_option maxRecDepth 100000 in
theorem cd_X3_solve : cw_cd mX3_solve := ⟨(cw_mem (List.mem_append_right _ (List.mem_of_getElem? (i := 902) (by rfl))) rfl), (cw_mem (List.mem_append_right _ (List.mem_of_getElem? (i := 11) (by rfl))) rfl)⟩
set_option maxRecDepth 100000 in
theorem ar_X3_solve : cw_ar mX3_solve 1 := ⟨by decide +kernel, by decide +kernel, by decide +kernel⟩
abbrev mX3_bestFrom : cw_M := (yX3_bestFrom, cX3_bestFrom, 6, (some .int), { frames := 1, cells := 0, slots := 0, locals := 24 })
set_option maxRecDepth 100000 in
theorem cd_X3_bestFrom : cw_cd mX3_bestFrom := ⟨(cw_mem (List.mem_append_right _ (List.mem_of_getElem? (i := 906) (by rfl))) rfl), (cw_mem (List.mem_append_right _ (List.mem_of_getElem? (i := 11) (by rfl))) rfl)⟩
set_option maxRecDepth 100000 in
theorem ar_X3_bestFrom : cw_ar mX3_bestFrom 3 := ⟨by decide +kernel, by decide +kernel, by decide +kernel⟩
abbrev mX3_gainBy : cw_M := (yX3_gainBy, cX3_gainBy, 5, (some .int), { frames := 0, cells := 0, slots := 0, locals := 0 })
set_option maxRecDepth 100000 in
theorem cd_X3_gainBy : cw_cd mX3_gainBy := ⟨(cw_mem (List.mem_append_right _ (List.mem_of_getElem? (i := 910) (by rfl))) rfl), (cw_mem (List.mem_append_right _ (List.mem_of_getElem? (i := 11) (by rfl))) rfl)⟩
set_option maxRecDepth 100000 in
theorem ar_X3_gainBy : cw_ar mX3_gainBy 3 := ⟨by decide +kernel, by decide +kernel, by decide +kernel⟩
abbrev mX3_choose : cw_M := (yX3_choose, cX3_choose, 7, none, { frames := 1, cells := 0, slots := 0, locals := 24 })
set_option maxRecDepth 100000 in
theorem cd_X3_choose : cw_cd mX3_choose := ⟨(cw_mem (List.mem_append_right _ (List.mem_of_getElem? (i := 915) (by rfl))) rfl), (cw_mem (List.mem_append_right _ (List.mem_of_getElem? (i := 11) (by rfl))) rfl)⟩
set_option maxRecDepth 100000 in
theorem ar_X3_choose : cw_ar mX3_choose 1 := ⟨by decide +kernel, by decide +kernel, by decide +kernel⟩
abbrev mX11_settle : cw_M := (yX11_settle, cX11_settle, 6, none, { frames := 4, cells := 0, slots := 0, locals := 103 })
set_option maxRecDepth 100000 in
theorem cd_X11_settle : cw_cd mX11_settle := ⟨(cw_mem (List.mem_append_right _ (List.mem_of_getElem? (i := 919) (by rfl))) rfl), (cw_mem (List.mem_append_right _ (List.mem_of_getElem? (i := 1) (by rfl))) rfl)⟩
set_option maxRecDepth 100000 in
theorem ar_X11_settle : cw_ar mX11_settle 1 := ⟨by decide +kernel, by decide +kernel, by decide +kernel⟩
abbrev mX3_mastFor : cw_M := (yX3_mastFor, cX3_mastFor, 2, (some .int), { frames := 0, cells := 0, slots := 0, locals := 0 })
set_option maxRecDepth 100000 in
theorem cd_X3_mastFor : cw_cd mX3_mastFor := ⟨(cw_mem (List.mem_append_right _ (List.mem_of_getElem? (i := 923) (by rfl))) rfl), (cw_mem (List.mem_append_right _ (List.mem_of_getElem? (i := 11) (by rfl))) rfl)⟩
set_option maxRecDepth 100000 in
theorem ar_X3_mastFor : cw_ar mX3_mastFor 1 := ⟨by decide +kernel, by decide +kernel, by decide +kernel⟩
abbrev mX3_bandOf : cw_M := (yX3_bandOf, cX3_bandOf, 3, (some .int), { frames := 0, cells := 0, slots := 0, locals := 0 })
set_option maxRecDepth 100000 in
theorem cd_X3_bandOf : cw_cd mX3_bandOf := ⟨(cw_mem (List.mem_append_right _ (List.mem_of_getElem? (i := 927) (by rfl))) rfl), (cw_mem (List.mem_append_right _ (List.mem_of_getElem? (i := 11) (by rfl))) rfl)⟩
set_option maxRecDepth 100000 in
theorem ar_X3_bandOf : cw_ar mX3_bandOf 2 := ⟨by decide +kernel, by decide +kernel, by decide +kernel⟩
abbrev mX3_strengthOf : cw_M := (yX3_strengthOf, cX3_strengthOf, 3, (some .int), { frames := 0, cells := 0, slots := 0, locals := 0 })
set_option maxRecDepth 100000 in
theorem cd_X3_strengthOf : cw_cd mX3_strengthOf := ⟨(cw_mem (List.mem_append_right _ (List.mem_of_getElem? (i := 931) (by rfl))) rfl), (cw_mem (List.mem_append_right _ (List.mem_of_getElem? (i := 11) (by rfl))) rfl)⟩
set_option maxRecDepth 100000 in
theorem ar_X3_strengthOf : cw_ar mX3_strengthOf 2 := ⟨by decide +kernel, by decide +kernel, by decide +kernel⟩
abbrev mX5_put : cw_M := (yX5_put, cX5_put, 8, none, { frames := 0, cells := 0, slots := 0, locals := 0 })
set_option maxRecDepth 100000 in
theorem cd_X5_put : cw_cd mX5_put := ⟨(cw_mem (List.mem_append_right _ (List.mem_of_getElem? (i := 935) (by rfl))) rfl), (cw_mem (List.mem_append_right _ (List.mem_of_getElem? (i := 12) (by rfl))) rfl)⟩
set_option maxRecDepth 100000 in
theorem ar_X5_put : cw_ar mX5_put 6 := ⟨by decide +kernel, by decide +kernel, by decide +kernel⟩
abbrev mX5_addListeners : cw_M := (yX5_addListeners, cX5_addListeners, 3, none, { frames := 0, cells := 0, slots := 0, locals := 0 })
set_option maxRecDepth 100000 in
theorem cd_X5_addListeners : cw_cd mX5_addListeners := ⟨(cw_mem (List.mem_append_right _ (List.mem_of_getElem? (i := 939) (by rfl))) rfl), (cw_mem (List.mem_append_right _ (List.mem_of_getElem? (i := 12) (by rfl))) rfl)⟩
set_option maxRecDepth 100000 in
theorem ar_X5_addListeners : cw_ar mX5_addListeners 2 := ⟨by decide +kernel, by decide +kernel, by decide +kernel⟩
abbrev mX5_listenersIn : cw_M := (yX5_listenersIn, cX5_listenersIn, 2, (some .int), { frames := 0, cells := 0, slots := 0, locals := 0 })
set_option maxRecDepth 100000 in
theorem cd_X5_listenersIn : cw_cd mX5_listenersIn := ⟨(cw_mem (List.mem_append_right _ (List.mem_of_getElem? (i := 943) (by rfl))) rfl), (cw_mem (List.mem_append_right _ (List.mem_of_getElem? (i := 12) (by rfl))) rfl)⟩
set_option maxRecDepth 100000 in
theorem ar_X5_listenersIn : cw_ar mX5_listenersIn 1 := ⟨by decide +kernel, by decide +kernel, by decide +kernel⟩
abbrev mX11_slot : cw_M := (yX11_slot, cX11_slot, 4, (some .int), { frames := 1, cells := 0, slots := 0, locals := 22 })
set_option maxRecDepth 100000 in
theorem cd_X11_slot : cw_cd mX11_slot := ⟨(cw_mem (List.mem_append_right _ (List.mem_of_getElem? (i := 947) (by rfl))) rfl), (cw_mem (List.mem_append_right _ (List.mem_of_getElem? (i := 1) (by rfl))) rfl)⟩
set_option maxRecDepth 100000 in
theorem ar_X11_slot : cw_ar mX11_slot 3 := ⟨by decide +kernel, by decide +kernel, by decide +kernel⟩
abbrev mX5_hasProgramme : cw_M := (yX5_hasProgramme, cX5_hasProgramme, 2, (some .boolean), { frames := 0, cells := 0, slots := 0, locals := 0 })
set_option maxRecDepth 100000 in
theorem cd_X5_hasProgramme : cw_cd mX5_hasProgramme := ⟨(cw_mem (List.mem_append_right _ (List.mem_of_getElem? (i := 951) (by rfl))) rfl), (cw_mem (List.mem_append_right _ (List.mem_of_getElem? (i := 12) (by rfl))) rfl)⟩
set_option maxRecDepth 100000 in
theorem ar_X5_hasProgramme : cw_ar mX5_hasProgramme 1 := ⟨by decide +kernel, by decide +kernel, by decide +kernel⟩
abbrev mX5_mastIn : cw_M := (yX5_mastIn, cX5_mastIn, 3, (some .int), { frames := 0, cells := 0, slots := 0, locals := 0 })
set_option maxRecDepth 100000 in
theorem cd_X5_mastIn : cw_cd mX5_mastIn := ⟨(cw_mem (List.mem_append_right _ (List.mem_of_getElem? (i := 955) (by rfl))) rfl), (cw_mem (List.mem_append_right _ (List.mem_of_getElem? (i := 12) (by rfl))) rfl)⟩
set_option maxRecDepth 100000 in
theorem ar_X5_mastIn : cw_ar mX5_mastIn 2 := ⟨by decide +kernel, by decide +kernel, by decide +kernel⟩
abbrev mX5_bandIn : cw_M := (yX5_bandIn, cX5_bandIn, 3, (some .int), { frames := 0, cells := 0, slots := 0, locals := 0 })
set_option maxRecDepth 100000 in
theorem cd_X5_bandIn : cw_cd mX5_bandIn := ⟨(cw_mem (List.mem_append_right _ (List.mem_of_getElem? (i := 959) (by rfl))) rfl), (cw_mem (List.mem_append_right _ (List.mem_of_getElem? (i := 12) (by rfl))) rfl)⟩
set_option maxRecDepth 100000 in
theorem ar_X5_bandIn : cw_ar mX5_bandIn 2 := ⟨by decide +kernel, by decide +kernel, by decide +kernel⟩
abbrev mX5_aimIn : cw_M := (yX5_aimIn, cX5_aimIn, 3, (some .int), { frames := 0, cells := 0, slots := 0, locals := 0 })
set_option maxRecDepth 100000 in
theorem cd_X5_aimIn : cw_cd mX5_aimIn := ⟨(cw_mem (List.mem_append_right _ (List.mem_of_getElem? (i := 963) (by rfl))) rfl), (cw_mem (List.mem_append_right _ (List.mem_of_getElem? (i := 12) (by rfl))) rfl)⟩
set_option maxRecDepth 100000 in
theorem ar_X5_aimIn : cw_ar mX5_aimIn 2 := ⟨by decide +kernel, by decide +kernel, by decide +kernel⟩
abbrev mX5_strengthIn : cw_M := (yX5_strengthIn, cX5_strengthIn, 3, (some .int), { frames := 0, cells := 0, slots := 0, locals := 0 })
set_option maxRecDepth 100000 in
theorem cd_X5_strengthIn : cw_cd mX5_strengthIn := ⟨(cw_mem (List.mem_append_right _ (List.mem_of_getElem? (i := 967) (by rfl))) rfl), (cw_mem (List.mem_append_right _ (List.mem_of_getElem? (i := 12) (by rfl))) rfl)⟩
set_option maxRecDepth 100000 in
theorem ar_X5_strengthIn : cw_ar mX5_strengthIn 2 := ⟨by decide +kernel, by decide +kernel, by decide +kernel⟩
abbrev mX11_listeners : cw_M := (yX11_listeners, cX11_listeners, 2, (some .int), { frames := 1, cells := 0, slots := 0, locals := 21 })
set_option maxRecDepth 100000 in
theorem cd_X11_listeners : cw_cd mX11_listeners := ⟨(cw_mem (List.mem_append_right _ (List.mem_of_getElem? (i := 971) (by rfl))) rfl), (cw_mem (List.mem_append_right _ (List.mem_of_getElem? (i := 1) (by rfl))) rfl)⟩
set_option maxRecDepth 100000 in
theorem ar_X11_listeners : cw_ar mX11_listeners 1 := ⟨by decide +kernel, by decide +kernel, by decide +kernel⟩
abbrev mX11_count : cw_M := (yX11_count, cX11_count, 2, (some .int), { frames := 0, cells := 0, slots := 0, locals := 0 })
set_option maxRecDepth 100000 in
theorem cd_X11_count : cw_cd mX11_count := ⟨(cw_mem (List.mem_append_right _ (List.mem_of_getElem? (i := 975) (by rfl))) rfl), (cw_mem (List.mem_append_right _ (List.mem_of_getElem? (i := 1) (by rfl))) rfl)⟩
set_option maxRecDepth 100000 in
theorem ar_X11_count : cw_ar mX11_count 1 := ⟨by decide +kernel, by decide +kernel, by decide +kernel⟩
abbrev mX12_init : cw_M := (yX12_init, cX12_init, 2, none, { frames := 2, cells := 51, slots := 16085, locals := 47 })
set_option maxRecDepth 100000 in
theorem cd_X12_init : cw_cd mX12_init := ⟨(cw_mem (List.mem_append_right _ (List.mem_of_getElem? (i := 980) (by rfl))) rfl), (cw_mem (List.mem_append_right _ (List.mem_of_getElem? (i := 13) (by rfl))) rfl)⟩
set_option maxRecDepth 100000 in
theorem ar_X12_init : cw_ar mX12_init 0 := ⟨by decide +kernel, by decide +kernel, by decide +kernel⟩
abbrev mX12_word : cw_M := (yX12_word, cX12_word, 6, (some .long), { frames := 1, cells := 0, slots := 0, locals := 22 })
set_option maxRecDepth 100000 in
theorem cd_X12_word : cw_cd mX12_word := ⟨(cw_mem (List.mem_append_right _ (List.mem_of_getElem? (i := 984) (by rfl))) rfl), (cw_mem (List.mem_append_right _ (List.mem_of_getElem? (i := 13) (by rfl))) rfl)⟩
set_option maxRecDepth 100000 in
theorem ar_X12_word : cw_ar mX12_word 6 := ⟨by decide +kernel, by decide +kernel, by decide +kernel⟩
abbrev mX12_more : cw_M := (yX12_more, cX12_more, 3, (some .long), { frames := 0, cells := 0, slots := 0, locals := 0 })
set_option maxRecDepth 100000 in
theorem cd_X12_more : cw_cd mX12_more := ⟨(cw_mem (List.mem_append_right _ (List.mem_of_getElem? (i := 987) (by rfl))) rfl), (cw_mem (List.mem_append_right _ (List.mem_of_getElem? (i := 13) (by rfl))) rfl)⟩
set_option maxRecDepth 100000 in
theorem ar_X12_more : cw_ar mX12_more 2 := ⟨by decide +kernel, by decide +kernel, by decide +kernel⟩
abbrev mX12_feed : cw_M := (yX12_feed, cX12_feed, 6, (some .int), { frames := 1, cells := 0, slots := 0, locals := 22 })
set_option maxRecDepth 100000 in
theorem cd_X12_feed : cw_cd mX12_feed := ⟨(cw_mem (List.mem_append_right _ (List.mem_of_getElem? (i := 1224) (by rfl))) rfl), (cw_mem (List.mem_append_right _ (List.mem_of_getElem? (i := 13) (by rfl))) rfl)⟩
set_option maxRecDepth 100000 in
theorem ar_X12_feed : cw_ar mX12_feed 5 := ⟨by decide +kernel, by decide +kernel, by decide +kernel⟩
abbrev mX12_put : cw_M := (yX12_put, cX12_put, 3, none, { frames := 0, cells := 0, slots := 0, locals := 0 })
set_option maxRecDepth 100000 in
theorem cd_X12_put : cw_cd mX12_put := ⟨(cw_mem (List.mem_append_right _ (List.mem_of_getElem? (i := 1228) (by rfl))) rfl), (cw_mem (List.mem_append_right _ (List.mem_of_getElem? (i := 13) (by rfl))) rfl)⟩
set_option maxRecDepth 100000 in
theorem ar_X12_put : cw_ar mX12_put 1 := ⟨by decide +kernel, by decide +kernel, by decide +kernel⟩
abbrev mX12_back : cw_M := (yX12_back, cX12_back, 2, (some .int), { frames := 0, cells := 0, slots := 0, locals := 0 })
set_option maxRecDepth 100000 in
theorem cd_X12_back : cw_cd mX12_back := ⟨(cw_mem (List.mem_append_right _ (List.mem_of_getElem? (i := 1232) (by rfl))) rfl), (cw_mem (List.mem_append_right _ (List.mem_of_getElem? (i := 13) (by rfl))) rfl)⟩
set_option maxRecDepth 100000 in
theorem ar_X12_back : cw_ar mX12_back 1 := ⟨by decide +kernel, by decide +kernel, by decide +kernel⟩
abbrev mX12_read : cw_M := (yX12_read, cX12_read, 2, (some .int), { frames := 5, cells := 0, slots := 0, locals := 114 })
set_option maxRecDepth 100000 in
theorem cd_X12_read : cw_cd mX12_read := ⟨(cw_mem (List.mem_append_right _ (List.mem_of_getElem? (i := 1236) (by rfl))) rfl), (cw_mem (List.mem_append_right _ (List.mem_of_getElem? (i := 13) (by rfl))) rfl)⟩
set_option maxRecDepth 100000 in
theorem ar_X12_read : cw_ar mX12_read 0 := ⟨by decide +kernel, by decide +kernel, by decide +kernel⟩
abbrev mX12_cut : cw_M := (yX12_cut, cX12_cut, 8, none, { frames := 2, cells := 0, slots := 0, locals := 50 })
set_option maxRecDepth 100000 in
theorem cd_X12_cut : cw_cd mX12_cut := ⟨(cw_mem (List.mem_append_right _ (List.mem_of_getElem? (i := 1240) (by rfl))) rfl), (cw_mem (List.mem_append_right _ (List.mem_of_getElem? (i := 13) (by rfl))) rfl)⟩
set_option maxRecDepth 100000 in
theorem ar_X12_cut : cw_ar mX12_cut 0 := ⟨by decide +kernel, by decide +kernel, by decide +kernel⟩
abbrev mX12_at : cw_M := (yX12_at, cX12_at, 2, (some .int), { frames := 0, cells := 0, slots := 0, locals := 0 })
set_option maxRecDepth 100000 in
theorem cd_X12_at : cw_cd mX12_at := ⟨(cw_mem (List.mem_append_right _ (List.mem_of_getElem? (i := 1244) (by rfl))) rfl), (cw_mem (List.mem_append_right _ (List.mem_of_getElem? (i := 13) (by rfl))) rfl)⟩
set_option maxRecDepth 100000 in
theorem ar_X12_at : cw_ar mX12_at 1 := ⟨by decide +kernel, by decide +kernel, by decide +kernel⟩
abbrev mX12_token : cw_M := (yX12_token, cX12_token, 6, none, { frames := 0, cells := 0, slots := 0, locals := 0 })
set_option maxRecDepth 100000 in
theorem cd_X12_token : cw_cd mX12_token := ⟨(cw_mem (List.mem_append_right _ (List.mem_of_getElem? (i := 1248) (by rfl))) rfl), (cw_mem (List.mem_append_right _ (List.mem_of_getElem? (i := 13) (by rfl))) rfl)⟩
set_option maxRecDepth 100000 in
theorem ar_X12_token : cw_ar mX12_token 4 := ⟨by decide +kernel, by decide +kernel, by decide +kernel⟩
abbrev mX12_isLetter : cw_M := (yX12_isLetter, cX12_isLetter, 1, (some .boolean), { frames := 0, cells := 0, slots := 0, locals := 0 })
set_option maxRecDepth 100000 in
theorem cd_X12_isLetter : cw_cd mX12_isLetter := ⟨(cw_mem (List.mem_append_right _ (List.mem_of_getElem? (i := 1251) (by rfl))) rfl), (cw_mem (List.mem_append_right _ (List.mem_of_getElem? (i := 13) (by rfl))) rfl)⟩
set_option maxRecDepth 100000 in
theorem ar_X12_isLetter : cw_ar mX12_isLetter 1 := ⟨by decide +kernel, by decide +kernel, by decide +kernel⟩
abbrev mX12_isDigit : cw_M := (yX12_isDigit, cX12_isDigit, 1, (some .boolean), { frames := 0, cells := 0, slots := 0, locals := 0 })
set_option maxRecDepth 100000 in
theorem cd_X12_isDigit : cw_cd mX12_isDigit := ⟨(cw_mem (List.mem_append_right _ (List.mem_of_getElem? (i := 1254) (by rfl))) rfl), (cw_mem (List.mem_append_right _ (List.mem_of_getElem? (i := 13) (by rfl))) rfl)⟩
set_option maxRecDepth 100000 in
theorem ar_X12_isDigit : cw_ar mX12_isDigit 1 := ⟨by decide +kernel, by decide +kernel, by decide +kernel⟩
abbrev mX12_sign : cw_M := (yX12_sign, cX12_sign, 6, (some .int), { frames := 1, cells := 0, slots := 0, locals := 25 })
set_option maxRecDepth 100000 in
theorem cd_X12_sign : cw_cd mX12_sign := ⟨(cw_mem (List.mem_append_right _ (List.mem_of_getElem? (i := 1258) (by rfl))) rfl), (cw_mem (List.mem_append_right _ (List.mem_of_getElem? (i := 13) (by rfl))) rfl)⟩
set_option maxRecDepth 100000 in
theorem ar_X12_sign : cw_ar mX12_sign 3 := ⟨by decide +kernel, by decide +kernel, by decide +kernel⟩
abbrev mX12_is : cw_M := (yX12_is, cX12_is, 2, (some .boolean), { frames := 0, cells := 0, slots := 0, locals := 0 })
set_option maxRecDepth 100000 in
theorem cd_X12_is : cw_cd mX12_is := ⟨(cw_mem (List.mem_append_right _ (List.mem_of_getElem? (i := 1262) (by rfl))) rfl), (cw_mem (List.mem_append_right _ (List.mem_of_getElem? (i := 13) (by rfl))) rfl)⟩
set_option maxRecDepth 100000 in
theorem ar_X12_is : cw_ar mX12_is 1 := ⟨by decide +kernel, by decide +kernel, by decide +kernel⟩
abbrev mX12_tellRule : cw_M := (yX12_tellRule, cX12_tellRule, 3, none, { frames := 4, cells := 0, slots := 0, locals := 92 })
set_option maxRecDepth 100000 in
theorem cd_X12_tellRule : cw_cd mX12_tellRule := ⟨(cw_mem (List.mem_append_right _ (List.mem_of_getElem? (i := 1266) (by rfl))) rfl), (cw_mem (List.mem_append_right _ (List.mem_of_getElem? (i := 13) (by rfl))) rfl)⟩
set_option maxRecDepth 100000 in
theorem ar_X12_tellRule : cw_ar mX12_tellRule 0 := ⟨by decide +kernel, by decide +kernel, by decide +kernel⟩
abbrev mX12_fail : cw_M := (yX12_fail, cX12_fail, 2, none, { frames := 0, cells := 0, slots := 0, locals := 0 })
set_option maxRecDepth 100000 in
theorem cd_X12_fail : cw_cd mX12_fail := ⟨(cw_mem (List.mem_append_right _ (List.mem_of_getElem? (i := 1270) (by rfl))) rfl), (cw_mem (List.mem_append_right _ (List.mem_of_getElem? (i := 13) (by rfl))) rfl)⟩
set_option maxRecDepth 100000 in
theorem ar_X12_fail : cw_ar mX12_fail 1 := ⟨by decide +kernel, by decide +kernel, by decide +kernel⟩
abbrev mX12_next : cw_M := (yX12_next, cX12_next, 1, none, { frames := 1, cells := 0, slots := 0, locals := 21 })
set_option maxRecDepth 100000 in
theorem cd_X12_next : cw_cd mX12_next := ⟨(cw_mem (List.mem_append_right _ (List.mem_of_getElem? (i := 1274) (by rfl))) rfl), (cw_mem (List.mem_append_right _ (List.mem_of_getElem? (i := 13) (by rfl))) rfl)⟩
set_option maxRecDepth 100000 in
theorem ar_X12_next : cw_ar mX12_next 0 := ⟨by decide +kernel, by decide +kernel, by decide +kernel⟩
abbrev mX12_must : cw_M := (yX12_must, cX12_must, 2, none, { frames := 2, cells := 0, slots := 0, locals := 41 })
set_option maxRecDepth 100000 in
theorem cd_X12_must : cw_cd mX12_must := ⟨(cw_mem (List.mem_append_right _ (List.mem_of_getElem? (i := 1278) (by rfl))) rfl), (cw_mem (List.mem_append_right _ (List.mem_of_getElem? (i := 13) (by rfl))) rfl)⟩
set_option maxRecDepth 100000 in
theorem ar_X12_must : cw_ar mX12_must 1 := ⟨by decide +kernel, by decide +kernel, by decide +kernel⟩
abbrev mX12_wrong : cw_M := (yX12_wrong, cX12_wrong, 4, none, { frames := 0, cells := 0, slots := 0, locals := 0 })
set_option maxRecDepth 100000 in
theorem cd_X12_wrong : cw_cd mX12_wrong := ⟨(cw_mem (List.mem_append_right _ (List.mem_of_getElem? (i := 1282) (by rfl))) rfl), (cw_mem (List.mem_append_right _ (List.mem_of_getElem? (i := 13) (by rfl))) rfl)⟩
set_option maxRecDepth 100000 in
theorem ar_X12_wrong : cw_ar mX12_wrong 2 := ⟨by decide +kernel, by decide +kernel, by decide +kernel⟩
abbrev mX12_relation : cw_M := (yX12_relation, cX12_relation, 5, none, { frames := 3, cells := 0, slots := 0, locals := 68 })
set_option maxRecDepth 100000 in
theorem cd_X12_relation : cw_cd mX12_relation := ⟨(cw_mem (List.mem_append_right _ (List.mem_of_getElem? (i := 1286) (by rfl))) rfl), (cw_mem (List.mem_append_right _ (List.mem_of_getElem? (i := 13) (by rfl))) rfl)⟩
set_option maxRecDepth 100000 in
theorem ar_X12_relation : cw_ar mX12_relation 0 := ⟨by decide +kernel, by decide +kernel, by decide +kernel⟩
abbrev mX12_expression : cw_M := (yX12_expression, cX12_expression, 5, none, { frames := 2, cells := 0, slots := 0, locals := 44 })
set_option maxRecDepth 100000 in
theorem cd_X12_expression : cw_cd mX12_expression := ⟨(cw_mem (List.mem_append_right _ (List.mem_of_getElem? (i := 1290) (by rfl))) rfl), (cw_mem (List.mem_append_right _ (List.mem_of_getElem? (i := 13) (by rfl))) rfl)⟩
set_option maxRecDepth 100000 in
theorem ar_X12_expression : cw_ar mX12_expression 0 := ⟨by decide +kernel, by decide +kernel, by decide +kernel⟩
abbrev mX12_emit : cw_M := (yX12_emit, cX12_emit, 3, none, { frames := 0, cells := 0, slots := 0, locals := 0 })
set_option maxRecDepth 100000 in
theorem cd_X12_emit : cw_cd mX12_emit := ⟨(cw_mem (List.mem_append_right _ (List.mem_of_getElem? (i := 1294) (by rfl))) rfl), (cw_mem (List.mem_append_right _ (List.mem_of_getElem? (i := 13) (by rfl))) rfl)⟩
set_option maxRecDepth 100000 in
theorem ar_X12_emit : cw_ar mX12_emit 2 := ⟨by decide +kernel, by decide +kernel, by decide +kernel⟩
abbrev mX12_comesOut : cw_M := (yX12_comesOut, cX12_comesOut, 3, none, { frames := 1, cells := 0, slots := 0, locals := 22 })
set_option maxRecDepth 100000 in
theorem cd_X12_comesOut : cw_cd mX12_comesOut := ⟨(cw_mem (List.mem_append_right _ (List.mem_of_getElem? (i := 1298) (by rfl))) rfl), (cw_mem (List.mem_append_right _ (List.mem_of_getElem? (i := 13) (by rfl))) rfl)⟩
set_option maxRecDepth 100000 in
theorem ar_X12_comesOut : cw_ar mX12_comesOut 1 := ⟨by decide +kernel, by decide +kernel, by decide +kernel⟩
abbrev mX12_place : cw_M := (yX12_place, cX12_place, 1, (some .int), { frames := 0, cells := 0, slots := 0, locals := 0 })
set_option maxRecDepth 100000 in
theorem cd_X12_place : cw_cd mX12_place := ⟨(cw_mem (List.mem_append_right _ (List.mem_of_getElem? (i := 1302) (by rfl))) rfl), (cw_mem (List.mem_append_right _ (List.mem_of_getElem? (i := 13) (by rfl))) rfl)⟩
set_option maxRecDepth 100000 in
theorem ar_X12_place : cw_ar mX12_place 0 := ⟨by decide +kernel, by decide +kernel, by decide +kernel⟩
abbrev mX12_ground : cw_M := (yX12_ground, cX12_ground, 6, (some .int), { frames := 0, cells := 0, slots := 0, locals := 0 })
set_option maxRecDepth 100000 in
theorem cd_X12_ground : cw_cd mX12_ground := ⟨(cw_mem (List.mem_append_right _ (List.mem_of_getElem? (i := 1306) (by rfl))) rfl), (cw_mem (List.mem_append_right _ (List.mem_of_getElem? (i := 13) (by rfl))) rfl)⟩
set_option maxRecDepth 100000 in
theorem ar_X12_ground : cw_ar mX12_ground 3 := ⟨by decide +kernel, by decide +kernel, by decide +kernel⟩
abbrev mX12_mast : cw_M := (yX12_mast, cX12_mast, 3, (some .int), { frames := 1, cells := 0, slots := 0, locals := 21 })
set_option maxRecDepth 100000 in
theorem cd_X12_mast : cw_cd mX12_mast := ⟨(cw_mem (List.mem_append_right _ (List.mem_of_getElem? (i := 1310) (by rfl))) rfl), (cw_mem (List.mem_append_right _ (List.mem_of_getElem? (i := 13) (by rfl))) rfl)⟩
set_option maxRecDepth 100000 in
theorem ar_X12_mast : cw_ar mX12_mast 2 := ⟨by decide +kernel, by decide +kernel, by decide +kernel⟩
abbrev mX12_isSite : cw_M := (yX12_isSite, cX12_isSite, 2, (some .boolean), { frames := 0, cells := 0, slots := 0, locals := 0 })
set_option maxRecDepth 100000 in
theorem cd_X12_isSite : cw_cd mX12_isSite := ⟨(cw_mem (List.mem_append_right _ (List.mem_of_getElem? (i := 1314) (by rfl))) rfl), (cw_mem (List.mem_append_right _ (List.mem_of_getElem? (i := 13) (by rfl))) rfl)⟩
set_option maxRecDepth 100000 in
theorem ar_X12_isSite : cw_ar mX12_isSite 1 := ⟨by decide +kernel, by decide +kernel, by decide +kernel⟩
abbrev mX12_programme : cw_M := (yX12_programme, cX12_programme, 4, (some .int), { frames := 1, cells := 0, slots := 0, locals := 21 })
set_option maxRecDepth 100000 in
theorem cd_X12_programme : cw_cd mX12_programme := ⟨(cw_mem (List.mem_append_right _ (List.mem_of_getElem? (i := 1318) (by rfl))) rfl), (cw_mem (List.mem_append_right _ (List.mem_of_getElem? (i := 13) (by rfl))) rfl)⟩
set_option maxRecDepth 100000 in
theorem ar_X12_programme : cw_ar mX12_programme 3 := ⟨by decide +kernel, by decide +kernel, by decide +kernel⟩
abbrev mX12_isLand : cw_M := (yX12_isLand, cX12_isLand, 2, (some .boolean), { frames := 0, cells := 0, slots := 0, locals := 0 })
set_option maxRecDepth 100000 in
theorem cd_X12_isLand : cw_cd mX12_isLand := ⟨(cw_mem (List.mem_append_right _ (List.mem_of_getElem? (i := 1322) (by rfl))) rfl), (cw_mem (List.mem_append_right _ (List.mem_of_getElem? (i := 13) (by rfl))) rfl)⟩
set_option maxRecDepth 100000 in
theorem ar_X12_isLand : cw_ar mX12_isLand 1 := ⟨by decide +kernel, by decide +kernel, by decide +kernel⟩
abbrev mX12_sheet : cw_M := (yX12_sheet, cX12_sheet, 4, (some .boolean), { frames := 0, cells := 0, slots := 0, locals := 0 })
set_option maxRecDepth 100000 in
theorem cd_X12_sheet : cw_cd mX12_sheet := ⟨(cw_mem (List.mem_append_right _ (List.mem_of_getElem? (i := 1326) (by rfl))) rfl), (cw_mem (List.mem_append_right _ (List.mem_of_getElem? (i := 13) (by rfl))) rfl)⟩
set_option maxRecDepth 100000 in
theorem ar_X12_sheet : cw_ar mX12_sheet 2 := ⟨by decide +kernel, by decide +kernel, by decide +kernel⟩
abbrev mX12_cell : cw_M := (yX12_cell, cX12_cell, 4, (some .boolean), { frames := 0, cells := 0, slots := 0, locals := 0 })
set_option maxRecDepth 100000 in
theorem cd_X12_cell : cw_cd mX12_cell := ⟨(cw_mem (List.mem_append_right _ (List.mem_of_getElem? (i := 1330) (by rfl))) rfl), (cw_mem (List.mem_append_right _ (List.mem_of_getElem? (i := 13) (by rfl))) rfl)⟩
set_option maxRecDepth 100000 in
theorem ar_X12_cell : cw_ar mX12_cell 3 := ⟨by decide +kernel, by decide +kernel, by decide +kernel⟩
abbrev mX12_clock : cw_M := (yX12_clock, cX12_clock, 2, (some .boolean), { frames := 1, cells := 0, slots := 0, locals := 20 })
set_option maxRecDepth 100000 in
theorem cd_X12_clock : cw_cd mX12_clock := ⟨(cw_mem (List.mem_append_right _ (List.mem_of_getElem? (i := 1334) (by rfl))) rfl), (cw_mem (List.mem_append_right _ (List.mem_of_getElem? (i := 13) (by rfl))) rfl)⟩
set_option maxRecDepth 100000 in
theorem ar_X12_clock : cw_ar mX12_clock 1 := ⟨by decide +kernel, by decide +kernel, by decide +kernel⟩
abbrev mX12_isDay : cw_M := (yX12_isDay, cX12_isDay, 1, (some .boolean), { frames := 0, cells := 0, slots := 0, locals := 0 })
set_option maxRecDepth 100000 in
theorem cd_X12_isDay : cw_cd mX12_isDay := ⟨(cw_mem (List.mem_append_right _ (List.mem_of_getElem? (i := 1337) (by rfl))) rfl), (cw_mem (List.mem_append_right _ (List.mem_of_getElem? (i := 13) (by rfl))) rfl)⟩
set_option maxRecDepth 100000 in
theorem ar_X12_isDay : cw_ar mX12_isDay 1 := ⟨by decide +kernel, by decide +kernel, by decide +kernel⟩
abbrev mX12_report : cw_M := (yX12_report, cX12_report, 6, (some .int), { frames := 1, cells := 0, slots := 0, locals := 21 })
set_option maxRecDepth 100000 in
theorem cd_X12_report : cw_cd mX12_report := ⟨(cw_mem (List.mem_append_right _ (List.mem_of_getElem? (i := 1341) (by rfl))) rfl), (cw_mem (List.mem_append_right _ (List.mem_of_getElem? (i := 13) (by rfl))) rfl)⟩
set_option maxRecDepth 100000 in
theorem ar_X12_report : cw_ar mX12_report 5 := ⟨by decide +kernel, by decide +kernel, by decide +kernel⟩
abbrev mX12_isBand : cw_M := (yX12_isBand, cX12_isBand, 1, (some .boolean), { frames := 0, cells := 0, slots := 0, locals := 0 })
set_option maxRecDepth 100000 in
theorem cd_X12_isBand : cw_cd mX12_isBand := ⟨(cw_mem (List.mem_append_right _ (List.mem_of_getElem? (i := 1344) (by rfl))) rfl), (cw_mem (List.mem_append_right _ (List.mem_of_getElem? (i := 13) (by rfl))) rfl)⟩
set_option maxRecDepth 100000 in
theorem ar_X12_isBand : cw_ar mX12_isBand 1 := ⟨by decide +kernel, by decide +kernel, by decide +kernel⟩
abbrev mX12_isHour : cw_M := (yX12_isHour, cX12_isHour, 1, (some .boolean), { frames := 0, cells := 0, slots := 0, locals := 0 })
set_option maxRecDepth 100000 in
theorem cd_X12_isHour : cw_cd mX12_isHour := ⟨(cw_mem (List.mem_append_right _ (List.mem_of_getElem? (i := 1347) (by rfl))) rfl), (cw_mem (List.mem_append_right _ (List.mem_of_getElem? (i := 13) (by rfl))) rfl)⟩
set_option maxRecDepth 100000 in
theorem ar_X12_isHour : cw_ar mX12_isHour 1 := ⟨by decide +kernel, by decide +kernel, by decide +kernel⟩
abbrev mX12_notice : cw_M := (yX12_notice, cX12_notice, 6, (some .int), { frames := 1, cells := 0, slots := 0, locals := 21 })
set_option maxRecDepth 100000 in
theorem cd_X12_notice : cw_cd mX12_notice := ⟨(cw_mem (List.mem_append_right _ (List.mem_of_getElem? (i := 1351) (by rfl))) rfl), (cw_mem (List.mem_append_right _ (List.mem_of_getElem? (i := 13) (by rfl))) rfl)⟩
set_option maxRecDepth 100000 in
theorem ar_X12_notice : cw_ar mX12_notice 5 := ⟨by decide +kernel, by decide +kernel, by decide +kernel⟩
abbrev mX12_way : cw_M := (yX12_way, cX12_way, 4, (some .int), { frames := 1, cells := 0, slots := 0, locals := 29 })
set_option maxRecDepth 100000 in
theorem cd_X12_way : cw_cd mX12_way := ⟨(cw_mem (List.mem_append_right _ (List.mem_of_getElem? (i := 1355) (by rfl))) rfl), (cw_mem (List.mem_append_right _ (List.mem_of_getElem? (i := 13) (by rfl))) rfl)⟩
set_option maxRecDepth 100000 in
theorem ar_X12_way : cw_ar mX12_way 3 := ⟨by decide +kernel, by decide +kernel, by decide +kernel⟩
abbrev mX12_goes : cw_M := (yX12_goes, cX12_goes, 10, none, { frames := 0, cells := 0, slots := 0, locals := 0 })
set_option maxRecDepth 100000 in
theorem cd_X12_goes : cw_cd mX12_goes := ⟨(cw_mem (List.mem_append_right _ (List.mem_of_getElem? (i := 1359) (by rfl))) rfl), (cw_mem (List.mem_append_right _ (List.mem_of_getElem? (i := 13) (by rfl))) rfl)⟩
set_option maxRecDepth 100000 in
theorem ar_X12_goes : cw_ar mX12_goes 2 := ⟨by decide +kernel, by decide +kernel, by decide +kernel⟩
abbrev mX12_far : cw_M := (yX12_far, cX12_far, 1, (some .int), { frames := 0, cells := 0, slots := 0, locals := 0 })
set_option maxRecDepth 100000 in
theorem cd_X12_far : cw_cd mX12_far := ⟨(cw_mem (List.mem_append_right _ (List.mem_of_getElem? (i := 1363) (by rfl))) rfl), (cw_mem (List.mem_append_right _ (List.mem_of_getElem? (i := 13) (by rfl))) rfl)⟩
set_option maxRecDepth 100000 in
theorem ar_X12_far : cw_ar mX12_far 0 := ⟨by decide +kernel, by decide +kernel, by decide +kernel⟩
abbrev mX12_sun : cw_M := (yX12_sun, cX12_sun, 5, (some .int), { frames := 1, cells := 0, slots := 0, locals := 29 })
set_option maxRecDepth 100000 in
theorem cd_X12_sun : cw_cd mX12_sun := ⟨(cw_mem (List.mem_append_right _ (List.mem_of_getElem? (i := 1367) (by rfl))) rfl), (cw_mem (List.mem_append_right _ (List.mem_of_getElem? (i := 13) (by rfl))) rfl)⟩
set_option maxRecDepth 100000 in
theorem ar_X12_sun : cw_ar mX12_sun 4 := ⟨by decide +kernel, by decide +kernel, by decide +kernel⟩
abbrev mX12_sunAt : cw_M := (yX12_sunAt, cX12_sunAt, 10, (some .int), { frames := 0, cells := 0, slots := 0, locals := 0 })
set_option maxRecDepth 100000 in
theorem cd_X12_sunAt : cw_cd mX12_sunAt := ⟨(cw_mem (List.mem_append_right _ (List.mem_of_getElem? (i := 1371) (by rfl))) rfl), (cw_mem (List.mem_append_right _ (List.mem_of_getElem? (i := 13) (by rfl))) rfl)⟩
set_option maxRecDepth 100000 in
theorem ar_X12_sunAt : cw_ar mX12_sunAt 3 := ⟨by decide +kernel, by decide +kernel, by decide +kernel⟩
abbrev mX12_correction : cw_M := (yX12_correction, cX12_correction, 5, (some .int), { frames := 3, cells := 0, slots := 0, locals := 84 })
set_option maxRecDepth 100000 in
theorem cd_X12_correction : cw_cd mX12_correction := ⟨(cw_mem (List.mem_append_right _ (List.mem_of_getElem? (i := 1375) (by rfl))) rfl), (cw_mem (List.mem_append_right _ (List.mem_of_getElem? (i := 13) (by rfl))) rfl)⟩
set_option maxRecDepth 100000 in
theorem ar_X12_correction : cw_ar mX12_correction 4 := ⟨by decide +kernel, by decide +kernel, by decide +kernel⟩
abbrev mX12_isKnown : cw_M := (yX12_isKnown, cX12_isKnown, 2, (some .boolean), { frames := 0, cells := 0, slots := 0, locals := 0 })
set_option maxRecDepth 100000 in
theorem cd_X12_isKnown : cw_cd mX12_isKnown := ⟨(cw_mem (List.mem_append_right _ (List.mem_of_getElem? (i := 1379) (by rfl))) rfl), (cw_mem (List.mem_append_right _ (List.mem_of_getElem? (i := 13) (by rfl))) rfl)⟩
set_option maxRecDepth 100000 in
theorem ar_X12_isKnown : cw_ar mX12_isKnown 1 := ⟨by decide +kernel, by decide +kernel, by decide +kernel⟩
abbrev mX12_corrected : cw_M := (yX12_corrected, cX12_corrected, 9, (some .int), { frames := 2, cells := 0, slots := 0, locals := 56 })
set_option maxRecDepth 100000 in
theorem cd_X12_corrected : cw_cd mX12_corrected := ⟨(cw_mem (List.mem_append_right _ (List.mem_of_getElem? (i := 1383) (by rfl))) rfl), (cw_mem (List.mem_append_right _ (List.mem_of_getElem? (i := 13) (by rfl))) rfl)⟩
set_option maxRecDepth 100000 in
theorem ar_X12_corrected : cw_ar mX12_corrected 4 := ⟨by decide +kernel, by decide +kernel, by decide +kernel⟩
abbrev mX12_toldBy : cw_M := (yX12_toldBy, cX12_toldBy, 8, (some .int), { frames := 1, cells := 0, slots := 0, locals := 29 })
set_option maxRecDepth 100000 in
theorem cd_X12_toldBy : cw_cd mX12_toldBy := ⟨(cw_mem (List.mem_append_right _ (List.mem_of_getElem? (i := 1387) (by rfl))) rfl), (cw_mem (List.mem_append_right _ (List.mem_of_getElem? (i := 13) (by rfl))) rfl)⟩
set_option maxRecDepth 100000 in
theorem ar_X12_toldBy : cw_ar mX12_toldBy 5 := ⟨by decide +kernel, by decide +kernel, by decide +kernel⟩
abbrev mX12_strength : cw_M := (yX12_strength, cX12_strength, 7, (some .int), { frames := 4, cells := 0, slots := 0, locals := 111 })
set_option maxRecDepth 100000 in
theorem cd_X12_strength : cw_cd mX12_strength := ⟨(cw_mem (List.mem_append_right _ (List.mem_of_getElem? (i := 1392) (by rfl))) rfl), (cw_mem (List.mem_append_right _ (List.mem_of_getElem? (i := 13) (by rfl))) rfl)⟩
set_option maxRecDepth 100000 in
theorem ar_X12_strength : cw_ar mX12_strength 6 := ⟨by decide +kernel, by decide +kernel, by decide +kernel⟩
abbrev mX12_isAsked : cw_M := (yX12_isAsked, cX12_isAsked, 6, (some .boolean), { frames := 1, cells := 0, slots := 0, locals := 21 })
set_option maxRecDepth 100000 in
theorem cd_X12_isAsked : cw_cd mX12_isAsked := ⟨(cw_mem (List.mem_append_right _ (List.mem_of_getElem? (i := 1396) (by rfl))) rfl), (cw_mem (List.mem_append_right _ (List.mem_of_getElem? (i := 13) (by rfl))) rfl)⟩
set_option maxRecDepth 100000 in
theorem ar_X12_isAsked : cw_ar mX12_isAsked 5 := ⟨by decide +kernel, by decide +kernel, by decide +kernel⟩
abbrev mX12_strengthOf : cw_M := (yX12_strengthOf, cX12_strengthOf, 8, (some .int), { frames := 3, cells := 0, slots := 0, locals := 84 })
set_option maxRecDepth 100000 in
theorem cd_X12_strengthOf : cw_cd mX12_strengthOf := ⟨(cw_mem (List.mem_append_right _ (List.mem_of_getElem? (i := 1400) (by rfl))) rfl), (cw_mem (List.mem_append_right _ (List.mem_of_getElem? (i := 13) (by rfl))) rfl)⟩
set_option maxRecDepth 100000 in
theorem ar_X12_strengthOf : cw_ar mX12_strengthOf 6 := ⟨by decide +kernel, by decide +kernel, by decide +kernel⟩
abbrev mX12_yields : cw_M := (yX12_yields, cX12_yields, 7, (some .int), { frames := 4, cells := 0, slots := 0, locals := 108 })
set_option maxRecDepth 100000 in
theorem cd_X12_yields : cw_cd mX12_yields := ⟨(cw_mem (List.mem_append_right _ (List.mem_of_getElem? (i := 1404) (by rfl))) rfl), (cw_mem (List.mem_append_right _ (List.mem_of_getElem? (i := 13) (by rfl))) rfl)⟩
set_option maxRecDepth 100000 in
theorem ar_X12_yields : cw_ar mX12_yields 6 := ⟨by decide +kernel, by decide +kernel, by decide +kernel⟩
abbrev mX12_yieldsTo : cw_M := (yX12_yieldsTo, cX12_yieldsTo, 9, (some .int), { frames := 3, cells := 0, slots := 0, locals := 80 })
set_option maxRecDepth 100000 in
theorem cd_X12_yieldsTo : cw_cd mX12_yieldsTo := ⟨(cw_mem (List.mem_append_right _ (List.mem_of_getElem? (i := 1408) (by rfl))) rfl), (cw_mem (List.mem_append_right _ (List.mem_of_getElem? (i := 13) (by rfl))) rfl)⟩
set_option maxRecDepth 100000 in
theorem ar_X12_yieldsTo : cw_ar mX12_yieldsTo 6 := ⟨by decide +kernel, by decide +kernel, by decide +kernel⟩
abbrev mX12_clashes : cw_M := (yX12_clashes, cX12_clashes, 6, (some .boolean), { frames := 1, cells := 0, slots := 0, locals := 29 })
set_option maxRecDepth 100000 in
theorem cd_X12_clashes : cw_cd mX12_clashes := ⟨(cw_mem (List.mem_append_right _ (List.mem_of_getElem? (i := 1412) (by rfl))) rfl), (cw_mem (List.mem_append_right _ (List.mem_of_getElem? (i := 13) (by rfl))) rfl)⟩
set_option maxRecDepth 100000 in
theorem ar_X12_clashes : cw_ar mX12_clashes 5 := ⟨by decide +kernel, by decide +kernel, by decide +kernel⟩
abbrev mX12_decides : cw_M := (yX12_decides, cX12_decides, 9, (some .int), { frames := 2, cells := 0, slots := 0, locals := 52 })
set_option maxRecDepth 100000 in
theorem cd_X12_decides : cw_cd mX12_decides := ⟨(cw_mem (List.mem_append_right _ (List.mem_of_getElem? (i := 1416) (by rfl))) rfl), (cw_mem (List.mem_append_right _ (List.mem_of_getElem? (i := 13) (by rfl))) rfl)⟩
set_option maxRecDepth 100000 in
theorem ar_X12_decides : cw_ar mX12_decides 6 := ⟨by decide +kernel, by decide +kernel, by decide +kernel⟩
abbrev mX12_holds : cw_M := (yX12_holds, cX12_holds, 7, (some .boolean), { frames := 1, cells := 0, slots := 0, locals := 26 })
set_option maxRecDepth 100000 in
theorem cd_X12_holds : cw_cd mX12_holds := ⟨(cw_mem (List.mem_append_right _ (List.mem_of_getElem? (i := 1420) (by rfl))) rfl), (cw_mem (List.mem_append_right _ (List.mem_of_getElem? (i := 13) (by rfl))) rfl)⟩
set_option maxRecDepth 100000 in
theorem ar_X12_holds : cw_ar mX12_holds 1 := ⟨by decide +kernel, by decide +kernel, by decide +kernel⟩
abbrev mX12_value : cw_M := (yX12_value, cX12_value, 7, (some .int), { frames := 0, cells := 0, slots := 0, locals := 0 })
set_option maxRecDepth 100000 in
theorem cd_X12_value : cw_cd mX12_value := ⟨(cw_mem (List.mem_append_right _ (List.mem_of_getElem? (i := 1424) (by rfl))) rfl), (cw_mem (List.mem_append_right _ (List.mem_of_getElem? (i := 13) (by rfl))) rfl)⟩
set_option maxRecDepth 100000 in
theorem ar_X12_value : cw_ar mX12_value 2 := ⟨by decide +kernel, by decide +kernel, by decide +kernel⟩
abbrev mX12_rule : cw_M := (yX12_rule, cX12_rule, 7, (some .int), { frames := 3, cells := 0, slots := 0, locals := 80 })
set_option maxRecDepth 100000 in
theorem cd_X12_rule : cw_cd mX12_rule := ⟨(cw_mem (List.mem_append_right _ (List.mem_of_getElem? (i := 1428) (by rfl))) rfl), (cw_mem (List.mem_append_right _ (List.mem_of_getElem? (i := 13) (by rfl))) rfl)⟩
set_option maxRecDepth 100000 in
theorem ar_X12_rule : cw_ar mX12_rule 6 := ⟨by decide +kernel, by decide +kernel, by decide +kernel⟩
abbrev mX12_schedule : cw_M := (yX12_schedule, cX12_schedule, 7, (some .int), { frames := 5, cells := 0, slots := 0, locals := 141 })
set_option maxRecDepth 100000 in
theorem cd_X12_schedule : cw_cd mX12_schedule := ⟨(cw_mem (List.mem_append_right _ (List.mem_of_getElem? (i := 1432) (by rfl))) rfl), (cw_mem (List.mem_append_right _ (List.mem_of_getElem? (i := 13) (by rfl))) rfl)⟩
set_option maxRecDepth 100000 in
theorem ar_X12_schedule : cw_ar mX12_schedule 2 := ⟨by decide +kernel, by decide +kernel, by decide +kernel⟩
abbrev mX12_fits : cw_M := (yX12_fits, cX12_fits, 11, none, { frames := 4, cells := 0, slots := 0, locals := 111 })
set_option maxRecDepth 100000 in
theorem cd_X12_fits : cw_cd mX12_fits := ⟨(cw_mem (List.mem_append_right _ (List.mem_of_getElem? (i := 1436) (by rfl))) rfl), (cw_mem (List.mem_append_right _ (List.mem_of_getElem? (i := 13) (by rfl))) rfl)⟩
set_option maxRecDepth 100000 in
theorem ar_X12_fits : cw_ar mX12_fits 5 := ⟨by decide +kernel, by decide +kernel, by decide +kernel⟩
abbrev mX12_lays : cw_M := (yX12_lays, cX12_lays, 9, none, { frames := 0, cells := 0, slots := 0, locals := 0 })
set_option maxRecDepth 100000 in
theorem cd_X12_lays : cw_cd mX12_lays := ⟨(cw_mem (List.mem_append_right _ (List.mem_of_getElem? (i := 1440) (by rfl))) rfl), (cw_mem (List.mem_append_right _ (List.mem_of_getElem? (i := 13) (by rfl))) rfl)⟩
set_option maxRecDepth 100000 in
theorem ar_X12_lays : cw_ar mX12_lays 1 := ⟨by decide +kernel, by decide +kernel, by decide +kernel⟩
abbrev mX12_slot : cw_M := (yX12_slot, cX12_slot, 5, (some .int), { frames := 1, cells := 0, slots := 0, locals := 20 })
set_option maxRecDepth 100000 in
theorem cd_X12_slot : cw_cd mX12_slot := ⟨(cw_mem (List.mem_append_right _ (List.mem_of_getElem? (i := 1444) (by rfl))) rfl), (cw_mem (List.mem_append_right _ (List.mem_of_getElem? (i := 13) (by rfl))) rfl)⟩
set_option maxRecDepth 100000 in
theorem ar_X12_slot : cw_ar mX12_slot 3 := ⟨by decide +kernel, by decide +kernel, by decide +kernel⟩
abbrev mX12_listeners : cw_M := (yX12_listeners, cX12_listeners, 2, (some .int), { frames := 1, cells := 0, slots := 0, locals := 20 })
set_option maxRecDepth 100000 in
theorem cd_X12_listeners : cw_cd mX12_listeners := ⟨(cw_mem (List.mem_append_right _ (List.mem_of_getElem? (i := 1448) (by rfl))) rfl), (cw_mem (List.mem_append_right _ (List.mem_of_getElem? (i := 13) (by rfl))) rfl)⟩
set_option maxRecDepth 100000 in
theorem ar_X12_listeners : cw_ar mX12_listeners 1 := ⟨by decide +kernel, by decide +kernel, by decide +kernel⟩
abbrev mX12_count : cw_M := (yX12_count, cX12_count, 2, (some .int), { frames := 0, cells := 0, slots := 0, locals := 0 })
set_option maxRecDepth 100000 in
theorem cd_X12_count : cw_cd mX12_count := ⟨(cw_mem (List.mem_append_right _ (List.mem_of_getElem? (i := 1452) (by rfl))) rfl), (cw_mem (List.mem_append_right _ (List.mem_of_getElem? (i := 13) (by rfl))) rfl)⟩
set_option maxRecDepth 100000 in
theorem ar_X12_count : cw_ar mX12_count 1 := ⟨by decide +kernel, by decide +kernel, by decide +kernel⟩
abbrev mL_law : cw_M := (yL_law, cL_law, 4, (some .boolean), { frames := 12, cells := 600000, slots := 7302250, locals := 436 })
