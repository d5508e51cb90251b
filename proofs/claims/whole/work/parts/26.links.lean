set_option maxRecDepth 100000 in
theorem ob_X11_1 : Cond.methodLink RX11 1 Lib.objectInit ∈ cw_tbl := (cw_mem (List.mem_append_right _ (List.mem_of_getElem? (i := 26) (by rfl))) rfl)
set_option maxRecDepth 100000 in
theorem lk_X11_11 : cw_LI RX11 11 mX9_init := ⟨(cw_mem (List.mem_append_right _ (List.mem_of_getElem? (i := 31) (by rfl))) rfl), (cw_mem (List.mem_append_right _ (List.mem_of_getElem? (i := 32) (by rfl))) rfl)⟩
set_option maxRecDepth 100000 in
theorem ln_X11_23 : cw_NI RX11 23 mX2_init := ⟨_, List.mem_append_right _ (List.mem_of_getElem? (i := 52) rfl), (cw_mem (List.mem_append_right _ (List.mem_of_getElem? (i := 53) (by rfl))) rfl)⟩
set_option maxRecDepth 100000 in
theorem ln_X11_30 : cw_NI RX11 30 mX6_init := ⟨_, List.mem_append_right _ (List.mem_of_getElem? (i := 69) rfl), (cw_mem (List.mem_append_right _ (List.mem_of_getElem? (i := 70) (by rfl))) rfl)⟩
set_option maxRecDepth 100000 in
theorem ln_X11_37 : cw_NI RX11 37 mX8_init := ⟨_, List.mem_append_right _ (List.mem_of_getElem? (i := 89) rfl), (cw_mem (List.mem_append_right _ (List.mem_of_getElem? (i := 90) (by rfl))) rfl)⟩
set_option maxRecDepth 100000 in
theorem ln_X11_44 : cw_NI RX11 44 mX1_init := ⟨_, List.mem_append_right _ (List.mem_of_getElem? (i := 103) rfl), (cw_mem (List.mem_append_right _ (List.mem_of_getElem? (i := 104) (by rfl))) rfl)⟩
set_option maxRecDepth 100000 in
theorem ln_X11_51 : cw_NI RX11 51 mX0_init := ⟨_, List.mem_append_right _ (List.mem_of_getElem? (i := 141) rfl), (cw_mem (List.mem_append_right _ (List.mem_of_getElem? (i := 142) (by rfl))) rfl)⟩
set_option maxRecDepth 100000 in
theorem ln_X11_62 : cw_NI RX11 62 mX4_init := ⟨_, List.mem_append_right _ (List.mem_of_getElem? (i := 154) rfl), (cw_mem (List.mem_append_right _ (List.mem_of_getElem? (i := 155) (by rfl))) rfl)⟩
set_option maxRecDepth 100000 in
theorem ln_X11_73 : cw_NI RX11 73 mX3_init := ⟨_, List.mem_append_right _ (List.mem_of_getElem? (i := 264) rfl), (cw_mem (List.mem_append_right _ (List.mem_of_getElem? (i := 265) (by rfl))) rfl)⟩
set_option maxRecDepth 100000 in
theorem ln_X11_80 : cw_NI RX11 80 mX5_init := ⟨_, List.mem_append_right _ (List.mem_of_getElem? (i := 292) rfl), (cw_mem (List.mem_append_right _ (List.mem_of_getElem? (i := 293) (by rfl))) rfl)⟩
set_option maxRecDepth 100000 in
theorem ln_X11_87 : cw_NI RX11 87 mX10_init := ⟨_, List.mem_append_right _ (List.mem_of_getElem? (i := 323) rfl), (cw_mem (List.mem_append_right _ (List.mem_of_getElem? (i := 190) (by rfl))) rfl)⟩
set_option maxRecDepth 100000 in
theorem ob_X9_3 : Cond.methodLink RX9 3 Lib.objectInit ∈ cw_tbl := (cw_mem (List.mem_append_right _ (List.mem_of_getElem? (i := 34) (by rfl))) rfl)
set_option maxRecDepth 100000 in
theorem ob_X2_3 : Cond.methodLink RX2 3 Lib.objectInit ∈ cw_tbl := (cw_mem (List.mem_append_right _ (List.mem_of_getElem? (i := 55) (by rfl))) rfl)
set_option maxRecDepth 100000 in
theorem ob_X6_3 : Cond.methodLink RX6 3 Lib.objectInit ∈ cw_tbl := (cw_mem (List.mem_append_right _ (List.mem_of_getElem? (i := 72) (by rfl))) rfl)
set_option maxRecDepth 100000 in
theorem ob_X8_3 : Cond.methodLink RX8 3 Lib.objectInit ∈ cw_tbl := (cw_mem (List.mem_append_right _ (List.mem_of_getElem? (i := 92) (by rfl))) rfl)
set_option maxRecDepth 100000 in
theorem ob_X1_3 : Cond.methodLink RX1 3 Lib.objectInit ∈ cw_tbl := (cw_mem (List.mem_append_right _ (List.mem_of_getElem? (i := 106) (by rfl))) rfl)
set_option maxRecDepth 100000 in
theorem ob_X0_3 : Cond.methodLink RX0 3 Lib.objectInit ∈ cw_tbl := (cw_mem (List.mem_append_right _ (List.mem_of_getElem? (i := 144) (by rfl))) rfl)
set_option maxRecDepth 100000 in
theorem ob_X4_3 : Cond.methodLink RX4 3 Lib.objectInit ∈ cw_tbl := (cw_mem (List.mem_append_right _ (List.mem_of_getElem? (i := 157) (by rfl))) rfl)
set_option maxRecDepth 100000 in
theorem ln_X4_11 : cw_NI RX4 11 mX7_init := ⟨_, List.mem_append_right _ (List.mem_of_getElem? (i := 160) rfl), (cw_mem (List.mem_append_right _ (List.mem_of_getElem? (i := 161) (by rfl))) rfl)⟩
set_option maxRecDepth 100000 in
theorem ln_X4_24 : cw_NI RX4 24 mX10_init := ⟨_, List.mem_append_right _ (List.mem_of_getElem? (i := 189) rfl), (cw_mem (List.mem_append_right _ (List.mem_of_getElem? (i := 190) (by rfl))) rfl)⟩
set_option maxRecDepth 100000 in
theorem ob_X7_3 : Cond.methodLink RX7 3 Lib.objectInit ∈ cw_tbl := (cw_mem (List.mem_append_right _ (List.mem_of_getElem? (i := 163) (by rfl))) rfl)
set_option maxRecDepth 100000 in
theorem ob_X10_3 : Cond.methodLink RX10 3 Lib.objectInit ∈ cw_tbl := (cw_mem (List.mem_append_right _ (List.mem_of_getElem? (i := 192) (by rfl))) rfl)
set_option maxRecDepth 100000 in
theorem ob_X3_3 : Cond.methodLink RX3 3 Lib.objectInit ∈ cw_tbl := (cw_mem (List.mem_append_right _ (List.mem_of_getElem? (i := 267) (by rfl))) rfl)
set_option maxRecDepth 100000 in
theorem ob_X5_3 : Cond.methodLink RX5 3 Lib.objectInit ∈ cw_tbl := (cw_mem (List.mem_append_right _ (List.mem_of_getElem? (i := 295) (by rfl))) rfl)
set_option maxRecDepth 100000 in
theorem lk_X11_99 : cw_LV RX11 99 mX11_append := ⟨(cw_mem (List.mem_append_right _ (List.mem_of_getElem? (i := 374) (by rfl))) rfl), (cw_mem (List.mem_append_right _ (List.mem_of_getElem? (i := 376) (by rfl))) rfl), (cw_mem (List.mem_append_left _ (List.mem_of_getElem? (i := 0) (by decide +kernel))) rfl)⟩
set_option maxRecDepth 100000 in
theorem lk_X11_102 : cw_LV RX11 102 mX4_parse := ⟨(cw_mem (List.mem_append_right _ (List.mem_of_getElem? (i := 386) (by rfl))) rfl), (cw_mem (List.mem_append_right _ (List.mem_of_getElem? (i := 387) (by rfl))) rfl), (cw_mem (List.mem_append_right _ (List.mem_of_getElem? (i := 388) (by rfl))) rfl)⟩
set_option maxRecDepth 100000 in
theorem lk_X11_106 : cw_LV RX11 106 mX4_swapDraft := ⟨(cw_mem (List.mem_append_right _ (List.mem_of_getElem? (i := 547) (by rfl))) rfl), (cw_mem (List.mem_append_right _ (List.mem_of_getElem? (i := 548) (by rfl))) rfl), (cw_mem (List.mem_append_right _ (List.mem_of_getElem? (i := 549) (by rfl))) rfl)⟩
set_option maxRecDepth 100000 in
theorem lk_X4_58 : cw_LV RX4 58 mX10_renew := ⟨(cw_mem (List.mem_append_right _ (List.mem_of_getElem? (i := 390) (by rfl))) rfl), (cw_mem (List.mem_append_right _ (List.mem_of_getElem? (i := 391) (by rfl))) rfl), (cw_mem (List.mem_append_right _ (List.mem_of_getElem? (i := 392) (by rfl))) rfl)⟩
set_option maxRecDepth 100000 in
theorem lk_X4_61 : cw_LV RX4 61 mX7_start := ⟨(cw_mem (List.mem_append_right _ (List.mem_of_getElem? (i := 394) (by rfl))) rfl), (cw_mem (List.mem_append_right _ (List.mem_of_getElem? (i := 395) (by rfl))) rfl), (cw_mem (List.mem_append_right _ (List.mem_of_getElem? (i := 396) (by rfl))) rfl)⟩
set_option maxRecDepth 100000 in
theorem lk_X4_65 : cw_LV RX4 65 mX7_advance := ⟨(cw_mem (List.mem_append_right _ (List.mem_of_getElem? (i := 401) (by rfl))) rfl), (cw_mem (List.mem_append_right _ (List.mem_of_getElem? (i := 402) (by rfl))) rfl), (cw_mem (List.mem_append_right _ (List.mem_of_getElem? (i := 403) (by rfl))) rfl)⟩
set_option maxRecDepth 100000 in
theorem lk_X4_71 : cw_LV RX4 71 mX4_faultOf := ⟨(cw_mem (List.mem_append_right _ (List.mem_of_getElem? (i := 486) (by rfl))) rfl), (cw_mem (List.mem_append_right _ (List.mem_of_getElem? (i := 488) (by rfl))) rfl), (cw_mem (List.mem_append_left _ (List.mem_of_getElem? (i := 6) (by decide +kernel))) rfl)⟩
set_option maxRecDepth 100000 in
theorem lk_X4_75 : cw_LV RX4 75 mX4_take := ⟨(cw_mem (List.mem_append_right _ (List.mem_of_getElem? (i := 505) (by rfl))) rfl), (cw_mem (List.mem_append_right _ (List.mem_of_getElem? (i := 507) (by rfl))) rfl), (cw_mem (List.mem_append_left _ (List.mem_of_getElem? (i := 10) (by decide +kernel))) rfl)⟩
set_option maxRecDepth 100000 in
theorem lk_X7_31 : cw_LS RX7 31 mJ9_min_7cf53 := ⟨(cw_mem (List.mem_append_right _ (List.mem_of_getElem? (i := 398) (by rfl))) rfl), (cw_mem (List.mem_append_right _ (List.mem_of_getElem? (i := 399) (by rfl))) rfl)⟩
set_option maxRecDepth 100000 in
theorem lk_X7_37 : cw_LV RX7 37 mX7_behindBlanks := ⟨(cw_mem (List.mem_append_right _ (List.mem_of_getElem? (i := 405) (by rfl))) rfl), (cw_mem (List.mem_append_right _ (List.mem_of_getElem? (i := 407) (by rfl))) rfl), (cw_mem (List.mem_append_left _ (List.mem_of_getElem? (i := 1) (by decide +kernel))) rfl)⟩
set_option maxRecDepth 100000 in
theorem lk_X7_41 : cw_LS RX7 41 mX7_isLetter := ⟨(cw_mem (List.mem_append_right _ (List.mem_of_getElem? (i := 412) (by rfl))) rfl), (cw_mem (List.mem_append_right _ (List.mem_of_getElem? (i := 413) (by rfl))) rfl)⟩
set_option maxRecDepth 100000 in
theorem lk_X7_45 : cw_LV RX7 45 mX7_scanWord := ⟨(cw_mem (List.mem_append_right _ (List.mem_of_getElem? (i := 415) (by rfl))) rfl), (cw_mem (List.mem_append_right _ (List.mem_of_getElem? (i := 417) (by rfl))) rfl), (cw_mem (List.mem_append_left _ (List.mem_of_getElem? (i := 2) (by decide +kernel))) rfl)⟩
set_option maxRecDepth 100000 in
theorem lk_X7_48 : cw_LS RX7 48 mX7_isDigit := ⟨(cw_mem (List.mem_append_right _ (List.mem_of_getElem? (i := 472) (by rfl))) rfl), (cw_mem (List.mem_append_right _ (List.mem_of_getElem? (i := 473) (by rfl))) rfl)⟩
set_option maxRecDepth 100000 in
theorem lk_X7_51 : cw_LV RX7 51 mX7_scanInt := ⟨(cw_mem (List.mem_append_right _ (List.mem_of_getElem? (i := 475) (by rfl))) rfl), (cw_mem (List.mem_append_right _ (List.mem_of_getElem? (i := 477) (by rfl))) rfl), (cw_mem (List.mem_append_left _ (List.mem_of_getElem? (i := 4) (by decide +kernel))) rfl)⟩
set_option maxRecDepth 100000 in
theorem lk_X7_54 : cw_LV RX7 54 mX7_scanSign := ⟨(cw_mem (List.mem_append_right _ (List.mem_of_getElem? (i := 479) (by rfl))) rfl), (cw_mem (List.mem_append_right _ (List.mem_of_getElem? (i := 481) (by rfl))) rfl), (cw_mem (List.mem_append_left _ (List.mem_of_getElem? (i := 5) (by decide +kernel))) rfl)⟩
set_option maxRecDepth 100000 in
theorem lk_X7_57 : cw_LS RX7 57 mX7_isBlank := ⟨(cw_mem (List.mem_append_right _ (List.mem_of_getElem? (i := 409) (by rfl))) rfl), (cw_mem (List.mem_append_right _ (List.mem_of_getElem? (i := 410) (by rfl))) rfl)⟩
set_option maxRecDepth 100000 in
theorem lk_X7_62 : cw_LV RX7 62 mJ0_length_8abf5 := ⟨(cw_mem (List.mem_append_right _ (List.mem_of_getElem? (i := 420) (by rfl))) rfl), (cw_mem (List.mem_append_right _ (List.mem_of_getElem? (i := 421) (by rfl))) rfl), (cw_mem (List.mem_append_right _ (List.mem_of_getElem? (i := 422) (by rfl))) rfl)⟩
set_option maxRecDepth 100000 in
theorem lk_X7_66 : cw_LV RX7 66 mX7_isWord := ⟨(cw_mem (List.mem_append_right _ (List.mem_of_getElem? (i := 430) (by rfl))) rfl), (cw_mem (List.mem_append_right _ (List.mem_of_getElem? (i := 432) (by rfl))) rfl), (cw_mem (List.mem_append_left _ (List.mem_of_getElem? (i := 3) (by decide +kernel))) rfl)⟩
set_option maxRecDepth 100000 in
theorem lk_J0_335 : cw_LV RJ0 335 mJ0_coder_7d493 := ⟨(cw_mem (List.mem_append_right _ (List.mem_of_getElem? (i := 424) (by rfl))) rfl), (cw_mem (List.mem_append_right _ (List.mem_of_getElem? (i := 425) (by rfl))) rfl), (cw_mem (List.mem_append_right _ (List.mem_of_getElem? (i := 426) (by rfl))) rfl)⟩
set_option maxRecDepth 100000 in
theorem lk_X7_69 : cw_LV RX7 69 mJ0_charAt_5068e := ⟨(cw_mem (List.mem_append_right _ (List.mem_of_getElem? (i := 434) (by rfl))) rfl), (cw_mem (List.mem_append_right _ (List.mem_of_getElem? (i := 435) (by rfl))) rfl), (cw_mem (List.mem_append_right _ (List.mem_of_getElem? (i := 436) (by rfl))) rfl)⟩
set_option maxRecDepth 100000 in
theorem lk_J0_492 : cw_LV RJ0 492 mJ0_isLatin1_aae02 := ⟨(cw_mem (List.mem_append_right _ (List.mem_of_getElem? (i := 438) (by rfl))) rfl), (cw_mem (List.mem_append_right _ (List.mem_of_getElem? (i := 439) (by rfl))) rfl), (cw_mem (List.mem_append_right _ (List.mem_of_getElem? (i := 440) (by rfl))) rfl)⟩
set_option maxRecDepth 100000 in
theorem lk_J0_495 : cw_LS RJ0 495 mJ1_charAt_3b067 := ⟨(cw_mem (List.mem_append_right _ (List.mem_of_getElem? (i := 442) (by rfl))) rfl), (cw_mem (List.mem_append_right _ (List.mem_of_getElem? (i := 443) (by rfl))) rfl)⟩
set_option maxRecDepth 100000 in
theorem lk_J1_9 : cw_LS RJ1 9 mJ0_checkIndex_df160 := ⟨(cw_mem (List.mem_append_right _ (List.mem_of_getElem? (i := 445) (by rfl))) rfl), (cw_mem (List.mem_append_right _ (List.mem_of_getElem? (i := 446) (by rfl))) rfl)⟩
set_option maxRecDepth 100000 in
theorem lk_J0_1059 : cw_LS RJ0 1059 mJ3_checkIndex_8e157 := ⟨(cw_mem (List.mem_append_right _ (List.mem_of_getElem? (i := 450) (by rfl))) rfl), (cw_mem (List.mem_append_right _ (List.mem_of_getElem? (i := 451) (by rfl))) rfl)⟩
set_option maxRecDepth 100000 in
theorem lk_J2_67 : cw_LS RJ2 67 mJ2_checkIndex_2214a := ⟨(cw_mem (List.mem_append_right _ (List.mem_of_getElem? (i := 456) (by rfl))) rfl), (cw_mem (List.mem_append_right _ (List.mem_of_getElem? (i := 457) (by rfl))) rfl)⟩
set_option maxRecDepth 100000 in
theorem lk_J2_71 : cw_LS RJ2 71 mJ2_getChar_3b067 := ⟨(cw_mem (List.mem_append_right _ (List.mem_of_getElem? (i := 463) (by rfl))) rfl), (cw_mem (List.mem_append_right _ (List.mem_of_getElem? (i := 464) (by rfl))) rfl)⟩
set_option maxRecDepth 100000 in
theorem lk_J2_48 : cw_LS RJ2 48 mJ2_length_9d52b := ⟨(cw_mem (List.mem_append_right _ (List.mem_of_getElem? (i := 459) (by rfl))) rfl), (cw_mem (List.mem_append_right _ (List.mem_of_getElem? (i := 460) (by rfl))) rfl)⟩
set_option maxRecDepth 100000 in
theorem lk_J2_414 : cw_LS RJ2 414 mJ0_checkIndex_df160 := ⟨(cw_mem (List.mem_append_right _ (List.mem_of_getElem? (i := 462) (by rfl))) rfl), (cw_mem (List.mem_append_right _ (List.mem_of_getElem? (i := 446) (by rfl))) rfl)⟩
set_option maxRecDepth 100000 in
theorem lk_X7_73 : cw_LS RX7 73 mX7_signOf := ⟨(cw_mem (List.mem_append_right _ (List.mem_of_getElem? (i := 483) (by rfl))) rfl), (cw_mem (List.mem_append_right _ (List.mem_of_getElem? (i := 484) (by rfl))) rfl)⟩
set_option maxRecDepth 100000 in
theorem lk_X4_82 : cw_LV RX4 82 mX4_stateBehind := ⟨(cw_mem (List.mem_append_right _ (List.mem_of_getElem? (i := 490) (by rfl))) rfl), (cw_mem (List.mem_append_right _ (List.mem_of_getElem? (i := 492) (by rfl))) rfl), (cw_mem (List.mem_append_left _ (List.mem_of_getElem? (i := 7) (by decide +kernel))) rfl)⟩
set_option maxRecDepth 100000 in
theorem lk_X4_89 : cw_LV RX4 89 mX4_stateBehindUnit := ⟨(cw_mem (List.mem_append_right _ (List.mem_of_getElem? (i := 494) (by rfl))) rfl), (cw_mem (List.mem_append_right _ (List.mem_of_getElem? (i := 496) (by rfl))) rfl), (cw_mem (List.mem_append_left _ (List.mem_of_getElem? (i := 8) (by decide +kernel))) rfl)⟩
set_option maxRecDepth 100000 in
theorem lk_X4_92 : cw_LV RX4 92 mX4_stateBehindDays := ⟨(cw_mem (List.mem_append_right _ (List.mem_of_getElem? (i := 501) (by rfl))) rfl), (cw_mem (List.mem_append_right _ (List.mem_of_getElem? (i := 503) (by rfl))) rfl), (cw_mem (List.mem_append_left _ (List.mem_of_getElem? (i := 9) (by decide +kernel))) rfl)⟩
set_option maxRecDepth 100000 in
theorem lk_X4_95 : cw_LS RX4 95 mX4_isRelation := ⟨(cw_mem (List.mem_append_right _ (List.mem_of_getElem? (i := 498) (by rfl))) rfl), (cw_mem (List.mem_append_right _ (List.mem_of_getElem? (i := 499) (by rfl))) rfl)⟩
set_option maxRecDepth 100000 in
theorem lk_X4_99 : cw_LV RX4 99 mX4_startRule := ⟨(cw_mem (List.mem_append_right _ (List.mem_of_getElem? (i := 509) (by rfl))) rfl), (cw_mem (List.mem_append_right _ (List.mem_of_getElem? (i := 511) (by rfl))) rfl), (cw_mem (List.mem_append_left _ (List.mem_of_getElem? (i := 11) (by decide +kernel))) rfl)⟩
set_option maxRecDepth 100000 in
theorem lk_X4_105 : cw_LV RX4 105 mX4_takeUntil := ⟨(cw_mem (List.mem_append_right _ (List.mem_of_getElem? (i := 513) (by rfl))) rfl), (cw_mem (List.mem_append_right _ (List.mem_of_getElem? (i := 515) (by rfl))) rfl), (cw_mem (List.mem_append_left _ (List.mem_of_getElem? (i := 12) (by decide +kernel))) rfl)⟩
set_option maxRecDepth 100000 in
theorem lk_X4_108 : cw_LV RX4 108 mX4_takeUnit := ⟨(cw_mem (List.mem_append_right _ (List.mem_of_getElem? (i := 517) (by rfl))) rfl), (cw_mem (List.mem_append_right _ (List.mem_of_getElem? (i := 519) (by rfl))) rfl), (cw_mem (List.mem_append_left _ (List.mem_of_getElem? (i := 13) (by decide +kernel))) rfl)⟩
set_option maxRecDepth 100000 in
theorem lk_X4_111 : cw_LV RX4 111 mX4_takeSign := ⟨(cw_mem (List.mem_append_right _ (List.mem_of_getElem? (i := 529) (by rfl))) rfl), (cw_mem (List.mem_append_right _ (List.mem_of_getElem? (i := 531) (by rfl))) rfl), (cw_mem (List.mem_append_left _ (List.mem_of_getElem? (i := 15) (by decide +kernel))) rfl)⟩
set_option maxRecDepth 100000 in
theorem lk_X4_114 : cw_LV RX4 114 mX10_addRule := ⟨(cw_mem (List.mem_append_right _ (List.mem_of_getElem? (i := 543) (by rfl))) rfl), (cw_mem (List.mem_append_right _ (List.mem_of_getElem? (i := 544) (by rfl))) rfl), (cw_mem (List.mem_append_right _ (List.mem_of_getElem? (i := 545) (by rfl))) rfl)⟩
set_option maxRecDepth 100000 in
theorem lk_X4_118 : cw_LV RX4 118 mX4_putOff := ⟨(cw_mem (List.mem_append_right _ (List.mem_of_getElem? (i := 521) (by rfl))) rfl), (cw_mem (List.mem_append_right _ (List.mem_of_getElem? (i := 523) (by rfl))) rfl), (cw_mem (List.mem_append_left _ (List.mem_of_getElem? (i := 14) (by decide +kernel))) rfl)⟩
set_option maxRecDepth 100000 in
theorem lk_X4_121 : cw_LV RX4 121 mX10_addStep := ⟨(cw_mem (List.mem_append_right _ (List.mem_of_getElem? (i := 525) (by rfl))) rfl), (cw_mem (List.mem_append_right _ (List.mem_of_getElem? (i := 526) (by rfl))) rfl), (cw_mem (List.mem_append_right _ (List.mem_of_getElem? (i := 527) (by rfl))) rfl)⟩
set_option maxRecDepth 100000 in
theorem lk_X4_125 : cw_LV RX4 125 mX4_release := ⟨(cw_mem (List.mem_append_right _ (List.mem_of_getElem? (i := 533) (by rfl))) rfl), (cw_mem (List.mem_append_right _ (List.mem_of_getElem? (i := 535) (by rfl))) rfl), (cw_mem (List.mem_append_left _ (List.mem_of_getElem? (i := 16) (by decide +kernel))) rfl)⟩
set_option maxRecDepth 100000 in
theorem lk_X4_128 : cw_LS RX4 128 mJ9_max_7cf53 := ⟨(cw_mem (List.mem_append_right _ (List.mem_of_getElem? (i := 540) (by rfl))) rfl), (cw_mem (List.mem_append_right _ (List.mem_of_getElem? (i := 541) (by rfl))) rfl)⟩
set_option maxRecDepth 100000 in
theorem lk_X4_133 : cw_LS RX4 133 mX4_rank := ⟨(cw_mem (List.mem_append_right _ (List.mem_of_getElem? (i := 537) (by rfl))) rfl), (cw_mem (List.mem_append_right _ (List.mem_of_getElem? (i := 538) (by rfl))) rfl)⟩
set_option maxRecDepth 100000 in
theorem lk_X11_113 : cw_LV RX11 113 mX9_add := ⟨(cw_mem (List.mem_append_right _ (List.mem_of_getElem? (i := 559) (by rfl))) rfl), (cw_mem (List.mem_append_right _ (List.mem_of_getElem? (i := 560) (by rfl))) rfl), (cw_mem (List.mem_append_right _ (List.mem_of_getElem? (i := 561) (by rfl))) rfl)⟩
set_option maxRecDepth 100000 in
theorem lk_X11_117 : cw_LV RX11 117 mX9_has := ⟨(cw_mem (List.mem_append_right _ (List.mem_of_getElem? (i := 567) (by rfl))) rfl), (cw_mem (List.mem_append_right _ (List.mem_of_getElem? (i := 568) (by rfl))) rfl), (cw_mem (List.mem_append_right _ (List.mem_of_getElem? (i := 569) (by rfl))) rfl)⟩
set_option maxRecDepth 100000 in
theorem lk_X11_121 : cw_LV RX11 121 mX2_add := ⟨(cw_mem (List.mem_append_right _ (List.mem_of_getElem? (i := 571) (by rfl))) rfl), (cw_mem (List.mem_append_right _ (List.mem_of_getElem? (i := 572) (by rfl))) rfl), (cw_mem (List.mem_append_right _ (List.mem_of_getElem? (i := 573) (by rfl))) rfl)⟩
set_option maxRecDepth 100000 in
theorem lk_X11_124 : cw_LS RX11 124 mX11_isSpan := ⟨(cw_mem (List.mem_append_right _ (List.mem_of_getElem? (i := 579) (by rfl))) rfl), (cw_mem (List.mem_append_right _ (List.mem_of_getElem? (i := 580) (by rfl))) rfl)⟩
set_option maxRecDepth 100000 in
theorem lk_X11_128 : cw_LV RX11 128 mX6_add := ⟨(cw_mem (List.mem_append_right _ (List.mem_of_getElem? (i := 582) (by rfl))) rfl), (cw_mem (List.mem_append_right _ (List.mem_of_getElem? (i := 583) (by rfl))) rfl), (cw_mem (List.mem_append_right _ (List.mem_of_getElem? (i := 584) (by rfl))) rfl)⟩
set_option maxRecDepth 100000 in
theorem lk_X11_129 : cw_LV RX11 129 mX8_renew := ⟨(cw_mem (List.mem_append_right _ (List.mem_of_getElem? (i := 590) (by rfl))) rfl), (cw_mem (List.mem_append_right _ (List.mem_of_getElem? (i := 591) (by rfl))) rfl), (cw_mem (List.mem_append_right _ (List.mem_of_getElem? (i := 592) (by rfl))) rfl)⟩
set_option maxRecDepth 100000 in
theorem lk_X8_19 : cw_LS RX8 19 mJ9_max_7cf53 := ⟨(cw_mem (List.mem_append_right _ (List.mem_of_getElem? (i := 594) (by rfl))) rfl), (cw_mem (List.mem_append_right _ (List.mem_of_getElem? (i := 541) (by rfl))) rfl)⟩
set_option maxRecDepth 100000 in
theorem lk_X11_133 : cw_LV RX11 133 mX8_has := ⟨(cw_mem (List.mem_append_right _ (List.mem_of_getElem? (i := 599) (by rfl))) rfl), (cw_mem (List.mem_append_right _ (List.mem_of_getElem? (i := 600) (by rfl))) rfl), (cw_mem (List.mem_append_right _ (List.mem_of_getElem? (i := 601) (by rfl))) rfl)⟩
set_option maxRecDepth 100000 in
theorem lk_X11_135 : cw_LS RX11 135 mX11_isNumber := ⟨(cw_mem (List.mem_append_right _ (List.mem_of_getElem? (i := 603) (by rfl))) rfl), (cw_mem (List.mem_append_right _ (List.mem_of_getElem? (i := 604) (by rfl))) rfl)⟩
set_option maxRecDepth 100000 in
theorem lk_X11_138 : cw_LV RX11 138 mX8_put := ⟨(cw_mem (List.mem_append_right _ (List.mem_of_getElem? (i := 606) (by rfl))) rfl), (cw_mem (List.mem_append_right _ (List.mem_of_getElem? (i := 607) (by rfl))) rfl), (cw_mem (List.mem_append_right _ (List.mem_of_getElem? (i := 608) (by rfl))) rfl)⟩
set_option maxRecDepth 100000 in
theorem lk_X11_142 : cw_LV RX11 142 mX11_isPath := ⟨(cw_mem (List.mem_append_right _ (List.mem_of_getElem? (i := 618) (by rfl))) rfl), (cw_mem (List.mem_append_right _ (List.mem_of_getElem? (i := 620) (by rfl))) rfl), (cw_mem (List.mem_append_left _ (List.mem_of_getElem? (i := 17) (by decide +kernel))) rfl)⟩
set_option maxRecDepth 100000 in
theorem lk_X11_146 : cw_LS RX11 146 mX11_isHour := ⟨(cw_mem (List.mem_append_right _ (List.mem_of_getElem? (i := 625) (by rfl))) rfl), (cw_mem (List.mem_append_right _ (List.mem_of_getElem? (i := 626) (by rfl))) rfl)⟩
set_option maxRecDepth 100000 in
theorem lk_X11_149 : cw_LV RX11 149 mX1_addReport := ⟨(cw_mem (List.mem_append_right _ (List.mem_of_getElem? (i := 628) (by rfl))) rfl), (cw_mem (List.mem_append_right _ (List.mem_of_getElem? (i := 629) (by rfl))) rfl), (cw_mem (List.mem_append_right _ (List.mem_of_getElem? (i := 630) (by rfl))) rfl)⟩
set_option maxRecDepth 100000 in
theorem lk_X11_153 : cw_LS RX11 153 mX11_isBand := ⟨(cw_mem (List.mem_append_right _ (List.mem_of_getElem? (i := 622) (by rfl))) rfl), (cw_mem (List.mem_append_right _ (List.mem_of_getElem? (i := 623) (by rfl))) rfl)⟩
set_option maxRecDepth 100000 in
theorem lk_X1_43 : cw_LV RX1 43 mX1_add := ⟨(cw_mem (List.mem_append_right _ (List.mem_of_getElem? (i := 632) (by rfl))) rfl), (cw_mem (List.mem_append_right _ (List.mem_of_getElem? (i := 634) (by rfl))) rfl), (cw_mem (List.mem_append_left _ (List.mem_of_getElem? (i := 18) (by decide +kernel))) rfl)⟩
set_option maxRecDepth 100000 in
theorem lk_X11_156 : cw_LS RX11 156 mX11_isDay := ⟨(cw_mem (List.mem_append_right _ (List.mem_of_getElem? (i := 640) (by rfl))) rfl), (cw_mem (List.mem_append_right _ (List.mem_of_getElem? (i := 641) (by rfl))) rfl)⟩
set_option maxRecDepth 100000 in
theorem lk_X11_159 : cw_LV RX11 159 mX1_addNotice := ⟨(cw_mem (List.mem_append_right _ (List.mem_of_getElem? (i := 643) (by rfl))) rfl), (cw_mem (List.mem_append_right _ (List.mem_of_getElem? (i := 644) (by rfl))) rfl), (cw_mem (List.mem_append_right _ (List.mem_of_getElem? (i := 645) (by rfl))) rfl)⟩
set_option maxRecDepth 100000 in
theorem lk_X11_163 : cw_LV RX11 163 mX9_lengthTo := ⟨(cw_mem (List.mem_append_right _ (List.mem_of_getElem? (i := 651) (by rfl))) rfl), (cw_mem (List.mem_append_right _ (List.mem_of_getElem? (i := 652) (by rfl))) rfl), (cw_mem (List.mem_append_right _ (List.mem_of_getElem? (i := 653) (by rfl))) rfl)⟩
set_option maxRecDepth 100000 in
theorem lk_X11_167 : cw_LV RX11 167 mX9_farTo := ⟨(cw_mem (List.mem_append_right _ (List.mem_of_getElem? (i := 667) (by rfl))) rfl), (cw_mem (List.mem_append_right _ (List.mem_of_getElem? (i := 668) (by rfl))) rfl), (cw_mem (List.mem_append_right _ (List.mem_of_getElem? (i := 669) (by rfl))) rfl)⟩
set_option maxRecDepth 100000 in
theorem lk_X11_170 : cw_LV RX11 170 mX9_aimTo := ⟨(cw_mem (List.mem_append_right _ (List.mem_of_getElem? (i := 671) (by rfl))) rfl), (cw_mem (List.mem_append_right _ (List.mem_of_getElem? (i := 672) (by rfl))) rfl), (cw_mem (List.mem_append_right _ (List.mem_of_getElem? (i := 673) (by rfl))) rfl)⟩
set_option maxRecDepth 100000 in
theorem lk_X11_173 : cw_LV RX11 173 mX9_kindTo := ⟨(cw_mem (List.mem_append_right _ (List.mem_of_getElem? (i := 684) (by rfl))) rfl), (cw_mem (List.mem_append_right _ (List.mem_of_getElem? (i := 676) (by rfl))) rfl), (cw_mem (List.mem_append_right _ (List.mem_of_getElem? (i := 677) (by rfl))) rfl)⟩
set_option maxRecDepth 100000 in
theorem lk_X9_46 : cw_LV RX9 46 mX9_shortest := ⟨(cw_mem (List.mem_append_right _ (List.mem_of_getElem? (i := 655) (by rfl))) rfl), (cw_mem (List.mem_append_right _ (List.mem_of_getElem? (i := 657) (by rfl))) rfl), (cw_mem (List.mem_append_left _ (List.mem_of_getElem? (i := 19) (by decide +kernel))) rfl)⟩
set_option maxRecDepth 100000 in
theorem lk_X9_33 : cw_LV RX9 33 mX9_eastward := ⟨(cw_mem (List.mem_append_right _ (List.mem_of_getElem? (i := 659) (by rfl))) rfl), (cw_mem (List.mem_append_right _ (List.mem_of_getElem? (i := 661) (by rfl))) rfl), (cw_mem (List.mem_append_left _ (List.mem_of_getElem? (i := 20) (by decide +kernel))) rfl)⟩
set_option maxRecDepth 100000 in
theorem lk_X9_37 : cw_LS RX9 37 mJ9_min_7cf53 := ⟨(cw_mem (List.mem_append_right _ (List.mem_of_getElem? (i := 663) (by rfl))) rfl), (cw_mem (List.mem_append_right _ (List.mem_of_getElem? (i := 399) (by rfl))) rfl)⟩
set_option maxRecDepth 100000 in
theorem lk_X9_43 : cw_LS RX9 43 mJ9_abs_0f7a4 := ⟨(cw_mem (List.mem_append_right _ (List.mem_of_getElem? (i := 664) (by rfl))) rfl), (cw_mem (List.mem_append_right _ (List.mem_of_getElem? (i := 665) (by rfl))) rfl)⟩
set_option maxRecDepth 100000 in
theorem lk_X9_49 : cw_LV RX9 49 mX9_kindTo := ⟨(cw_mem (List.mem_append_right _ (List.mem_of_getElem? (i := 675) (by rfl))) rfl), (cw_mem (List.mem_append_right _ (List.mem_of_getElem? (i := 676) (by rfl))) rfl), (cw_mem (List.mem_append_right _ (List.mem_of_getElem? (i := 677) (by rfl))) rfl)⟩
set_option maxRecDepth 100000 in
theorem lk_X9_52 : cw_LS RX9 52 mJ6_compare_7cf53 := ⟨(cw_mem (List.mem_append_right _ (List.mem_of_getElem? (i := 679) (by rfl))) rfl), (cw_mem (List.mem_append_right _ (List.mem_of_getElem? (i := 680) (by rfl))) rfl)⟩
set_option maxRecDepth 100000 in
theorem lk_X11_176 : cw_LV RX11 176 mX9_sunAt := ⟨(cw_mem (List.mem_append_right _ (List.mem_of_getElem? (i := 689) (by rfl))) rfl), (cw_mem (List.mem_append_right _ (List.mem_of_getElem? (i := 690) (by rfl))) rfl), (cw_mem (List.mem_append_right _ (List.mem_of_getElem? (i := 691) (by rfl))) rfl)⟩
set_option maxRecDepth 100000 in
theorem ln_X9_25 : cw_NS RX9 25 mX11_seasonOf := ⟨_, List.mem_append_right _ (List.mem_of_getElem? (i := 693) rfl), (cw_mem (List.mem_append_right _ (List.mem_of_getElem? (i := 694) (by rfl))) rfl)⟩
set_option maxRecDepth 100000 in
theorem lk_X9_29 : cw_LS RX9 29 mX9_light := ⟨(cw_mem (List.mem_append_right _ (List.mem_of_getElem? (i := 696) (by rfl))) rfl), (cw_mem (List.mem_append_right _ (List.mem_of_getElem? (i := 697) (by rfl))) rfl)⟩
set_option maxRecDepth 100000 in
theorem lk_X11_179 : cw_LV RX11 179 mX1_canKnow := ⟨(cw_mem (List.mem_append_right _ (List.mem_of_getElem? (i := 703) (by rfl))) rfl), (cw_mem (List.mem_append_right _ (List.mem_of_getElem? (i := 704) (by rfl))) rfl), (cw_mem (List.mem_append_right _ (List.mem_of_getElem? (i := 705) (by rfl))) rfl)⟩
set_option maxRecDepth 100000 in
theorem lk_X11_183 : cw_LV RX11 183 mX11_learn := ⟨(cw_mem (List.mem_append_right _ (List.mem_of_getElem? (i := 708) (by rfl))) rfl), (cw_mem (List.mem_append_right _ (List.mem_of_getElem? (i := 710) (by rfl))) rfl), (cw_mem (List.mem_append_left _ (List.mem_of_getElem? (i := 21) (by decide +kernel))) rfl)⟩
set_option maxRecDepth 100000 in
theorem lk_X11_186 : cw_LV RX11 186 mX0_mean := ⟨(cw_mem (List.mem_append_right _ (List.mem_of_getElem? (i := 769) (by rfl))) rfl), (cw_mem (List.mem_append_right _ (List.mem_of_getElem? (i := 770) (by rfl))) rfl), (cw_mem (List.mem_append_right _ (List.mem_of_getElem? (i := 771) (by rfl))) rfl)⟩
set_option maxRecDepth 100000 in
theorem lk_X11_257 : cw_LV RX11 257 mX0_renew := ⟨(cw_mem (List.mem_append_right _ (List.mem_of_getElem? (i := 712) (by rfl))) rfl), (cw_mem (List.mem_append_right _ (List.mem_of_getElem? (i := 713) (by rfl))) rfl), (cw_mem (List.mem_append_right _ (List.mem_of_getElem? (i := 714) (by rfl))) rfl)⟩
set_option maxRecDepth 100000 in
theorem lk_X11_207 : cw_LV RX11 207 mX1_isNotice := ⟨(cw_mem (List.mem_append_right _ (List.mem_of_getElem? (i := 719) (by rfl))) rfl), (cw_mem (List.mem_append_right _ (List.mem_of_getElem? (i := 720) (by rfl))) rfl), (cw_mem (List.mem_append_right _ (List.mem_of_getElem? (i := 721) (by rfl))) rfl)⟩
set_option maxRecDepth 100000 in
theorem lk_X11_259 : cw_LV RX11 259 mX11_learnReport := ⟨(cw_mem (List.mem_append_right _ (List.mem_of_getElem? (i := 723) (by rfl))) rfl), (cw_mem (List.mem_append_right _ (List.mem_of_getElem? (i := 725) (by rfl))) rfl), (cw_mem (List.mem_append_left _ (List.mem_of_getElem? (i := 22) (by decide +kernel))) rfl)⟩
set_option maxRecDepth 100000 in
theorem lk_X0_18 : cw_LS RX0 18 mJ7_fill_53178 := ⟨(cw_mem (List.mem_append_right _ (List.mem_of_getElem? (i := 716) (by rfl))) rfl), (cw_mem (List.mem_append_right _ (List.mem_of_getElem? (i := 717) (by rfl))) rfl)⟩
set_option maxRecDepth 100000 in
theorem lk_X11_262 : cw_LV RX11 262 mX1_siteOf := ⟨(cw_mem (List.mem_append_right _ (List.mem_of_getElem? (i := 727) (by rfl))) rfl), (cw_mem (List.mem_append_right _ (List.mem_of_getElem? (i := 728) (by rfl))) rfl), (cw_mem (List.mem_append_right _ (List.mem_of_getElem? (i := 729) (by rfl))) rfl)⟩
set_option maxRecDepth 100000 in
theorem lk_X11_263 : cw_LV RX11 263 mX1_landOf := ⟨(cw_mem (List.mem_append_right _ (List.mem_of_getElem? (i := 731) (by rfl))) rfl), (cw_mem (List.mem_append_right _ (List.mem_of_getElem? (i := 732) (by rfl))) rfl), (cw_mem (List.mem_append_right _ (List.mem_of_getElem? (i := 733) (by rfl))) rfl)⟩
set_option maxRecDepth 100000 in
theorem lk_X11_266 : cw_LV RX11 266 mX1_bandOf := ⟨(cw_mem (List.mem_append_right _ (List.mem_of_getElem? (i := 735) (by rfl))) rfl), (cw_mem (List.mem_append_right _ (List.mem_of_getElem? (i := 736) (by rfl))) rfl), (cw_mem (List.mem_append_right _ (List.mem_of_getElem? (i := 737) (by rfl))) rfl)⟩
set_option maxRecDepth 100000 in
theorem lk_X11_269 : cw_LV RX11 269 mX1_dayOf := ⟨(cw_mem (List.mem_append_right _ (List.mem_of_getElem? (i := 739) (by rfl))) rfl), (cw_mem (List.mem_append_right _ (List.mem_of_getElem? (i := 740) (by rfl))) rfl), (cw_mem (List.mem_append_right _ (List.mem_of_getElem? (i := 741) (by rfl))) rfl)⟩
set_option maxRecDepth 100000 in
theorem lk_X11_272 : cw_LS RX11 272 mX11_seasonOf := ⟨(cw_mem (List.mem_append_right _ (List.mem_of_getElem? (i := 743) (by rfl))) rfl), (cw_mem (List.mem_append_right _ (List.mem_of_getElem? (i := 694) (by rfl))) rfl)⟩
set_option maxRecDepth 100000 in
theorem lk_X11_275 : cw_LV RX11 275 mX1_fromOf := ⟨(cw_mem (List.mem_append_right _ (List.mem_of_getElem? (i := 744) (by rfl))) rfl), (cw_mem (List.mem_append_right _ (List.mem_of_getElem? (i := 745) (by rfl))) rfl), (cw_mem (List.mem_append_right _ (List.mem_of_getElem? (i := 746) (by rfl))) rfl)⟩
set_option maxRecDepth 100000 in
theorem lk_X11_197 : cw_LV RX11 197 mX11_firstCell := ⟨(cw_mem (List.mem_append_right _ (List.mem_of_getElem? (i := 748) (by rfl))) rfl), (cw_mem (List.mem_append_right _ (List.mem_of_getElem? (i := 750) (by rfl))) rfl), (cw_mem (List.mem_append_left _ (List.mem_of_getElem? (i := 23) (by decide +kernel))) rfl)⟩
set_option maxRecDepth 100000 in
theorem lk_X11_278 : cw_LV RX11 278 mX8_numberAt := ⟨(cw_mem (List.mem_append_right _ (List.mem_of_getElem? (i := 752) (by rfl))) rfl), (cw_mem (List.mem_append_right _ (List.mem_of_getElem? (i := 753) (by rfl))) rfl), (cw_mem (List.mem_append_right _ (List.mem_of_getElem? (i := 754) (by rfl))) rfl)⟩
set_option maxRecDepth 100000 in
theorem lk_X11_281 : cw_LV RX11 281 mX1_heardOf := ⟨(cw_mem (List.mem_append_right _ (List.mem_of_getElem? (i := 758) (by rfl))) rfl), (cw_mem (List.mem_append_right _ (List.mem_of_getElem? (i := 759) (by rfl))) rfl), (cw_mem (List.mem_append_right _ (List.mem_of_getElem? (i := 760) (by rfl))) rfl)⟩
set_option maxRecDepth 100000 in
theorem lk_X11_284 : cw_LV RX11 284 mX0_add := ⟨(cw_mem (List.mem_append_right _ (List.mem_of_getElem? (i := 762) (by rfl))) rfl), (cw_mem (List.mem_append_right _ (List.mem_of_getElem? (i := 763) (by rfl))) rfl), (cw_mem (List.mem_append_right _ (List.mem_of_getElem? (i := 764) (by rfl))) rfl)⟩
set_option maxRecDepth 100000 in
theorem lk_X8_25 : cw_LV RX8 25 mX8_has := ⟨(cw_mem (List.mem_append_right _ (List.mem_of_getElem? (i := 756) (by rfl))) rfl), (cw_mem (List.mem_append_right _ (List.mem_of_getElem? (i := 600) (by rfl))) rfl), (cw_mem (List.mem_append_right _ (List.mem_of_getElem? (i := 601) (by rfl))) rfl)⟩
set_option maxRecDepth 100000 in
theorem lk_X0_24 : cw_LS RX0 24 mX0_path := ⟨(cw_mem (List.mem_append_right _ (List.mem_of_getElem? (i := 766) (by rfl))) rfl), (cw_mem (List.mem_append_right _ (List.mem_of_getElem? (i := 767) (by rfl))) rfl)⟩
set_option maxRecDepth 100000 in
theorem lk_X0_28 : cw_LS RX0 28 mJ9_floorDiv_7cf53 := ⟨(cw_mem (List.mem_append_right _ (List.mem_of_getElem? (i := 773) (by rfl))) rfl), (cw_mem (List.mem_append_right _ (List.mem_of_getElem? (i := 774) (by rfl))) rfl)⟩
set_option maxRecDepth 100000 in
theorem lk_X11_189 : cw_LV RX11 189 mX11_isSending := ⟨(cw_mem (List.mem_append_right _ (List.mem_of_getElem? (i := 780) (by rfl))) rfl), (cw_mem (List.mem_append_right _ (List.mem_of_getElem? (i := 782) (by rfl))) rfl), (cw_mem (List.mem_append_left _ (List.mem_of_getElem? (i := 24) (by decide +kernel))) rfl)⟩
set_option maxRecDepth 100000 in
theorem lk_X11_193 : cw_LV RX11 193 mX2_siteOf := ⟨(cw_mem (List.mem_append_right _ (List.mem_of_getElem? (i := 788) (by rfl))) rfl), (cw_mem (List.mem_append_right _ (List.mem_of_getElem? (i := 789) (by rfl))) rfl), (cw_mem (List.mem_append_right _ (List.mem_of_getElem? (i := 790) (by rfl))) rfl)⟩
set_option maxRecDepth 100000 in
theorem lk_X11_201 : cw_LV RX11 201 mX11_strengthBy := ⟨(cw_mem (List.mem_append_right _ (List.mem_of_getElem? (i := 792) (by rfl))) rfl), (cw_mem (List.mem_append_right _ (List.mem_of_getElem? (i := 794) (by rfl))) rfl), (cw_mem (List.mem_append_left _ (List.mem_of_getElem? (i := 25) (by decide +kernel))) rfl)⟩
set_option maxRecDepth 100000 in
theorem lk_X11_256 : cw_LV RX11 256 mX2_has := ⟨(cw_mem (List.mem_append_right _ (List.mem_of_getElem? (i := 784) (by rfl))) rfl), (cw_mem (List.mem_append_right _ (List.mem_of_getElem? (i := 785) (by rfl))) rfl), (cw_mem (List.mem_append_right _ (List.mem_of_getElem? (i := 786) (by rfl))) rfl)⟩
set_option maxRecDepth 100000 in
theorem lk_X11_287 : cw_LV RX11 287 mX2_powerOf := ⟨(cw_mem (List.mem_append_right _ (List.mem_of_getElem? (i := 796) (by rfl))) rfl), (cw_mem (List.mem_append_right _ (List.mem_of_getElem? (i := 797) (by rfl))) rfl), (cw_mem (List.mem_append_right _ (List.mem_of_getElem? (i := 798) (by rfl))) rfl)⟩
set_option maxRecDepth 100000 in
theorem lk_X11_204 : cw_LV RX11 204 mX11_firstYield := ⟨(cw_mem (List.mem_append_right _ (List.mem_of_getElem? (i := 804) (by rfl))) rfl), (cw_mem (List.mem_append_right _ (List.mem_of_getElem? (i := 806) (by rfl))) rfl), (cw_mem (List.mem_append_left _ (List.mem_of_getElem? (i := 26) (by decide +kernel))) rfl)⟩
set_option maxRecDepth 100000 in
theorem lk_X11_298 : cw_LV RX11 298 mX1_noticesOn := ⟨(cw_mem (List.mem_append_right _ (List.mem_of_getElem? (i := 808) (by rfl))) rfl), (cw_mem (List.mem_append_right _ (List.mem_of_getElem? (i := 809) (by rfl))) rfl), (cw_mem (List.mem_append_right _ (List.mem_of_getElem? (i := 810) (by rfl))) rfl)⟩
set_option maxRecDepth 100000 in
theorem lk_X11_301 : cw_LV RX11 301 mX1_noticeOn := ⟨(cw_mem (List.mem_append_right _ (List.mem_of_getElem? (i := 812) (by rfl))) rfl), (cw_mem (List.mem_append_right _ (List.mem_of_getElem? (i := 813) (by rfl))) rfl), (cw_mem (List.mem_append_right _ (List.mem_of_getElem? (i := 814) (by rfl))) rfl)⟩
set_option maxRecDepth 100000 in
theorem lk_X11_210 : cw_LV RX11 210 mX11_clashes := ⟨(cw_mem (List.mem_append_right _ (List.mem_of_getElem? (i := 816) (by rfl))) rfl), (cw_mem (List.mem_append_right _ (List.mem_of_getElem? (i := 818) (by rfl))) rfl), (cw_mem (List.mem_append_left _ (List.mem_of_getElem? (i := 27) (by decide +kernel))) rfl)⟩
set_option maxRecDepth 100000 in
theorem lk_X11_213 : cw_LV RX11 213 mX11_decidingRule := ⟨(cw_mem (List.mem_append_right _ (List.mem_of_getElem? (i := 824) (by rfl))) rfl), (cw_mem (List.mem_append_right _ (List.mem_of_getElem? (i := 826) (by rfl))) rfl), (cw_mem (List.mem_append_left _ (List.mem_of_getElem? (i := 28) (by decide +kernel))) rfl)⟩
set_option maxRecDepth 100000 in
theorem lk_X11_304 : cw_LV RX11 304 mX10_weYieldBy := ⟨(cw_mem (List.mem_append_right _ (List.mem_of_getElem? (i := 845) (by rfl))) rfl), (cw_mem (List.mem_append_right _ (List.mem_of_getElem? (i := 846) (by rfl))) rfl), (cw_mem (List.mem_append_right _ (List.mem_of_getElem? (i := 847) (by rfl))) rfl)⟩
set_option maxRecDepth 100000 in
theorem lk_X11_290 : cw_LV RX11 290 mX1_holdsAt := ⟨(cw_mem (List.mem_append_right _ (List.mem_of_getElem? (i := 820) (by rfl))) rfl), (cw_mem (List.mem_append_right _ (List.mem_of_getElem? (i := 821) (by rfl))) rfl), (cw_mem (List.mem_append_right _ (List.mem_of_getElem? (i := 822) (by rfl))) rfl)⟩
set_option maxRecDepth 100000 in
theorem lk_X11_294 : cw_LV RX11 294 mX10_firstHolding := ⟨(cw_mem (List.mem_append_right _ (List.mem_of_getElem? (i := 828) (by rfl))) rfl), (cw_mem (List.mem_append_right _ (List.mem_of_getElem? (i := 829) (by rfl))) rfl), (cw_mem (List.mem_append_right _ (List.mem_of_getElem? (i := 830) (by rfl))) rfl)⟩
set_option maxRecDepth 100000 in
theorem lk_X10_41 : cw_LV RX10 41 mX10_relsHold := ⟨(cw_mem (List.mem_append_right _ (List.mem_of_getElem? (i := 832) (by rfl))) rfl), (cw_mem (List.mem_append_right _ (List.mem_of_getElem? (i := 834) (by rfl))) rfl), (cw_mem (List.mem_append_left _ (List.mem_of_getElem? (i := 29) (by decide +kernel))) rfl)⟩
set_option maxRecDepth 100000 in
theorem lk_X10_45 : cw_LS RX10 45 mX10_varOf := ⟨(cw_mem (List.mem_append_right _ (List.mem_of_getElem? (i := 836) (by rfl))) rfl), (cw_mem (List.mem_append_right _ (List.mem_of_getElem? (i := 837) (by rfl))) rfl)⟩
set_option maxRecDepth 100000 in
theorem lk_X10_49 : cw_LS RX10 49 mX10_reckon := ⟨(cw_mem (List.mem_append_right _ (List.mem_of_getElem? (i := 839) (by rfl))) rfl), (cw_mem (List.mem_append_right _ (List.mem_of_getElem? (i := 840) (by rfl))) rfl)⟩
set_option maxRecDepth 100000 in
theorem lk_X10_53 : cw_LS RX10 53 mX10_compares := ⟨(cw_mem (List.mem_append_right _ (List.mem_of_getElem? (i := 842) (by rfl))) rfl), (cw_mem (List.mem_append_right _ (List.mem_of_getElem? (i := 843) (by rfl))) rfl)⟩
set_option maxRecDepth 100000 in
theorem lk_X11_219 : cw_LV RX11 219 mX5_renew := ⟨(cw_mem (List.mem_append_right _ (List.mem_of_getElem? (i := 857) (by rfl))) rfl), (cw_mem (List.mem_append_right _ (List.mem_of_getElem? (i := 858) (by rfl))) rfl), (cw_mem (List.mem_append_right _ (List.mem_of_getElem? (i := 859) (by rfl))) rfl)⟩
set_option maxRecDepth 100000 in
theorem lk_X11_221 : cw_LV RX11 221 mX11_offerAll := ⟨(cw_mem (List.mem_append_right _ (List.mem_of_getElem? (i := 862) (by rfl))) rfl), (cw_mem (List.mem_append_right _ (List.mem_of_getElem? (i := 864) (by rfl))) rfl), (cw_mem (List.mem_append_left _ (List.mem_of_getElem? (i := 30) (by decide +kernel))) rfl)⟩
set_option maxRecDepth 100000 in
theorem lk_X11_225 : cw_LV RX11 225 mX3_solve := ⟨(cw_mem (List.mem_append_right _ (List.mem_of_getElem? (i := 899) (by rfl))) rfl), (cw_mem (List.mem_append_right _ (List.mem_of_getElem? (i := 900) (by rfl))) rfl), (cw_mem (List.mem_append_right _ (List.mem_of_getElem? (i := 901) (by rfl))) rfl)⟩
set_option maxRecDepth 100000 in
theorem lk_X11_228 : cw_LV RX11 228 mX11_settle := ⟨(cw_mem (List.mem_append_right _ (List.mem_of_getElem? (i := 916) (by rfl))) rfl), (cw_mem (List.mem_append_right _ (List.mem_of_getElem? (i := 918) (by rfl))) rfl), (cw_mem (List.mem_append_left _ (List.mem_of_getElem? (i := 36) (by decide +kernel))) rfl)⟩
set_option maxRecDepth 100000 in
theorem lk_X11_231 : cw_LV RX11 231 mX5_listenersIn := ⟨(cw_mem (List.mem_append_right _ (List.mem_of_getElem? (i := 940) (by rfl))) rfl), (cw_mem (List.mem_append_right _ (List.mem_of_getElem? (i := 941) (by rfl))) rfl), (cw_mem (List.mem_append_right _ (List.mem_of_getElem? (i := 942) (by rfl))) rfl)⟩
set_option maxRecDepth 100000 in
theorem lk_X5_38 : cw_LS RX5 38 mJ7_fill_53178 := ⟨(cw_mem (List.mem_append_right _ (List.mem_of_getElem? (i := 861) (by rfl))) rfl), (cw_mem (List.mem_append_right _ (List.mem_of_getElem? (i := 717) (by rfl))) rfl)⟩
set_option maxRecDepth 100000 in
theorem lk_X11_307 : cw_LV RX11 307 mX3_renew := ⟨(cw_mem (List.mem_append_right _ (List.mem_of_getElem? (i := 866) (by rfl))) rfl), (cw_mem (List.mem_append_right _ (List.mem_of_getElem? (i := 867) (by rfl))) rfl), (cw_mem (List.mem_append_right _ (List.mem_of_getElem? (i := 868) (by rfl))) rfl)⟩
set_option maxRecDepth 100000 in
theorem lk_X11_308 : cw_LV RX11 308 mX6_isOn := ⟨(cw_mem (List.mem_append_right _ (List.mem_of_getElem? (i := 871) (by rfl))) rfl), (cw_mem (List.mem_append_right _ (List.mem_of_getElem? (i := 872) (by rfl))) rfl), (cw_mem (List.mem_append_right _ (List.mem_of_getElem? (i := 873) (by rfl))) rfl)⟩
set_option maxRecDepth 100000 in
theorem lk_X11_311 : cw_LV RX11 311 mX6_landOf := ⟨(cw_mem (List.mem_append_right _ (List.mem_of_getElem? (i := 875) (by rfl))) rfl), (cw_mem (List.mem_append_right _ (List.mem_of_getElem? (i := 876) (by rfl))) rfl), (cw_mem (List.mem_append_right _ (List.mem_of_getElem? (i := 877) (by rfl))) rfl)⟩
set_option maxRecDepth 100000 in
theorem lk_X11_312 : cw_LV RX11 312 mX11_isTurned := ⟨(cw_mem (List.mem_append_right _ (List.mem_of_getElem? (i := 879) (by rfl))) rfl), (cw_mem (List.mem_append_right _ (List.mem_of_getElem? (i := 881) (by rfl))) rfl), (cw_mem (List.mem_append_left _ (List.mem_of_getElem? (i := 31) (by decide +kernel))) rfl)⟩
set_option maxRecDepth 100000 in
theorem lk_X11_315 : cw_LV RX11 315 mX11_offer := ⟨(cw_mem (List.mem_append_right _ (List.mem_of_getElem? (i := 887) (by rfl))) rfl), (cw_mem (List.mem_append_right _ (List.mem_of_getElem? (i := 889) (by rfl))) rfl), (cw_mem (List.mem_append_left _ (List.mem_of_getElem? (i := 32) (by decide +kernel))) rfl)⟩
set_option maxRecDepth 100000 in
theorem lk_X3_34 : cw_LS RX3 34 mJ7_fill_53178 := ⟨(cw_mem (List.mem_append_right _ (List.mem_of_getElem? (i := 870) (by rfl))) rfl), (cw_mem (List.mem_append_right _ (List.mem_of_getElem? (i := 717) (by rfl))) rfl)⟩
set_option maxRecDepth 100000 in
theorem lk_X11_319 : cw_LV RX11 319 mX5_aimOfMast := ⟨(cw_mem (List.mem_append_right _ (List.mem_of_getElem? (i := 883) (by rfl))) rfl), (cw_mem (List.mem_append_right _ (List.mem_of_getElem? (i := 884) (by rfl))) rfl), (cw_mem (List.mem_append_right _ (List.mem_of_getElem? (i := 885) (by rfl))) rfl)⟩
set_option maxRecDepth 100000 in
theorem lk_X11_322 : cw_LV RX11 322 mX9_listenersOf := ⟨(cw_mem (List.mem_append_right _ (List.mem_of_getElem? (i := 891) (by rfl))) rfl), (cw_mem (List.mem_append_right _ (List.mem_of_getElem? (i := 892) (by rfl))) rfl), (cw_mem (List.mem_append_right _ (List.mem_of_getElem? (i := 893) (by rfl))) rfl)⟩
set_option maxRecDepth 100000 in
theorem lk_X11_325 : cw_LV RX11 325 mX3_offer := ⟨(cw_mem (List.mem_append_right _ (List.mem_of_getElem? (i := 895) (by rfl))) rfl), (cw_mem (List.mem_append_right _ (List.mem_of_getElem? (i := 896) (by rfl))) rfl), (cw_mem (List.mem_append_right _ (List.mem_of_getElem? (i := 897) (by rfl))) rfl)⟩
set_option maxRecDepth 100000 in
theorem lk_X3_40 : cw_LV RX3 40 mX3_bestFrom := ⟨(cw_mem (List.mem_append_right _ (List.mem_of_getElem? (i := 903) (by rfl))) rfl), (cw_mem (List.mem_append_right _ (List.mem_of_getElem? (i := 905) (by rfl))) rfl), (cw_mem (List.mem_append_left _ (List.mem_of_getElem? (i := 33) (by decide +kernel))) rfl)⟩
set_option maxRecDepth 100000 in
theorem lk_X3_44 : cw_LV RX3 44 mX3_choose := ⟨(cw_mem (List.mem_append_right _ (List.mem_of_getElem? (i := 912) (by rfl))) rfl), (cw_mem (List.mem_append_right _ (List.mem_of_getElem? (i := 914) (by rfl))) rfl), (cw_mem (List.mem_append_left _ (List.mem_of_getElem? (i := 35) (by decide +kernel))) rfl)⟩
set_option maxRecDepth 100000 in
theorem lk_X3_48 : cw_LV RX3 48 mX3_gainBy := ⟨(cw_mem (List.mem_append_right _ (List.mem_of_getElem? (i := 907) (by rfl))) rfl), (cw_mem (List.mem_append_right _ (List.mem_of_getElem? (i := 909) (by rfl))) rfl), (cw_mem (List.mem_append_left _ (List.mem_of_getElem? (i := 34) (by decide +kernel))) rfl)⟩
set_option maxRecDepth 100000 in
theorem lk_X3_51 : cw_LS RX3 51 mJ9_max_7cf53 := ⟨(cw_mem (List.mem_append_right _ (List.mem_of_getElem? (i := 911) (by rfl))) rfl), (cw_mem (List.mem_append_right _ (List.mem_of_getElem? (i := 541) (by rfl))) rfl)⟩
set_option maxRecDepth 100000 in
theorem lk_X11_326 : cw_LV RX11 326 mX3_mastFor := ⟨(cw_mem (List.mem_append_right _ (List.mem_of_getElem? (i := 920) (by rfl))) rfl), (cw_mem (List.mem_append_right _ (List.mem_of_getElem? (i := 921) (by rfl))) rfl), (cw_mem (List.mem_append_right _ (List.mem_of_getElem? (i := 922) (by rfl))) rfl)⟩
set_option maxRecDepth 100000 in
theorem lk_X11_329 : cw_LV RX11 329 mX3_bandOf := ⟨(cw_mem (List.mem_append_right _ (List.mem_of_getElem? (i := 924) (by rfl))) rfl), (cw_mem (List.mem_append_right _ (List.mem_of_getElem? (i := 925) (by rfl))) rfl), (cw_mem (List.mem_append_right _ (List.mem_of_getElem? (i := 926) (by rfl))) rfl)⟩
set_option maxRecDepth 100000 in
theorem lk_X11_331 : cw_LV RX11 331 mX3_strengthOf := ⟨(cw_mem (List.mem_append_right _ (List.mem_of_getElem? (i := 928) (by rfl))) rfl), (cw_mem (List.mem_append_right _ (List.mem_of_getElem? (i := 929) (by rfl))) rfl), (cw_mem (List.mem_append_right _ (List.mem_of_getElem? (i := 930) (by rfl))) rfl)⟩
set_option maxRecDepth 100000 in
theorem lk_X11_334 : cw_LV RX11 334 mX5_put := ⟨(cw_mem (List.mem_append_right _ (List.mem_of_getElem? (i := 932) (by rfl))) rfl), (cw_mem (List.mem_append_right _ (List.mem_of_getElem? (i := 933) (by rfl))) rfl), (cw_mem (List.mem_append_right _ (List.mem_of_getElem? (i := 934) (by rfl))) rfl)⟩
set_option maxRecDepth 100000 in
theorem lk_X11_337 : cw_LV RX11 337 mX5_addListeners := ⟨(cw_mem (List.mem_append_right _ (List.mem_of_getElem? (i := 936) (by rfl))) rfl), (cw_mem (List.mem_append_right _ (List.mem_of_getElem? (i := 937) (by rfl))) rfl), (cw_mem (List.mem_append_right _ (List.mem_of_getElem? (i := 938) (by rfl))) rfl)⟩
set_option maxRecDepth 100000 in
theorem lk_X11_234 : cw_LV RX11 234 mX5_hasProgramme := ⟨(cw_mem (List.mem_append_right _ (List.mem_of_getElem? (i := 948) (by rfl))) rfl), (cw_mem (List.mem_append_right _ (List.mem_of_getElem? (i := 949) (by rfl))) rfl), (cw_mem (List.mem_append_right _ (List.mem_of_getElem? (i := 950) (by rfl))) rfl)⟩
set_option maxRecDepth 100000 in
theorem lk_X11_237 : cw_LV RX11 237 mX5_mastIn := ⟨(cw_mem (List.mem_append_right _ (List.mem_of_getElem? (i := 952) (by rfl))) rfl), (cw_mem (List.mem_append_right _ (List.mem_of_getElem? (i := 953) (by rfl))) rfl), (cw_mem (List.mem_append_right _ (List.mem_of_getElem? (i := 954) (by rfl))) rfl)⟩
set_option maxRecDepth 100000 in
theorem lk_X11_240 : cw_LV RX11 240 mX5_bandIn := ⟨(cw_mem (List.mem_append_right _ (List.mem_of_getElem? (i := 956) (by rfl))) rfl), (cw_mem (List.mem_append_right _ (List.mem_of_getElem? (i := 957) (by rfl))) rfl), (cw_mem (List.mem_append_right _ (List.mem_of_getElem? (i := 958) (by rfl))) rfl)⟩
set_option maxRecDepth 100000 in
theorem lk_X11_243 : cw_LV RX11 243 mX5_aimIn := ⟨(cw_mem (List.mem_append_right _ (List.mem_of_getElem? (i := 960) (by rfl))) rfl), (cw_mem (List.mem_append_right _ (List.mem_of_getElem? (i := 961) (by rfl))) rfl), (cw_mem (List.mem_append_right _ (List.mem_of_getElem? (i := 962) (by rfl))) rfl)⟩
set_option maxRecDepth 100000 in
theorem lk_X11_246 : cw_LV RX11 246 mX5_strengthIn := ⟨(cw_mem (List.mem_append_right _ (List.mem_of_getElem? (i := 964) (by rfl))) rfl), (cw_mem (List.mem_append_right _ (List.mem_of_getElem? (i := 965) (by rfl))) rfl), (cw_mem (List.mem_append_right _ (List.mem_of_getElem? (i := 966) (by rfl))) rfl)⟩
set_option maxRecDepth 100000 in
theorem ob_X12_7 : Cond.methodLink RX12 7 Lib.objectInit ∈ cw_tbl := (cw_mem (List.mem_append_right _ (List.mem_of_getElem? (i := 981) (by rfl))) rfl)
set_option maxRecDepth 100000 in
theorem lk_X12_173 : cw_LS RX12 173 mX12_word := ⟨(cw_mem (List.mem_append_right _ (List.mem_of_getElem? (i := 982) (by rfl))) rfl), (cw_mem (List.mem_append_right _ (List.mem_of_getElem? (i := 983) (by rfl))) rfl)⟩
set_option maxRecDepth 100000 in
theorem lk_X12_189 : cw_LS RX12 189 mX12_more := ⟨(cw_mem (List.mem_append_right _ (List.mem_of_getElem? (i := 985) (by rfl))) rfl), (cw_mem (List.mem_append_right _ (List.mem_of_getElem? (i := 986) (by rfl))) rfl)⟩
set_option maxRecDepth 100000 in
theorem lk_X12_180 : cw_LV RX12 180 mX12_put := ⟨(cw_mem (List.mem_append_right _ (List.mem_of_getElem? (i := 1225) (by rfl))) rfl), (cw_mem (List.mem_append_right _ (List.mem_of_getElem? (i := 1227) (by rfl))) rfl), (cw_mem (List.mem_append_left _ (List.mem_of_getElem? (i := 37) (by decide +kernel))) rfl)⟩
set_option maxRecDepth 100000 in
theorem lk_X12_239 : cw_LV RX12 239 mX12_cut := ⟨(cw_mem (List.mem_append_right _ (List.mem_of_getElem? (i := 1237) (by rfl))) rfl), (cw_mem (List.mem_append_right _ (List.mem_of_getElem? (i := 1239) (by rfl))) rfl), (cw_mem (List.mem_append_left _ (List.mem_of_getElem? (i := 38) (by decide +kernel))) rfl)⟩
set_option maxRecDepth 100000 in
theorem lk_X12_233 : cw_LV RX12 233 mX12_is := ⟨(cw_mem (List.mem_append_right _ (List.mem_of_getElem? (i := 1259) (by rfl))) rfl), (cw_mem (List.mem_append_right _ (List.mem_of_getElem? (i := 1261) (by rfl))) rfl), (cw_mem (List.mem_append_left _ (List.mem_of_getElem? (i := 42) (by decide +kernel))) rfl)⟩
set_option maxRecDepth 100000 in
theorem lk_X12_254 : cw_LV RX12 254 mX12_tellRule := ⟨(cw_mem (List.mem_append_right _ (List.mem_of_getElem? (i := 1263) (by rfl))) rfl), (cw_mem (List.mem_append_right _ (List.mem_of_getElem? (i := 1265) (by rfl))) rfl), (cw_mem (List.mem_append_left _ (List.mem_of_getElem? (i := 43) (by decide +kernel))) rfl)⟩
set_option maxRecDepth 100000 in
theorem lk_X12_196 : cw_LV RX12 196 mX12_at := ⟨(cw_mem (List.mem_append_right _ (List.mem_of_getElem? (i := 1241) (by rfl))) rfl), (cw_mem (List.mem_append_right _ (List.mem_of_getElem? (i := 1243) (by rfl))) rfl), (cw_mem (List.mem_append_left _ (List.mem_of_getElem? (i := 39) (by decide +kernel))) rfl)⟩
set_option maxRecDepth 100000 in
theorem lk_X12_200 : cw_LV RX12 200 mX12_token := ⟨(cw_mem (List.mem_append_right _ (List.mem_of_getElem? (i := 1245) (by rfl))) rfl), (cw_mem (List.mem_append_right _ (List.mem_of_getElem? (i := 1247) (by rfl))) rfl), (cw_mem (List.mem_append_left _ (List.mem_of_getElem? (i := 40) (by decide +kernel))) rfl)⟩
set_option maxRecDepth 100000 in
theorem lk_X12_204 : cw_LS RX12 204 mX12_isLetter := ⟨(cw_mem (List.mem_append_right _ (List.mem_of_getElem? (i := 1249) (by rfl))) rfl), (cw_mem (List.mem_append_right _ (List.mem_of_getElem? (i := 1250) (by rfl))) rfl)⟩
set_option maxRecDepth 100000 in
theorem lk_X12_208 : cw_LS RX12 208 mX12_isDigit := ⟨(cw_mem (List.mem_append_right _ (List.mem_of_getElem? (i := 1252) (by rfl))) rfl), (cw_mem (List.mem_append_right _ (List.mem_of_getElem? (i := 1253) (by rfl))) rfl)⟩
set_option maxRecDepth 100000 in
theorem lk_X12_211 : cw_LV RX12 211 mX12_sign := ⟨(cw_mem (List.mem_append_right _ (List.mem_of_getElem? (i := 1255) (by rfl))) rfl), (cw_mem (List.mem_append_right _ (List.mem_of_getElem? (i := 1257) (by rfl))) rfl), (cw_mem (List.mem_append_left _ (List.mem_of_getElem? (i := 41) (by decide +kernel))) rfl)⟩
set_option maxRecDepth 100000 in
theorem lk_X12_230 : cw_LV RX12 230 mX12_fail := ⟨(cw_mem (List.mem_append_right _ (List.mem_of_getElem? (i := 1267) (by rfl))) rfl), (cw_mem (List.mem_append_right _ (List.mem_of_getElem? (i := 1269) (by rfl))) rfl), (cw_mem (List.mem_append_left _ (List.mem_of_getElem? (i := 44) (by decide +kernel))) rfl)⟩
set_option maxRecDepth 100000 in
theorem lk_X12_236 : cw_LV RX12 236 mX12_next := ⟨(cw_mem (List.mem_append_right _ (List.mem_of_getElem? (i := 1271) (by rfl))) rfl), (cw_mem (List.mem_append_right _ (List.mem_of_getElem? (i := 1273) (by rfl))) rfl), (cw_mem (List.mem_append_left _ (List.mem_of_getElem? (i := 45) (by decide +kernel))) rfl)⟩
set_option maxRecDepth 100000 in
theorem lk_X12_257 : cw_LV RX12 257 mX12_must := ⟨(cw_mem (List.mem_append_right _ (List.mem_of_getElem? (i := 1275) (by rfl))) rfl), (cw_mem (List.mem_append_right _ (List.mem_of_getElem? (i := 1277) (by rfl))) rfl), (cw_mem (List.mem_append_left _ (List.mem_of_getElem? (i := 46) (by decide +kernel))) rfl)⟩
set_option maxRecDepth 100000 in
theorem lk_X12_260 : cw_LV RX12 260 mX12_wrong := ⟨(cw_mem (List.mem_append_right _ (List.mem_of_getElem? (i := 1279) (by rfl))) rfl), (cw_mem (List.mem_append_right _ (List.mem_of_getElem? (i := 1281) (by rfl))) rfl), (cw_mem (List.mem_append_left _ (List.mem_of_getElem? (i := 47) (by decide +kernel))) rfl)⟩
set_option maxRecDepth 100000 in
theorem lk_X12_264 : cw_LV RX12 264 mX12_relation := ⟨(cw_mem (List.mem_append_right _ (List.mem_of_getElem? (i := 1283) (by rfl))) rfl), (cw_mem (List.mem_append_right _ (List.mem_of_getElem? (i := 1285) (by rfl))) rfl), (cw_mem (List.mem_append_left _ (List.mem_of_getElem? (i := 48) (by decide +kernel))) rfl)⟩
set_option maxRecDepth 100000 in
theorem lk_X12_267 : cw_LV RX12 267 mX12_expression := ⟨(cw_mem (List.mem_append_right _ (List.mem_of_getElem? (i := 1287) (by rfl))) rfl), (cw_mem (List.mem_append_right _ (List.mem_of_getElem? (i := 1289) (by rfl))) rfl), (cw_mem (List.mem_append_left _ (List.mem_of_getElem? (i := 49) (by decide +kernel))) rfl)⟩
set_option maxRecDepth 100000 in
theorem lk_X12_273 : cw_LV RX12 273 mX12_emit := ⟨(cw_mem (List.mem_append_right _ (List.mem_of_getElem? (i := 1291) (by rfl))) rfl), (cw_mem (List.mem_append_right _ (List.mem_of_getElem? (i := 1293) (by rfl))) rfl), (cw_mem (List.mem_append_left _ (List.mem_of_getElem? (i := 50) (by decide +kernel))) rfl)⟩
set_option maxRecDepth 100000 in
theorem lk_X12_276 : cw_LV RX12 276 mX12_comesOut := ⟨(cw_mem (List.mem_append_right _ (List.mem_of_getElem? (i := 1295) (by rfl))) rfl), (cw_mem (List.mem_append_right _ (List.mem_of_getElem? (i := 1297) (by rfl))) rfl), (cw_mem (List.mem_append_left _ (List.mem_of_getElem? (i := 51) (by decide +kernel))) rfl)⟩
set_option maxRecDepth 100000 in
theorem lk_X12_292 : cw_LV RX12 292 mX12_isSite := ⟨(cw_mem (List.mem_append_right _ (List.mem_of_getElem? (i := 1311) (by rfl))) rfl), (cw_mem (List.mem_append_right _ (List.mem_of_getElem? (i := 1313) (by rfl))) rfl), (cw_mem (List.mem_append_left _ (List.mem_of_getElem? (i := 52) (by decide +kernel))) rfl)⟩
set_option maxRecDepth 100000 in
theorem lk_X12_298 : cw_LV RX12 298 mX12_isLand := ⟨(cw_mem (List.mem_append_right _ (List.mem_of_getElem? (i := 1319) (by rfl))) rfl), (cw_mem (List.mem_append_right _ (List.mem_of_getElem? (i := 1321) (by rfl))) rfl), (cw_mem (List.mem_append_left _ (List.mem_of_getElem? (i := 53) (by decide +kernel))) rfl)⟩
set_option maxRecDepth 100000 in
theorem lk_X12_304 : cw_LS RX12 304 mX12_isDay := ⟨(cw_mem (List.mem_append_right _ (List.mem_of_getElem? (i := 1335) (by rfl))) rfl), (cw_mem (List.mem_append_right _ (List.mem_of_getElem? (i := 1336) (by rfl))) rfl)⟩
set_option maxRecDepth 100000 in
theorem lk_X12_307 : cw_LS RX12 307 mX12_isBand := ⟨(cw_mem (List.mem_append_right _ (List.mem_of_getElem? (i := 1342) (by rfl))) rfl), (cw_mem (List.mem_append_right _ (List.mem_of_getElem? (i := 1343) (by rfl))) rfl)⟩
set_option maxRecDepth 100000 in
theorem lk_X12_310 : cw_LS RX12 310 mX12_isHour := ⟨(cw_mem (List.mem_append_right _ (List.mem_of_getElem? (i := 1345) (by rfl))) rfl), (cw_mem (List.mem_append_right _ (List.mem_of_getElem? (i := 1346) (by rfl))) rfl)⟩
set_option maxRecDepth 100000 in
theorem lk_X12_322 : cw_LV RX12 322 mX12_goes := ⟨(cw_mem (List.mem_append_right _ (List.mem_of_getElem? (i := 1356) (by rfl))) rfl), (cw_mem (List.mem_append_right _ (List.mem_of_getElem? (i := 1358) (by rfl))) rfl), (cw_mem (List.mem_append_left _ (List.mem_of_getElem? (i := 54) (by decide +kernel))) rfl)⟩
set_option maxRecDepth 100000 in
theorem lk_X12_325 : cw_LV RX12 325 mX12_far := ⟨(cw_mem (List.mem_append_right _ (List.mem_of_getElem? (i := 1360) (by rfl))) rfl), (cw_mem (List.mem_append_right _ (List.mem_of_getElem? (i := 1362) (by rfl))) rfl), (cw_mem (List.mem_append_left _ (List.mem_of_getElem? (i := 55) (by decide +kernel))) rfl)⟩
set_option maxRecDepth 100000 in
theorem lk_X12_329 : cw_LV RX12 329 mX12_sunAt := ⟨(cw_mem (List.mem_append_right _ (List.mem_of_getElem? (i := 1368) (by rfl))) rfl), (cw_mem (List.mem_append_right _ (List.mem_of_getElem? (i := 1370) (by rfl))) rfl), (cw_mem (List.mem_append_left _ (List.mem_of_getElem? (i := 56) (by decide +kernel))) rfl)⟩
set_option maxRecDepth 100000 in
theorem lk_X12_337 : cw_LV RX12 337 mX12_isKnown := ⟨(cw_mem (List.mem_append_right _ (List.mem_of_getElem? (i := 1376) (by rfl))) rfl), (cw_mem (List.mem_append_right _ (List.mem_of_getElem? (i := 1378) (by rfl))) rfl), (cw_mem (List.mem_append_left _ (List.mem_of_getElem? (i := 57) (by decide +kernel))) rfl)⟩
set_option maxRecDepth 100000 in
theorem lk_X12_340 : cw_LV RX12 340 mX12_corrected := ⟨(cw_mem (List.mem_append_right _ (List.mem_of_getElem? (i := 1380) (by rfl))) rfl), (cw_mem (List.mem_append_right _ (List.mem_of_getElem? (i := 1382) (by rfl))) rfl), (cw_mem (List.mem_append_left _ (List.mem_of_getElem? (i := 58) (by decide +kernel))) rfl)⟩
set_option maxRecDepth 100000 in
theorem lk_X12_333 : cw_LV RX12 333 mX12_toldBy := ⟨(cw_mem (List.mem_append_right _ (List.mem_of_getElem? (i := 1384) (by rfl))) rfl), (cw_mem (List.mem_append_right _ (List.mem_of_getElem? (i := 1386) (by rfl))) rfl), (cw_mem (List.mem_append_left _ (List.mem_of_getElem? (i := 59) (by decide +kernel))) rfl)⟩
set_option maxRecDepth 100000 in
theorem lk_X12_344 : cw_LV RX12 344 mX12_isAsked := ⟨(cw_mem (List.mem_append_right _ (List.mem_of_getElem? (i := 1393) (by rfl))) rfl), (cw_mem (List.mem_append_right _ (List.mem_of_getElem? (i := 1395) (by rfl))) rfl), (cw_mem (List.mem_append_left _ (List.mem_of_getElem? (i := 60) (by decide +kernel))) rfl)⟩
set_option maxRecDepth 100000 in
theorem lk_X12_348 : cw_LV RX12 348 mX12_strengthOf := ⟨(cw_mem (List.mem_append_right _ (List.mem_of_getElem? (i := 1397) (by rfl))) rfl), (cw_mem (List.mem_append_right _ (List.mem_of_getElem? (i := 1399) (by rfl))) rfl), (cw_mem (List.mem_append_left _ (List.mem_of_getElem? (i := 61) (by decide +kernel))) rfl)⟩
set_option maxRecDepth 100000 in
theorem lk_X12_365 : cw_LV RX12 365 mX12_yieldsTo := ⟨(cw_mem (List.mem_append_right _ (List.mem_of_getElem? (i := 1405) (by rfl))) rfl), (cw_mem (List.mem_append_right _ (List.mem_of_getElem? (i := 1407) (by rfl))) rfl), (cw_mem (List.mem_append_left _ (List.mem_of_getElem? (i := 62) (by decide +kernel))) rfl)⟩
set_option maxRecDepth 100000 in
theorem lk_X12_359 : cw_LV RX12 359 mX12_clashes := ⟨(cw_mem (List.mem_append_right _ (List.mem_of_getElem? (i := 1409) (by rfl))) rfl), (cw_mem (List.mem_append_right _ (List.mem_of_getElem? (i := 1411) (by rfl))) rfl), (cw_mem (List.mem_append_left _ (List.mem_of_getElem? (i := 63) (by decide +kernel))) rfl)⟩
set_option maxRecDepth 100000 in
theorem lk_X12_362 : cw_LV RX12 362 mX12_decides := ⟨(cw_mem (List.mem_append_right _ (List.mem_of_getElem? (i := 1413) (by rfl))) rfl), (cw_mem (List.mem_append_right _ (List.mem_of_getElem? (i := 1415) (by rfl))) rfl), (cw_mem (List.mem_append_left _ (List.mem_of_getElem? (i := 64) (by decide +kernel))) rfl)⟩
set_option maxRecDepth 100000 in
theorem lk_X12_356 : cw_LV RX12 356 mX12_holds := ⟨(cw_mem (List.mem_append_right _ (List.mem_of_getElem? (i := 1417) (by rfl))) rfl), (cw_mem (List.mem_append_right _ (List.mem_of_getElem? (i := 1419) (by rfl))) rfl), (cw_mem (List.mem_append_left _ (List.mem_of_getElem? (i := 65) (by decide +kernel))) rfl)⟩
set_option maxRecDepth 100000 in
theorem lk_X12_352 : cw_LV RX12 352 mX12_value := ⟨(cw_mem (List.mem_append_right _ (List.mem_of_getElem? (i := 1421) (by rfl))) rfl), (cw_mem (List.mem_append_right _ (List.mem_of_getElem? (i := 1423) (by rfl))) rfl), (cw_mem (List.mem_append_left _ (List.mem_of_getElem? (i := 66) (by decide +kernel))) rfl)⟩
set_option maxRecDepth 100000 in
theorem lk_X12_368 : cw_LV RX12 368 mX12_fits := ⟨(cw_mem (List.mem_append_right _ (List.mem_of_getElem? (i := 1433) (by rfl))) rfl), (cw_mem (List.mem_append_right _ (List.mem_of_getElem? (i := 1435) (by rfl))) rfl), (cw_mem (List.mem_append_left _ (List.mem_of_getElem? (i := 67) (by decide +kernel))) rfl)⟩
set_option maxRecDepth 100000 in
theorem lk_X12_372 : cw_LV RX12 372 mX12_lays := ⟨(cw_mem (List.mem_append_right _ (List.mem_of_getElem? (i := 1437) (by rfl))) rfl), (cw_mem (List.mem_append_right _ (List.mem_of_getElem? (i := 1439) (by rfl))) rfl), (cw_mem (List.mem_append_left _ (List.mem_of_getElem? (i := 68) (by decide +kernel))) rfl)⟩
set_option maxRecDepth 100000 in
theorem lk_L_9 : cw_LI RL 9 mX11_init := ⟨(cw_mem (List.mem_append_right _ (List.mem_of_getElem? (i := 23) (by rfl))) rfl), (cw_mem (List.mem_append_right _ (List.mem_of_getElem? (i := 24) (by rfl))) rfl)⟩
set_option maxRecDepth 100000 in
theorem lk_L_12 : cw_LI RL 12 mX12_init := ⟨(cw_mem (List.mem_append_right _ (List.mem_of_getElem? (i := 978) (by rfl))) rfl), (cw_mem (List.mem_append_right _ (List.mem_of_getElem? (i := 979) (by rfl))) rfl)⟩
set_option maxRecDepth 100000 in
theorem lk_L_13 : cw_LV RL 13 mX11_feed := ⟨(cw_mem (List.mem_append_right _ (List.mem_of_getElem? (i := 370) (by rfl))) rfl), (cw_mem (List.mem_append_right _ (List.mem_of_getElem? (i := 371) (by rfl))) rfl), (cw_mem (List.mem_append_right _ (List.mem_of_getElem? (i := 372) (by rfl))) rfl)⟩
set_option maxRecDepth 100000 in
theorem lk_L_17 : cw_LV RL 17 mX12_feed := ⟨(cw_mem (List.mem_append_right _ (List.mem_of_getElem? (i := 1221) (by rfl))) rfl), (cw_mem (List.mem_append_right _ (List.mem_of_getElem? (i := 1222) (by rfl))) rfl), (cw_mem (List.mem_append_right _ (List.mem_of_getElem? (i := 1223) (by rfl))) rfl)⟩
set_option maxRecDepth 100000 in
theorem lk_L_18 : cw_LV RL 18 mX11_back := ⟨(cw_mem (List.mem_append_right _ (List.mem_of_getElem? (i := 378) (by rfl))) rfl), (cw_mem (List.mem_append_right _ (List.mem_of_getElem? (i := 379) (by rfl))) rfl), (cw_mem (List.mem_append_right _ (List.mem_of_getElem? (i := 380) (by rfl))) rfl)⟩
set_option maxRecDepth 100000 in
theorem lk_L_22 : cw_LV RL 22 mX12_back := ⟨(cw_mem (List.mem_append_right _ (List.mem_of_getElem? (i := 1229) (by rfl))) rfl), (cw_mem (List.mem_append_right _ (List.mem_of_getElem? (i := 1230) (by rfl))) rfl), (cw_mem (List.mem_append_right _ (List.mem_of_getElem? (i := 1231) (by rfl))) rfl)⟩
set_option maxRecDepth 100000 in
theorem lk_L_23 : cw_LV RL 23 mX11_read := ⟨(cw_mem (List.mem_append_right _ (List.mem_of_getElem? (i := 382) (by rfl))) rfl), (cw_mem (List.mem_append_right _ (List.mem_of_getElem? (i := 383) (by rfl))) rfl), (cw_mem (List.mem_append_right _ (List.mem_of_getElem? (i := 384) (by rfl))) rfl)⟩
set_option maxRecDepth 100000 in
theorem lk_L_27 : cw_LV RL 27 mX12_read := ⟨(cw_mem (List.mem_append_right _ (List.mem_of_getElem? (i := 1233) (by rfl))) rfl), (cw_mem (List.mem_append_right _ (List.mem_of_getElem? (i := 1234) (by rfl))) rfl), (cw_mem (List.mem_append_right _ (List.mem_of_getElem? (i := 1235) (by rfl))) rfl)⟩
set_option maxRecDepth 100000 in
theorem lk_L_28 : cw_LV RL 28 mX11_place := ⟨(cw_mem (List.mem_append_right _ (List.mem_of_getElem? (i := 551) (by rfl))) rfl), (cw_mem (List.mem_append_right _ (List.mem_of_getElem? (i := 552) (by rfl))) rfl), (cw_mem (List.mem_append_right _ (List.mem_of_getElem? (i := 553) (by rfl))) rfl)⟩
set_option maxRecDepth 100000 in
theorem lk_L_31 : cw_LV RL 31 mX12_place := ⟨(cw_mem (List.mem_append_right _ (List.mem_of_getElem? (i := 1299) (by rfl))) rfl), (cw_mem (List.mem_append_right _ (List.mem_of_getElem? (i := 1300) (by rfl))) rfl), (cw_mem (List.mem_append_right _ (List.mem_of_getElem? (i := 1301) (by rfl))) rfl)⟩
set_option maxRecDepth 100000 in
theorem lk_L_32 : cw_LV RL 32 mX11_ground := ⟨(cw_mem (List.mem_append_right _ (List.mem_of_getElem? (i := 555) (by rfl))) rfl), (cw_mem (List.mem_append_right _ (List.mem_of_getElem? (i := 556) (by rfl))) rfl), (cw_mem (List.mem_append_right _ (List.mem_of_getElem? (i := 557) (by rfl))) rfl)⟩
set_option maxRecDepth 100000 in
theorem lk_L_36 : cw_LV RL 36 mX12_ground := ⟨(cw_mem (List.mem_append_right _ (List.mem_of_getElem? (i := 1303) (by rfl))) rfl), (cw_mem (List.mem_append_right _ (List.mem_of_getElem? (i := 1304) (by rfl))) rfl), (cw_mem (List.mem_append_right _ (List.mem_of_getElem? (i := 1305) (by rfl))) rfl)⟩
set_option maxRecDepth 100000 in
theorem lk_L_37 : cw_LV RL 37 mX11_mast := ⟨(cw_mem (List.mem_append_right _ (List.mem_of_getElem? (i := 563) (by rfl))) rfl), (cw_mem (List.mem_append_right _ (List.mem_of_getElem? (i := 564) (by rfl))) rfl), (cw_mem (List.mem_append_right _ (List.mem_of_getElem? (i := 565) (by rfl))) rfl)⟩
set_option maxRecDepth 100000 in
theorem lk_L_41 : cw_LV RL 41 mX12_mast := ⟨(cw_mem (List.mem_append_right _ (List.mem_of_getElem? (i := 1307) (by rfl))) rfl), (cw_mem (List.mem_append_right _ (List.mem_of_getElem? (i := 1308) (by rfl))) rfl), (cw_mem (List.mem_append_right _ (List.mem_of_getElem? (i := 1309) (by rfl))) rfl)⟩
set_option maxRecDepth 100000 in
theorem lk_L_42 : cw_LV RL 42 mX11_programme := ⟨(cw_mem (List.mem_append_right _ (List.mem_of_getElem? (i := 575) (by rfl))) rfl), (cw_mem (List.mem_append_right _ (List.mem_of_getElem? (i := 576) (by rfl))) rfl), (cw_mem (List.mem_append_right _ (List.mem_of_getElem? (i := 577) (by rfl))) rfl)⟩
set_option maxRecDepth 100000 in
theorem lk_L_45 : cw_LV RL 45 mX12_programme := ⟨(cw_mem (List.mem_append_right _ (List.mem_of_getElem? (i := 1315) (by rfl))) rfl), (cw_mem (List.mem_append_right _ (List.mem_of_getElem? (i := 1316) (by rfl))) rfl), (cw_mem (List.mem_append_right _ (List.mem_of_getElem? (i := 1317) (by rfl))) rfl)⟩
set_option maxRecDepth 100000 in
theorem lk_L_46 : cw_LV RL 46 mX11_sheet := ⟨(cw_mem (List.mem_append_right _ (List.mem_of_getElem? (i := 586) (by rfl))) rfl), (cw_mem (List.mem_append_right _ (List.mem_of_getElem? (i := 587) (by rfl))) rfl), (cw_mem (List.mem_append_right _ (List.mem_of_getElem? (i := 588) (by rfl))) rfl)⟩
set_option maxRecDepth 100000 in
theorem lk_L_50 : cw_LV RL 50 mX12_sheet := ⟨(cw_mem (List.mem_append_right _ (List.mem_of_getElem? (i := 1323) (by rfl))) rfl), (cw_mem (List.mem_append_right _ (List.mem_of_getElem? (i := 1324) (by rfl))) rfl), (cw_mem (List.mem_append_right _ (List.mem_of_getElem? (i := 1325) (by rfl))) rfl)⟩
set_option maxRecDepth 100000 in
theorem lk_L_51 : cw_LV RL 51 mX11_cell := ⟨(cw_mem (List.mem_append_right _ (List.mem_of_getElem? (i := 595) (by rfl))) rfl), (cw_mem (List.mem_append_right _ (List.mem_of_getElem? (i := 596) (by rfl))) rfl), (cw_mem (List.mem_append_right _ (List.mem_of_getElem? (i := 597) (by rfl))) rfl)⟩
set_option maxRecDepth 100000 in
theorem lk_L_55 : cw_LV RL 55 mX12_cell := ⟨(cw_mem (List.mem_append_right _ (List.mem_of_getElem? (i := 1327) (by rfl))) rfl), (cw_mem (List.mem_append_right _ (List.mem_of_getElem? (i := 1328) (by rfl))) rfl), (cw_mem (List.mem_append_right _ (List.mem_of_getElem? (i := 1329) (by rfl))) rfl)⟩
set_option maxRecDepth 100000 in
theorem lk_L_56 : cw_LV RL 56 mX11_clock := ⟨(cw_mem (List.mem_append_right _ (List.mem_of_getElem? (i := 610) (by rfl))) rfl), (cw_mem (List.mem_append_right _ (List.mem_of_getElem? (i := 611) (by rfl))) rfl), (cw_mem (List.mem_append_right _ (List.mem_of_getElem? (i := 612) (by rfl))) rfl)⟩
set_option maxRecDepth 100000 in
theorem lk_L_60 : cw_LV RL 60 mX12_clock := ⟨(cw_mem (List.mem_append_right _ (List.mem_of_getElem? (i := 1331) (by rfl))) rfl), (cw_mem (List.mem_append_right _ (List.mem_of_getElem? (i := 1332) (by rfl))) rfl), (cw_mem (List.mem_append_right _ (List.mem_of_getElem? (i := 1333) (by rfl))) rfl)⟩
set_option maxRecDepth 100000 in
theorem lk_L_61 : cw_LV RL 61 mX11_report := ⟨(cw_mem (List.mem_append_right _ (List.mem_of_getElem? (i := 614) (by rfl))) rfl), (cw_mem (List.mem_append_right _ (List.mem_of_getElem? (i := 615) (by rfl))) rfl), (cw_mem (List.mem_append_right _ (List.mem_of_getElem? (i := 616) (by rfl))) rfl)⟩
set_option maxRecDepth 100000 in
theorem lk_L_64 : cw_LV RL 64 mX12_report := ⟨(cw_mem (List.mem_append_right _ (List.mem_of_getElem? (i := 1338) (by rfl))) rfl), (cw_mem (List.mem_append_right _ (List.mem_of_getElem? (i := 1339) (by rfl))) rfl), (cw_mem (List.mem_append_right _ (List.mem_of_getElem? (i := 1340) (by rfl))) rfl)⟩
set_option maxRecDepth 100000 in
theorem lk_L_65 : cw_LV RL 65 mX11_notice := ⟨(cw_mem (List.mem_append_right _ (List.mem_of_getElem? (i := 636) (by rfl))) rfl), (cw_mem (List.mem_append_right _ (List.mem_of_getElem? (i := 637) (by rfl))) rfl), (cw_mem (List.mem_append_right _ (List.mem_of_getElem? (i := 638) (by rfl))) rfl)⟩
set_option maxRecDepth 100000 in
theorem lk_L_68 : cw_LV RL 68 mX12_notice := ⟨(cw_mem (List.mem_append_right _ (List.mem_of_getElem? (i := 1348) (by rfl))) rfl), (cw_mem (List.mem_append_right _ (List.mem_of_getElem? (i := 1349) (by rfl))) rfl), (cw_mem (List.mem_append_right _ (List.mem_of_getElem? (i := 1350) (by rfl))) rfl)⟩
set_option maxRecDepth 100000 in
theorem lk_L_69 : cw_LV RL 69 mX11_way := ⟨(cw_mem (List.mem_append_right _ (List.mem_of_getElem? (i := 647) (by rfl))) rfl), (cw_mem (List.mem_append_right _ (List.mem_of_getElem? (i := 648) (by rfl))) rfl), (cw_mem (List.mem_append_right _ (List.mem_of_getElem? (i := 649) (by rfl))) rfl)⟩
set_option maxRecDepth 100000 in
theorem lk_L_72 : cw_LV RL 72 mX12_way := ⟨(cw_mem (List.mem_append_right _ (List.mem_of_getElem? (i := 1352) (by rfl))) rfl), (cw_mem (List.mem_append_right _ (List.mem_of_getElem? (i := 1353) (by rfl))) rfl), (cw_mem (List.mem_append_right _ (List.mem_of_getElem? (i := 1354) (by rfl))) rfl)⟩
set_option maxRecDepth 100000 in
theorem lk_L_73 : cw_LV RL 73 mX11_sun := ⟨(cw_mem (List.mem_append_right _ (List.mem_of_getElem? (i := 685) (by rfl))) rfl), (cw_mem (List.mem_append_right _ (List.mem_of_getElem? (i := 686) (by rfl))) rfl), (cw_mem (List.mem_append_right _ (List.mem_of_getElem? (i := 687) (by rfl))) rfl)⟩
set_option maxRecDepth 100000 in
theorem lk_L_77 : cw_LV RL 77 mX12_sun := ⟨(cw_mem (List.mem_append_right _ (List.mem_of_getElem? (i := 1364) (by rfl))) rfl), (cw_mem (List.mem_append_right _ (List.mem_of_getElem? (i := 1365) (by rfl))) rfl), (cw_mem (List.mem_append_right _ (List.mem_of_getElem? (i := 1366) (by rfl))) rfl)⟩
set_option maxRecDepth 100000 in
theorem lk_L_78 : cw_LV RL 78 mX11_correction := ⟨(cw_mem (List.mem_append_right _ (List.mem_of_getElem? (i := 699) (by rfl))) rfl), (cw_mem (List.mem_append_right _ (List.mem_of_getElem? (i := 700) (by rfl))) rfl), (cw_mem (List.mem_append_right _ (List.mem_of_getElem? (i := 701) (by rfl))) rfl)⟩
set_option maxRecDepth 100000 in
theorem lk_L_82 : cw_LV RL 82 mX12_correction := ⟨(cw_mem (List.mem_append_right _ (List.mem_of_getElem? (i := 1372) (by rfl))) rfl), (cw_mem (List.mem_append_right _ (List.mem_of_getElem? (i := 1373) (by rfl))) rfl), (cw_mem (List.mem_append_right _ (List.mem_of_getElem? (i := 1374) (by rfl))) rfl)⟩
set_option maxRecDepth 100000 in
theorem lk_L_83 : cw_LV RL 83 mX11_strength := ⟨(cw_mem (List.mem_append_right _ (List.mem_of_getElem? (i := 776) (by rfl))) rfl), (cw_mem (List.mem_append_right _ (List.mem_of_getElem? (i := 777) (by rfl))) rfl), (cw_mem (List.mem_append_right _ (List.mem_of_getElem? (i := 778) (by rfl))) rfl)⟩
set_option maxRecDepth 100000 in
theorem lk_L_87 : cw_LV RL 87 mX12_strength := ⟨(cw_mem (List.mem_append_right _ (List.mem_of_getElem? (i := 1389) (by rfl))) rfl), (cw_mem (List.mem_append_right _ (List.mem_of_getElem? (i := 1390) (by rfl))) rfl), (cw_mem (List.mem_append_right _ (List.mem_of_getElem? (i := 1391) (by rfl))) rfl)⟩
set_option maxRecDepth 100000 in
theorem lk_L_88 : cw_LV RL 88 mX11_yields := ⟨(cw_mem (List.mem_append_right _ (List.mem_of_getElem? (i := 800) (by rfl))) rfl), (cw_mem (List.mem_append_right _ (List.mem_of_getElem? (i := 801) (by rfl))) rfl), (cw_mem (List.mem_append_right _ (List.mem_of_getElem? (i := 802) (by rfl))) rfl)⟩
set_option maxRecDepth 100000 in
theorem lk_L_91 : cw_LV RL 91 mX12_yields := ⟨(cw_mem (List.mem_append_right _ (List.mem_of_getElem? (i := 1401) (by rfl))) rfl), (cw_mem (List.mem_append_right _ (List.mem_of_getElem? (i := 1402) (by rfl))) rfl), (cw_mem (List.mem_append_right _ (List.mem_of_getElem? (i := 1403) (by rfl))) rfl)⟩
set_option maxRecDepth 100000 in
theorem lk_L_92 : cw_LV RL 92 mX11_rule := ⟨(cw_mem (List.mem_append_right _ (List.mem_of_getElem? (i := 849) (by rfl))) rfl), (cw_mem (List.mem_append_right _ (List.mem_of_getElem? (i := 850) (by rfl))) rfl), (cw_mem (List.mem_append_right _ (List.mem_of_getElem? (i := 851) (by rfl))) rfl)⟩
set_option maxRecDepth 100000 in
theorem lk_L_95 : cw_LV RL 95 mX12_rule := ⟨(cw_mem (List.mem_append_right _ (List.mem_of_getElem? (i := 1425) (by rfl))) rfl), (cw_mem (List.mem_append_right _ (List.mem_of_getElem? (i := 1426) (by rfl))) rfl), (cw_mem (List.mem_append_right _ (List.mem_of_getElem? (i := 1427) (by rfl))) rfl)⟩
set_option maxRecDepth 100000 in
theorem lk_L_96 : cw_LV RL 96 mX11_schedule := ⟨(cw_mem (List.mem_append_right _ (List.mem_of_getElem? (i := 853) (by rfl))) rfl), (cw_mem (List.mem_append_right _ (List.mem_of_getElem? (i := 854) (by rfl))) rfl), (cw_mem (List.mem_append_right _ (List.mem_of_getElem? (i := 855) (by rfl))) rfl)⟩
set_option maxRecDepth 100000 in
theorem lk_L_99 : cw_LV RL 99 mX12_schedule := ⟨(cw_mem (List.mem_append_right _ (List.mem_of_getElem? (i := 1429) (by rfl))) rfl), (cw_mem (List.mem_append_right _ (List.mem_of_getElem? (i := 1430) (by rfl))) rfl), (cw_mem (List.mem_append_right _ (List.mem_of_getElem? (i := 1431) (by rfl))) rfl)⟩
set_option maxRecDepth 100000 in
theorem lk_L_100 : cw_LV RL 100 mX11_slot := ⟨(cw_mem (List.mem_append_right _ (List.mem_of_getElem? (i := 944) (by rfl))) rfl), (cw_mem (List.mem_append_right _ (List.mem_of_getElem? (i := 945) (by rfl))) rfl), (cw_mem (List.mem_append_right _ (List.mem_of_getElem? (i := 946) (by rfl))) rfl)⟩
set_option maxRecDepth 100000 in
theorem lk_L_103 : cw_LV RL 103 mX12_slot := ⟨(cw_mem (List.mem_append_right _ (List.mem_of_getElem? (i := 1441) (by rfl))) rfl), (cw_mem (List.mem_append_right _ (List.mem_of_getElem? (i := 1442) (by rfl))) rfl), (cw_mem (List.mem_append_right _ (List.mem_of_getElem? (i := 1443) (by rfl))) rfl)⟩
set_option maxRecDepth 100000 in
theorem lk_L_104 : cw_LV RL 104 mX11_listeners := ⟨(cw_mem (List.mem_append_right _ (List.mem_of_getElem? (i := 968) (by rfl))) rfl), (cw_mem (List.mem_append_right _ (List.mem_of_getElem? (i := 969) (by rfl))) rfl), (cw_mem (List.mem_append_right _ (List.mem_of_getElem? (i := 970) (by rfl))) rfl)⟩
set_option maxRecDepth 100000 in
theorem lk_L_107 : cw_LV RL 107 mX12_listeners := ⟨(cw_mem (List.mem_append_right _ (List.mem_of_getElem? (i := 1445) (by rfl))) rfl), (cw_mem (List.mem_append_right _ (List.mem_of_getElem? (i := 1446) (by rfl))) rfl), (cw_mem (List.mem_append_right _ (List.mem_of_getElem? (i := 1447) (by rfl))) rfl)⟩
set_option maxRecDepth 100000 in
theorem lk_L_108 : cw_LV RL 108 mX11_count := ⟨(cw_mem (List.mem_append_right _ (List.mem_of_getElem? (i := 972) (by rfl))) rfl), (cw_mem (List.mem_append_right _ (List.mem_of_getElem? (i := 973) (by rfl))) rfl), (cw_mem (List.mem_append_right _ (List.mem_of_getElem? (i := 974) (by rfl))) rfl)⟩
set_option maxRecDepth 100000 in
theorem lk_L_111 : cw_LV RL 111 mX12_count := ⟨(cw_mem (List.mem_append_right _ (List.mem_of_getElem? (i := 1449) (by rfl))) rfl), (cw_mem (List.mem_append_right _ (List.mem_of_getElem? (i := 1450) (by rfl))) rfl), (cw_mem (List.mem_append_right _ (List.mem_of_getElem? (i := 1451) (by rfl))) rfl)⟩
set_option maxRecDepth 100000 in
theorem ob_i : Cond.instanceMethod Lib.objectInit ∈ cw_tbl := (cw_mem (List.mem_append_right _ (List.mem_of_getElem? (i := 27) (by rfl))) rfl)
set_option maxRecDepth 100000 in
theorem ob_c : Cond.code Lib.objectInit ⟨#[0xb1]⟩ 1 none ∈ cw_tbl := (cw_mem (List.mem_append_right _ (List.mem_of_getElem? (i := 28) (by rfl))) rfl)
set_option maxRecDepth 100000 in
theorem cl_X11_7 : Cond.classLink RX11 7 RX9 ∈ cw_tbl := (cw_mem (List.mem_append_right _ (List.mem_of_getElem? (i := 29) (by rfl))) rfl)
set_option maxRecDepth 100000 in
theorem cl_X11_21 : Cond.classLink RX11 21 RX2 ∈ cw_tbl := (cw_mem (List.mem_append_right _ (List.mem_of_getElem? (i := 50) (by rfl))) rfl)
set_option maxRecDepth 100000 in
theorem cl_X11_28 : Cond.classLink RX11 28 RX6 ∈ cw_tbl := (cw_mem (List.mem_append_right _ (List.mem_of_getElem? (i := 67) (by rfl))) rfl)
set_option maxRecDepth 100000 in
theorem cl_X11_35 : Cond.classLink RX11 35 RX8 ∈ cw_tbl := (cw_mem (List.mem_append_right _ (List.mem_of_getElem? (i := 87) (by rfl))) rfl)
set_option maxRecDepth 100000 in
theorem cl_X11_42 : Cond.classLink RX11 42 RX1 ∈ cw_tbl := (cw_mem (List.mem_append_right _ (List.mem_of_getElem? (i := 101) (by rfl))) rfl)
set_option maxRecDepth 100000 in
theorem cl_X11_49 : Cond.classLink RX11 49 RX0 ∈ cw_tbl := (cw_mem (List.mem_append_right _ (List.mem_of_getElem? (i := 139) (by rfl))) rfl)
set_option maxRecDepth 100000 in
theorem cl_X11_60 : Cond.classLink RX11 60 RX4 ∈ cw_tbl := (cw_mem (List.mem_append_right _ (List.mem_of_getElem? (i := 152) (by rfl))) rfl)
set_option maxRecDepth 100000 in
theorem cl_X11_71 : Cond.classLink RX11 71 RX3 ∈ cw_tbl := (cw_mem (List.mem_append_right _ (List.mem_of_getElem? (i := 262) (by rfl))) rfl)
set_option maxRecDepth 100000 in
theorem cl_X11_78 : Cond.classLink RX11 78 RX5 ∈ cw_tbl := (cw_mem (List.mem_append_right _ (List.mem_of_getElem? (i := 290) (by rfl))) rfl)
set_option maxRecDepth 100000 in
theorem cl_X11_85 : Cond.classLink RX11 85 RX10 ∈ cw_tbl := (cw_mem (List.mem_append_right _ (List.mem_of_getElem? (i := 322) (by rfl))) rfl)
set_option maxRecDepth 100000 in
theorem cl_X4_9 : Cond.classLink RX4 9 RX7 ∈ cw_tbl := (cw_mem (List.mem_append_right _ (List.mem_of_getElem? (i := 158) (by rfl))) rfl)
set_option maxRecDepth 100000 in
theorem cl_X4_22 : Cond.classLink RX4 22 RX10 ∈ cw_tbl := (cw_mem (List.mem_append_right _ (List.mem_of_getElem? (i := 187) (by rfl))) rfl)
set_option maxRecDepth 100000 in
theorem cl_L_7 : Cond.classLink RL 7 RX11 ∈ cw_tbl := (cw_mem (List.mem_append_right _ (List.mem_of_getElem? (i := 21) (by rfl))) rfl)
set_option maxRecDepth 100000 in
theorem cl_L_10 : Cond.classLink RL 10 RX12 ∈ cw_tbl := (cw_mem (List.mem_append_right _ (List.mem_of_getElem? (i := 976) (by rfl))) rfl)
set_option maxRecDepth 100000 in
theorem ci_0 : Cond.instantiable RX0 2 ∈ cw_tbl := (cw_mem (List.mem_append_right _ (List.mem_of_getElem? (i := 140) (by rfl))) rfl)
set_option maxRecDepth 100000 in
theorem cn_0 : Cond.initialized RX0 ∈ cw_tbl := (cw_mem (List.mem_append_right _ (List.mem_of_getElem? (i := 7) (by rfl))) rfl)
set_option maxRecDepth 100000 in
theorem ci_1 : Cond.instantiable RX1 10 ∈ cw_tbl := (cw_mem (List.mem_append_right _ (List.mem_of_getElem? (i := 102) (by rfl))) rfl)
set_option maxRecDepth 100000 in
theorem cn_1 : Cond.initialized RX1 ∈ cw_tbl := (cw_mem (List.mem_append_right _ (List.mem_of_getElem? (i := 6) (by rfl))) rfl)
set_option maxRecDepth 100000 in
theorem ci_2 : Cond.instantiable RX2 3 ∈ cw_tbl := (cw_mem (List.mem_append_right _ (List.mem_of_getElem? (i := 51) (by rfl))) rfl)
set_option maxRecDepth 100000 in
theorem cn_2 : Cond.initialized RX2 ∈ cw_tbl := (cw_mem (List.mem_append_right _ (List.mem_of_getElem? (i := 3) (by rfl))) rfl)
set_option maxRecDepth 100000 in
theorem ci_3 : Cond.instantiable RX3 7 ∈ cw_tbl := (cw_mem (List.mem_append_right _ (List.mem_of_getElem? (i := 263) (by rfl))) rfl)
set_option maxRecDepth 100000 in
theorem cn_3 : Cond.initialized RX3 ∈ cw_tbl := (cw_mem (List.mem_append_right _ (List.mem_of_getElem? (i := 11) (by rfl))) rfl)
set_option maxRecDepth 100000 in
theorem ci_4 : Cond.instantiable RX4 12 ∈ cw_tbl := (cw_mem (List.mem_append_right _ (List.mem_of_getElem? (i := 153) (by rfl))) rfl)
set_option maxRecDepth 100000 in
theorem cn_4 : Cond.initialized RX4 ∈ cw_tbl := (cw_mem (List.mem_append_right _ (List.mem_of_getElem? (i := 8) (by rfl))) rfl)
set_option maxRecDepth 100000 in
theorem ci_5 : Cond.instantiable RX5 8 ∈ cw_tbl := (cw_mem (List.mem_append_right _ (List.mem_of_getElem? (i := 291) (by rfl))) rfl)
set_option maxRecDepth 100000 in
theorem cn_5 : Cond.initialized RX5 ∈ cw_tbl := (cw_mem (List.mem_append_right _ (List.mem_of_getElem? (i := 12) (by rfl))) rfl)
set_option maxRecDepth 100000 in
theorem ci_6 : Cond.instantiable RX6 4 ∈ cw_tbl := (cw_mem (List.mem_append_right _ (List.mem_of_getElem? (i := 68) (by rfl))) rfl)
set_option maxRecDepth 100000 in
theorem cn_6 : Cond.initialized RX6 ∈ cw_tbl := (cw_mem (List.mem_append_right _ (List.mem_of_getElem? (i := 4) (by rfl))) rfl)
set_option maxRecDepth 100000 in
theorem ci_7 : Cond.instantiable RX7 6 ∈ cw_tbl := (cw_mem (List.mem_append_right _ (List.mem_of_getElem? (i := 159) (by rfl))) rfl)
set_option maxRecDepth 100000 in
theorem cn_7 : Cond.initialized RX7 ∈ cw_tbl := (cw_mem (List.mem_append_right _ (List.mem_of_getElem? (i := 9) (by rfl))) rfl)
set_option maxRecDepth 100000 in
theorem ci_8 : Cond.instantiable RX8 2 ∈ cw_tbl := (cw_mem (List.mem_append_right _ (List.mem_of_getElem? (i := 88) (by rfl))) rfl)
set_option maxRecDepth 100000 in
theorem cn_8 : Cond.initialized RX8 ∈ cw_tbl := (cw_mem (List.mem_append_right _ (List.mem_of_getElem? (i := 5) (by rfl))) rfl)
set_option maxRecDepth 100000 in
theorem ci_9 : Cond.instantiable RX9 4 ∈ cw_tbl := (cw_mem (List.mem_append_right _ (List.mem_of_getElem? (i := 30) (by rfl))) rfl)
set_option maxRecDepth 100000 in
theorem cn_9 : Cond.initialized RX9 ∈ cw_tbl := (cw_mem (List.mem_append_right _ (List.mem_of_getElem? (i := 2) (by rfl))) rfl)
set_option maxRecDepth 100000 in
theorem ci_10 : Cond.instantiable RX10 9 ∈ cw_tbl := (cw_mem (List.mem_append_right _ (List.mem_of_getElem? (i := 188) (by rfl))) rfl)
set_option maxRecDepth 100000 in
theorem cn_10 : Cond.initialized RX10 ∈ cw_tbl := (cw_mem (List.mem_append_right _ (List.mem_of_getElem? (i := 10) (by rfl))) rfl)
set_option maxRecDepth 100000 in
theorem ci_11 : Cond.instantiable RX11 15 ∈ cw_tbl := (cw_mem (List.mem_append_right _ (List.mem_of_getElem? (i := 22) (by rfl))) rfl)
set_option maxRecDepth 100000 in
theorem cn_11 : Cond.initialized RX11 ∈ cw_tbl := (cw_mem (List.mem_append_right _ (List.mem_of_getElem? (i := 1) (by rfl))) rfl)
set_option maxRecDepth 100000 in
theorem ci_12 : Cond.instantiable RX12 77 ∈ cw_tbl := (cw_mem (List.mem_append_right _ (List.mem_of_getElem? (i := 977) (by rfl))) rfl)
set_option maxRecDepth 100000 in
theorem cn_12 : Cond.initialized RX12 ∈ cw_tbl := (cw_mem (List.mem_append_right _ (List.mem_of_getElem? (i := 13) (by rfl))) rfl)
set_option maxRecDepth 100000 in
theorem ac_byte : Cond.arrayClass .byte ∈ cw_tbl := (cw_mem (List.mem_append_right _ (List.mem_of_getElem? (i := 186) (by rfl))) rfl)
set_option maxRecDepth 100000 in
theorem ac_int : Cond.arrayClass .int ∈ cw_tbl := (cw_mem (List.mem_append_right _ (List.mem_of_getElem? (i := 49) (by rfl))) rfl)
set_option maxRecDepth 100000 in
theorem ac_long : Cond.arrayClass .long ∈ cw_tbl := (cw_mem (List.mem_append_right _ (List.mem_of_getElem? (i := 1220) (by rfl))) rfl)
set_option maxRecDepth 100000 in
theorem ac_short : Cond.arrayClass .short ∈ cw_tbl := (cw_mem (List.mem_append_right _ (List.mem_of_getElem? (i := 100) (by rfl))) rfl)
set_option maxRecDepth 100000 in
theorem ac_boolean : Cond.arrayClass .boolean ∈ cw_tbl := (cw_mem (List.mem_append_right _ (List.mem_of_getElem? (i := 223) (by rfl))) rfl)
set_option maxRecDepth 100000 in
theorem ks_X11_182 : Cond.constant RX11 182 (-1000000) ∈ cw_tbl := (cw_mem (List.mem_append_right _ (List.mem_of_getElem? (i := 707) (by rfl))) rfl)
set_option maxRecDepth 100000 in
theorem ks_X8_29 : Cond.constant RX8 29 (-1000000) ∈ cw_tbl := (cw_mem (List.mem_append_right _ (List.mem_of_getElem? (i := 757) (by rfl))) rfl)
set_option maxRecDepth 100000 in
theorem ks_X12_187 : Cond.constantLong RX12 187 (27) ∈ cw_tbl := (cw_mem (List.mem_append_right _ (List.mem_of_getElem? (i := 988) (by rfl))) rfl)
set_option maxRecDepth 100000 in
theorem ks_X12_332 : Cond.constant RX12 332 (-1000000) ∈ cw_tbl := (cw_mem (List.mem_append_right _ (List.mem_of_getElem? (i := 1388) (by rfl))) rfl)
def cw_Kt : List (Nat × Nat) := [(11, 0), (9, 0), (14, 8), (14, 8), (14, 8), (9, 0), (14, 4), (14, 4), (14, 4), (2, 0), (14, 6), (14, 6), (6, 0), (14, 10), (14, 10), (14, 10), (8, 0), (16, 1080), (14, 4), (1, 0), (14, 300), (14, 300), (14, 300), (14, 300), (14, 300), (14, 300), (14, 300), (14, 1800), (14, 6), (0, 0), (14, 192), (14, 192), (13, 2000), (4, 0), (7, 0), (13, 0), (14, 22), (10, 0), (17, 20), (14, 20), (14, 20), (14, 20), (14, 400), (14, 400), (14, 16), (14, 8), (3, 0), (14, 60), (14, 60), (14, 60), (14, 10), (14, 10), (14, 704), (5, 0), (14, 240), (14, 240), (14, 240), (14, 240), (14, 144), (14, 24), (10, 0), (17, 20), (14, 20), (14, 20), (14, 20), (14, 400), (14, 400), (14, 16), (12, 0), (13, 2000), (13, 2000), (14, 403), (14, 403), (14, 403), (15, 403), (15, 15), (14, 2), (17, 40), (14, 40), (14, 40), (14, 42), (14, 2), (14, 400), (14, 400), (14, 400), (14, 400), (14, 1000), (14, 1000), (14, 48), (14, 12), (14, 12), (14, 8), (14, 6), (14, 6), (14, 10), (14, 10), (14, 10), (14, 4), (14, 1080), (17, 300), (14, 300), (14, 300), (14, 300), (14, 300), (14, 300), (14, 300), (14, 300), (14, 8), (14, 500), (14, 240), (14, 240), (14, 240), (14, 240), (14, 24), (14, 60), (14, 60), (14, 60), (14, 6), (14, 704), (14, 704)]
def cw_K0 (c : Nat) : Nat × Nat := cw_Kt.getD c (0, 0)
def cw_tr (t : Bool × Bool) : Nat := if t.1 then 37 else 60
def cw_dr (t : Bool × Bool) : Nat := if t.1 then 60 else 37
def cw_sx (t : Bool × Bool) : Nat := if t.2 then 32 else 35
def cw_Rt (t : Bool × Bool) : List (List (Option Nat)) := [[some 1, some 5, some 9, some 12, some 16, some 19, some 29, some 32, some 33, some 45, some 46, some 53, some (cw_tr t), none, none], [some 2, some 3, some 4, none], [], [], [], [some 6, some 7, some 8, none], [], [], [], [some 10, some 11, none], [], [], [some 13, some 14, some 15, none], [], [], [], [some 17, some 18], [], [], [some 20, some 21, some 22, some 23, some 24, some 25, some 26, some 27, some 28, none], [], [], [], [], [], [], [], [], [], [some 30, some 31], [], [], [], [some 34, some 36, some (cw_dr t), none, none, none, none, none, none, none, none, none], [some (cw_sx t), none, none, none, none, none], [], [], [some 38, some 39, some 40, some 41, some 42, some 43, some 44, none, none], [], [], [], [], [], [], [], [], [some 47, some 48, some 49, some 50, some 51, none, some 52], [], [], [], [], [], [], [some 54, some 55, some 56, some 57, some 58, some 59, none, none], [], [], [], [], [], [], [some 61, some 62, some 63, some 64, some 65, some 66, some 67, none, none], [], [], [], [], [], [], [], [none, some 69, none, some 70, none, some 71, some 72, some 73, some 74, some 75, none, none, none, none, none, none, none, none, none, none, some 76, some 77, some 78, some 79, some 80, some 81, some 82, some 83, some 84, some 85, none, some 86, some 87, some 88, none, none, none, some 89, some 90, some 91, none, some 92, some 93, none, some 94, some 95, some 96, some 97, some 98, none, none, some 99, some 100, some 101, some 102, some 103, some 104, some 105, some 106, none, none, none, some 107, some 108, none, none, some 109, some 110, some 111, some 112, some 113, some 114, some 115, some 116, some 117, some 118, some 119]]
def cw_R0 (t : Bool × Bool) (c k : Nat) : Option Nat := ((cw_Rt t).getD c []).getD k none
def cw_mk (g : cw_G) (I : Nat → Nat → Int32) (t : Bool × Bool) : Nat → Nat → Value := fun c k => match cw_R0 t c k with
  | some d => .ref (cw_z g + d)
  | none => .int (I c k)
abbrev hp (g : cw_G) (I A : Nat → Nat → Int32) (J : Nat → Nat → Int64) (t : Bool × Bool) : cw_H := (120, cw_K0, cw_mk g I t, A, J)
