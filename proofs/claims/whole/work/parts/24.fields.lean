set_option maxRecDepth 100000 in
theorem kc_0 : cw_KC 0 RX0 TX0 2 tyX0 := ⟨rfl, by decide, fun w hw => by
  obtain ⟨k, hk, rfl⟩ := List.mem_map.mp hw
  have hk := List.mem_range.mp hk
  have h : ∀ k, k < 2 → tables_1[([147, 149] : List Nat).getD k 0]? = some (u_lay RX0 TX0 k) := by decide +kernel
  exact cw_mem (List.mem_append_right _ (List.mem_of_getElem? (h k hk))) (by unfold u_lay; split <;> rfl), tyX0_ok, nmX0⟩
set_option maxRecDepth 100000 in
theorem kc_1 : cw_KC 1 RX1 TX1 10 tyX1 := ⟨rfl, by decide, fun w hw => by
  obtain ⟨k, hk, rfl⟩ := List.mem_map.mp hw
  have hk := List.mem_range.mp hk
  have h : ∀ k, k < 10 → tables_1[([118, 120, 122, 124, 126, 128, 130, 132, 134, 136] : List Nat).getD k 0]? = some (u_lay RX1 TX1 k) := by decide +kernel
  exact cw_mem (List.mem_append_right _ (List.mem_of_getElem? (h k hk))) (by unfold u_lay; split <;> rfl), tyX1_ok, nmX1⟩
set_option maxRecDepth 100000 in
theorem kc_2 : cw_KC 2 RX2 TX2 3 tyX2 := ⟨rfl, by decide, fun w hw => by
  obtain ⟨k, hk, rfl⟩ := List.mem_map.mp hw
  have hk := List.mem_range.mp hk
  have h : ∀ k, k < 3 → tables_1[([60, 62, 64] : List Nat).getD k 0]? = some (u_lay RX2 TX2 k) := by decide +kernel
  exact cw_mem (List.mem_append_right _ (List.mem_of_getElem? (h k hk))) (by unfold u_lay; split <;> rfl), tyX2_ok, nmX2⟩
set_option maxRecDepth 100000 in
theorem kc_3 : cw_KC 3 RX3 TX3 7 tyX3 := ⟨rfl, by decide, fun w hw => by
  obtain ⟨k, hk, rfl⟩ := List.mem_map.mp hw
  have hk := List.mem_range.mp hk
  have h : ∀ k, k < 7 → tables_1[([275, 277, 279, 281, 283, 285, 287] : List Nat).getD k 0]? = some (u_lay RX3 TX3 k) := by decide +kernel
  exact cw_mem (List.mem_append_right _ (List.mem_of_getElem? (h k hk))) (by unfold u_lay; split <;> rfl), tyX3_ok, nmX3⟩
set_option maxRecDepth 100000 in
theorem kc_4 : cw_KC 4 RX4 TX4 12 tyX4 := ⟨rfl, by decide, fun w hw => by
  obtain ⟨k, hk, rfl⟩ := List.mem_map.mp hw
  have hk := List.mem_range.mp hk
  have h : ∀ k, k < 12 → tables_1[([237, 239, 241, 243, 245, 247, 249, 251, 253, 255, 257, 259] : List Nat).getD k 0]? = some (u_lay RX4 TX4 k) := by decide +kernel
  exact cw_mem (List.mem_append_right _ (List.mem_of_getElem? (h k hk))) (by unfold u_lay; split <;> rfl), tyX4_ok, nmX4⟩
set_option maxRecDepth 100000 in
theorem kc_5 : cw_KC 5 RX5 TX5 8 tyX5 := ⟨rfl, by decide, fun w hw => by
  obtain ⟨k, hk, rfl⟩ := List.mem_map.mp hw
  have hk := List.mem_range.mp hk
  have h : ∀ k, k < 8 → tables_1[([305, 307, 309, 311, 313, 315, 317, 319] : List Nat).getD k 0]? = some (u_lay RX5 TX5 k) := by decide +kernel
  exact cw_mem (List.mem_append_right _ (List.mem_of_getElem? (h k hk))) (by unfold u_lay; split <;> rfl), tyX5_ok, nmX5⟩
set_option maxRecDepth 100000 in
theorem kc_6 : cw_KC 6 RX6 TX6 4 tyX6 := ⟨rfl, by decide, fun w hw => by
  obtain ⟨k, hk, rfl⟩ := List.mem_map.mp hw
  have hk := List.mem_range.mp hk
  have h : ∀ k, k < 4 → tables_1[([78, 80, 82, 84] : List Nat).getD k 0]? = some (u_lay RX6 TX6 k) := by decide +kernel
  exact cw_mem (List.mem_append_right _ (List.mem_of_getElem? (h k hk))) (by unfold u_lay; split <;> rfl), tyX6_ok, nmX6⟩
set_option maxRecDepth 100000 in
theorem kc_7 : cw_KC 7 RX7 TX7 6 tyX7 := ⟨rfl, by decide, fun w hw => by
  obtain ⟨k, hk, rfl⟩ := List.mem_map.mp hw
  have hk := List.mem_range.mp hk
  have h : ∀ k, k < 6 → tables_1[([173, 175, 177, 179, 181, 183] : List Nat).getD k 0]? = some (u_lay RX7 TX7 k) := by decide +kernel
  exact cw_mem (List.mem_append_right _ (List.mem_of_getElem? (h k hk))) (by unfold u_lay; split <;> rfl), tyX7_ok, nmX7⟩
set_option maxRecDepth 100000 in
theorem kc_8 : cw_KC 8 RX8 TX8 2 tyX8 := ⟨rfl, by decide, fun w hw => by
  obtain ⟨k, hk, rfl⟩ := List.mem_map.mp hw
  have hk := List.mem_range.mp hk
  have h : ∀ k, k < 2 → tables_1[([95, 97] : List Nat).getD k 0]? = some (u_lay RX8 TX8 k) := by decide +kernel
  exact cw_mem (List.mem_append_right _ (List.mem_of_getElem? (h k hk))) (by unfold u_lay; split <;> rfl), tyX8_ok, nmX8⟩
set_option maxRecDepth 100000 in
theorem kc_9 : cw_KC 9 RX9 TX9 4 tyX9 := ⟨rfl, by decide, fun w hw => by
  obtain ⟨k, hk, rfl⟩ := List.mem_map.mp hw
  have hk := List.mem_range.mp hk
  have h : ∀ k, k < 4 → tables_1[([40, 42, 44, 46] : List Nat).getD k 0]? = some (u_lay RX9 TX9 k) := by decide +kernel
  exact cw_mem (List.mem_append_right _ (List.mem_of_getElem? (h k hk))) (by unfold u_lay; split <;> rfl), tyX9_ok, nmX9⟩
set_option maxRecDepth 100000 in
theorem kc_10 : cw_KC 10 RX10 TX10 9 tyX10 := ⟨rfl, by decide, fun w hw => by
  obtain ⟨k, hk, rfl⟩ := List.mem_map.mp hw
  have hk := List.mem_range.mp hk
  have h : ∀ k, k < 9 → tables_1[([204, 206, 208, 210, 212, 214, 216, 218, 220] : List Nat).getD k 0]? = some (u_lay RX10 TX10 k) := by decide +kernel
  exact cw_mem (List.mem_append_right _ (List.mem_of_getElem? (h k hk))) (by unfold u_lay; split <;> rfl), tyX10_ok, nmX10⟩
set_option maxRecDepth 100000 in
theorem kc_11 : cw_KC 11 RX11 TX11 15 tyX11 := ⟨rfl, by decide, fun w hw => by
  obtain ⟨k, hk, rfl⟩ := List.mem_map.mp hw
  have hk := List.mem_range.mp hk
  have h : ∀ k, k < 15 → tables_1[([339, 341, 343, 345, 347, 349, 351, 353, 355, 357, 359, 361, 363, 365, 367] : List Nat).getD k 0]? = some (u_lay RX11 TX11 k) := by decide +kernel
  exact cw_mem (List.mem_append_right _ (List.mem_of_getElem? (h k hk))) (by unfold u_lay; split <;> rfl), tyX11_ok, nmX11⟩
set_option maxRecDepth 100000 in
theorem kc_12 : cw_KC 12 RX12 TX12 77 tyX12 := ⟨rfl, by decide, fun w hw => by
  obtain ⟨k, hk, rfl⟩ := List.mem_map.mp hw
  have hk := List.mem_range.mp hk
  have h : ∀ k, k < 77 → tables_1[([1065, 1067, 1069, 1071, 1073, 1075, 1077, 1079, 1081, 1083, 1085, 1087, 1089, 1091, 1093, 1095, 1097, 1099, 1101, 1103, 1105, 1107, 1109, 1111, 1113, 1115, 1117, 1119, 1121, 1123, 1125, 1127, 1129, 1131, 1133, 1135, 1137, 1139, 1141, 1143, 1145, 1147, 1149, 1151, 1153, 1155, 1157, 1159, 1161, 1163, 1165, 1167, 1169, 1171, 1173, 1175, 1177, 1179, 1181, 1183, 1185, 1187, 1189, 1191, 1193, 1195, 1197, 1199, 1201, 1203, 1205, 1207, 1209, 1211, 1213, 1215, 1217] : List Nat).getD k 0]? = some (u_lay RX12 TX12 k) := by decide +kernel
  exact cw_mem (List.mem_append_right _ (List.mem_of_getElem? (h k hk))) (by unfold u_lay; split <;> rfl), tyX12_ok, nmX12⟩
set_option maxRecDepth 100000 in
theorem fl_X11_14 : cw_FL RX11 14 11 0 := ⟨_, _, _, _, kc_11, by decide, (cw_mem (List.mem_append_right _ (List.mem_of_getElem? (i := 324) (by rfl))) rfl), rfl⟩
set_option maxRecDepth 100000 in
theorem fi_X11_14 : cw_FI RX11 14 11 0 (.object "WaveHouse$Spots") := ⟨_, _, _, _, kc_11, by decide, (cw_mem (List.mem_append_right _ (List.mem_of_getElem? (i := 324) (by rfl))) rfl), rfl, rfl, rfl, rfl⟩
set_option maxRecDepth 100000 in
theorem fl_X11_18 : cw_FL RX11 18 11 1 := ⟨_, _, _, _, kc_11, by decide, (cw_mem (List.mem_append_right _ (List.mem_of_getElem? (i := 325) (by rfl))) rfl), rfl⟩
set_option maxRecDepth 100000 in
theorem fi_X11_18 : cw_FI RX11 18 11 1 (.object "WaveHouse$Spots") := ⟨_, _, _, _, kc_11, by decide, (cw_mem (List.mem_append_right _ (List.mem_of_getElem? (i := 325) (by rfl))) rfl), rfl, rfl, rfl, rfl⟩
set_option maxRecDepth 100000 in
theorem fl_X11_24 : cw_FL RX11 24 11 2 := ⟨_, _, _, _, kc_11, by decide, (cw_mem (List.mem_append_right _ (List.mem_of_getElem? (i := 326) (by rfl))) rfl), rfl⟩
set_option maxRecDepth 100000 in
theorem fi_X11_24 : cw_FI RX11 24 11 2 (.object "WaveHouse$Masts") := ⟨_, _, _, _, kc_11, by decide, (cw_mem (List.mem_append_right _ (List.mem_of_getElem? (i := 326) (by rfl))) rfl), rfl, rfl, rfl, rfl⟩
set_option maxRecDepth 100000 in
theorem fl_X11_31 : cw_FL RX11 31 11 3 := ⟨_, _, _, _, kc_11, by decide, (cw_mem (List.mem_append_right _ (List.mem_of_getElem? (i := 327) (by rfl))) rfl), rfl⟩
set_option maxRecDepth 100000 in
theorem fi_X11_31 : cw_FI RX11 31 11 3 (.object "WaveHouse$Programmes") := ⟨_, _, _, _, kc_11, by decide, (cw_mem (List.mem_append_right _ (List.mem_of_getElem? (i := 327) (by rfl))) rfl), rfl, rfl, rfl, rfl⟩
set_option maxRecDepth 100000 in
theorem fl_X11_38 : cw_FL RX11 38 11 4 := ⟨_, _, _, _, kc_11, by decide, (cw_mem (List.mem_append_right _ (List.mem_of_getElem? (i := 328) (by rfl))) rfl), rfl⟩
set_option maxRecDepth 100000 in
theorem fi_X11_38 : cw_FI RX11 38 11 4 (.object "WaveHouse$Sheets") := ⟨_, _, _, _, kc_11, by decide, (cw_mem (List.mem_append_right _ (List.mem_of_getElem? (i := 328) (by rfl))) rfl), rfl, rfl, rfl, rfl⟩
set_option maxRecDepth 100000 in
theorem fl_X11_45 : cw_FL RX11 45 11 5 := ⟨_, _, _, _, kc_11, by decide, (cw_mem (List.mem_append_right _ (List.mem_of_getElem? (i := 329) (by rfl))) rfl), rfl⟩
set_option maxRecDepth 100000 in
theorem fi_X11_45 : cw_FI RX11 45 11 5 (.object "WaveHouse$Facts") := ⟨_, _, _, _, kc_11, by decide, (cw_mem (List.mem_append_right _ (List.mem_of_getElem? (i := 329) (by rfl))) rfl), rfl, rfl, rfl, rfl⟩
set_option maxRecDepth 100000 in
theorem fl_X11_52 : cw_FL RX11 52 11 6 := ⟨_, _, _, _, kc_11, by decide, (cw_mem (List.mem_append_right _ (List.mem_of_getElem? (i := 330) (by rfl))) rfl), rfl⟩
set_option maxRecDepth 100000 in
theorem fi_X11_52 : cw_FI RX11 52 11 6 (.object "WaveHouse$Corrections") := ⟨_, _, _, _, kc_11, by decide, (cw_mem (List.mem_append_right _ (List.mem_of_getElem? (i := 330) (by rfl))) rfl), rfl, rfl, rfl, rfl⟩
set_option maxRecDepth 100000 in
theorem fl_X11_56 : cw_FL RX11 56 11 7 := ⟨_, _, _, _, kc_11, by decide, (cw_mem (List.mem_append_right _ (List.mem_of_getElem? (i := 331) (by rfl))) rfl), rfl⟩
set_option maxRecDepth 100000 in
theorem fi_X11_56 : cw_FI RX11 56 11 7 (.array .byte) := ⟨_, _, _, _, kc_11, by decide, (cw_mem (List.mem_append_right _ (List.mem_of_getElem? (i := 331) (by rfl))) rfl), rfl, rfl, rfl, rfl⟩
set_option maxRecDepth 100000 in
theorem fl_X11_63 : cw_FL RX11 63 11 8 := ⟨_, _, _, _, kc_11, by decide, (cw_mem (List.mem_append_right _ (List.mem_of_getElem? (i := 332) (by rfl))) rfl), rfl⟩
set_option maxRecDepth 100000 in
theorem fi_X11_63 : cw_FI RX11 63 11 8 (.object "WaveHouse$Parser") := ⟨_, _, _, _, kc_11, by decide, (cw_mem (List.mem_append_right _ (List.mem_of_getElem? (i := 332) (by rfl))) rfl), rfl, rfl, rfl, rfl⟩
set_option maxRecDepth 100000 in
theorem fl_X11_67 : cw_FL RX11 67 11 9 := ⟨_, _, _, _, kc_11, by decide, (cw_mem (List.mem_append_right _ (List.mem_of_getElem? (i := 333) (by rfl))) rfl), rfl⟩
set_option maxRecDepth 100000 in
theorem fi_X11_67 : cw_FI RX11 67 11 9 (.array .int) := ⟨_, _, _, _, kc_11, by decide, (cw_mem (List.mem_append_right _ (List.mem_of_getElem? (i := 333) (by rfl))) rfl), rfl, rfl, rfl, rfl⟩
set_option maxRecDepth 100000 in
theorem fl_X11_74 : cw_FL RX11 74 11 10 := ⟨_, _, _, _, kc_11, by decide, (cw_mem (List.mem_append_right _ (List.mem_of_getElem? (i := 334) (by rfl))) rfl), rfl⟩
set_option maxRecDepth 100000 in
theorem fi_X11_74 : cw_FI RX11 74 11 10 (.object "WaveHouse$Pairing") := ⟨_, _, _, _, kc_11, by decide, (cw_mem (List.mem_append_right _ (List.mem_of_getElem? (i := 334) (by rfl))) rfl), rfl, rfl, rfl, rfl⟩
set_option maxRecDepth 100000 in
theorem fl_X11_81 : cw_FL RX11 81 11 11 := ⟨_, _, _, _, kc_11, by decide, (cw_mem (List.mem_append_right _ (List.mem_of_getElem? (i := 335) (by rfl))) rfl), rfl⟩
set_option maxRecDepth 100000 in
theorem fi_X11_81 : cw_FI RX11 81 11 11 (.object "WaveHouse$Plan") := ⟨_, _, _, _, kc_11, by decide, (cw_mem (List.mem_append_right _ (List.mem_of_getElem? (i := 335) (by rfl))) rfl), rfl, rfl, rfl, rfl⟩
set_option maxRecDepth 100000 in
theorem fl_X11_88 : cw_FL RX11 88 11 12 := ⟨_, _, _, _, kc_11, by decide, (cw_mem (List.mem_append_right _ (List.mem_of_getElem? (i := 336) (by rfl))) rfl), rfl⟩
set_option maxRecDepth 100000 in
theorem fp_X11_88 : cw_FP RX11 88 11 12 (.object "WaveHouse$Treaty") := ⟨_, _, _, _, kc_11, by decide, (cw_mem (List.mem_append_right _ (List.mem_of_getElem? (i := 336) (by rfl))) rfl), rfl, rfl, rfl⟩
set_option maxRecDepth 100000 in
theorem fl_X11_92 : cw_FL RX11 92 11 13 := ⟨_, _, _, _, kc_11, by decide, (cw_mem (List.mem_append_right _ (List.mem_of_getElem? (i := 337) (by rfl))) rfl), rfl⟩
set_option maxRecDepth 100000 in
theorem fp_X11_92 : cw_FP RX11 92 11 13 .int := ⟨_, _, _, _, kc_11, by decide, (cw_mem (List.mem_append_right _ (List.mem_of_getElem? (i := 337) (by rfl))) rfl), rfl, rfl, rfl⟩
set_option maxRecDepth 100000 in
theorem fl_X11_96 : cw_FL RX11 96 11 14 := ⟨_, _, _, _, kc_11, by decide, (cw_mem (List.mem_append_right _ (List.mem_of_getElem? (i := 338) (by rfl))) rfl), rfl⟩
set_option maxRecDepth 100000 in
theorem fp_X11_96 : cw_FP RX11 96 11 14 .int := ⟨_, _, _, _, kc_11, by decide, (cw_mem (List.mem_append_right _ (List.mem_of_getElem? (i := 338) (by rfl))) rfl), rfl, rfl, rfl⟩
set_option maxRecDepth 100000 in
theorem fl_X11_110 : cw_FL RX11 110 4 11 := ⟨_, _, _, _, kc_4, by decide, (cw_mem (List.mem_append_right _ (List.mem_of_getElem? (i := 236) (by rfl))) rfl), rfl⟩
set_option maxRecDepth 100000 in
theorem fp_X11_110 : cw_FP RX11 110 4 11 .int := ⟨_, _, _, _, kc_4, by decide, (cw_mem (List.mem_append_right _ (List.mem_of_getElem? (i := 236) (by rfl))) rfl), rfl, rfl, rfl⟩
set_option maxRecDepth 100000 in
theorem fl_X11_216 : cw_FL RX11 216 6 3 := ⟨_, _, _, _, kc_6, by decide, (cw_mem (List.mem_append_right _ (List.mem_of_getElem? (i := 77) (by rfl))) rfl), rfl⟩
set_option maxRecDepth 100000 in
theorem fp_X11_216 : cw_FP RX11 216 6 3 .int := ⟨_, _, _, _, kc_6, by decide, (cw_mem (List.mem_append_right _ (List.mem_of_getElem? (i := 77) (by rfl))) rfl), rfl, rfl, rfl⟩
set_option maxRecDepth 100000 in
theorem fl_X11_224 : cw_FL RX11 224 2 2 := ⟨_, _, _, _, kc_2, by decide, (cw_mem (List.mem_append_right _ (List.mem_of_getElem? (i := 59) (by rfl))) rfl), rfl⟩
set_option maxRecDepth 100000 in
theorem fp_X11_224 : cw_FP RX11 224 2 2 .int := ⟨_, _, _, _, kc_2, by decide, (cw_mem (List.mem_append_right _ (List.mem_of_getElem? (i := 59) (by rfl))) rfl), rfl, rfl, rfl⟩
set_option maxRecDepth 100000 in
theorem fl_X11_249 : cw_FL RX11 249 5 7 := ⟨_, _, _, _, kc_5, by decide, (cw_mem (List.mem_append_right _ (List.mem_of_getElem? (i := 304) (by rfl))) rfl), rfl⟩
set_option maxRecDepth 100000 in
theorem fp_X11_249 : cw_FP RX11 249 5 7 .boolean := ⟨_, _, _, _, kc_5, by decide, (cw_mem (List.mem_append_right _ (List.mem_of_getElem? (i := 304) (by rfl))) rfl), rfl, rfl, rfl⟩
set_option maxRecDepth 100000 in
theorem fl_X11_253 : cw_FL RX11 253 9 3 := ⟨_, _, _, _, kc_9, by decide, (cw_mem (List.mem_append_right _ (List.mem_of_getElem? (i := 39) (by rfl))) rfl), rfl⟩
set_option maxRecDepth 100000 in
theorem fp_X11_253 : cw_FP RX11 253 9 3 .int := ⟨_, _, _, _, kc_9, by decide, (cw_mem (List.mem_append_right _ (List.mem_of_getElem? (i := 39) (by rfl))) rfl), rfl, rfl, rfl⟩
set_option maxRecDepth 100000 in
theorem fl_X11_254 : cw_FL RX11 254 1 9 := ⟨_, _, _, _, kc_1, by decide, (cw_mem (List.mem_append_right _ (List.mem_of_getElem? (i := 117) (by rfl))) rfl), rfl⟩
set_option maxRecDepth 100000 in
theorem fp_X11_254 : cw_FP RX11 254 1 9 .int := ⟨_, _, _, _, kc_1, by decide, (cw_mem (List.mem_append_right _ (List.mem_of_getElem? (i := 117) (by rfl))) rfl), rfl, rfl, rfl⟩
set_option maxRecDepth 100000 in
theorem fl_X11_255 : cw_FL RX11 255 10 8 := ⟨_, _, _, _, kc_10, by decide, (cw_mem (List.mem_append_right _ (List.mem_of_getElem? (i := 203) (by rfl))) rfl), rfl⟩
set_option maxRecDepth 100000 in
theorem fp_X11_255 : cw_FP RX11 255 10 8 .int := ⟨_, _, _, _, kc_10, by decide, (cw_mem (List.mem_append_right _ (List.mem_of_getElem? (i := 203) (by rfl))) rfl), rfl, rfl, rfl⟩
set_option maxRecDepth 100000 in
theorem fl_X0_9 : cw_FL RX0 9 0 0 := ⟨_, _, _, _, kc_0, by decide, (cw_mem (List.mem_append_right _ (List.mem_of_getElem? (i := 145) (by rfl))) rfl), rfl⟩
set_option maxRecDepth 100000 in
theorem fi_X0_9 : cw_FI RX0 9 0 0 (.array .int) := ⟨_, _, _, _, kc_0, by decide, (cw_mem (List.mem_append_right _ (List.mem_of_getElem? (i := 145) (by rfl))) rfl), rfl, rfl, rfl, rfl⟩
set_option maxRecDepth 100000 in
theorem fl_X0_15 : cw_FL RX0 15 0 1 := ⟨_, _, _, _, kc_0, by decide, (cw_mem (List.mem_append_right _ (List.mem_of_getElem? (i := 146) (by rfl))) rfl), rfl⟩
set_option maxRecDepth 100000 in
theorem fi_X0_15 : cw_FI RX0 15 0 1 (.array .int) := ⟨_, _, _, _, kc_0, by decide, (cw_mem (List.mem_append_right _ (List.mem_of_getElem? (i := 146) (by rfl))) rfl), rfl, rfl, rfl, rfl⟩
set_option maxRecDepth 100000 in
theorem fl_X1_9 : cw_FL RX1 9 1 0 := ⟨_, _, _, _, kc_1, by decide, (cw_mem (List.mem_append_right _ (List.mem_of_getElem? (i := 107) (by rfl))) rfl), rfl⟩
set_option maxRecDepth 100000 in
theorem fi_X1_9 : cw_FI RX1 9 1 0 (.array .int) := ⟨_, _, _, _, kc_1, by decide, (cw_mem (List.mem_append_right _ (List.mem_of_getElem? (i := 107) (by rfl))) rfl), rfl, rfl, rfl, rfl⟩
set_option maxRecDepth 100000 in
theorem fl_X1_15 : cw_FL RX1 15 1 1 := ⟨_, _, _, _, kc_1, by decide, (cw_mem (List.mem_append_right _ (List.mem_of_getElem? (i := 108) (by rfl))) rfl), rfl⟩
set_option maxRecDepth 100000 in
theorem fi_X1_15 : cw_FI RX1 15 1 1 (.array .int) := ⟨_, _, _, _, kc_1, by decide, (cw_mem (List.mem_append_right _ (List.mem_of_getElem? (i := 108) (by rfl))) rfl), rfl, rfl, rfl, rfl⟩
set_option maxRecDepth 100000 in
theorem fl_X1_18 : cw_FL RX1 18 1 2 := ⟨_, _, _, _, kc_1, by decide, (cw_mem (List.mem_append_right _ (List.mem_of_getElem? (i := 109) (by rfl))) rfl), rfl⟩
set_option maxRecDepth 100000 in
theorem fi_X1_18 : cw_FI RX1 18 1 2 (.array .int) := ⟨_, _, _, _, kc_1, by decide, (cw_mem (List.mem_append_right _ (List.mem_of_getElem? (i := 109) (by rfl))) rfl), rfl, rfl, rfl, rfl⟩
set_option maxRecDepth 100000 in
theorem fl_X1_21 : cw_FL RX1 21 1 3 := ⟨_, _, _, _, kc_1, by decide, (cw_mem (List.mem_append_right _ (List.mem_of_getElem? (i := 110) (by rfl))) rfl), rfl⟩
set_option maxRecDepth 100000 in
theorem fi_X1_21 : cw_FI RX1 21 1 3 (.array .int) := ⟨_, _, _, _, kc_1, by decide, (cw_mem (List.mem_append_right _ (List.mem_of_getElem? (i := 110) (by rfl))) rfl), rfl, rfl, rfl, rfl⟩
set_option maxRecDepth 100000 in
theorem fl_X1_24 : cw_FL RX1 24 1 4 := ⟨_, _, _, _, kc_1, by decide, (cw_mem (List.mem_append_right _ (List.mem_of_getElem? (i := 111) (by rfl))) rfl), rfl⟩
set_option maxRecDepth 100000 in
theorem fi_X1_24 : cw_FI RX1 24 1 4 (.array .int) := ⟨_, _, _, _, kc_1, by decide, (cw_mem (List.mem_append_right _ (List.mem_of_getElem? (i := 111) (by rfl))) rfl), rfl, rfl, rfl, rfl⟩
set_option maxRecDepth 100000 in
theorem fl_X1_27 : cw_FL RX1 27 1 5 := ⟨_, _, _, _, kc_1, by decide, (cw_mem (List.mem_append_right _ (List.mem_of_getElem? (i := 112) (by rfl))) rfl), rfl⟩
set_option maxRecDepth 100000 in
theorem fi_X1_27 : cw_FI RX1 27 1 5 (.array .int) := ⟨_, _, _, _, kc_1, by decide, (cw_mem (List.mem_append_right _ (List.mem_of_getElem? (i := 112) (by rfl))) rfl), rfl, rfl, rfl, rfl⟩
set_option maxRecDepth 100000 in
theorem fl_X1_30 : cw_FL RX1 30 1 6 := ⟨_, _, _, _, kc_1, by decide, (cw_mem (List.mem_append_right _ (List.mem_of_getElem? (i := 113) (by rfl))) rfl), rfl⟩
set_option maxRecDepth 100000 in
theorem fi_X1_30 : cw_FI RX1 30 1 6 (.array .int) := ⟨_, _, _, _, kc_1, by decide, (cw_mem (List.mem_append_right _ (List.mem_of_getElem? (i := 113) (by rfl))) rfl), rfl, rfl, rfl, rfl⟩
set_option maxRecDepth 100000 in
theorem fl_X1_33 : cw_FL RX1 33 1 7 := ⟨_, _, _, _, kc_1, by decide, (cw_mem (List.mem_append_right _ (List.mem_of_getElem? (i := 114) (by rfl))) rfl), rfl⟩
set_option maxRecDepth 100000 in
theorem fi_X1_33 : cw_FI RX1 33 1 7 (.array .int) := ⟨_, _, _, _, kc_1, by decide, (cw_mem (List.mem_append_right _ (List.mem_of_getElem? (i := 114) (by rfl))) rfl), rfl, rfl, rfl, rfl⟩
set_option maxRecDepth 100000 in
theorem fl_X1_36 : cw_FL RX1 36 1 8 := ⟨_, _, _, _, kc_1, by decide, (cw_mem (List.mem_append_right _ (List.mem_of_getElem? (i := 115) (by rfl))) rfl), rfl⟩
set_option maxRecDepth 100000 in
theorem fi_X1_36 : cw_FI RX1 36 1 8 (.array .int) := ⟨_, _, _, _, kc_1, by decide, (cw_mem (List.mem_append_right _ (List.mem_of_getElem? (i := 115) (by rfl))) rfl), rfl, rfl, rfl, rfl⟩
set_option maxRecDepth 100000 in
theorem fl_X1_39 : cw_FL RX1 39 1 9 := ⟨_, _, _, _, kc_1, by decide, (cw_mem (List.mem_append_right _ (List.mem_of_getElem? (i := 116) (by rfl))) rfl), rfl⟩
set_option maxRecDepth 100000 in
theorem fp_X1_39 : cw_FP RX1 39 1 9 .int := ⟨_, _, _, _, kc_1, by decide, (cw_mem (List.mem_append_right _ (List.mem_of_getElem? (i := 116) (by rfl))) rfl), rfl, rfl, rfl⟩
set_option maxRecDepth 100000 in
theorem fl_X2_9 : cw_FL RX2 9 2 0 := ⟨_, _, _, _, kc_2, by decide, (cw_mem (List.mem_append_right _ (List.mem_of_getElem? (i := 56) (by rfl))) rfl), rfl⟩
set_option maxRecDepth 100000 in
theorem fi_X2_9 : cw_FI RX2 9 2 0 (.array .int) := ⟨_, _, _, _, kc_2, by decide, (cw_mem (List.mem_append_right _ (List.mem_of_getElem? (i := 56) (by rfl))) rfl), rfl, rfl, rfl, rfl⟩
set_option maxRecDepth 100000 in
theorem fl_X2_15 : cw_FL RX2 15 2 1 := ⟨_, _, _, _, kc_2, by decide, (cw_mem (List.mem_append_right _ (List.mem_of_getElem? (i := 57) (by rfl))) rfl), rfl⟩
set_option maxRecDepth 100000 in
theorem fi_X2_15 : cw_FI RX2 15 2 1 (.array .int) := ⟨_, _, _, _, kc_2, by decide, (cw_mem (List.mem_append_right _ (List.mem_of_getElem? (i := 57) (by rfl))) rfl), rfl, rfl, rfl, rfl⟩
set_option maxRecDepth 100000 in
theorem fl_X2_18 : cw_FL RX2 18 2 2 := ⟨_, _, _, _, kc_2, by decide, (cw_mem (List.mem_append_right _ (List.mem_of_getElem? (i := 58) (by rfl))) rfl), rfl⟩
set_option maxRecDepth 100000 in
theorem fp_X2_18 : cw_FP RX2 18 2 2 .int := ⟨_, _, _, _, kc_2, by decide, (cw_mem (List.mem_append_right _ (List.mem_of_getElem? (i := 58) (by rfl))) rfl), rfl, rfl, rfl⟩
set_option maxRecDepth 100000 in
theorem fl_X3_9 : cw_FL RX3 9 3 0 := ⟨_, _, _, _, kc_3, by decide, (cw_mem (List.mem_append_right _ (List.mem_of_getElem? (i := 268) (by rfl))) rfl), rfl⟩
set_option maxRecDepth 100000 in
theorem fi_X3_9 : cw_FI RX3 9 3 0 (.array .int) := ⟨_, _, _, _, kc_3, by decide, (cw_mem (List.mem_append_right _ (List.mem_of_getElem? (i := 268) (by rfl))) rfl), rfl, rfl, rfl, rfl⟩
set_option maxRecDepth 100000 in
theorem fl_X3_15 : cw_FL RX3 15 3 1 := ⟨_, _, _, _, kc_3, by decide, (cw_mem (List.mem_append_right _ (List.mem_of_getElem? (i := 269) (by rfl))) rfl), rfl⟩
set_option maxRecDepth 100000 in
theorem fi_X3_15 : cw_FI RX3 15 3 1 (.array .int) := ⟨_, _, _, _, kc_3, by decide, (cw_mem (List.mem_append_right _ (List.mem_of_getElem? (i := 269) (by rfl))) rfl), rfl, rfl, rfl, rfl⟩
set_option maxRecDepth 100000 in
theorem fl_X3_18 : cw_FL RX3 18 3 2 := ⟨_, _, _, _, kc_3, by decide, (cw_mem (List.mem_append_right _ (List.mem_of_getElem? (i := 270) (by rfl))) rfl), rfl⟩
set_option maxRecDepth 100000 in
theorem fi_X3_18 : cw_FI RX3 18 3 2 (.array .int) := ⟨_, _, _, _, kc_3, by decide, (cw_mem (List.mem_append_right _ (List.mem_of_getElem? (i := 270) (by rfl))) rfl), rfl, rfl, rfl, rfl⟩
set_option maxRecDepth 100000 in
theorem fl_X3_21 : cw_FL RX3 21 3 3 := ⟨_, _, _, _, kc_3, by decide, (cw_mem (List.mem_append_right _ (List.mem_of_getElem? (i := 271) (by rfl))) rfl), rfl⟩
set_option maxRecDepth 100000 in
theorem fi_X3_21 : cw_FI RX3 21 3 3 (.array .int) := ⟨_, _, _, _, kc_3, by decide, (cw_mem (List.mem_append_right _ (List.mem_of_getElem? (i := 271) (by rfl))) rfl), rfl, rfl, rfl, rfl⟩
set_option maxRecDepth 100000 in
theorem fl_X3_24 : cw_FL RX3 24 3 4 := ⟨_, _, _, _, kc_3, by decide, (cw_mem (List.mem_append_right _ (List.mem_of_getElem? (i := 272) (by rfl))) rfl), rfl⟩
set_option maxRecDepth 100000 in
theorem fi_X3_24 : cw_FI RX3 24 3 4 (.array .int) := ⟨_, _, _, _, kc_3, by decide, (cw_mem (List.mem_append_right _ (List.mem_of_getElem? (i := 272) (by rfl))) rfl), rfl, rfl, rfl, rfl⟩
set_option maxRecDepth 100000 in
theorem fl_X3_27 : cw_FL RX3 27 3 5 := ⟨_, _, _, _, kc_3, by decide, (cw_mem (List.mem_append_right _ (List.mem_of_getElem? (i := 273) (by rfl))) rfl), rfl⟩
set_option maxRecDepth 100000 in
theorem fp_X3_27 : cw_FP RX3 27 3 5 .int := ⟨_, _, _, _, kc_3, by decide, (cw_mem (List.mem_append_right _ (List.mem_of_getElem? (i := 273) (by rfl))) rfl), rfl, rfl, rfl⟩
set_option maxRecDepth 100000 in
theorem fl_X3_31 : cw_FL RX3 31 3 6 := ⟨_, _, _, _, kc_3, by decide, (cw_mem (List.mem_append_right _ (List.mem_of_getElem? (i := 274) (by rfl))) rfl), rfl⟩
set_option maxRecDepth 100000 in
theorem fi_X3_31 : cw_FI RX3 31 3 6 (.array .int) := ⟨_, _, _, _, kc_3, by decide, (cw_mem (List.mem_append_right _ (List.mem_of_getElem? (i := 274) (by rfl))) rfl), rfl, rfl, rfl, rfl⟩
set_option maxRecDepth 100000 in
theorem fl_X4_12 : cw_FL RX4 12 4 0 := ⟨_, _, _, _, kc_4, by decide, (cw_mem (List.mem_append_right _ (List.mem_of_getElem? (i := 224) (by rfl))) rfl), rfl⟩
set_option maxRecDepth 100000 in
theorem fi_X4_12 : cw_FI RX4 12 4 0 (.object "WaveHouse$Scanner") := ⟨_, _, _, _, kc_4, by decide, (cw_mem (List.mem_append_right _ (List.mem_of_getElem? (i := 224) (by rfl))) rfl), rfl, rfl, rfl, rfl⟩
set_option maxRecDepth 100000 in
theorem fl_X4_18 : cw_FL RX4 18 4 1 := ⟨_, _, _, _, kc_4, by decide, (cw_mem (List.mem_append_right _ (List.mem_of_getElem? (i := 225) (by rfl))) rfl), rfl⟩
set_option maxRecDepth 100000 in
theorem fi_X4_18 : cw_FI RX4 18 4 1 (.array .int) := ⟨_, _, _, _, kc_4, by decide, (cw_mem (List.mem_append_right _ (List.mem_of_getElem? (i := 225) (by rfl))) rfl), rfl, rfl, rfl, rfl⟩
set_option maxRecDepth 100000 in
theorem fl_X4_25 : cw_FL RX4 25 4 2 := ⟨_, _, _, _, kc_4, by decide, (cw_mem (List.mem_append_right _ (List.mem_of_getElem? (i := 226) (by rfl))) rfl), rfl⟩
set_option maxRecDepth 100000 in
theorem fp_X4_25 : cw_FP RX4 25 4 2 (.object "WaveHouse$Treaty") := ⟨_, _, _, _, kc_4, by decide, (cw_mem (List.mem_append_right _ (List.mem_of_getElem? (i := 226) (by rfl))) rfl), rfl, rfl, rfl⟩
set_option maxRecDepth 100000 in
theorem fl_X4_29 : cw_FL RX4 29 4 3 := ⟨_, _, _, _, kc_4, by decide, (cw_mem (List.mem_append_right _ (List.mem_of_getElem? (i := 227) (by rfl))) rfl), rfl⟩
set_option maxRecDepth 100000 in
theorem fp_X4_29 : cw_FP RX4 29 4 3 .int := ⟨_, _, _, _, kc_4, by decide, (cw_mem (List.mem_append_right _ (List.mem_of_getElem? (i := 227) (by rfl))) rfl), rfl, rfl, rfl⟩
set_option maxRecDepth 100000 in
theorem fl_X4_33 : cw_FL RX4 33 4 4 := ⟨_, _, _, _, kc_4, by decide, (cw_mem (List.mem_append_right _ (List.mem_of_getElem? (i := 228) (by rfl))) rfl), rfl⟩
set_option maxRecDepth 100000 in
theorem fp_X4_33 : cw_FP RX4 33 4 4 .int := ⟨_, _, _, _, kc_4, by decide, (cw_mem (List.mem_append_right _ (List.mem_of_getElem? (i := 228) (by rfl))) rfl), rfl, rfl, rfl⟩
set_option maxRecDepth 100000 in
theorem fl_X4_36 : cw_FL RX4 36 4 5 := ⟨_, _, _, _, kc_4, by decide, (cw_mem (List.mem_append_right _ (List.mem_of_getElem? (i := 229) (by rfl))) rfl), rfl⟩
set_option maxRecDepth 100000 in
theorem fp_X4_36 : cw_FP RX4 36 4 5 .int := ⟨_, _, _, _, kc_4, by decide, (cw_mem (List.mem_append_right _ (List.mem_of_getElem? (i := 229) (by rfl))) rfl), rfl, rfl, rfl⟩
set_option maxRecDepth 100000 in
theorem fl_X4_39 : cw_FL RX4 39 4 6 := ⟨_, _, _, _, kc_4, by decide, (cw_mem (List.mem_append_right _ (List.mem_of_getElem? (i := 230) (by rfl))) rfl), rfl⟩
set_option maxRecDepth 100000 in
theorem fp_X4_39 : cw_FP RX4 39 4 6 .boolean := ⟨_, _, _, _, kc_4, by decide, (cw_mem (List.mem_append_right _ (List.mem_of_getElem? (i := 230) (by rfl))) rfl), rfl, rfl, rfl⟩
set_option maxRecDepth 100000 in
theorem fl_X4_43 : cw_FL RX4 43 4 7 := ⟨_, _, _, _, kc_4, by decide, (cw_mem (List.mem_append_right _ (List.mem_of_getElem? (i := 231) (by rfl))) rfl), rfl⟩
set_option maxRecDepth 100000 in
theorem fp_X4_43 : cw_FP RX4 43 4 7 .boolean := ⟨_, _, _, _, kc_4, by decide, (cw_mem (List.mem_append_right _ (List.mem_of_getElem? (i := 231) (by rfl))) rfl), rfl, rfl, rfl⟩
set_option maxRecDepth 100000 in
theorem fl_X4_46 : cw_FL RX4 46 4 8 := ⟨_, _, _, _, kc_4, by decide, (cw_mem (List.mem_append_right _ (List.mem_of_getElem? (i := 232) (by rfl))) rfl), rfl⟩
set_option maxRecDepth 100000 in
theorem fp_X4_46 : cw_FP RX4 46 4 8 .int := ⟨_, _, _, _, kc_4, by decide, (cw_mem (List.mem_append_right _ (List.mem_of_getElem? (i := 232) (by rfl))) rfl), rfl, rfl, rfl⟩
set_option maxRecDepth 100000 in
theorem fl_X4_49 : cw_FL RX4 49 4 9 := ⟨_, _, _, _, kc_4, by decide, (cw_mem (List.mem_append_right _ (List.mem_of_getElem? (i := 233) (by rfl))) rfl), rfl⟩
set_option maxRecDepth 100000 in
theorem fp_X4_49 : cw_FP RX4 49 4 9 .int := ⟨_, _, _, _, kc_4, by decide, (cw_mem (List.mem_append_right _ (List.mem_of_getElem? (i := 233) (by rfl))) rfl), rfl, rfl, rfl⟩
set_option maxRecDepth 100000 in
theorem fl_X4_52 : cw_FL RX4 52 4 10 := ⟨_, _, _, _, kc_4, by decide, (cw_mem (List.mem_append_right _ (List.mem_of_getElem? (i := 234) (by rfl))) rfl), rfl⟩
set_option maxRecDepth 100000 in
theorem fp_X4_52 : cw_FP RX4 52 4 10 .int := ⟨_, _, _, _, kc_4, by decide, (cw_mem (List.mem_append_right _ (List.mem_of_getElem? (i := 234) (by rfl))) rfl), rfl, rfl, rfl⟩
set_option maxRecDepth 100000 in
theorem fl_X4_55 : cw_FL RX4 55 4 11 := ⟨_, _, _, _, kc_4, by decide, (cw_mem (List.mem_append_right _ (List.mem_of_getElem? (i := 235) (by rfl))) rfl), rfl⟩
set_option maxRecDepth 100000 in
theorem fp_X4_55 : cw_FP RX4 55 4 11 .int := ⟨_, _, _, _, kc_4, by decide, (cw_mem (List.mem_append_right _ (List.mem_of_getElem? (i := 235) (by rfl))) rfl), rfl, rfl, rfl⟩
set_option maxRecDepth 100000 in
theorem fl_X4_68 : cw_FL RX4 68 7 3 := ⟨_, _, _, _, kc_7, by decide, (cw_mem (List.mem_append_right _ (List.mem_of_getElem? (i := 168) (by rfl))) rfl), rfl⟩
set_option maxRecDepth 100000 in
theorem fp_X4_68 : cw_FP RX4 68 7 3 .int := ⟨_, _, _, _, kc_7, by decide, (cw_mem (List.mem_append_right _ (List.mem_of_getElem? (i := 168) (by rfl))) rfl), rfl, rfl, rfl⟩
set_option maxRecDepth 100000 in
theorem fl_X4_79 : cw_FL RX4 79 7 4 := ⟨_, _, _, _, kc_7, by decide, (cw_mem (List.mem_append_right _ (List.mem_of_getElem? (i := 170) (by rfl))) rfl), rfl⟩
set_option maxRecDepth 100000 in
theorem fp_X4_79 : cw_FP RX4 79 7 4 .int := ⟨_, _, _, _, kc_7, by decide, (cw_mem (List.mem_append_right _ (List.mem_of_getElem? (i := 170) (by rfl))) rfl), rfl, rfl, rfl⟩
set_option maxRecDepth 100000 in
theorem fl_X4_86 : cw_FL RX4 86 10 8 := ⟨_, _, _, _, kc_10, by decide, (cw_mem (List.mem_append_right _ (List.mem_of_getElem? (i := 202) (by rfl))) rfl), rfl⟩
set_option maxRecDepth 100000 in
theorem fp_X4_86 : cw_FP RX4 86 10 8 .int := ⟨_, _, _, _, kc_10, by decide, (cw_mem (List.mem_append_right _ (List.mem_of_getElem? (i := 202) (by rfl))) rfl), rfl, rfl, rfl⟩
set_option maxRecDepth 100000 in
theorem fl_X4_102 : cw_FL RX4 102 7 5 := ⟨_, _, _, _, kc_7, by decide, (cw_mem (List.mem_append_right _ (List.mem_of_getElem? (i := 172) (by rfl))) rfl), rfl⟩
set_option maxRecDepth 100000 in
theorem fp_X4_102 : cw_FP RX4 102 7 5 .int := ⟨_, _, _, _, kc_7, by decide, (cw_mem (List.mem_append_right _ (List.mem_of_getElem? (i := 172) (by rfl))) rfl), rfl, rfl, rfl⟩
set_option maxRecDepth 100000 in
theorem fl_X5_9 : cw_FL RX5 9 5 0 := ⟨_, _, _, _, kc_5, by decide, (cw_mem (List.mem_append_right _ (List.mem_of_getElem? (i := 296) (by rfl))) rfl), rfl⟩
set_option maxRecDepth 100000 in
theorem fi_X5_9 : cw_FI RX5 9 5 0 (.array .int) := ⟨_, _, _, _, kc_5, by decide, (cw_mem (List.mem_append_right _ (List.mem_of_getElem? (i := 296) (by rfl))) rfl), rfl, rfl, rfl, rfl⟩
set_option maxRecDepth 100000 in
theorem fl_X5_15 : cw_FL RX5 15 5 1 := ⟨_, _, _, _, kc_5, by decide, (cw_mem (List.mem_append_right _ (List.mem_of_getElem? (i := 297) (by rfl))) rfl), rfl⟩
set_option maxRecDepth 100000 in
theorem fi_X5_15 : cw_FI RX5 15 5 1 (.array .int) := ⟨_, _, _, _, kc_5, by decide, (cw_mem (List.mem_append_right _ (List.mem_of_getElem? (i := 297) (by rfl))) rfl), rfl, rfl, rfl, rfl⟩
set_option maxRecDepth 100000 in
theorem fl_X5_18 : cw_FL RX5 18 5 2 := ⟨_, _, _, _, kc_5, by decide, (cw_mem (List.mem_append_right _ (List.mem_of_getElem? (i := 298) (by rfl))) rfl), rfl⟩
set_option maxRecDepth 100000 in
theorem fi_X5_18 : cw_FI RX5 18 5 2 (.array .int) := ⟨_, _, _, _, kc_5, by decide, (cw_mem (List.mem_append_right _ (List.mem_of_getElem? (i := 298) (by rfl))) rfl), rfl, rfl, rfl, rfl⟩
set_option maxRecDepth 100000 in
theorem fl_X5_21 : cw_FL RX5 21 5 3 := ⟨_, _, _, _, kc_5, by decide, (cw_mem (List.mem_append_right _ (List.mem_of_getElem? (i := 299) (by rfl))) rfl), rfl⟩
set_option maxRecDepth 100000 in
theorem fi_X5_21 : cw_FI RX5 21 5 3 (.array .int) := ⟨_, _, _, _, kc_5, by decide, (cw_mem (List.mem_append_right _ (List.mem_of_getElem? (i := 299) (by rfl))) rfl), rfl, rfl, rfl, rfl⟩
set_option maxRecDepth 100000 in
theorem fl_X5_24 : cw_FL RX5 24 5 4 := ⟨_, _, _, _, kc_5, by decide, (cw_mem (List.mem_append_right _ (List.mem_of_getElem? (i := 300) (by rfl))) rfl), rfl⟩
set_option maxRecDepth 100000 in
theorem fi_X5_24 : cw_FI RX5 24 5 4 (.array .int) := ⟨_, _, _, _, kc_5, by decide, (cw_mem (List.mem_append_right _ (List.mem_of_getElem? (i := 300) (by rfl))) rfl), rfl, rfl, rfl, rfl⟩
set_option maxRecDepth 100000 in
theorem fl_X5_27 : cw_FL RX5 27 5 5 := ⟨_, _, _, _, kc_5, by decide, (cw_mem (List.mem_append_right _ (List.mem_of_getElem? (i := 301) (by rfl))) rfl), rfl⟩
set_option maxRecDepth 100000 in
theorem fi_X5_27 : cw_FI RX5 27 5 5 (.array .int) := ⟨_, _, _, _, kc_5, by decide, (cw_mem (List.mem_append_right _ (List.mem_of_getElem? (i := 301) (by rfl))) rfl), rfl, rfl, rfl, rfl⟩
set_option maxRecDepth 100000 in
theorem fl_X5_30 : cw_FL RX5 30 5 6 := ⟨_, _, _, _, kc_5, by decide, (cw_mem (List.mem_append_right _ (List.mem_of_getElem? (i := 302) (by rfl))) rfl), rfl⟩
set_option maxRecDepth 100000 in
theorem fp_X5_30 : cw_FP RX5 30 5 6 .int := ⟨_, _, _, _, kc_5, by decide, (cw_mem (List.mem_append_right _ (List.mem_of_getElem? (i := 302) (by rfl))) rfl), rfl, rfl, rfl⟩
set_option maxRecDepth 100000 in
theorem fl_X5_34 : cw_FL RX5 34 5 7 := ⟨_, _, _, _, kc_5, by decide, (cw_mem (List.mem_append_right _ (List.mem_of_getElem? (i := 303) (by rfl))) rfl), rfl⟩
set_option maxRecDepth 100000 in
theorem fp_X5_34 : cw_FP RX5 34 5 7 .boolean := ⟨_, _, _, _, kc_5, by decide, (cw_mem (List.mem_append_right _ (List.mem_of_getElem? (i := 303) (by rfl))) rfl), rfl, rfl, rfl⟩
set_option maxRecDepth 100000 in
theorem fl_X6_9 : cw_FL RX6 9 6 0 := ⟨_, _, _, _, kc_6, by decide, (cw_mem (List.mem_append_right _ (List.mem_of_getElem? (i := 73) (by rfl))) rfl), rfl⟩
set_option maxRecDepth 100000 in
theorem fi_X6_9 : cw_FI RX6 9 6 0 (.array .int) := ⟨_, _, _, _, kc_6, by decide, (cw_mem (List.mem_append_right _ (List.mem_of_getElem? (i := 73) (by rfl))) rfl), rfl, rfl, rfl, rfl⟩
set_option maxRecDepth 100000 in
theorem fl_X6_15 : cw_FL RX6 15 6 1 := ⟨_, _, _, _, kc_6, by decide, (cw_mem (List.mem_append_right _ (List.mem_of_getElem? (i := 74) (by rfl))) rfl), rfl⟩
set_option maxRecDepth 100000 in
theorem fi_X6_15 : cw_FI RX6 15 6 1 (.array .int) := ⟨_, _, _, _, kc_6, by decide, (cw_mem (List.mem_append_right _ (List.mem_of_getElem? (i := 74) (by rfl))) rfl), rfl, rfl, rfl, rfl⟩
set_option maxRecDepth 100000 in
theorem fl_X6_18 : cw_FL RX6 18 6 2 := ⟨_, _, _, _, kc_6, by decide, (cw_mem (List.mem_append_right _ (List.mem_of_getElem? (i := 75) (by rfl))) rfl), rfl⟩
set_option maxRecDepth 100000 in
theorem fi_X6_18 : cw_FI RX6 18 6 2 (.array .int) := ⟨_, _, _, _, kc_6, by decide, (cw_mem (List.mem_append_right _ (List.mem_of_getElem? (i := 75) (by rfl))) rfl), rfl, rfl, rfl, rfl⟩
set_option maxRecDepth 100000 in
theorem fl_X6_21 : cw_FL RX6 21 6 3 := ⟨_, _, _, _, kc_6, by decide, (cw_mem (List.mem_append_right _ (List.mem_of_getElem? (i := 76) (by rfl))) rfl), rfl⟩
set_option maxRecDepth 100000 in
theorem fp_X6_21 : cw_FP RX6 21 6 3 .int := ⟨_, _, _, _, kc_6, by decide, (cw_mem (List.mem_append_right _ (List.mem_of_getElem? (i := 76) (by rfl))) rfl), rfl, rfl, rfl⟩
set_option maxRecDepth 100000 in
theorem fl_X7_9 : cw_FL RX7 9 7 0 := ⟨_, _, _, _, kc_7, by decide, (cw_mem (List.mem_append_right _ (List.mem_of_getElem? (i := 164) (by rfl))) rfl), rfl⟩
set_option maxRecDepth 100000 in
theorem fp_X7_9 : cw_FP RX7 9 7 0 (.array .byte) := ⟨_, _, _, _, kc_7, by decide, (cw_mem (List.mem_append_right _ (List.mem_of_getElem? (i := 164) (by rfl))) rfl), rfl, rfl, rfl⟩
set_option maxRecDepth 100000 in
theorem fl_X7_15 : cw_FL RX7 15 7 1 := ⟨_, _, _, _, kc_7, by decide, (cw_mem (List.mem_append_right _ (List.mem_of_getElem? (i := 165) (by rfl))) rfl), rfl⟩
set_option maxRecDepth 100000 in
theorem fp_X7_15 : cw_FP RX7 15 7 1 .int := ⟨_, _, _, _, kc_7, by decide, (cw_mem (List.mem_append_right _ (List.mem_of_getElem? (i := 165) (by rfl))) rfl), rfl, rfl, rfl⟩
set_option maxRecDepth 100000 in
theorem fl_X7_19 : cw_FL RX7 19 7 2 := ⟨_, _, _, _, kc_7, by decide, (cw_mem (List.mem_append_right _ (List.mem_of_getElem? (i := 166) (by rfl))) rfl), rfl⟩
set_option maxRecDepth 100000 in
theorem fp_X7_19 : cw_FP RX7 19 7 2 .int := ⟨_, _, _, _, kc_7, by decide, (cw_mem (List.mem_append_right _ (List.mem_of_getElem? (i := 166) (by rfl))) rfl), rfl, rfl, rfl⟩
set_option maxRecDepth 100000 in
theorem fl_X7_22 : cw_FL RX7 22 7 3 := ⟨_, _, _, _, kc_7, by decide, (cw_mem (List.mem_append_right _ (List.mem_of_getElem? (i := 167) (by rfl))) rfl), rfl⟩
set_option maxRecDepth 100000 in
theorem fp_X7_22 : cw_FP RX7 22 7 3 .int := ⟨_, _, _, _, kc_7, by decide, (cw_mem (List.mem_append_right _ (List.mem_of_getElem? (i := 167) (by rfl))) rfl), rfl, rfl, rfl⟩
set_option maxRecDepth 100000 in
theorem fl_X7_25 : cw_FL RX7 25 7 4 := ⟨_, _, _, _, kc_7, by decide, (cw_mem (List.mem_append_right _ (List.mem_of_getElem? (i := 169) (by rfl))) rfl), rfl⟩
set_option maxRecDepth 100000 in
theorem fp_X7_25 : cw_FP RX7 25 7 4 .int := ⟨_, _, _, _, kc_7, by decide, (cw_mem (List.mem_append_right _ (List.mem_of_getElem? (i := 169) (by rfl))) rfl), rfl, rfl, rfl⟩
set_option maxRecDepth 100000 in
theorem fl_X7_28 : cw_FL RX7 28 7 5 := ⟨_, _, _, _, kc_7, by decide, (cw_mem (List.mem_append_right _ (List.mem_of_getElem? (i := 171) (by rfl))) rfl), rfl⟩
set_option maxRecDepth 100000 in
theorem fp_X7_28 : cw_FP RX7 28 7 5 .int := ⟨_, _, _, _, kc_7, by decide, (cw_mem (List.mem_append_right _ (List.mem_of_getElem? (i := 171) (by rfl))) rfl), rfl, rfl, rfl⟩
set_option maxRecDepth 100000 in
theorem fl_X8_9 : cw_FL RX8 9 8 0 := ⟨_, _, _, _, kc_8, by decide, (cw_mem (List.mem_append_right _ (List.mem_of_getElem? (i := 93) (by rfl))) rfl), rfl⟩
set_option maxRecDepth 100000 in
theorem fi_X8_9 : cw_FI RX8 9 8 0 (.array .short) := ⟨_, _, _, _, kc_8, by decide, (cw_mem (List.mem_append_right _ (List.mem_of_getElem? (i := 93) (by rfl))) rfl), rfl, rfl, rfl, rfl⟩
set_option maxRecDepth 100000 in
theorem fl_X8_15 : cw_FL RX8 15 8 1 := ⟨_, _, _, _, kc_8, by decide, (cw_mem (List.mem_append_right _ (List.mem_of_getElem? (i := 94) (by rfl))) rfl), rfl⟩
set_option maxRecDepth 100000 in
theorem fi_X8_15 : cw_FI RX8 15 8 1 (.array .int) := ⟨_, _, _, _, kc_8, by decide, (cw_mem (List.mem_append_right _ (List.mem_of_getElem? (i := 94) (by rfl))) rfl), rfl, rfl, rfl, rfl⟩
set_option maxRecDepth 100000 in
theorem fl_X9_9 : cw_FL RX9 9 9 3 := ⟨_, _, _, _, kc_9, by decide, (cw_mem (List.mem_append_right _ (List.mem_of_getElem? (i := 38) (by rfl))) rfl), rfl⟩
set_option maxRecDepth 100000 in
theorem fp_X9_9 : cw_FP RX9 9 9 3 .int := ⟨_, _, _, _, kc_9, by decide, (cw_mem (List.mem_append_right _ (List.mem_of_getElem? (i := 38) (by rfl))) rfl), rfl, rfl, rfl⟩
set_option maxRecDepth 100000 in
theorem fl_X9_15 : cw_FL RX9 15 9 0 := ⟨_, _, _, _, kc_9, by decide, (cw_mem (List.mem_append_right _ (List.mem_of_getElem? (i := 35) (by rfl))) rfl), rfl⟩
set_option maxRecDepth 100000 in
theorem fi_X9_15 : cw_FI RX9 15 9 0 (.array .int) := ⟨_, _, _, _, kc_9, by decide, (cw_mem (List.mem_append_right _ (List.mem_of_getElem? (i := 35) (by rfl))) rfl), rfl, rfl, rfl, rfl⟩
set_option maxRecDepth 100000 in
theorem fl_X9_19 : cw_FL RX9 19 9 1 := ⟨_, _, _, _, kc_9, by decide, (cw_mem (List.mem_append_right _ (List.mem_of_getElem? (i := 36) (by rfl))) rfl), rfl⟩
set_option maxRecDepth 100000 in
theorem fi_X9_19 : cw_FI RX9 19 9 1 (.array .int) := ⟨_, _, _, _, kc_9, by decide, (cw_mem (List.mem_append_right _ (List.mem_of_getElem? (i := 36) (by rfl))) rfl), rfl, rfl, rfl, rfl⟩
set_option maxRecDepth 100000 in
theorem fl_X9_22 : cw_FL RX9 22 9 2 := ⟨_, _, _, _, kc_9, by decide, (cw_mem (List.mem_append_right _ (List.mem_of_getElem? (i := 37) (by rfl))) rfl), rfl⟩
set_option maxRecDepth 100000 in
theorem fi_X9_22 : cw_FI RX9 22 9 2 (.array .int) := ⟨_, _, _, _, kc_9, by decide, (cw_mem (List.mem_append_right _ (List.mem_of_getElem? (i := 37) (by rfl))) rfl), rfl, rfl, rfl, rfl⟩
set_option maxRecDepth 100000 in
theorem fl_X10_9 : cw_FL RX10 9 10 0 := ⟨_, _, _, _, kc_10, by decide, (cw_mem (List.mem_append_right _ (List.mem_of_getElem? (i := 193) (by rfl))) rfl), rfl⟩
set_option maxRecDepth 100000 in
theorem fi_X10_9 : cw_FI RX10 9 10 0 (.array .boolean) := ⟨_, _, _, _, kc_10, by decide, (cw_mem (List.mem_append_right _ (List.mem_of_getElem? (i := 193) (by rfl))) rfl), rfl, rfl, rfl, rfl⟩
set_option maxRecDepth 100000 in
theorem fl_X10_15 : cw_FL RX10 15 10 1 := ⟨_, _, _, _, kc_10, by decide, (cw_mem (List.mem_append_right _ (List.mem_of_getElem? (i := 194) (by rfl))) rfl), rfl⟩
set_option maxRecDepth 100000 in
theorem fi_X10_15 : cw_FI RX10 15 10 1 (.array .int) := ⟨_, _, _, _, kc_10, by decide, (cw_mem (List.mem_append_right _ (List.mem_of_getElem? (i := 194) (by rfl))) rfl), rfl, rfl, rfl, rfl⟩
set_option maxRecDepth 100000 in
theorem fl_X10_19 : cw_FL RX10 19 10 2 := ⟨_, _, _, _, kc_10, by decide, (cw_mem (List.mem_append_right _ (List.mem_of_getElem? (i := 195) (by rfl))) rfl), rfl⟩
set_option maxRecDepth 100000 in
theorem fi_X10_19 : cw_FI RX10 19 10 2 (.array .int) := ⟨_, _, _, _, kc_10, by decide, (cw_mem (List.mem_append_right _ (List.mem_of_getElem? (i := 195) (by rfl))) rfl), rfl, rfl, rfl, rfl⟩
set_option maxRecDepth 100000 in
theorem fl_X10_22 : cw_FL RX10 22 10 3 := ⟨_, _, _, _, kc_10, by decide, (cw_mem (List.mem_append_right _ (List.mem_of_getElem? (i := 196) (by rfl))) rfl), rfl⟩
set_option maxRecDepth 100000 in
theorem fi_X10_22 : cw_FI RX10 22 10 3 (.array .int) := ⟨_, _, _, _, kc_10, by decide, (cw_mem (List.mem_append_right _ (List.mem_of_getElem? (i := 196) (by rfl))) rfl), rfl, rfl, rfl, rfl⟩
set_option maxRecDepth 100000 in
theorem fl_X10_25 : cw_FL RX10 25 10 4 := ⟨_, _, _, _, kc_10, by decide, (cw_mem (List.mem_append_right _ (List.mem_of_getElem? (i := 197) (by rfl))) rfl), rfl⟩
set_option maxRecDepth 100000 in
theorem fi_X10_25 : cw_FI RX10 25 10 4 (.array .int) := ⟨_, _, _, _, kc_10, by decide, (cw_mem (List.mem_append_right _ (List.mem_of_getElem? (i := 197) (by rfl))) rfl), rfl, rfl, rfl, rfl⟩
set_option maxRecDepth 100000 in
theorem fl_X10_28 : cw_FL RX10 28 10 5 := ⟨_, _, _, _, kc_10, by decide, (cw_mem (List.mem_append_right _ (List.mem_of_getElem? (i := 198) (by rfl))) rfl), rfl⟩
set_option maxRecDepth 100000 in
theorem fi_X10_28 : cw_FI RX10 28 10 5 (.array .int) := ⟨_, _, _, _, kc_10, by decide, (cw_mem (List.mem_append_right _ (List.mem_of_getElem? (i := 198) (by rfl))) rfl), rfl, rfl, rfl, rfl⟩
set_option maxRecDepth 100000 in
theorem fl_X10_31 : cw_FL RX10 31 10 6 := ⟨_, _, _, _, kc_10, by decide, (cw_mem (List.mem_append_right _ (List.mem_of_getElem? (i := 199) (by rfl))) rfl), rfl⟩
set_option maxRecDepth 100000 in
theorem fi_X10_31 : cw_FI RX10 31 10 6 (.array .int) := ⟨_, _, _, _, kc_10, by decide, (cw_mem (List.mem_append_right _ (List.mem_of_getElem? (i := 199) (by rfl))) rfl), rfl, rfl, rfl, rfl⟩
set_option maxRecDepth 100000 in
theorem fl_X10_34 : cw_FL RX10 34 10 7 := ⟨_, _, _, _, kc_10, by decide, (cw_mem (List.mem_append_right _ (List.mem_of_getElem? (i := 200) (by rfl))) rfl), rfl⟩
set_option maxRecDepth 100000 in
theorem fp_X10_34 : cw_FP RX10 34 10 7 .int := ⟨_, _, _, _, kc_10, by decide, (cw_mem (List.mem_append_right _ (List.mem_of_getElem? (i := 200) (by rfl))) rfl), rfl, rfl, rfl⟩
set_option maxRecDepth 100000 in
theorem fl_X10_38 : cw_FL RX10 38 10 8 := ⟨_, _, _, _, kc_10, by decide, (cw_mem (List.mem_append_right _ (List.mem_of_getElem? (i := 201) (by rfl))) rfl), rfl⟩
set_option maxRecDepth 100000 in
theorem fp_X10_38 : cw_FP RX10 38 10 8 .int := ⟨_, _, _, _, kc_10, by decide, (cw_mem (List.mem_append_right _ (List.mem_of_getElem? (i := 201) (by rfl))) rfl), rfl, rfl, rfl⟩
set_option maxRecDepth 100000 in
theorem fl_X12_13 : cw_FL RX12 13 12 1 := ⟨_, _, _, _, kc_12, by decide, (cw_mem (List.mem_append_right _ (List.mem_of_getElem? (i := 989) (by rfl))) rfl), rfl⟩
set_option maxRecDepth 100000 in
theorem fi_X12_13 : cw_FI RX12 13 12 1 (.array .byte) := ⟨_, _, _, _, kc_12, by decide, (cw_mem (List.mem_append_right _ (List.mem_of_getElem? (i := 989) (by rfl))) rfl), rfl, rfl, rfl, rfl⟩
set_option maxRecDepth 100000 in
theorem fl_X12_17 : cw_FL RX12 17 12 3 := ⟨_, _, _, _, kc_12, by decide, (cw_mem (List.mem_append_right _ (List.mem_of_getElem? (i := 991) (by rfl))) rfl), rfl⟩
set_option maxRecDepth 100000 in
theorem fi_X12_17 : cw_FI RX12 17 12 3 (.array .byte) := ⟨_, _, _, _, kc_12, by decide, (cw_mem (List.mem_append_right _ (List.mem_of_getElem? (i := 991) (by rfl))) rfl), rfl, rfl, rfl, rfl⟩
set_option maxRecDepth 100000 in
theorem fl_X12_20 : cw_FL RX12 20 12 5 := ⟨_, _, _, _, kc_12, by decide, (cw_mem (List.mem_append_right _ (List.mem_of_getElem? (i := 993) (by rfl))) rfl), rfl⟩
set_option maxRecDepth 100000 in
theorem fi_X12_20 : cw_FI RX12 20 12 5 (.array .int) := ⟨_, _, _, _, kc_12, by decide, (cw_mem (List.mem_append_right _ (List.mem_of_getElem? (i := 993) (by rfl))) rfl), rfl, rfl, rfl, rfl⟩
set_option maxRecDepth 100000 in
theorem fl_X12_24 : cw_FL RX12 24 12 6 := ⟨_, _, _, _, kc_12, by decide, (cw_mem (List.mem_append_right _ (List.mem_of_getElem? (i := 994) (by rfl))) rfl), rfl⟩
set_option maxRecDepth 100000 in
theorem fi_X12_24 : cw_FI RX12 24 12 6 (.array .int) := ⟨_, _, _, _, kc_12, by decide, (cw_mem (List.mem_append_right _ (List.mem_of_getElem? (i := 994) (by rfl))) rfl), rfl, rfl, rfl, rfl⟩
set_option maxRecDepth 100000 in
theorem fl_X12_27 : cw_FL RX12 27 12 7 := ⟨_, _, _, _, kc_12, by decide, (cw_mem (List.mem_append_right _ (List.mem_of_getElem? (i := 995) (by rfl))) rfl), rfl⟩
set_option maxRecDepth 100000 in
theorem fi_X12_27 : cw_FI RX12 27 12 7 (.array .int) := ⟨_, _, _, _, kc_12, by decide, (cw_mem (List.mem_append_right _ (List.mem_of_getElem? (i := 995) (by rfl))) rfl), rfl, rfl, rfl, rfl⟩
set_option maxRecDepth 100000 in
theorem fl_X12_30 : cw_FL RX12 30 12 8 := ⟨_, _, _, _, kc_12, by decide, (cw_mem (List.mem_append_right _ (List.mem_of_getElem? (i := 996) (by rfl))) rfl), rfl⟩
set_option maxRecDepth 100000 in
theorem fi_X12_30 : cw_FI RX12 30 12 8 (.array .long) := ⟨_, _, _, _, kc_12, by decide, (cw_mem (List.mem_append_right _ (List.mem_of_getElem? (i := 996) (by rfl))) rfl), rfl, rfl, rfl, rfl⟩
set_option maxRecDepth 100000 in
theorem fl_X12_34 : cw_FL RX12 34 12 9 := ⟨_, _, _, _, kc_12, by decide, (cw_mem (List.mem_append_right _ (List.mem_of_getElem? (i := 997) (by rfl))) rfl), rfl⟩
set_option maxRecDepth 100000 in
theorem fi_X12_34 : cw_FI RX12 34 12 9 (.array .long) := ⟨_, _, _, _, kc_12, by decide, (cw_mem (List.mem_append_right _ (List.mem_of_getElem? (i := 997) (by rfl))) rfl), rfl, rfl, rfl, rfl⟩
set_option maxRecDepth 100000 in
theorem fl_X12_37 : cw_FL RX12 37 12 17 := ⟨_, _, _, _, kc_12, by decide, (cw_mem (List.mem_append_right _ (List.mem_of_getElem? (i := 1005) (by rfl))) rfl), rfl⟩
set_option maxRecDepth 100000 in
theorem fp_X12_37 : cw_FP RX12 37 12 17 .int := ⟨_, _, _, _, kc_12, by decide, (cw_mem (List.mem_append_right _ (List.mem_of_getElem? (i := 1005) (by rfl))) rfl), rfl, rfl, rfl⟩
set_option maxRecDepth 100000 in
theorem fl_X12_40 : cw_FL RX12 40 12 20 := ⟨_, _, _, _, kc_12, by decide, (cw_mem (List.mem_append_right _ (List.mem_of_getElem? (i := 1008) (by rfl))) rfl), rfl⟩
set_option maxRecDepth 100000 in
theorem fi_X12_40 : cw_FI RX12 40 12 20 (.array .int) := ⟨_, _, _, _, kc_12, by decide, (cw_mem (List.mem_append_right _ (List.mem_of_getElem? (i := 1008) (by rfl))) rfl), rfl, rfl, rfl, rfl⟩
set_option maxRecDepth 100000 in
theorem fl_X12_43 : cw_FL RX12 43 12 21 := ⟨_, _, _, _, kc_12, by decide, (cw_mem (List.mem_append_right _ (List.mem_of_getElem? (i := 1009) (by rfl))) rfl), rfl⟩
set_option maxRecDepth 100000 in
theorem fi_X12_43 : cw_FI RX12 43 12 21 (.array .boolean) := ⟨_, _, _, _, kc_12, by decide, (cw_mem (List.mem_append_right _ (List.mem_of_getElem? (i := 1009) (by rfl))) rfl), rfl, rfl, rfl, rfl⟩
set_option maxRecDepth 100000 in
theorem fl_X12_47 : cw_FL RX12 47 12 22 := ⟨_, _, _, _, kc_12, by decide, (cw_mem (List.mem_append_right _ (List.mem_of_getElem? (i := 1010) (by rfl))) rfl), rfl⟩
set_option maxRecDepth 100000 in
theorem fi_X12_47 : cw_FI RX12 47 12 22 (.array .int) := ⟨_, _, _, _, kc_12, by decide, (cw_mem (List.mem_append_right _ (List.mem_of_getElem? (i := 1010) (by rfl))) rfl), rfl, rfl, rfl, rfl⟩
set_option maxRecDepth 100000 in
theorem fl_X12_50 : cw_FL RX12 50 12 23 := ⟨_, _, _, _, kc_12, by decide, (cw_mem (List.mem_append_right _ (List.mem_of_getElem? (i := 1011) (by rfl))) rfl), rfl⟩
set_option maxRecDepth 100000 in
theorem fi_X12_50 : cw_FI RX12 50 12 23 (.array .int) := ⟨_, _, _, _, kc_12, by decide, (cw_mem (List.mem_append_right _ (List.mem_of_getElem? (i := 1011) (by rfl))) rfl), rfl, rfl, rfl, rfl⟩
set_option maxRecDepth 100000 in
theorem fl_X12_53 : cw_FL RX12 53 12 24 := ⟨_, _, _, _, kc_12, by decide, (cw_mem (List.mem_append_right _ (List.mem_of_getElem? (i := 1012) (by rfl))) rfl), rfl⟩
set_option maxRecDepth 100000 in
theorem fi_X12_53 : cw_FI RX12 53 12 24 (.array .int) := ⟨_, _, _, _, kc_12, by decide, (cw_mem (List.mem_append_right _ (List.mem_of_getElem? (i := 1012) (by rfl))) rfl), rfl, rfl, rfl, rfl⟩
set_option maxRecDepth 100000 in
theorem fl_X12_56 : cw_FL RX12 56 12 25 := ⟨_, _, _, _, kc_12, by decide, (cw_mem (List.mem_append_right _ (List.mem_of_getElem? (i := 1013) (by rfl))) rfl), rfl⟩
set_option maxRecDepth 100000 in
theorem fi_X12_56 : cw_FI RX12 56 12 25 (.array .int) := ⟨_, _, _, _, kc_12, by decide, (cw_mem (List.mem_append_right _ (List.mem_of_getElem? (i := 1013) (by rfl))) rfl), rfl, rfl, rfl, rfl⟩
set_option maxRecDepth 100000 in
theorem fl_X12_59 : cw_FL RX12 59 12 26 := ⟨_, _, _, _, kc_12, by decide, (cw_mem (List.mem_append_right _ (List.mem_of_getElem? (i := 1014) (by rfl))) rfl), rfl⟩
set_option maxRecDepth 100000 in
theorem fi_X12_59 : cw_FI RX12 59 12 26 (.array .int) := ⟨_, _, _, _, kc_12, by decide, (cw_mem (List.mem_append_right _ (List.mem_of_getElem? (i := 1014) (by rfl))) rfl), rfl, rfl, rfl, rfl⟩
set_option maxRecDepth 100000 in
theorem fl_X12_62 : cw_FL RX12 62 12 27 := ⟨_, _, _, _, kc_12, by decide, (cw_mem (List.mem_append_right _ (List.mem_of_getElem? (i := 1015) (by rfl))) rfl), rfl⟩
set_option maxRecDepth 100000 in
theorem fi_X12_62 : cw_FI RX12 62 12 27 (.array .int) := ⟨_, _, _, _, kc_12, by decide, (cw_mem (List.mem_append_right _ (List.mem_of_getElem? (i := 1015) (by rfl))) rfl), rfl, rfl, rfl, rfl⟩
set_option maxRecDepth 100000 in
theorem fl_X12_65 : cw_FL RX12 65 12 28 := ⟨_, _, _, _, kc_12, by decide, (cw_mem (List.mem_append_right _ (List.mem_of_getElem? (i := 1016) (by rfl))) rfl), rfl⟩
set_option maxRecDepth 100000 in
theorem fi_X12_65 : cw_FI RX12 65 12 28 (.array .int) := ⟨_, _, _, _, kc_12, by decide, (cw_mem (List.mem_append_right _ (List.mem_of_getElem? (i := 1016) (by rfl))) rfl), rfl, rfl, rfl, rfl⟩
set_option maxRecDepth 100000 in
theorem fl_X12_68 : cw_FL RX12 68 12 29 := ⟨_, _, _, _, kc_12, by decide, (cw_mem (List.mem_append_right _ (List.mem_of_getElem? (i := 1017) (by rfl))) rfl), rfl⟩
set_option maxRecDepth 100000 in
theorem fi_X12_68 : cw_FI RX12 68 12 29 (.array .int) := ⟨_, _, _, _, kc_12, by decide, (cw_mem (List.mem_append_right _ (List.mem_of_getElem? (i := 1017) (by rfl))) rfl), rfl, rfl, rfl, rfl⟩
set_option maxRecDepth 100000 in
theorem fl_X12_71 : cw_FL RX12 71 12 31 := ⟨_, _, _, _, kc_12, by decide, (cw_mem (List.mem_append_right _ (List.mem_of_getElem? (i := 1019) (by rfl))) rfl), rfl⟩
set_option maxRecDepth 100000 in
theorem fi_X12_71 : cw_FI RX12 71 12 31 (.array .int) := ⟨_, _, _, _, kc_12, by decide, (cw_mem (List.mem_append_right _ (List.mem_of_getElem? (i := 1019) (by rfl))) rfl), rfl, rfl, rfl, rfl⟩
set_option maxRecDepth 100000 in
theorem fl_X12_74 : cw_FL RX12 74 12 32 := ⟨_, _, _, _, kc_12, by decide, (cw_mem (List.mem_append_right _ (List.mem_of_getElem? (i := 1020) (by rfl))) rfl), rfl⟩
set_option maxRecDepth 100000 in
theorem fi_X12_74 : cw_FI RX12 74 12 32 (.array .int) := ⟨_, _, _, _, kc_12, by decide, (cw_mem (List.mem_append_right _ (List.mem_of_getElem? (i := 1020) (by rfl))) rfl), rfl, rfl, rfl, rfl⟩
set_option maxRecDepth 100000 in
theorem fl_X12_77 : cw_FL RX12 77 12 33 := ⟨_, _, _, _, kc_12, by decide, (cw_mem (List.mem_append_right _ (List.mem_of_getElem? (i := 1021) (by rfl))) rfl), rfl⟩
set_option maxRecDepth 100000 in
theorem fi_X12_77 : cw_FI RX12 77 12 33 (.array .int) := ⟨_, _, _, _, kc_12, by decide, (cw_mem (List.mem_append_right _ (List.mem_of_getElem? (i := 1021) (by rfl))) rfl), rfl, rfl, rfl, rfl⟩
set_option maxRecDepth 100000 in
theorem fl_X12_80 : cw_FL RX12 80 12 37 := ⟨_, _, _, _, kc_12, by decide, (cw_mem (List.mem_append_right _ (List.mem_of_getElem? (i := 1025) (by rfl))) rfl), rfl⟩
set_option maxRecDepth 100000 in
theorem fi_X12_80 : cw_FI RX12 80 12 37 (.array .int) := ⟨_, _, _, _, kc_12, by decide, (cw_mem (List.mem_append_right _ (List.mem_of_getElem? (i := 1025) (by rfl))) rfl), rfl, rfl, rfl, rfl⟩
set_option maxRecDepth 100000 in
theorem fl_X12_83 : cw_FL RX12 83 12 38 := ⟨_, _, _, _, kc_12, by decide, (cw_mem (List.mem_append_right _ (List.mem_of_getElem? (i := 1026) (by rfl))) rfl), rfl⟩
set_option maxRecDepth 100000 in
theorem fi_X12_83 : cw_FI RX12 83 12 38 (.array .int) := ⟨_, _, _, _, kc_12, by decide, (cw_mem (List.mem_append_right _ (List.mem_of_getElem? (i := 1026) (by rfl))) rfl), rfl, rfl, rfl, rfl⟩
set_option maxRecDepth 100000 in
theorem fl_X12_86 : cw_FL RX12 86 12 39 := ⟨_, _, _, _, kc_12, by decide, (cw_mem (List.mem_append_right _ (List.mem_of_getElem? (i := 1027) (by rfl))) rfl), rfl⟩
set_option maxRecDepth 100000 in
theorem fi_X12_86 : cw_FI RX12 86 12 39 (.array .int) := ⟨_, _, _, _, kc_12, by decide, (cw_mem (List.mem_append_right _ (List.mem_of_getElem? (i := 1027) (by rfl))) rfl), rfl, rfl, rfl, rfl⟩
set_option maxRecDepth 100000 in
theorem fl_X12_89 : cw_FL RX12 89 12 41 := ⟨_, _, _, _, kc_12, by decide, (cw_mem (List.mem_append_right _ (List.mem_of_getElem? (i := 1029) (by rfl))) rfl), rfl⟩
set_option maxRecDepth 100000 in
theorem fi_X12_89 : cw_FI RX12 89 12 41 (.array .int) := ⟨_, _, _, _, kc_12, by decide, (cw_mem (List.mem_append_right _ (List.mem_of_getElem? (i := 1029) (by rfl))) rfl), rfl, rfl, rfl, rfl⟩
set_option maxRecDepth 100000 in
theorem fl_X12_92 : cw_FL RX12 92 12 42 := ⟨_, _, _, _, kc_12, by decide, (cw_mem (List.mem_append_right _ (List.mem_of_getElem? (i := 1030) (by rfl))) rfl), rfl⟩
set_option maxRecDepth 100000 in
theorem fi_X12_92 : cw_FI RX12 92 12 42 (.array .int) := ⟨_, _, _, _, kc_12, by decide, (cw_mem (List.mem_append_right _ (List.mem_of_getElem? (i := 1030) (by rfl))) rfl), rfl, rfl, rfl, rfl⟩
set_option maxRecDepth 100000 in
theorem fl_X12_95 : cw_FL RX12 95 12 44 := ⟨_, _, _, _, kc_12, by decide, (cw_mem (List.mem_append_right _ (List.mem_of_getElem? (i := 1032) (by rfl))) rfl), rfl⟩
set_option maxRecDepth 100000 in
theorem fi_X12_95 : cw_FI RX12 95 12 44 (.array .int) := ⟨_, _, _, _, kc_12, by decide, (cw_mem (List.mem_append_right _ (List.mem_of_getElem? (i := 1032) (by rfl))) rfl), rfl, rfl, rfl, rfl⟩
set_option maxRecDepth 100000 in
theorem fl_X12_98 : cw_FL RX12 98 12 45 := ⟨_, _, _, _, kc_12, by decide, (cw_mem (List.mem_append_right _ (List.mem_of_getElem? (i := 1033) (by rfl))) rfl), rfl⟩
set_option maxRecDepth 100000 in
theorem fi_X12_98 : cw_FI RX12 98 12 45 (.array .int) := ⟨_, _, _, _, kc_12, by decide, (cw_mem (List.mem_append_right _ (List.mem_of_getElem? (i := 1033) (by rfl))) rfl), rfl, rfl, rfl, rfl⟩
set_option maxRecDepth 100000 in
theorem fl_X12_101 : cw_FL RX12 101 12 46 := ⟨_, _, _, _, kc_12, by decide, (cw_mem (List.mem_append_right _ (List.mem_of_getElem? (i := 1034) (by rfl))) rfl), rfl⟩
set_option maxRecDepth 100000 in
theorem fi_X12_101 : cw_FI RX12 101 12 46 (.array .int) := ⟨_, _, _, _, kc_12, by decide, (cw_mem (List.mem_append_right _ (List.mem_of_getElem? (i := 1034) (by rfl))) rfl), rfl, rfl, rfl, rfl⟩
set_option maxRecDepth 100000 in
theorem fl_X12_104 : cw_FL RX12 104 12 47 := ⟨_, _, _, _, kc_12, by decide, (cw_mem (List.mem_append_right _ (List.mem_of_getElem? (i := 1035) (by rfl))) rfl), rfl⟩
set_option maxRecDepth 100000 in
theorem fi_X12_104 : cw_FI RX12 104 12 47 (.array .int) := ⟨_, _, _, _, kc_12, by decide, (cw_mem (List.mem_append_right _ (List.mem_of_getElem? (i := 1035) (by rfl))) rfl), rfl, rfl, rfl, rfl⟩
set_option maxRecDepth 100000 in
theorem fl_X12_107 : cw_FL RX12 107 12 48 := ⟨_, _, _, _, kc_12, by decide, (cw_mem (List.mem_append_right _ (List.mem_of_getElem? (i := 1036) (by rfl))) rfl), rfl⟩
set_option maxRecDepth 100000 in
theorem fi_X12_107 : cw_FI RX12 107 12 48 (.array .int) := ⟨_, _, _, _, kc_12, by decide, (cw_mem (List.mem_append_right _ (List.mem_of_getElem? (i := 1036) (by rfl))) rfl), rfl, rfl, rfl, rfl⟩
set_option maxRecDepth 100000 in
theorem fl_X12_110 : cw_FL RX12 110 12 51 := ⟨_, _, _, _, kc_12, by decide, (cw_mem (List.mem_append_right _ (List.mem_of_getElem? (i := 1039) (by rfl))) rfl), rfl⟩
set_option maxRecDepth 100000 in
theorem fi_X12_110 : cw_FI RX12 110 12 51 (.array .boolean) := ⟨_, _, _, _, kc_12, by decide, (cw_mem (List.mem_append_right _ (List.mem_of_getElem? (i := 1039) (by rfl))) rfl), rfl, rfl, rfl, rfl⟩
set_option maxRecDepth 100000 in
theorem fl_X12_113 : cw_FL RX12 113 12 52 := ⟨_, _, _, _, kc_12, by decide, (cw_mem (List.mem_append_right _ (List.mem_of_getElem? (i := 1040) (by rfl))) rfl), rfl⟩
set_option maxRecDepth 100000 in
theorem fi_X12_113 : cw_FI RX12 113 12 52 (.array .int) := ⟨_, _, _, _, kc_12, by decide, (cw_mem (List.mem_append_right _ (List.mem_of_getElem? (i := 1040) (by rfl))) rfl), rfl, rfl, rfl, rfl⟩
set_option maxRecDepth 100000 in
theorem fl_X12_116 : cw_FL RX12 116 12 53 := ⟨_, _, _, _, kc_12, by decide, (cw_mem (List.mem_append_right _ (List.mem_of_getElem? (i := 1041) (by rfl))) rfl), rfl⟩
set_option maxRecDepth 100000 in
theorem fi_X12_116 : cw_FI RX12 116 12 53 (.array .int) := ⟨_, _, _, _, kc_12, by decide, (cw_mem (List.mem_append_right _ (List.mem_of_getElem? (i := 1041) (by rfl))) rfl), rfl, rfl, rfl, rfl⟩
set_option maxRecDepth 100000 in
theorem fl_X12_119 : cw_FL RX12 119 12 54 := ⟨_, _, _, _, kc_12, by decide, (cw_mem (List.mem_append_right _ (List.mem_of_getElem? (i := 1042) (by rfl))) rfl), rfl⟩
set_option maxRecDepth 100000 in
theorem fi_X12_119 : cw_FI RX12 119 12 54 (.array .int) := ⟨_, _, _, _, kc_12, by decide, (cw_mem (List.mem_append_right _ (List.mem_of_getElem? (i := 1042) (by rfl))) rfl), rfl, rfl, rfl, rfl⟩
set_option maxRecDepth 100000 in
theorem fl_X12_122 : cw_FL RX12 122 12 55 := ⟨_, _, _, _, kc_12, by decide, (cw_mem (List.mem_append_right _ (List.mem_of_getElem? (i := 1043) (by rfl))) rfl), rfl⟩
set_option maxRecDepth 100000 in
theorem fi_X12_122 : cw_FI RX12 122 12 55 (.array .int) := ⟨_, _, _, _, kc_12, by decide, (cw_mem (List.mem_append_right _ (List.mem_of_getElem? (i := 1043) (by rfl))) rfl), rfl, rfl, rfl, rfl⟩
set_option maxRecDepth 100000 in
theorem fl_X12_125 : cw_FL RX12 125 12 56 := ⟨_, _, _, _, kc_12, by decide, (cw_mem (List.mem_append_right _ (List.mem_of_getElem? (i := 1044) (by rfl))) rfl), rfl⟩
set_option maxRecDepth 100000 in
theorem fi_X12_125 : cw_FI RX12 125 12 56 (.array .int) := ⟨_, _, _, _, kc_12, by decide, (cw_mem (List.mem_append_right _ (List.mem_of_getElem? (i := 1044) (by rfl))) rfl), rfl, rfl, rfl, rfl⟩
set_option maxRecDepth 100000 in
theorem fl_X12_128 : cw_FL RX12 128 12 57 := ⟨_, _, _, _, kc_12, by decide, (cw_mem (List.mem_append_right _ (List.mem_of_getElem? (i := 1045) (by rfl))) rfl), rfl⟩
set_option maxRecDepth 100000 in
theorem fi_X12_128 : cw_FI RX12 128 12 57 (.array .int) := ⟨_, _, _, _, kc_12, by decide, (cw_mem (List.mem_append_right _ (List.mem_of_getElem? (i := 1045) (by rfl))) rfl), rfl, rfl, rfl, rfl⟩
set_option maxRecDepth 100000 in
theorem fl_X12_131 : cw_FL RX12 131 12 58 := ⟨_, _, _, _, kc_12, by decide, (cw_mem (List.mem_append_right _ (List.mem_of_getElem? (i := 1046) (by rfl))) rfl), rfl⟩
set_option maxRecDepth 100000 in
theorem fi_X12_131 : cw_FI RX12 131 12 58 (.array .int) := ⟨_, _, _, _, kc_12, by decide, (cw_mem (List.mem_append_right _ (List.mem_of_getElem? (i := 1046) (by rfl))) rfl), rfl, rfl, rfl, rfl⟩
set_option maxRecDepth 100000 in
theorem fl_X12_134 : cw_FL RX12 134 12 62 := ⟨_, _, _, _, kc_12, by decide, (cw_mem (List.mem_append_right _ (List.mem_of_getElem? (i := 1050) (by rfl))) rfl), rfl⟩
set_option maxRecDepth 100000 in
theorem fi_X12_134 : cw_FI RX12 134 12 62 (.array .int) := ⟨_, _, _, _, kc_12, by decide, (cw_mem (List.mem_append_right _ (List.mem_of_getElem? (i := 1050) (by rfl))) rfl), rfl, rfl, rfl, rfl⟩
set_option maxRecDepth 100000 in
theorem fl_X12_137 : cw_FL RX12 137 12 63 := ⟨_, _, _, _, kc_12, by decide, (cw_mem (List.mem_append_right _ (List.mem_of_getElem? (i := 1051) (by rfl))) rfl), rfl⟩
set_option maxRecDepth 100000 in
theorem fi_X12_137 : cw_FI RX12 137 12 63 (.array .int) := ⟨_, _, _, _, kc_12, by decide, (cw_mem (List.mem_append_right _ (List.mem_of_getElem? (i := 1051) (by rfl))) rfl), rfl, rfl, rfl, rfl⟩
set_option maxRecDepth 100000 in
theorem fl_X12_140 : cw_FL RX12 140 12 66 := ⟨_, _, _, _, kc_12, by decide, (cw_mem (List.mem_append_right _ (List.mem_of_getElem? (i := 1054) (by rfl))) rfl), rfl⟩
set_option maxRecDepth 100000 in
theorem fi_X12_140 : cw_FI RX12 140 12 66 (.array .int) := ⟨_, _, _, _, kc_12, by decide, (cw_mem (List.mem_append_right _ (List.mem_of_getElem? (i := 1054) (by rfl))) rfl), rfl, rfl, rfl, rfl⟩
set_option maxRecDepth 100000 in
theorem fl_X12_143 : cw_FL RX12 143 12 67 := ⟨_, _, _, _, kc_12, by decide, (cw_mem (List.mem_append_right _ (List.mem_of_getElem? (i := 1055) (by rfl))) rfl), rfl⟩
set_option maxRecDepth 100000 in
theorem fi_X12_143 : cw_FI RX12 143 12 67 (.array .int) := ⟨_, _, _, _, kc_12, by decide, (cw_mem (List.mem_append_right _ (List.mem_of_getElem? (i := 1055) (by rfl))) rfl), rfl, rfl, rfl, rfl⟩
set_option maxRecDepth 100000 in
theorem fl_X12_146 : cw_FL RX12 146 12 68 := ⟨_, _, _, _, kc_12, by decide, (cw_mem (List.mem_append_right _ (List.mem_of_getElem? (i := 1056) (by rfl))) rfl), rfl⟩
set_option maxRecDepth 100000 in
theorem fi_X12_146 : cw_FI RX12 146 12 68 (.array .int) := ⟨_, _, _, _, kc_12, by decide, (cw_mem (List.mem_append_right _ (List.mem_of_getElem? (i := 1056) (by rfl))) rfl), rfl, rfl, rfl, rfl⟩
set_option maxRecDepth 100000 in
theorem fl_X12_149 : cw_FL RX12 149 12 69 := ⟨_, _, _, _, kc_12, by decide, (cw_mem (List.mem_append_right _ (List.mem_of_getElem? (i := 1057) (by rfl))) rfl), rfl⟩
set_option maxRecDepth 100000 in
theorem fi_X12_149 : cw_FI RX12 149 12 69 (.array .int) := ⟨_, _, _, _, kc_12, by decide, (cw_mem (List.mem_append_right _ (List.mem_of_getElem? (i := 1057) (by rfl))) rfl), rfl, rfl, rfl, rfl⟩
set_option maxRecDepth 100000 in
theorem fl_X12_152 : cw_FL RX12 152 12 70 := ⟨_, _, _, _, kc_12, by decide, (cw_mem (List.mem_append_right _ (List.mem_of_getElem? (i := 1058) (by rfl))) rfl), rfl⟩
set_option maxRecDepth 100000 in
theorem fi_X12_152 : cw_FI RX12 152 12 70 (.array .int) := ⟨_, _, _, _, kc_12, by decide, (cw_mem (List.mem_append_right _ (List.mem_of_getElem? (i := 1058) (by rfl))) rfl), rfl, rfl, rfl, rfl⟩
set_option maxRecDepth 100000 in
theorem fl_X12_155 : cw_FL RX12 155 12 71 := ⟨_, _, _, _, kc_12, by decide, (cw_mem (List.mem_append_right _ (List.mem_of_getElem? (i := 1059) (by rfl))) rfl), rfl⟩
set_option maxRecDepth 100000 in
theorem fi_X12_155 : cw_FI RX12 155 12 71 (.array .int) := ⟨_, _, _, _, kc_12, by decide, (cw_mem (List.mem_append_right _ (List.mem_of_getElem? (i := 1059) (by rfl))) rfl), rfl, rfl, rfl, rfl⟩
set_option maxRecDepth 100000 in
theorem fl_X12_158 : cw_FL RX12 158 12 72 := ⟨_, _, _, _, kc_12, by decide, (cw_mem (List.mem_append_right _ (List.mem_of_getElem? (i := 1060) (by rfl))) rfl), rfl⟩
set_option maxRecDepth 100000 in
theorem fi_X12_158 : cw_FI RX12 158 12 72 (.array .int) := ⟨_, _, _, _, kc_12, by decide, (cw_mem (List.mem_append_right _ (List.mem_of_getElem? (i := 1060) (by rfl))) rfl), rfl, rfl, rfl, rfl⟩
set_option maxRecDepth 100000 in
theorem fl_X12_161 : cw_FL RX12 161 12 73 := ⟨_, _, _, _, kc_12, by decide, (cw_mem (List.mem_append_right _ (List.mem_of_getElem? (i := 1061) (by rfl))) rfl), rfl⟩
set_option maxRecDepth 100000 in
theorem fi_X12_161 : cw_FI RX12 161 12 73 (.array .int) := ⟨_, _, _, _, kc_12, by decide, (cw_mem (List.mem_append_right _ (List.mem_of_getElem? (i := 1061) (by rfl))) rfl), rfl, rfl, rfl, rfl⟩
set_option maxRecDepth 100000 in
theorem fl_X12_164 : cw_FL RX12 164 12 74 := ⟨_, _, _, _, kc_12, by decide, (cw_mem (List.mem_append_right _ (List.mem_of_getElem? (i := 1062) (by rfl))) rfl), rfl⟩
set_option maxRecDepth 100000 in
theorem fi_X12_164 : cw_FI RX12 164 12 74 (.array .int) := ⟨_, _, _, _, kc_12, by decide, (cw_mem (List.mem_append_right _ (List.mem_of_getElem? (i := 1062) (by rfl))) rfl), rfl, rfl, rfl, rfl⟩
set_option maxRecDepth 100000 in
theorem fl_X12_167 : cw_FL RX12 167 12 75 := ⟨_, _, _, _, kc_12, by decide, (cw_mem (List.mem_append_right _ (List.mem_of_getElem? (i := 1063) (by rfl))) rfl), rfl⟩
set_option maxRecDepth 100000 in
theorem fi_X12_167 : cw_FI RX12 167 12 75 (.array .int) := ⟨_, _, _, _, kc_12, by decide, (cw_mem (List.mem_append_right _ (List.mem_of_getElem? (i := 1063) (by rfl))) rfl), rfl, rfl, rfl, rfl⟩
set_option maxRecDepth 100000 in
theorem fl_X12_170 : cw_FL RX12 170 12 76 := ⟨_, _, _, _, kc_12, by decide, (cw_mem (List.mem_append_right _ (List.mem_of_getElem? (i := 1064) (by rfl))) rfl), rfl⟩
set_option maxRecDepth 100000 in
theorem fi_X12_170 : cw_FI RX12 170 12 76 (.array .int) := ⟨_, _, _, _, kc_12, by decide, (cw_mem (List.mem_append_right _ (List.mem_of_getElem? (i := 1064) (by rfl))) rfl), rfl, rfl, rfl, rfl⟩
set_option maxRecDepth 100000 in
theorem fl_X12_177 : cw_FL RX12 177 12 2 := ⟨_, _, _, _, kc_12, by decide, (cw_mem (List.mem_append_right _ (List.mem_of_getElem? (i := 990) (by rfl))) rfl), rfl⟩
set_option maxRecDepth 100000 in
theorem fp_X12_177 : cw_FP RX12 177 12 2 .int := ⟨_, _, _, _, kc_12, by decide, (cw_mem (List.mem_append_right _ (List.mem_of_getElem? (i := 990) (by rfl))) rfl), rfl, rfl, rfl⟩
set_option maxRecDepth 100000 in
theorem fl_X12_184 : cw_FL RX12 184 12 4 := ⟨_, _, _, _, kc_12, by decide, (cw_mem (List.mem_append_right _ (List.mem_of_getElem? (i := 992) (by rfl))) rfl), rfl⟩
set_option maxRecDepth 100000 in
theorem fp_X12_184 : cw_FP RX12 184 12 4 .int := ⟨_, _, _, _, kc_12, by decide, (cw_mem (List.mem_append_right _ (List.mem_of_getElem? (i := 992) (by rfl))) rfl), rfl, rfl, rfl⟩
set_option maxRecDepth 100000 in
theorem fl_X12_193 : cw_FL RX12 193 12 10 := ⟨_, _, _, _, kc_12, by decide, (cw_mem (List.mem_append_right _ (List.mem_of_getElem? (i := 998) (by rfl))) rfl), rfl⟩
set_option maxRecDepth 100000 in
theorem fp_X12_193 : cw_FP RX12 193 12 10 .int := ⟨_, _, _, _, kc_12, by decide, (cw_mem (List.mem_append_right _ (List.mem_of_getElem? (i := 998) (by rfl))) rfl), rfl, rfl, rfl⟩
set_option maxRecDepth 100000 in
theorem fl_X12_215 : cw_FL RX12 215 12 13 := ⟨_, _, _, _, kc_12, by decide, (cw_mem (List.mem_append_right _ (List.mem_of_getElem? (i := 1001) (by rfl))) rfl), rfl⟩
set_option maxRecDepth 100000 in
theorem fp_X12_215 : cw_FP RX12 215 12 13 .int := ⟨_, _, _, _, kc_12, by decide, (cw_mem (List.mem_append_right _ (List.mem_of_getElem? (i := 1001) (by rfl))) rfl), rfl, rfl, rfl⟩
set_option maxRecDepth 100000 in
theorem fl_X12_218 : cw_FL RX12 218 12 11 := ⟨_, _, _, _, kc_12, by decide, (cw_mem (List.mem_append_right _ (List.mem_of_getElem? (i := 999) (by rfl))) rfl), rfl⟩
set_option maxRecDepth 100000 in
theorem fp_X12_218 : cw_FP RX12 218 12 11 .int := ⟨_, _, _, _, kc_12, by decide, (cw_mem (List.mem_append_right _ (List.mem_of_getElem? (i := 999) (by rfl))) rfl), rfl, rfl, rfl⟩
set_option maxRecDepth 100000 in
theorem fl_X12_221 : cw_FL RX12 221 12 14 := ⟨_, _, _, _, kc_12, by decide, (cw_mem (List.mem_append_right _ (List.mem_of_getElem? (i := 1002) (by rfl))) rfl), rfl⟩
set_option maxRecDepth 100000 in
theorem fp_X12_221 : cw_FP RX12 221 12 14 .int := ⟨_, _, _, _, kc_12, by decide, (cw_mem (List.mem_append_right _ (List.mem_of_getElem? (i := 1002) (by rfl))) rfl), rfl, rfl, rfl⟩
set_option maxRecDepth 100000 in
theorem fl_X12_224 : cw_FL RX12 224 12 15 := ⟨_, _, _, _, kc_12, by decide, (cw_mem (List.mem_append_right _ (List.mem_of_getElem? (i := 1003) (by rfl))) rfl), rfl⟩
set_option maxRecDepth 100000 in
theorem fp_X12_224 : cw_FP RX12 224 12 15 .int := ⟨_, _, _, _, kc_12, by decide, (cw_mem (List.mem_append_right _ (List.mem_of_getElem? (i := 1003) (by rfl))) rfl), rfl, rfl, rfl⟩
set_option maxRecDepth 100000 in
theorem fl_X12_227 : cw_FL RX12 227 12 16 := ⟨_, _, _, _, kc_12, by decide, (cw_mem (List.mem_append_right _ (List.mem_of_getElem? (i := 1004) (by rfl))) rfl), rfl⟩
set_option maxRecDepth 100000 in
theorem fp_X12_227 : cw_FP RX12 227 12 16 .int := ⟨_, _, _, _, kc_12, by decide, (cw_mem (List.mem_append_right _ (List.mem_of_getElem? (i := 1004) (by rfl))) rfl), rfl, rfl, rfl⟩
set_option maxRecDepth 100000 in
theorem fl_X12_242 : cw_FL RX12 242 12 12 := ⟨_, _, _, _, kc_12, by decide, (cw_mem (List.mem_append_right _ (List.mem_of_getElem? (i := 1000) (by rfl))) rfl), rfl⟩
set_option maxRecDepth 100000 in
theorem fp_X12_242 : cw_FP RX12 242 12 12 .int := ⟨_, _, _, _, kc_12, by decide, (cw_mem (List.mem_append_right _ (List.mem_of_getElem? (i := 1000) (by rfl))) rfl), rfl, rfl, rfl⟩
set_option maxRecDepth 100000 in
theorem fl_X12_245 : cw_FL RX12 245 12 18 := ⟨_, _, _, _, kc_12, by decide, (cw_mem (List.mem_append_right _ (List.mem_of_getElem? (i := 1006) (by rfl))) rfl), rfl⟩
set_option maxRecDepth 100000 in
theorem fp_X12_245 : cw_FP RX12 245 12 18 .int := ⟨_, _, _, _, kc_12, by decide, (cw_mem (List.mem_append_right _ (List.mem_of_getElem? (i := 1006) (by rfl))) rfl), rfl, rfl, rfl⟩
set_option maxRecDepth 100000 in
theorem fl_X12_248 : cw_FL RX12 248 12 19 := ⟨_, _, _, _, kc_12, by decide, (cw_mem (List.mem_append_right _ (List.mem_of_getElem? (i := 1007) (by rfl))) rfl), rfl⟩
set_option maxRecDepth 100000 in
theorem fp_X12_248 : cw_FP RX12 248 12 19 .int := ⟨_, _, _, _, kc_12, by decide, (cw_mem (List.mem_append_right _ (List.mem_of_getElem? (i := 1007) (by rfl))) rfl), rfl, rfl, rfl⟩
set_option maxRecDepth 100000 in
theorem fl_X12_251 : cw_FL RX12 251 12 30 := ⟨_, _, _, _, kc_12, by decide, (cw_mem (List.mem_append_right _ (List.mem_of_getElem? (i := 1018) (by rfl))) rfl), rfl⟩
set_option maxRecDepth 100000 in
theorem fp_X12_251 : cw_FP RX12 251 12 30 .int := ⟨_, _, _, _, kc_12, by decide, (cw_mem (List.mem_append_right _ (List.mem_of_getElem? (i := 1018) (by rfl))) rfl), rfl, rfl, rfl⟩
set_option maxRecDepth 100000 in
theorem fl_X12_270 : cw_FL RX12 270 12 34 := ⟨_, _, _, _, kc_12, by decide, (cw_mem (List.mem_append_right _ (List.mem_of_getElem? (i := 1022) (by rfl))) rfl), rfl⟩
set_option maxRecDepth 100000 in
theorem fp_X12_270 : cw_FP RX12 270 12 34 .int := ⟨_, _, _, _, kc_12, by decide, (cw_mem (List.mem_append_right _ (List.mem_of_getElem? (i := 1022) (by rfl))) rfl), rfl, rfl, rfl⟩
set_option maxRecDepth 100000 in
theorem fl_X12_280 : cw_FL RX12 280 12 35 := ⟨_, _, _, _, kc_12, by decide, (cw_mem (List.mem_append_right _ (List.mem_of_getElem? (i := 1023) (by rfl))) rfl), rfl⟩
set_option maxRecDepth 100000 in
theorem fp_X12_280 : cw_FP RX12 280 12 35 .int := ⟨_, _, _, _, kc_12, by decide, (cw_mem (List.mem_append_right _ (List.mem_of_getElem? (i := 1023) (by rfl))) rfl), rfl, rfl, rfl⟩
set_option maxRecDepth 100000 in
theorem fl_X12_283 : cw_FL RX12 283 12 36 := ⟨_, _, _, _, kc_12, by decide, (cw_mem (List.mem_append_right _ (List.mem_of_getElem? (i := 1024) (by rfl))) rfl), rfl⟩
set_option maxRecDepth 100000 in
theorem fp_X12_283 : cw_FP RX12 283 12 36 .int := ⟨_, _, _, _, kc_12, by decide, (cw_mem (List.mem_append_right _ (List.mem_of_getElem? (i := 1024) (by rfl))) rfl), rfl, rfl, rfl⟩
set_option maxRecDepth 100000 in
theorem fl_X12_286 : cw_FL RX12 286 12 50 := ⟨_, _, _, _, kc_12, by decide, (cw_mem (List.mem_append_right _ (List.mem_of_getElem? (i := 1038) (by rfl))) rfl), rfl⟩
set_option maxRecDepth 100000 in
theorem fp_X12_286 : cw_FP RX12 286 12 50 .int := ⟨_, _, _, _, kc_12, by decide, (cw_mem (List.mem_append_right _ (List.mem_of_getElem? (i := 1038) (by rfl))) rfl), rfl, rfl, rfl⟩
set_option maxRecDepth 100000 in
theorem fl_X12_289 : cw_FL RX12 289 12 40 := ⟨_, _, _, _, kc_12, by decide, (cw_mem (List.mem_append_right _ (List.mem_of_getElem? (i := 1028) (by rfl))) rfl), rfl⟩
set_option maxRecDepth 100000 in
theorem fp_X12_289 : cw_FP RX12 289 12 40 .int := ⟨_, _, _, _, kc_12, by decide, (cw_mem (List.mem_append_right _ (List.mem_of_getElem? (i := 1028) (by rfl))) rfl), rfl, rfl, rfl⟩
set_option maxRecDepth 100000 in
theorem fl_X12_295 : cw_FL RX12 295 12 43 := ⟨_, _, _, _, kc_12, by decide, (cw_mem (List.mem_append_right _ (List.mem_of_getElem? (i := 1031) (by rfl))) rfl), rfl⟩
set_option maxRecDepth 100000 in
theorem fp_X12_295 : cw_FP RX12 295 12 43 .int := ⟨_, _, _, _, kc_12, by decide, (cw_mem (List.mem_append_right _ (List.mem_of_getElem? (i := 1031) (by rfl))) rfl), rfl, rfl, rfl⟩
set_option maxRecDepth 100000 in
theorem fl_X12_301 : cw_FL RX12 301 12 49 := ⟨_, _, _, _, kc_12, by decide, (cw_mem (List.mem_append_right _ (List.mem_of_getElem? (i := 1037) (by rfl))) rfl), rfl⟩
set_option maxRecDepth 100000 in
theorem fp_X12_301 : cw_FP RX12 301 12 49 .int := ⟨_, _, _, _, kc_12, by decide, (cw_mem (List.mem_append_right _ (List.mem_of_getElem? (i := 1037) (by rfl))) rfl), rfl, rfl, rfl⟩
set_option maxRecDepth 100000 in
theorem fl_X12_313 : cw_FL RX12 313 12 59 := ⟨_, _, _, _, kc_12, by decide, (cw_mem (List.mem_append_right _ (List.mem_of_getElem? (i := 1047) (by rfl))) rfl), rfl⟩
set_option maxRecDepth 100000 in
theorem fp_X12_313 : cw_FP RX12 313 12 59 .int := ⟨_, _, _, _, kc_12, by decide, (cw_mem (List.mem_append_right _ (List.mem_of_getElem? (i := 1047) (by rfl))) rfl), rfl, rfl, rfl⟩
set_option maxRecDepth 100000 in
theorem fl_X12_316 : cw_FL RX12 316 12 60 := ⟨_, _, _, _, kc_12, by decide, (cw_mem (List.mem_append_right _ (List.mem_of_getElem? (i := 1048) (by rfl))) rfl), rfl⟩
set_option maxRecDepth 100000 in
theorem fp_X12_316 : cw_FP RX12 316 12 60 .int := ⟨_, _, _, _, kc_12, by decide, (cw_mem (List.mem_append_right _ (List.mem_of_getElem? (i := 1048) (by rfl))) rfl), rfl, rfl, rfl⟩
set_option maxRecDepth 100000 in
theorem fl_X12_319 : cw_FL RX12 319 12 61 := ⟨_, _, _, _, kc_12, by decide, (cw_mem (List.mem_append_right _ (List.mem_of_getElem? (i := 1049) (by rfl))) rfl), rfl⟩
set_option maxRecDepth 100000 in
theorem fp_X12_319 : cw_FP RX12 319 12 61 .int := ⟨_, _, _, _, kc_12, by decide, (cw_mem (List.mem_append_right _ (List.mem_of_getElem? (i := 1049) (by rfl))) rfl), rfl, rfl, rfl⟩
set_option maxRecDepth 100000 in
theorem fl_X12_375 : cw_FL RX12 375 12 64 := ⟨_, _, _, _, kc_12, by decide, (cw_mem (List.mem_append_right _ (List.mem_of_getElem? (i := 1052) (by rfl))) rfl), rfl⟩
set_option maxRecDepth 100000 in
theorem fp_X12_375 : cw_FP RX12 375 12 64 .boolean := ⟨_, _, _, _, kc_12, by decide, (cw_mem (List.mem_append_right _ (List.mem_of_getElem? (i := 1052) (by rfl))) rfl), rfl, rfl, rfl⟩
set_option maxRecDepth 100000 in
theorem fl_X12_379 : cw_FL RX12 379 12 65 := ⟨_, _, _, _, kc_12, by decide, (cw_mem (List.mem_append_right _ (List.mem_of_getElem? (i := 1053) (by rfl))) rfl), rfl⟩
set_option maxRecDepth 100000 in
theorem fp_X12_379 : cw_FP RX12 379 12 65 .int := ⟨_, _, _, _, kc_12, by decide, (cw_mem (List.mem_append_right _ (List.mem_of_getElem? (i := 1053) (by rfl))) rfl), rfl, rfl, rfl⟩
