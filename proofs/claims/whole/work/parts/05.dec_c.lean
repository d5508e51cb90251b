theorem dX11_init_0 : decode cX11_init 0 = .ok (.aload_n 0, 1) := by decide +kernel
theorem dX11_init_1 : decode cX11_init 1 = .ok (.invokespecial 1, 3) := by decide +kernel
theorem dX11_init_4 : decode cX11_init 4 = .ok (.aload_n 0, 1) := by decide +kernel
theorem dX11_init_5 : decode cX11_init 5 = .ok (.new 7, 3) := by decide +kernel
theorem dX11_init_8 : decode cX11_init 8 = .ok (.dup, 1) := by decide +kernel
theorem dX11_init_9 : decode cX11_init 9 = .ok (.bipush 8, 2) := by decide +kernel
theorem dX11_init_11 : decode cX11_init 11 = .ok (.invokespecial 11, 3) := by decide +kernel
theorem dX11_init_14 : decode cX11_init 14 = .ok (.putfield 14, 3) := by decide +kernel
theorem dX11_init_17 : decode cX11_init 17 = .ok (.aload_n 0, 1) := by decide +kernel
theorem dX11_init_18 : decode cX11_init 18 = .ok (.new 7, 3) := by decide +kernel
theorem dX11_init_21 : decode cX11_init 21 = .ok (.dup, 1) := by decide +kernel
theorem dX11_init_22 : decode cX11_init 22 = .ok (.iconst 4, 1) := by decide +kernel
theorem dX11_init_23 : decode cX11_init 23 = .ok (.invokespecial 11, 3) := by decide +kernel
theorem dX11_init_26 : decode cX11_init 26 = .ok (.putfield 18, 3) := by decide +kernel
theorem dX11_init_29 : decode cX11_init 29 = .ok (.aload_n 0, 1) := by decide +kernel
theorem dX11_init_30 : decode cX11_init 30 = .ok (.new 21, 3) := by decide +kernel
theorem dX11_init_33 : decode cX11_init 33 = .ok (.dup, 1) := by decide +kernel
theorem dX11_init_34 : decode cX11_init 34 = .ok (.invokespecial 23, 3) := by decide +kernel
theorem dX11_init_37 : decode cX11_init 37 = .ok (.putfield 24, 3) := by decide +kernel
theorem dX11_init_40 : decode cX11_init 40 = .ok (.aload_n 0, 1) := by decide +kernel
theorem dX11_init_41 : decode cX11_init 41 = .ok (.new 28, 3) := by decide +kernel
theorem dX11_init_44 : decode cX11_init 44 = .ok (.dup, 1) := by decide +kernel
theorem dX11_init_45 : decode cX11_init 45 = .ok (.invokespecial 30, 3) := by decide +kernel
theorem dX11_init_48 : decode cX11_init 48 = .ok (.putfield 31, 3) := by decide +kernel
theorem dX11_init_51 : decode cX11_init 51 = .ok (.aload_n 0, 1) := by decide +kernel
theorem dX11_init_52 : decode cX11_init 52 = .ok (.new 35, 3) := by decide +kernel
theorem dX11_init_55 : decode cX11_init 55 = .ok (.dup, 1) := by decide +kernel
theorem dX11_init_56 : decode cX11_init 56 = .ok (.invokespecial 37, 3) := by decide +kernel
theorem dX11_init_59 : decode cX11_init 59 = .ok (.putfield 38, 3) := by decide +kernel
theorem dX11_init_62 : decode cX11_init 62 = .ok (.aload_n 0, 1) := by decide +kernel
theorem dX11_init_63 : decode cX11_init 63 = .ok (.new 42, 3) := by decide +kernel
theorem dX11_init_66 : decode cX11_init 66 = .ok (.dup, 1) := by decide +kernel
theorem dX11_init_67 : decode cX11_init 67 = .ok (.invokespecial 44, 3) := by decide +kernel
theorem dX11_init_70 : decode cX11_init 70 = .ok (.putfield 45, 3) := by decide +kernel
theorem dX11_init_73 : decode cX11_init 73 = .ok (.aload_n 0, 1) := by decide +kernel
theorem dX11_init_74 : decode cX11_init 74 = .ok (.new 49, 3) := by decide +kernel
theorem dX11_init_77 : decode cX11_init 77 = .ok (.dup, 1) := by decide +kernel
theorem dX11_init_78 : decode cX11_init 78 = .ok (.invokespecial 51, 3) := by decide +kernel
theorem dX11_init_81 : decode cX11_init 81 = .ok (.putfield 52, 3) := by decide +kernel
theorem dX11_init_84 : decode cX11_init 84 = .ok (.aload_n 0, 1) := by decide +kernel
theorem dX11_init_85 : decode cX11_init 85 = .ok (.sipush 2000, 3) := by decide +kernel
theorem dX11_init_88 : decode cX11_init 88 = .ok (.newarray .byte, 2) := by decide +kernel
theorem dX11_init_90 : decode cX11_init 90 = .ok (.putfield 56, 3) := by decide +kernel
theorem dX11_init_93 : decode cX11_init 93 = .ok (.aload_n 0, 1) := by decide +kernel
theorem dX11_init_94 : decode cX11_init 94 = .ok (.new 60, 3) := by decide +kernel
theorem dX11_init_97 : decode cX11_init 97 = .ok (.dup, 1) := by decide +kernel
theorem dX11_init_98 : decode cX11_init 98 = .ok (.invokespecial 62, 3) := by decide +kernel
theorem dX11_init_101 : decode cX11_init 101 = .ok (.putfield 63, 3) := by decide +kernel
theorem dX11_init_104 : decode cX11_init 104 = .ok (.aload_n 0, 1) := by decide +kernel
theorem dX11_init_105 : decode cX11_init 105 = .ok (.bipush 8, 2) := by decide +kernel
theorem dX11_init_107 : decode cX11_init 107 = .ok (.newarray .int, 2) := by decide +kernel
theorem dX11_init_109 : decode cX11_init 109 = .ok (.putfield 67, 3) := by decide +kernel
theorem dX11_init_112 : decode cX11_init 112 = .ok (.aload_n 0, 1) := by decide +kernel
theorem dX11_init_113 : decode cX11_init 113 = .ok (.new 71, 3) := by decide +kernel
theorem dX11_init_116 : decode cX11_init 116 = .ok (.dup, 1) := by decide +kernel
theorem dX11_init_117 : decode cX11_init 117 = .ok (.invokespecial 73, 3) := by decide +kernel
theorem dX11_init_120 : decode cX11_init 120 = .ok (.putfield 74, 3) := by decide +kernel
theorem dX11_init_123 : decode cX11_init 123 = .ok (.aload_n 0, 1) := by decide +kernel
theorem dX11_init_124 : decode cX11_init 124 = .ok (.new 78, 3) := by decide +kernel
theorem dX11_init_127 : decode cX11_init 127 = .ok (.dup, 1) := by decide +kernel
theorem dX11_init_128 : decode cX11_init 128 = .ok (.invokespecial 80, 3) := by decide +kernel
theorem dX11_init_131 : decode cX11_init 131 = .ok (.putfield 81, 3) := by decide +kernel
theorem dX11_init_134 : decode cX11_init 134 = .ok (.aload_n 0, 1) := by decide +kernel
theorem dX11_init_135 : decode cX11_init 135 = .ok (.new 85, 3) := by decide +kernel
theorem dX11_init_138 : decode cX11_init 138 = .ok (.dup, 1) := by decide +kernel
theorem dX11_init_139 : decode cX11_init 139 = .ok (.invokespecial 87, 3) := by decide +kernel
theorem dX11_init_142 : decode cX11_init 142 = .ok (.putfield 88, 3) := by decide +kernel
theorem dX11_init_145 : decode cX11_init 145 = .ok (.aload_n 0, 1) := by decide +kernel
theorem dX11_init_146 : decode cX11_init 146 = .ok (.iconst 0, 1) := by decide +kernel
theorem dX11_init_147 : decode cX11_init 147 = .ok (.putfield 92, 3) := by decide +kernel
theorem dX11_init_150 : decode cX11_init 150 = .ok (.aload_n 0, 1) := by decide +kernel
theorem dX11_init_151 : decode cX11_init 151 = .ok (.iconst 0, 1) := by decide +kernel
theorem dX11_init_152 : decode cX11_init 152 = .ok (.putfield 96, 3) := by decide +kernel
theorem dX11_init_155 : decode cX11_init 155 = .ok (.return_, 1) := by decide +kernel
theorem dX11_feed_0 : decode cX11_feed 0 = .ok (.aload_n 0, 1) := by decide +kernel
theorem dX11_feed_1 : decode cX11_feed 1 = .ok (.getfield 92, 3) := by decide +kernel
theorem dX11_feed_4 : decode cX11_feed 4 = .ok (.sipush 1980, 3) := by decide +kernel
theorem dX11_feed_7 : decode cX11_feed 7 = .ok (.if_icmp .le 5, 3) := by decide +kernel
theorem dX11_feed_10 : decode cX11_feed 10 = .ok (.iconst (-1), 1) := by decide +kernel
theorem dX11_feed_11 : decode cX11_feed 11 = .ok (.ireturn, 1) := by decide +kernel
theorem dX11_feed_12 : decode cX11_feed 12 = .ok (.aload_n 0, 1) := by decide +kernel
theorem dX11_feed_13 : decode cX11_feed 13 = .ok (.iload_n 1, 1) := by decide +kernel
theorem dX11_feed_14 : decode cX11_feed 14 = .ok (.invokevirtual 99, 3) := by decide +kernel
theorem dX11_feed_17 : decode cX11_feed 17 = .ok (.aload_n 0, 1) := by decide +kernel
theorem dX11_feed_18 : decode cX11_feed 18 = .ok (.iload_n 2, 1) := by decide +kernel
theorem dX11_feed_19 : decode cX11_feed 19 = .ok (.invokevirtual 99, 3) := by decide +kernel
theorem dX11_feed_22 : decode cX11_feed 22 = .ok (.aload_n 0, 1) := by decide +kernel
theorem dX11_feed_23 : decode cX11_feed 23 = .ok (.iload_n 3, 1) := by decide +kernel
theorem dX11_feed_24 : decode cX11_feed 24 = .ok (.invokevirtual 99, 3) := by decide +kernel
theorem dX11_feed_27 : decode cX11_feed 27 = .ok (.aload_n 0, 1) := by decide +kernel
theorem dX11_feed_28 : decode cX11_feed 28 = .ok (.iload 4, 2) := by decide +kernel
theorem dX11_feed_30 : decode cX11_feed 30 = .ok (.invokevirtual 99, 3) := by decide +kernel
theorem dX11_feed_33 : decode cX11_feed 33 = .ok (.aload_n 0, 1) := by decide +kernel
theorem dX11_feed_34 : decode cX11_feed 34 = .ok (.iload 5, 2) := by decide +kernel
theorem dX11_feed_36 : decode cX11_feed 36 = .ok (.invokevirtual 99, 3) := by decide +kernel
theorem dX11_feed_39 : decode cX11_feed 39 = .ok (.aload_n 0, 1) := by decide +kernel
theorem dX11_feed_40 : decode cX11_feed 40 = .ok (.getfield 92, 3) := by decide +kernel
theorem dX11_feed_43 : decode cX11_feed 43 = .ok (.ireturn, 1) := by decide +kernel
theorem dX11_back_0 : decode cX11_back 0 = .ok (.iload_n 1, 1) := by decide +kernel
theorem dX11_back_1 : decode cX11_back 1 = .ok (.ifCond .lt 11, 3) := by decide +kernel
theorem dX11_back_4 : decode cX11_back 4 = .ok (.iload_n 1, 1) := by decide +kernel
theorem dX11_back_5 : decode cX11_back 5 = .ok (.aload_n 0, 1) := by decide +kernel
theorem dX11_back_6 : decode cX11_back 6 = .ok (.getfield 92, 3) := by decide +kernel
theorem dX11_back_9 : decode cX11_back 9 = .ok (.if_icmp .le 5, 3) := by decide +kernel
theorem dX11_back_12 : decode cX11_back 12 = .ok (.iconst (-1), 1) := by decide +kernel
theorem dX11_back_13 : decode cX11_back 13 = .ok (.ireturn, 1) := by decide +kernel
theorem dX11_back_14 : decode cX11_back 14 = .ok (.aload_n 0, 1) := by decide +kernel
theorem dX11_back_15 : decode cX11_back 15 = .ok (.dup, 1) := by decide +kernel
theorem dX11_back_16 : decode cX11_back 16 = .ok (.getfield 92, 3) := by decide +kernel
theorem dX11_back_19 : decode cX11_back 19 = .ok (.iload_n 1, 1) := by decide +kernel
theorem dX11_back_20 : decode cX11_back 20 = .ok (.isub, 1) := by decide +kernel
theorem dX11_back_21 : decode cX11_back 21 = .ok (.putfield 92, 3) := by decide +kernel
theorem dX11_back_24 : decode cX11_back 24 = .ok (.aload_n 0, 1) := by decide +kernel
theorem dX11_back_25 : decode cX11_back 25 = .ok (.getfield 92, 3) := by decide +kernel
theorem dX11_back_28 : decode cX11_back 28 = .ok (.ireturn, 1) := by decide +kernel
theorem dX11_read_0 : decode cX11_read 0 = .ok (.aload_n 0, 1) := by decide +kernel
theorem dX11_read_1 : decode cX11_read 1 = .ok (.getfield 63, 3) := by decide +kernel
theorem dX11_read_4 : decode cX11_read 4 = .ok (.aload_n 0, 1) := by decide +kernel
theorem dX11_read_5 : decode cX11_read 5 = .ok (.getfield 56, 3) := by decide +kernel
theorem dX11_read_8 : decode cX11_read 8 = .ok (.aload_n 0, 1) := by decide +kernel
theorem dX11_read_9 : decode cX11_read 9 = .ok (.getfield 92, 3) := by decide +kernel
theorem dX11_read_12 : decode cX11_read 12 = .ok (.invokevirtual 102, 3) := by decide +kernel
theorem dX11_read_15 : decode cX11_read 15 = .ok (.istore_n 1, 1) := by decide +kernel
theorem dX11_read_16 : decode cX11_read 16 = .ok (.aload_n 0, 1) := by decide +kernel
theorem dX11_read_17 : decode cX11_read 17 = .ok (.iconst 0, 1) := by decide +kernel
theorem dX11_read_18 : decode cX11_read 18 = .ok (.putfield 92, 3) := by decide +kernel
theorem dX11_read_21 : decode cX11_read 21 = .ok (.iload_n 1, 1) := by decide +kernel
theorem dX11_read_22 : decode cX11_read 22 = .ok (.ifCond .ne 18, 3) := by decide +kernel
theorem dX11_read_25 : decode cX11_read 25 = .ok (.aload_n 0, 1) := by decide +kernel
theorem dX11_read_26 : decode cX11_read 26 = .ok (.aload_n 0, 1) := by decide +kernel
theorem dX11_read_27 : decode cX11_read 27 = .ok (.getfield 63, 3) := by decide +kernel
theorem dX11_read_30 : decode cX11_read 30 = .ok (.aload_n 0, 1) := by decide +kernel
theorem dX11_read_31 : decode cX11_read 31 = .ok (.getfield 88, 3) := by decide +kernel
theorem dX11_read_34 : decode cX11_read 34 = .ok (.invokevirtual 106, 3) := by decide +kernel
theorem dX11_read_37 : decode cX11_read 37 = .ok (.putfield 88, 3) := by decide +kernel
theorem dX11_read_40 : decode cX11_read 40 = .ok (.iload_n 1, 1) := by decide +kernel
theorem dX11_read_41 : decode cX11_read 41 = .ok (.ireturn, 1) := by decide +kernel
theorem dX11_place_0 : decode cX11_place 0 = .ok (.aload_n 0, 1) := by decide +kernel
theorem dX11_place_1 : decode cX11_place 1 = .ok (.getfield 63, 3) := by decide +kernel
theorem dX11_place_4 : decode cX11_place 4 = .ok (.getfield 110, 3) := by decide +kernel
theorem dX11_place_7 : decode cX11_place 7 = .ok (.ireturn, 1) := by decide +kernel
theorem dX11_ground_0 : decode cX11_ground 0 = .ok (.iload_n 1, 1) := by decide +kernel
theorem dX11_ground_1 : decode cX11_ground 1 = .ok (.ifCond .lt 30, 3) := by decide +kernel
theorem dX11_ground_4 : decode cX11_ground 4 = .ok (.iload_n 1, 1) := by decide +kernel
theorem dX11_ground_5 : decode cX11_ground 5 = .ok (.bipush 24, 2) := by decide +kernel
theorem dX11_ground_7 : decode cX11_ground 7 = .ok (.if_icmp .ge 24, 3) := by decide +kernel
theorem dX11_ground_10 : decode cX11_ground 10 = .ok (.iload_n 2, 1) := by decide +kernel
theorem dX11_ground_11 : decode cX11_ground 11 = .ok (.ifCond .lt 20, 3) := by decide +kernel
theorem dX11_ground_14 : decode cX11_ground 14 = .ok (.iload_n 2, 1) := by decide +kernel
theorem dX11_ground_15 : decode cX11_ground 15 = .ok (.bipush 7, 2) := by decide +kernel
theorem dX11_ground_17 : decode cX11_ground 17 = .ok (.if_icmp .ge 14, 3) := by decide +kernel
theorem dX11_ground_20 : decode cX11_ground 20 = .ok (.iload_n 3, 1) := by decide +kernel
theorem dX11_ground_21 : decode cX11_ground 21 = .ok (.ifCond .lt 10, 3) := by decide +kernel
theorem dX11_ground_24 : decode cX11_ground 24 = .ok (.iload_n 3, 1) := by decide +kernel
theorem dX11_ground_25 : decode cX11_ground 25 = .ok (.sipush 10000, 3) := by decide +kernel
theorem dX11_ground_28 : decode cX11_ground 28 = .ok (.if_icmp .le 5, 3) := by decide +kernel
theorem dX11_ground_31 : decode cX11_ground 31 = .ok (.iconst (-1), 1) := by decide +kernel
theorem dX11_ground_32 : decode cX11_ground 32 = .ok (.ireturn, 1) := by decide +kernel
theorem dX11_ground_33 : decode cX11_ground 33 = .ok (.iload_n 3, 1) := by decide +kernel
theorem dX11_ground_34 : decode cX11_ground 34 = .ok (.ifCond .ne 16, 3) := by decide +kernel
theorem dX11_ground_37 : decode cX11_ground 37 = .ok (.aload_n 0, 1) := by decide +kernel
theorem dX11_ground_38 : decode cX11_ground 38 = .ok (.getfield 18, 3) := by decide +kernel
theorem dX11_ground_41 : decode cX11_ground 41 = .ok (.iload_n 1, 1) := by decide +kernel
theorem dX11_ground_42 : decode cX11_ground 42 = .ok (.iload_n 2, 1) := by decide +kernel
theorem dX11_ground_43 : decode cX11_ground 43 = .ok (.iconst 0, 1) := by decide +kernel
theorem dX11_ground_44 : decode cX11_ground 44 = .ok (.invokevirtual 113, 3) := by decide +kernel
theorem dX11_ground_47 : decode cX11_ground 47 = .ok (.goto 13, 3) := by decide +kernel
theorem dX11_ground_50 : decode cX11_ground 50 = .ok (.aload_n 0, 1) := by decide +kernel
theorem dX11_ground_51 : decode cX11_ground 51 = .ok (.getfield 14, 3) := by decide +kernel
theorem dX11_ground_54 : decode cX11_ground 54 = .ok (.iload_n 1, 1) := by decide +kernel
theorem dX11_ground_55 : decode cX11_ground 55 = .ok (.iload_n 2, 1) := by decide +kernel
theorem dX11_ground_56 : decode cX11_ground 56 = .ok (.iload_n 3, 1) := by decide +kernel
theorem dX11_ground_57 : decode cX11_ground 57 = .ok (.invokevirtual 113, 3) := by decide +kernel
theorem dX11_ground_60 : decode cX11_ground 60 = .ok (.ireturn, 1) := by decide +kernel
theorem dX11_mast_0 : decode cX11_mast 0 = .ok (.aload_n 0, 1) := by decide +kernel
theorem dX11_mast_1 : decode cX11_mast 1 = .ok (.getfield 18, 3) := by decide +kernel
theorem dX11_mast_4 : decode cX11_mast 4 = .ok (.iload_n 1, 1) := by decide +kernel
theorem dX11_mast_5 : decode cX11_mast 5 = .ok (.invokevirtual 117, 3) := by decide +kernel
theorem dX11_mast_8 : decode cX11_mast 8 = .ok (.ifCond .eq 14, 3) := by decide +kernel
theorem dX11_mast_11 : decode cX11_mast 11 = .ok (.iload_n 2, 1) := by decide +kernel
theorem dX11_mast_12 : decode cX11_mast 12 = .ok (.iconst 1, 1) := by decide +kernel
theorem dX11_mast_13 : decode cX11_mast 13 = .ok (.if_icmp .lt 9, 3) := by decide +kernel
theorem dX11_mast_16 : decode cX11_mast 16 = .ok (.iload_n 2, 1) := by decide +kernel
theorem dX11_mast_17 : decode cX11_mast 17 = .ok (.bipush 9, 2) := by decide +kernel
theorem dX11_mast_19 : decode cX11_mast 19 = .ok (.if_icmp .le 5, 3) := by decide +kernel
theorem dX11_mast_22 : decode cX11_mast 22 = .ok (.iconst (-1), 1) := by decide +kernel
theorem dX11_mast_23 : decode cX11_mast 23 = .ok (.ireturn, 1) := by decide +kernel
theorem dX11_mast_24 : decode cX11_mast 24 = .ok (.aload_n 0, 1) := by decide +kernel
theorem dX11_mast_25 : decode cX11_mast 25 = .ok (.getfield 24, 3) := by decide +kernel
theorem dX11_mast_28 : decode cX11_mast 28 = .ok (.iload_n 1, 1) := by decide +kernel
theorem dX11_mast_29 : decode cX11_mast 29 = .ok (.iload_n 2, 1) := by decide +kernel
theorem dX11_mast_30 : decode cX11_mast 30 = .ok (.invokevirtual 121, 3) := by decide +kernel
theorem dX11_mast_33 : decode cX11_mast 33 = .ok (.ireturn, 1) := by decide +kernel
theorem dX11_programme_0 : decode cX11_programme 0 = .ok (.aload_n 0, 1) := by decide +kernel
theorem dX11_programme_1 : decode cX11_programme 1 = .ok (.getfield 14, 3) := by decide +kernel
theorem dX11_programme_4 : decode cX11_programme 4 = .ok (.iload_n 1, 1) := by decide +kernel
theorem dX11_programme_5 : decode cX11_programme 5 = .ok (.invokevirtual 117, 3) := by decide +kernel
theorem dX11_programme_8 : decode cX11_programme 8 = .ok (.ifCond .eq 11, 3) := by decide +kernel
theorem dX11_programme_11 : decode cX11_programme 11 = .ok (.iload_n 2, 1) := by decide +kernel
theorem dX11_programme_12 : decode cX11_programme 12 = .ok (.iload_n 3, 1) := by decide +kernel
theorem dX11_programme_13 : decode cX11_programme 13 = .ok (.invokestatic 124, 3) := by decide +kernel
theorem dX11_programme_16 : decode cX11_programme 16 = .ok (.ifCond .ne 5, 3) := by decide +kernel
theorem dX11_programme_19 : decode cX11_programme 19 = .ok (.iconst (-1), 1) := by decide +kernel
theorem dX11_programme_20 : decode cX11_programme 20 = .ok (.ireturn, 1) := by decide +kernel
theorem dX11_programme_21 : decode cX11_programme 21 = .ok (.aload_n 0, 1) := by decide +kernel
theorem dX11_programme_22 : decode cX11_programme 22 = .ok (.getfield 31, 3) := by decide +kernel
theorem dX11_programme_25 : decode cX11_programme 25 = .ok (.iload_n 1, 1) := by decide +kernel
theorem dX11_programme_26 : decode cX11_programme 26 = .ok (.iload_n 2, 1) := by decide +kernel
theorem dX11_programme_27 : decode cX11_programme 27 = .ok (.iload_n 3, 1) := by decide +kernel
theorem dX11_programme_28 : decode cX11_programme 28 = .ok (.invokevirtual 128, 3) := by decide +kernel
theorem dX11_programme_31 : decode cX11_programme 31 = .ok (.ireturn, 1) := by decide +kernel
theorem dX11_sheet_0 : decode cX11_sheet 0 = .ok (.iload_n 1, 1) := by decide +kernel
theorem dX11_sheet_1 : decode cX11_sheet 1 = .ok (.ifCond .lt 20, 3) := by decide +kernel
theorem dX11_sheet_4 : decode cX11_sheet 4 = .ok (.iload_n 1, 1) := by decide +kernel
theorem dX11_sheet_5 : decode cX11_sheet 5 = .ok (.iconst 4, 1) := by decide +kernel
theorem dX11_sheet_6 : decode cX11_sheet 6 = .ok (.if_icmp .ge 15, 3) := by decide +kernel
theorem dX11_sheet_9 : decode cX11_sheet 9 = .ok (.iload_n 2, 1) := by decide +kernel
theorem dX11_sheet_10 : decode cX11_sheet 10 = .ok (.iconst (-1), 1) := by decide +kernel
theorem dX11_sheet_11 : decode cX11_sheet 11 = .ok (.if_icmp .lt 10, 3) := by decide +kernel
theorem dX11_sheet_14 : decode cX11_sheet 14 = .ok (.iload_n 2, 1) := by decide +kernel
theorem dX11_sheet_15 : decode cX11_sheet 15 = .ok (.sipush 270, 3) := by decide +kernel
theorem dX11_sheet_18 : decode cX11_sheet 18 = .ok (.if_icmp .le 5, 3) := by decide +kernel
theorem dX11_sheet_21 : decode cX11_sheet 21 = .ok (.iconst 0, 1) := by decide +kernel
theorem dX11_sheet_22 : decode cX11_sheet 22 = .ok (.ireturn, 1) := by decide +kernel
theorem dX11_sheet_23 : decode cX11_sheet 23 = .ok (.aload_n 0, 1) := by decide +kernel
theorem dX11_sheet_24 : decode cX11_sheet 24 = .ok (.getfield 38, 3) := by decide +kernel
theorem dX11_sheet_27 : decode cX11_sheet 27 = .ok (.iload_n 1, 1) := by decide +kernel
theorem dX11_sheet_28 : decode cX11_sheet 28 = .ok (.iload_n 2, 1) := by decide +kernel
theorem dX11_sheet_29 : decode cX11_sheet 29 = .ok (.invokevirtual 129, 3) := by decide +kernel
theorem dX11_sheet_32 : decode cX11_sheet 32 = .ok (.iconst 1, 1) := by decide +kernel
theorem dX11_sheet_33 : decode cX11_sheet 33 = .ok (.ireturn, 1) := by decide +kernel
theorem dX11_cell_0 : decode cX11_cell 0 = .ok (.iload_n 1, 1) := by decide +kernel
theorem dX11_cell_1 : decode cX11_cell 1 = .ok (.ifCond .lt 27, 3) := by decide +kernel
theorem dX11_cell_4 : decode cX11_cell 4 = .ok (.iload_n 1, 1) := by decide +kernel
theorem dX11_cell_5 : decode cX11_cell 5 = .ok (.iconst 4, 1) := by decide +kernel
theorem dX11_cell_6 : decode cX11_cell 6 = .ok (.if_icmp .ge 22, 3) := by decide +kernel
theorem dX11_cell_9 : decode cX11_cell 9 = .ok (.aload_n 0, 1) := by decide +kernel
theorem dX11_cell_10 : decode cX11_cell 10 = .ok (.getfield 38, 3) := by decide +kernel
theorem dX11_cell_13 : decode cX11_cell 13 = .ok (.iload_n 1, 1) := by decide +kernel
theorem dX11_cell_14 : decode cX11_cell 14 = .ok (.iload_n 2, 1) := by decide +kernel
theorem dX11_cell_15 : decode cX11_cell 15 = .ok (.invokevirtual 133, 3) := by decide +kernel
theorem dX11_cell_18 : decode cX11_cell 18 = .ok (.ifCond .eq 10, 3) := by decide +kernel
theorem dX11_cell_21 : decode cX11_cell 21 = .ok (.iload_n 3, 1) := by decide +kernel
theorem dX11_cell_22 : decode cX11_cell 22 = .ok (.invokestatic 135, 3) := by decide +kernel
theorem dX11_cell_25 : decode cX11_cell 25 = .ok (.ifCond .ne 5, 3) := by decide +kernel
theorem dX11_cell_28 : decode cX11_cell 28 = .ok (.iconst 0, 1) := by decide +kernel
theorem dX11_cell_29 : decode cX11_cell 29 = .ok (.ireturn, 1) := by decide +kernel
theorem dX11_cell_30 : decode cX11_cell 30 = .ok (.aload_n 0, 1) := by decide +kernel
theorem dX11_cell_31 : decode cX11_cell 31 = .ok (.getfield 38, 3) := by decide +kernel
theorem dX11_cell_34 : decode cX11_cell 34 = .ok (.iload_n 1, 1) := by decide +kernel
theorem dX11_cell_35 : decode cX11_cell 35 = .ok (.iload_n 2, 1) := by decide +kernel
theorem dX11_cell_36 : decode cX11_cell 36 = .ok (.iload_n 3, 1) := by decide +kernel
theorem dX11_cell_37 : decode cX11_cell 37 = .ok (.invokevirtual 138, 3) := by decide +kernel
theorem dX11_cell_40 : decode cX11_cell 40 = .ok (.iconst 1, 1) := by decide +kernel
theorem dX11_cell_41 : decode cX11_cell 41 = .ok (.ireturn, 1) := by decide +kernel
theorem dX11_clock_0 : decode cX11_clock 0 = .ok (.iload_n 1, 1) := by decide +kernel
theorem dX11_clock_1 : decode cX11_clock 1 = .ok (.aload_n 0, 1) := by decide +kernel
theorem dX11_clock_2 : decode cX11_clock 2 = .ok (.getfield 96, 3) := by decide +kernel
theorem dX11_clock_5 : decode cX11_clock 5 = .ok (.if_icmp .lt 10, 3) := by decide +kernel
theorem dX11_clock_8 : decode cX11_clock 8 = .ok (.iload_n 1, 1) := by decide +kernel
theorem dX11_clock_9 : decode cX11_clock 9 = .ok (.sipush 3600, 3) := by decide +kernel
theorem dX11_clock_12 : decode cX11_clock 12 = .ok (.if_icmp .lt 5, 3) := by decide +kernel
theorem dX11_clock_15 : decode cX11_clock 15 = .ok (.iconst 0, 1) := by decide +kernel
theorem dX11_clock_16 : decode cX11_clock 16 = .ok (.ireturn, 1) := by decide +kernel
theorem dX11_clock_17 : decode cX11_clock 17 = .ok (.aload_n 0, 1) := by decide +kernel
theorem dX11_clock_18 : decode cX11_clock 18 = .ok (.iload_n 1, 1) := by decide +kernel
theorem dX11_clock_19 : decode cX11_clock 19 = .ok (.putfield 96, 3) := by decide +kernel
theorem dX11_clock_22 : decode cX11_clock 22 = .ok (.iconst 1, 1) := by decide +kernel
theorem dX11_clock_23 : decode cX11_clock 23 = .ok (.ireturn, 1) := by decide +kernel
theorem dX11_report_0 : decode cX11_report 0 = .ok (.aload_n 0, 1) := by decide +kernel
theorem dX11_report_1 : decode cX11_report 1 = .ok (.iload_n 1, 1) := by decide +kernel
theorem dX11_report_2 : decode cX11_report 2 = .ok (.iload_n 2, 1) := by decide +kernel
theorem dX11_report_3 : decode cX11_report 3 = .ok (.iload_n 3, 1) := by decide +kernel
theorem dX11_report_4 : decode cX11_report 4 = .ok (.invokevirtual 142, 3) := by decide +kernel
theorem dX11_report_7 : decode cX11_report 7 = .ok (.ifCond .eq 19, 3) := by decide +kernel
theorem dX11_report_10 : decode cX11_report 10 = .ok (.iload 4, 2) := by decide +kernel
theorem dX11_report_12 : decode cX11_report 12 = .ok (.invokestatic 146, 3) := by decide +kernel
theorem dX11_report_15 : decode cX11_report 15 = .ok (.ifCond .eq 11, 3) := by decide +kernel
theorem dX11_report_18 : decode cX11_report 18 = .ok (.iload 5, 2) := by decide +kernel
theorem dX11_report_20 : decode cX11_report 20 = .ok (.invokestatic 135, 3) := by decide +kernel
theorem dX11_report_23 : decode cX11_report 23 = .ok (.ifCond .ne 5, 3) := by decide +kernel
theorem dX11_report_26 : decode cX11_report 26 = .ok (.iconst (-1), 1) := by decide +kernel
theorem dX11_report_27 : decode cX11_report 27 = .ok (.ireturn, 1) := by decide +kernel
theorem dX11_report_28 : decode cX11_report 28 = .ok (.aload_n 0, 1) := by decide +kernel
theorem dX11_report_29 : decode cX11_report 29 = .ok (.getfield 45, 3) := by decide +kernel
theorem dX11_report_32 : decode cX11_report 32 = .ok (.iload_n 1, 1) := by decide +kernel
theorem dX11_report_33 : decode cX11_report 33 = .ok (.iload_n 2, 1) := by decide +kernel
theorem dX11_report_34 : decode cX11_report 34 = .ok (.iload_n 3, 1) := by decide +kernel
theorem dX11_report_35 : decode cX11_report 35 = .ok (.iload 4, 2) := by decide +kernel
theorem dX11_report_37 : decode cX11_report 37 = .ok (.iload 5, 2) := by decide +kernel
theorem dX11_report_39 : decode cX11_report 39 = .ok (.aload_n 0, 1) := by decide +kernel
theorem dX11_report_40 : decode cX11_report 40 = .ok (.getfield 96, 3) := by decide +kernel
theorem dX11_report_43 : decode cX11_report 43 = .ok (.invokevirtual 149, 3) := by decide +kernel
theorem dX11_report_46 : decode cX11_report 46 = .ok (.ireturn, 1) := by decide +kernel
theorem dX11_notice_0 : decode cX11_notice 0 = .ok (.iload_n 1, 1) := by decide +kernel
theorem dX11_notice_1 : decode cX11_notice 1 = .ok (.invokestatic 153, 3) := by decide +kernel
theorem dX11_notice_4 : decode cX11_notice 4 = .ok (.ifCond .eq 31, 3) := by decide +kernel
theorem dX11_notice_7 : decode cX11_notice 7 = .ok (.iload_n 2, 1) := by decide +kernel
theorem dX11_notice_8 : decode cX11_notice 8 = .ok (.iload_n 3, 1) := by decide +kernel
theorem dX11_notice_9 : decode cX11_notice 9 = .ok (.invokestatic 124, 3) := by decide +kernel
theorem dX11_notice_12 : decode cX11_notice 12 = .ok (.ifCond .eq 23, 3) := by decide +kernel
theorem dX11_notice_15 : decode cX11_notice 15 = .ok (.aload_n 0, 1) := by decide +kernel
theorem dX11_notice_16 : decode cX11_notice 16 = .ok (.getfield 14, 3) := by decide +kernel
theorem dX11_notice_19 : decode cX11_notice 19 = .ok (.iload 4, 2) := by decide +kernel
theorem dX11_notice_21 : decode cX11_notice 21 = .ok (.invokevirtual 117, 3) := by decide +kernel
theorem dX11_notice_24 : decode cX11_notice 24 = .ok (.ifCond .eq 11, 3) := by decide +kernel
theorem dX11_notice_27 : decode cX11_notice 27 = .ok (.iload 5, 2) := by decide +kernel
theorem dX11_notice_29 : decode cX11_notice 29 = .ok (.invokestatic 156, 3) := by decide +kernel
theorem dX11_notice_32 : decode cX11_notice 32 = .ok (.ifCond .ne 5, 3) := by decide +kernel
theorem dX11_notice_35 : decode cX11_notice 35 = .ok (.iconst (-1), 1) := by decide +kernel
theorem dX11_notice_36 : decode cX11_notice 36 = .ok (.ireturn, 1) := by decide +kernel
theorem dX11_notice_37 : decode cX11_notice 37 = .ok (.aload_n 0, 1) := by decide +kernel
theorem dX11_notice_38 : decode cX11_notice 38 = .ok (.getfield 45, 3) := by decide +kernel
theorem dX11_notice_41 : decode cX11_notice 41 = .ok (.iload_n 1, 1) := by decide +kernel
theorem dX11_notice_42 : decode cX11_notice 42 = .ok (.iload_n 2, 1) := by decide +kernel
theorem dX11_notice_43 : decode cX11_notice 43 = .ok (.iload_n 3, 1) := by decide +kernel
theorem dX11_notice_44 : decode cX11_notice 44 = .ok (.iload 4, 2) := by decide +kernel
theorem dX11_notice_46 : decode cX11_notice 46 = .ok (.iload 5, 2) := by decide +kernel
theorem dX11_notice_48 : decode cX11_notice 48 = .ok (.invokevirtual 159, 3) := by decide +kernel
theorem dX11_notice_51 : decode cX11_notice 51 = .ok (.ireturn, 1) := by decide +kernel
theorem dX11_way_0 : decode cX11_way 0 = .ok (.aload_n 0, 1) := by decide +kernel
theorem dX11_way_1 : decode cX11_way 1 = .ok (.getfield 18, 3) := by decide +kernel
theorem dX11_way_4 : decode cX11_way 4 = .ok (.iload_n 1, 1) := by decide +kernel
theorem dX11_way_5 : decode cX11_way 5 = .ok (.invokevirtual 117, 3) := by decide +kernel
theorem dX11_way_8 : decode cX11_way 8 = .ok (.ifCond .eq 14, 3) := by decide +kernel
theorem dX11_way_11 : decode cX11_way 11 = .ok (.aload_n 0, 1) := by decide +kernel
theorem dX11_way_12 : decode cX11_way 12 = .ok (.getfield 14, 3) := by decide +kernel
theorem dX11_way_15 : decode cX11_way 15 = .ok (.iload_n 2, 1) := by decide +kernel
theorem dX11_way_16 : decode cX11_way 16 = .ok (.invokevirtual 117, 3) := by decide +kernel
theorem dX11_way_19 : decode cX11_way 19 = .ok (.ifCond .ne 5, 3) := by decide +kernel
theorem dX11_way_22 : decode cX11_way 22 = .ok (.iconst (-1), 1) := by decide +kernel
theorem dX11_way_23 : decode cX11_way 23 = .ok (.ireturn, 1) := by decide +kernel
theorem dX11_way_24 : decode cX11_way 24 = .ok (.iload_n 3, 1) := by decide +kernel
theorem dX11_way_25 : decode cX11_way 25 = .ok (.tableswitch 87 0 3 #[31, 45, 59, 73], 31) := by decide +kernel
theorem dX11_way_56 : decode cX11_way 56 = .ok (.aload_n 0, 1) := by decide +kernel
theorem dX11_way_57 : decode cX11_way 57 = .ok (.getfield 18, 3) := by decide +kernel
theorem dX11_way_60 : decode cX11_way 60 = .ok (.iload_n 1, 1) := by decide +kernel
theorem dX11_way_61 : decode cX11_way 61 = .ok (.aload_n 0, 1) := by decide +kernel
theorem dX11_way_62 : decode cX11_way 62 = .ok (.getfield 14, 3) := by decide +kernel
theorem dX11_way_65 : decode cX11_way 65 = .ok (.iload_n 2, 1) := by decide +kernel
theorem dX11_way_66 : decode cX11_way 66 = .ok (.invokevirtual 163, 3) := by decide +kernel
theorem dX11_way_69 : decode cX11_way 69 = .ok (.ireturn, 1) := by decide +kernel
theorem dX11_way_70 : decode cX11_way 70 = .ok (.aload_n 0, 1) := by decide +kernel
theorem dX11_way_71 : decode cX11_way 71 = .ok (.getfield 18, 3) := by decide +kernel
theorem dX11_way_74 : decode cX11_way 74 = .ok (.iload_n 1, 1) := by decide +kernel
theorem dX11_way_75 : decode cX11_way 75 = .ok (.aload_n 0, 1) := by decide +kernel
theorem dX11_way_76 : decode cX11_way 76 = .ok (.getfield 14, 3) := by decide +kernel
theorem dX11_way_79 : decode cX11_way 79 = .ok (.iload_n 2, 1) := by decide +kernel
theorem dX11_way_80 : decode cX11_way 80 = .ok (.invokevirtual 167, 3) := by decide +kernel
theorem dX11_way_83 : decode cX11_way 83 = .ok (.ireturn, 1) := by decide +kernel
theorem dX11_way_84 : decode cX11_way 84 = .ok (.aload_n 0, 1) := by decide +kernel
theorem dX11_way_85 : decode cX11_way 85 = .ok (.getfield 18, 3) := by decide +kernel
theorem dX11_way_88 : decode cX11_way 88 = .ok (.iload_n 1, 1) := by decide +kernel
theorem dX11_way_89 : decode cX11_way 89 = .ok (.aload_n 0, 1) := by decide +kernel
theorem dX11_way_90 : decode cX11_way 90 = .ok (.getfield 14, 3) := by decide +kernel
theorem dX11_way_93 : decode cX11_way 93 = .ok (.iload_n 2, 1) := by decide +kernel
theorem dX11_way_94 : decode cX11_way 94 = .ok (.invokevirtual 170, 3) := by decide +kernel
theorem dX11_way_97 : decode cX11_way 97 = .ok (.ireturn, 1) := by decide +kernel
theorem dX11_way_98 : decode cX11_way 98 = .ok (.aload_n 0, 1) := by decide +kernel
theorem dX11_way_99 : decode cX11_way 99 = .ok (.getfield 18, 3) := by decide +kernel
theorem dX11_way_102 : decode cX11_way 102 = .ok (.iload_n 1, 1) := by decide +kernel
theorem dX11_way_103 : decode cX11_way 103 = .ok (.aload_n 0, 1) := by decide +kernel
theorem dX11_way_104 : decode cX11_way 104 = .ok (.getfield 14, 3) := by decide +kernel
theorem dX11_way_107 : decode cX11_way 107 = .ok (.iload_n 2, 1) := by decide +kernel
theorem dX11_way_108 : decode cX11_way 108 = .ok (.invokevirtual 173, 3) := by decide +kernel
theorem dX11_way_111 : decode cX11_way 111 = .ok (.ireturn, 1) := by decide +kernel
theorem dX11_way_112 : decode cX11_way 112 = .ok (.iconst (-1), 1) := by decide +kernel
theorem dX11_way_113 : decode cX11_way 113 = .ok (.ireturn, 1) := by decide +kernel
theorem dX11_sun_0 : decode cX11_sun 0 = .ok (.iload_n 1, 1) := by decide +kernel
theorem dX11_sun_1 : decode cX11_sun 1 = .ok (.ifCond .eq 10, 3) := by decide +kernel
theorem dX11_sun_4 : decode cX11_sun 4 = .ok (.aload_n 0, 1) := by decide +kernel
theorem dX11_sun_5 : decode cX11_sun 5 = .ok (.getfield 18, 3) := by decide +kernel
theorem dX11_sun_8 : decode cX11_sun 8 = .ok (.goto 7, 3) := by decide +kernel
theorem dX11_sun_11 : decode cX11_sun 11 = .ok (.aload_n 0, 1) := by decide +kernel
theorem dX11_sun_12 : decode cX11_sun 12 = .ok (.getfield 14, 3) := by decide +kernel
theorem dX11_sun_15 : decode cX11_sun 15 = .ok (.astore 5, 2) := by decide +kernel
theorem dX11_sun_17 : decode cX11_sun 17 = .ok (.aload 5, 2) := by decide +kernel
theorem dX11_sun_19 : decode cX11_sun 19 = .ok (.iload_n 2, 1) := by decide +kernel
theorem dX11_sun_20 : decode cX11_sun 20 = .ok (.invokevirtual 117, 3) := by decide +kernel
theorem dX11_sun_23 : decode cX11_sun 23 = .ok (.ifCond .eq 18, 3) := by decide +kernel
theorem dX11_sun_26 : decode cX11_sun 26 = .ok (.iload_n 3, 1) := by decide +kernel
theorem dX11_sun_27 : decode cX11_sun 27 = .ok (.invokestatic 156, 3) := by decide +kernel
theorem dX11_sun_30 : decode cX11_sun 30 = .ok (.ifCond .eq 11, 3) := by decide +kernel
theorem dX11_sun_33 : decode cX11_sun 33 = .ok (.iload 4, 2) := by decide +kernel
theorem dX11_sun_35 : decode cX11_sun 35 = .ok (.invokestatic 146, 3) := by decide +kernel
theorem dX11_sun_38 : decode cX11_sun 38 = .ok (.ifCond .ne 5, 3) := by decide +kernel
theorem dX11_sun_41 : decode cX11_sun 41 = .ok (.iconst (-1), 1) := by decide +kernel
theorem dX11_sun_42 : decode cX11_sun 42 = .ok (.ireturn, 1) := by decide +kernel
theorem dX11_sun_43 : decode cX11_sun 43 = .ok (.aload 5, 2) := by decide +kernel
theorem dX11_sun_45 : decode cX11_sun 45 = .ok (.iload_n 2, 1) := by decide +kernel
theorem dX11_sun_46 : decode cX11_sun 46 = .ok (.iload_n 3, 1) := by decide +kernel
theorem dX11_sun_47 : decode cX11_sun 47 = .ok (.iload 4, 2) := by decide +kernel
theorem dX11_sun_49 : decode cX11_sun 49 = .ok (.invokevirtual 176, 3) := by decide +kernel
theorem dX11_sun_52 : decode cX11_sun 52 = .ok (.ireturn, 1) := by decide +kernel
theorem dX11_correction_0 : decode cX11_correction 0 = .ok (.aload_n 0, 1) := by decide +kernel
theorem dX11_correction_1 : decode cX11_correction 1 = .ok (.iload_n 1, 1) := by decide +kernel
theorem dX11_correction_2 : decode cX11_correction 2 = .ok (.iload_n 2, 1) := by decide +kernel
theorem dX11_correction_3 : decode cX11_correction 3 = .ok (.iload_n 3, 1) := by decide +kernel
theorem dX11_correction_4 : decode cX11_correction 4 = .ok (.invokevirtual 142, 3) := by decide +kernel
theorem dX11_correction_7 : decode cX11_correction 7 = .ok (.ifCond .eq 15, 3) := by decide +kernel
theorem dX11_correction_10 : decode cX11_correction 10 = .ok (.aload_n 0, 1) := by decide +kernel
theorem dX11_correction_11 : decode cX11_correction 11 = .ok (.getfield 45, 3) := by decide +kernel
theorem dX11_correction_14 : decode cX11_correction 14 = .ok (.iload 4, 2) := by decide +kernel
theorem dX11_correction_16 : decode cX11_correction 16 = .ok (.invokevirtual 179, 3) := by decide +kernel
theorem dX11_correction_19 : decode cX11_correction 19 = .ok (.ifCond .ne 6, 3) := by decide +kernel
theorem dX11_correction_22 : decode cX11_correction 22 = .ok (.ldc 182, 2) := by decide +kernel
theorem dX11_correction_24 : decode cX11_correction 24 = .ok (.ireturn, 1) := by decide +kernel
theorem dX11_correction_25 : decode cX11_correction 25 = .ok (.aload_n 0, 1) := by decide +kernel
theorem dX11_correction_26 : decode cX11_correction 26 = .ok (.iload 4, 2) := by decide +kernel
theorem dX11_correction_28 : decode cX11_correction 28 = .ok (.invokevirtual 183, 3) := by decide +kernel
theorem dX11_correction_31 : decode cX11_correction 31 = .ok (.aload_n 0, 1) := by decide +kernel
theorem dX11_correction_32 : decode cX11_correction 32 = .ok (.getfield 52, 3) := by decide +kernel
theorem dX11_correction_35 : decode cX11_correction 35 = .ok (.iload_n 1, 1) := by decide +kernel
theorem dX11_correction_36 : decode cX11_correction 36 = .ok (.iload_n 2, 1) := by decide +kernel
theorem dX11_correction_37 : decode cX11_correction 37 = .ok (.iload_n 3, 1) := by decide +kernel
theorem dX11_correction_38 : decode cX11_correction 38 = .ok (.invokevirtual 186, 3) := by decide +kernel
theorem dX11_correction_41 : decode cX11_correction 41 = .ok (.ireturn, 1) := by decide +kernel
theorem dX11_strength_0 : decode cX11_strength 0 = .ok (.aload_n 0, 1) := by decide +kernel
theorem dX11_strength_1 : decode cX11_strength 1 = .ok (.iload_n 1, 1) := by decide +kernel
theorem dX11_strength_2 : decode cX11_strength 2 = .ok (.iload_n 2, 1) := by decide +kernel
theorem dX11_strength_3 : decode cX11_strength 3 = .ok (.iload_n 3, 1) := by decide +kernel
theorem dX11_strength_4 : decode cX11_strength 4 = .ok (.iload 4, 2) := by decide +kernel
theorem dX11_strength_6 : decode cX11_strength 6 = .ok (.iload 5, 2) := by decide +kernel
theorem dX11_strength_8 : decode cX11_strength 8 = .ok (.invokevirtual 189, 3) := by decide +kernel
theorem dX11_strength_11 : decode cX11_strength 11 = .ok (.ifCond .eq 15, 3) := by decide +kernel
theorem dX11_strength_14 : decode cX11_strength 14 = .ok (.aload_n 0, 1) := by decide +kernel
theorem dX11_strength_15 : decode cX11_strength 15 = .ok (.getfield 45, 3) := by decide +kernel
theorem dX11_strength_18 : decode cX11_strength 18 = .ok (.iload 6, 2) := by decide +kernel
theorem dX11_strength_20 : decode cX11_strength 20 = .ok (.invokevirtual 179, 3) := by decide +kernel
theorem dX11_strength_23 : decode cX11_strength 23 = .ok (.ifCond .ne 6, 3) := by decide +kernel
theorem dX11_strength_26 : decode cX11_strength 26 = .ok (.ldc 182, 2) := by decide +kernel
theorem dX11_strength_28 : decode cX11_strength 28 = .ok (.ireturn, 1) := by decide +kernel
theorem dX11_strength_29 : decode cX11_strength 29 = .ok (.aload_n 0, 1) := by decide +kernel
theorem dX11_strength_30 : decode cX11_strength 30 = .ok (.iload 6, 2) := by decide +kernel
theorem dX11_strength_32 : decode cX11_strength 32 = .ok (.invokevirtual 183, 3) := by decide +kernel
theorem dX11_strength_35 : decode cX11_strength 35 = .ok (.aload_n 0, 1) := by decide +kernel
theorem dX11_strength_36 : decode cX11_strength 36 = .ok (.iload_n 1, 1) := by decide +kernel
theorem dX11_strength_37 : decode cX11_strength 37 = .ok (.iload_n 2, 1) := by decide +kernel
theorem dX11_strength_38 : decode cX11_strength 38 = .ok (.iload_n 3, 1) := by decide +kernel
theorem dX11_strength_39 : decode cX11_strength 39 = .ok (.iload 4, 2) := by decide +kernel
theorem dX11_strength_41 : decode cX11_strength 41 = .ok (.aload_n 0, 1) := by decide +kernel
theorem dX11_strength_42 : decode cX11_strength 42 = .ok (.aload_n 0, 1) := by decide +kernel
theorem dX11_strength_43 : decode cX11_strength 43 = .ok (.getfield 24, 3) := by decide +kernel
theorem dX11_strength_46 : decode cX11_strength 46 = .ok (.iload_n 1, 1) := by decide +kernel
theorem dX11_strength_47 : decode cX11_strength 47 = .ok (.invokevirtual 193, 3) := by decide +kernel
theorem dX11_strength_50 : decode cX11_strength 50 = .ok (.iload_n 3, 1) := by decide +kernel
theorem dX11_strength_51 : decode cX11_strength 51 = .ok (.iload 4, 2) := by decide +kernel
theorem dX11_strength_53 : decode cX11_strength 53 = .ok (.iload 5, 2) := by decide +kernel
theorem dX11_strength_55 : decode cX11_strength 55 = .ok (.invokevirtual 197, 3) := by decide +kernel
theorem dX11_strength_58 : decode cX11_strength 58 = .ok (.invokevirtual 201, 3) := by decide +kernel
theorem dX11_strength_61 : decode cX11_strength 61 = .ok (.ireturn, 1) := by decide +kernel
theorem dX11_yields_0 : decode cX11_yields 0 = .ok (.aload_n 0, 1) := by decide +kernel
theorem dX11_yields_1 : decode cX11_yields 1 = .ok (.iload_n 1, 1) := by decide +kernel
theorem dX11_yields_2 : decode cX11_yields 2 = .ok (.iload_n 2, 1) := by decide +kernel
theorem dX11_yields_3 : decode cX11_yields 3 = .ok (.iload_n 3, 1) := by decide +kernel
theorem dX11_yields_4 : decode cX11_yields 4 = .ok (.iload 4, 2) := by decide +kernel
theorem dX11_yields_6 : decode cX11_yields 6 = .ok (.iload 5, 2) := by decide +kernel
theorem dX11_yields_8 : decode cX11_yields 8 = .ok (.invokevirtual 189, 3) := by decide +kernel
theorem dX11_yields_11 : decode cX11_yields 11 = .ok (.ifCond .eq 15, 3) := by decide +kernel
theorem dX11_yields_14 : decode cX11_yields 14 = .ok (.aload_n 0, 1) := by decide +kernel
theorem dX11_yields_15 : decode cX11_yields 15 = .ok (.getfield 45, 3) := by decide +kernel
theorem dX11_yields_18 : decode cX11_yields 18 = .ok (.iload 6, 2) := by decide +kernel
theorem dX11_yields_20 : decode cX11_yields 20 = .ok (.invokevirtual 179, 3) := by decide +kernel
theorem dX11_yields_23 : decode cX11_yields 23 = .ok (.ifCond .ne 5, 3) := by decide +kernel
theorem dX11_yields_26 : decode cX11_yields 26 = .ok (.iconst (-1), 1) := by decide +kernel
theorem dX11_yields_27 : decode cX11_yields 27 = .ok (.ireturn, 1) := by decide +kernel
theorem dX11_yields_28 : decode cX11_yields 28 = .ok (.aload_n 0, 1) := by decide +kernel
theorem dX11_yields_29 : decode cX11_yields 29 = .ok (.iload_n 1, 1) := by decide +kernel
theorem dX11_yields_30 : decode cX11_yields 30 = .ok (.iload_n 2, 1) := by decide +kernel
theorem dX11_yields_31 : decode cX11_yields 31 = .ok (.iload_n 3, 1) := by decide +kernel
theorem dX11_yields_32 : decode cX11_yields 32 = .ok (.iload 4, 2) := by decide +kernel
theorem dX11_yields_34 : decode cX11_yields 34 = .ok (.iload 5, 2) := by decide +kernel
theorem dX11_yields_36 : decode cX11_yields 36 = .ok (.iload 6, 2) := by decide +kernel
theorem dX11_yields_38 : decode cX11_yields 38 = .ok (.invokevirtual 204, 3) := by decide +kernel
theorem dX11_yields_41 : decode cX11_yields 41 = .ok (.ireturn, 1) := by decide +kernel
theorem dX11_rule_0 : decode cX11_rule 0 = .ok (.aload_n 0, 1) := by decide +kernel
theorem dX11_rule_1 : decode cX11_rule 1 = .ok (.iload_n 1, 1) := by decide +kernel
theorem dX11_rule_2 : decode cX11_rule 2 = .ok (.iload_n 2, 1) := by decide +kernel
theorem dX11_rule_3 : decode cX11_rule 3 = .ok (.iload_n 3, 1) := by decide +kernel
theorem dX11_rule_4 : decode cX11_rule 4 = .ok (.iload 4, 2) := by decide +kernel
theorem dX11_rule_6 : decode cX11_rule 6 = .ok (.iload 5, 2) := by decide +kernel
theorem dX11_rule_8 : decode cX11_rule 8 = .ok (.invokevirtual 189, 3) := by decide +kernel
theorem dX11_rule_11 : decode cX11_rule 11 = .ok (.ifCond .eq 30, 3) := by decide +kernel
theorem dX11_rule_14 : decode cX11_rule 14 = .ok (.aload_n 0, 1) := by decide +kernel
theorem dX11_rule_15 : decode cX11_rule 15 = .ok (.getfield 45, 3) := by decide +kernel
theorem dX11_rule_18 : decode cX11_rule 18 = .ok (.iload 6, 2) := by decide +kernel
theorem dX11_rule_20 : decode cX11_rule 20 = .ok (.invokevirtual 207, 3) := by decide +kernel
theorem dX11_rule_23 : decode cX11_rule 23 = .ok (.ifCond .eq 18, 3) := by decide +kernel
theorem dX11_rule_26 : decode cX11_rule 26 = .ok (.aload_n 0, 1) := by decide +kernel
theorem dX11_rule_27 : decode cX11_rule 27 = .ok (.iload 6, 2) := by decide +kernel
theorem dX11_rule_29 : decode cX11_rule 29 = .ok (.iload_n 2, 1) := by decide +kernel
theorem dX11_rule_30 : decode cX11_rule 30 = .ok (.iload_n 3, 1) := by decide +kernel
theorem dX11_rule_31 : decode cX11_rule 31 = .ok (.iload 4, 2) := by decide +kernel
theorem dX11_rule_33 : decode cX11_rule 33 = .ok (.iload 5, 2) := by decide +kernel
theorem dX11_rule_35 : decode cX11_rule 35 = .ok (.invokevirtual 210, 3) := by decide +kernel
theorem dX11_rule_38 : decode cX11_rule 38 = .ok (.ifCond .ne 5, 3) := by decide +kernel
theorem dX11_rule_41 : decode cX11_rule 41 = .ok (.iconst (-1), 1) := by decide +kernel
theorem dX11_rule_42 : decode cX11_rule 42 = .ok (.ireturn, 1) := by decide +kernel
theorem dX11_rule_43 : decode cX11_rule 43 = .ok (.aload_n 0, 1) := by decide +kernel
theorem dX11_rule_44 : decode cX11_rule 44 = .ok (.iload_n 1, 1) := by decide +kernel
theorem dX11_rule_45 : decode cX11_rule 45 = .ok (.iload_n 2, 1) := by decide +kernel
theorem dX11_rule_46 : decode cX11_rule 46 = .ok (.iload_n 3, 1) := by decide +kernel
theorem dX11_rule_47 : decode cX11_rule 47 = .ok (.iload 4, 2) := by decide +kernel
theorem dX11_rule_49 : decode cX11_rule 49 = .ok (.iload 5, 2) := by decide +kernel
theorem dX11_rule_51 : decode cX11_rule 51 = .ok (.iload 6, 2) := by decide +kernel
theorem dX11_rule_53 : decode cX11_rule 53 = .ok (.invokevirtual 213, 3) := by decide +kernel
theorem dX11_rule_56 : decode cX11_rule 56 = .ok (.ireturn, 1) := by decide +kernel
theorem dX11_schedule_0 : decode cX11_schedule 0 = .ok (.iload_n 1, 1) := by decide +kernel
theorem dX11_schedule_1 : decode cX11_schedule 1 = .ok (.invokestatic 156, 3) := by decide +kernel
theorem dX11_schedule_4 : decode cX11_schedule 4 = .ok (.ifCond .eq 14, 3) := by decide +kernel
theorem dX11_schedule_7 : decode cX11_schedule 7 = .ok (.aload_n 0, 1) := by decide +kernel
theorem dX11_schedule_8 : decode cX11_schedule 8 = .ok (.getfield 45, 3) := by decide +kernel
theorem dX11_schedule_11 : decode cX11_schedule 11 = .ok (.iload_n 2, 1) := by decide +kernel
theorem dX11_schedule_12 : decode cX11_schedule 12 = .ok (.invokevirtual 179, 3) := by decide +kernel
theorem dX11_schedule_15 : decode cX11_schedule 15 = .ok (.ifCond .ne 5, 3) := by decide +kernel
theorem dX11_schedule_18 : decode cX11_schedule 18 = .ok (.iconst (-1), 1) := by decide +kernel
theorem dX11_schedule_19 : decode cX11_schedule 19 = .ok (.ireturn, 1) := by decide +kernel
theorem dX11_schedule_20 : decode cX11_schedule 20 = .ok (.aload_n 0, 1) := by decide +kernel
theorem dX11_schedule_21 : decode cX11_schedule 21 = .ok (.iload_n 2, 1) := by decide +kernel
theorem dX11_schedule_22 : decode cX11_schedule 22 = .ok (.invokevirtual 183, 3) := by decide +kernel
theorem dX11_schedule_25 : decode cX11_schedule 25 = .ok (.aload_n 0, 1) := by decide +kernel
theorem dX11_schedule_26 : decode cX11_schedule 26 = .ok (.getfield 81, 3) := by decide +kernel
theorem dX11_schedule_29 : decode cX11_schedule 29 = .ok (.aload_n 0, 1) := by decide +kernel
theorem dX11_schedule_30 : decode cX11_schedule 30 = .ok (.getfield 31, 3) := by decide +kernel
theorem dX11_schedule_33 : decode cX11_schedule 33 = .ok (.getfield 216, 3) := by decide +kernel
theorem dX11_schedule_36 : decode cX11_schedule 36 = .ok (.invokevirtual 219, 3) := by decide +kernel
theorem dX11_schedule_39 : decode cX11_schedule 39 = .ok (.iconst 0, 1) := by decide +kernel
theorem dX11_schedule_40 : decode cX11_schedule 40 = .ok (.istore_n 3, 1) := by decide +kernel
theorem dX11_schedule_41 : decode cX11_schedule 41 = .ok (.iconst 0, 1) := by decide +kernel
theorem dX11_schedule_42 : decode cX11_schedule 42 = .ok (.istore 4, 2) := by decide +kernel
theorem dX11_schedule_44 : decode cX11_schedule 44 = .ok (.iload 4, 2) := by decide +kernel
theorem dX11_schedule_46 : decode cX11_schedule 46 = .ok (.bipush 24, 2) := by decide +kernel
theorem dX11_schedule_48 : decode cX11_schedule 48 = .ok (.if_icmp .ge 49, 3) := by decide +kernel
theorem dX11_schedule_51 : decode cX11_schedule 51 = .ok (.aload_n 0, 1) := by decide +kernel
theorem dX11_schedule_52 : decode cX11_schedule 52 = .ok (.iload_n 1, 1) := by decide +kernel
theorem dX11_schedule_53 : decode cX11_schedule 53 = .ok (.iload 4, 2) := by decide +kernel
theorem dX11_schedule_55 : decode cX11_schedule 55 = .ok (.iload_n 2, 1) := by decide +kernel
theorem dX11_schedule_56 : decode cX11_schedule 56 = .ok (.invokevirtual 221, 3) := by decide +kernel
theorem dX11_schedule_59 : decode cX11_schedule 59 = .ok (.aload_n 0, 1) := by decide +kernel
theorem dX11_schedule_60 : decode cX11_schedule 60 = .ok (.getfield 74, 3) := by decide +kernel
theorem dX11_schedule_63 : decode cX11_schedule 63 = .ok (.aload_n 0, 1) := by decide +kernel
theorem dX11_schedule_64 : decode cX11_schedule 64 = .ok (.getfield 24, 3) := by decide +kernel
theorem dX11_schedule_67 : decode cX11_schedule 67 = .ok (.getfield 224, 3) := by decide +kernel
theorem dX11_schedule_70 : decode cX11_schedule 70 = .ok (.invokevirtual 225, 3) := by decide +kernel
theorem dX11_schedule_73 : decode cX11_schedule 73 = .ok (.aload_n 0, 1) := by decide +kernel
theorem dX11_schedule_74 : decode cX11_schedule 74 = .ok (.iload 4, 2) := by decide +kernel
theorem dX11_schedule_76 : decode cX11_schedule 76 = .ok (.invokevirtual 228, 3) := by decide +kernel
theorem dX11_schedule_79 : decode cX11_schedule 79 = .ok (.iload_n 3, 1) := by decide +kernel
theorem dX11_schedule_80 : decode cX11_schedule 80 = .ok (.aload_n 0, 1) := by decide +kernel
theorem dX11_schedule_81 : decode cX11_schedule 81 = .ok (.getfield 81, 3) := by decide +kernel
theorem dX11_schedule_84 : decode cX11_schedule 84 = .ok (.iload 4, 2) := by decide +kernel
theorem dX11_schedule_86 : decode cX11_schedule 86 = .ok (.invokevirtual 231, 3) := by decide +kernel
theorem dX11_schedule_89 : decode cX11_schedule 89 = .ok (.iadd, 1) := by decide +kernel
theorem dX11_schedule_90 : decode cX11_schedule 90 = .ok (.istore_n 3, 1) := by decide +kernel
theorem dX11_schedule_91 : decode cX11_schedule 91 = .ok (.iinc 4 1, 3) := by decide +kernel
theorem dX11_schedule_94 : decode cX11_schedule 94 = .ok (.goto (-50), 3) := by decide +kernel
theorem dX11_schedule_97 : decode cX11_schedule 97 = .ok (.iload_n 3, 1) := by decide +kernel
theorem dX11_schedule_98 : decode cX11_schedule 98 = .ok (.ireturn, 1) := by decide +kernel
theorem dX11_slot_0 : decode cX11_slot 0 = .ok (.iload_n 1, 1) := by decide +kernel
theorem dX11_slot_1 : decode cX11_slot 1 = .ok (.invokestatic 146, 3) := by decide +kernel
theorem dX11_slot_4 : decode cX11_slot 4 = .ok (.ifCond .eq 14, 3) := by decide +kernel
theorem dX11_slot_7 : decode cX11_slot 7 = .ok (.aload_n 0, 1) := by decide +kernel
theorem dX11_slot_8 : decode cX11_slot 8 = .ok (.getfield 81, 3) := by decide +kernel
theorem dX11_slot_11 : decode cX11_slot 11 = .ok (.iload_n 2, 1) := by decide +kernel
theorem dX11_slot_12 : decode cX11_slot 12 = .ok (.invokevirtual 234, 3) := by decide +kernel
theorem dX11_slot_15 : decode cX11_slot 15 = .ok (.ifCond .ne 5, 3) := by decide +kernel
theorem dX11_slot_18 : decode cX11_slot 18 = .ok (.iconst (-1), 1) := by decide +kernel
theorem dX11_slot_19 : decode cX11_slot 19 = .ok (.ireturn, 1) := by decide +kernel
theorem dX11_slot_20 : decode cX11_slot 20 = .ok (.iload_n 3, 1) := by decide +kernel
theorem dX11_slot_21 : decode cX11_slot 21 = .ok (.tableswitch 71 0 3 #[31, 41, 51, 61], 31) := by decide +kernel
theorem dX11_slot_52 : decode cX11_slot 52 = .ok (.aload_n 0, 1) := by decide +kernel
theorem dX11_slot_53 : decode cX11_slot 53 = .ok (.getfield 81, 3) := by decide +kernel
theorem dX11_slot_56 : decode cX11_slot 56 = .ok (.iload_n 1, 1) := by decide +kernel
theorem dX11_slot_57 : decode cX11_slot 57 = .ok (.iload_n 2, 1) := by decide +kernel
theorem dX11_slot_58 : decode cX11_slot 58 = .ok (.invokevirtual 237, 3) := by decide +kernel
theorem dX11_slot_61 : decode cX11_slot 61 = .ok (.ireturn, 1) := by decide +kernel
theorem dX11_slot_62 : decode cX11_slot 62 = .ok (.aload_n 0, 1) := by decide +kernel
theorem dX11_slot_63 : decode cX11_slot 63 = .ok (.getfield 81, 3) := by decide +kernel
theorem dX11_slot_66 : decode cX11_slot 66 = .ok (.iload_n 1, 1) := by decide +kernel
theorem dX11_slot_67 : decode cX11_slot 67 = .ok (.iload_n 2, 1) := by decide +kernel
theorem dX11_slot_68 : decode cX11_slot 68 = .ok (.invokevirtual 240, 3) := by decide +kernel
theorem dX11_slot_71 : decode cX11_slot 71 = .ok (.ireturn, 1) := by decide +kernel
theorem dX11_slot_72 : decode cX11_slot 72 = .ok (.aload_n 0, 1) := by decide +kernel
theorem dX11_slot_73 : decode cX11_slot 73 = .ok (.getfield 81, 3) := by decide +kernel
theorem dX11_slot_76 : decode cX11_slot 76 = .ok (.iload_n 1, 1) := by decide +kernel
theorem dX11_slot_77 : decode cX11_slot 77 = .ok (.iload_n 2, 1) := by decide +kernel
theorem dX11_slot_78 : decode cX11_slot 78 = .ok (.invokevirtual 243, 3) := by decide +kernel
theorem dX11_slot_81 : decode cX11_slot 81 = .ok (.ireturn, 1) := by decide +kernel
theorem dX11_slot_82 : decode cX11_slot 82 = .ok (.aload_n 0, 1) := by decide +kernel
theorem dX11_slot_83 : decode cX11_slot 83 = .ok (.getfield 81, 3) := by decide +kernel
theorem dX11_slot_86 : decode cX11_slot 86 = .ok (.iload_n 1, 1) := by decide +kernel
theorem dX11_slot_87 : decode cX11_slot 87 = .ok (.iload_n 2, 1) := by decide +kernel
theorem dX11_slot_88 : decode cX11_slot 88 = .ok (.invokevirtual 246, 3) := by decide +kernel
theorem dX11_slot_91 : decode cX11_slot 91 = .ok (.ireturn, 1) := by decide +kernel
theorem dX11_slot_92 : decode cX11_slot 92 = .ok (.iconst (-1), 1) := by decide +kernel
theorem dX11_slot_93 : decode cX11_slot 93 = .ok (.ireturn, 1) := by decide +kernel
theorem dX11_listeners_0 : decode cX11_listeners 0 = .ok (.aload_n 0, 1) := by decide +kernel
theorem dX11_listeners_1 : decode cX11_listeners 1 = .ok (.getfield 81, 3) := by decide +kernel
theorem dX11_listeners_4 : decode cX11_listeners 4 = .ok (.getfield 249, 3) := by decide +kernel
theorem dX11_listeners_7 : decode cX11_listeners 7 = .ok (.ifCond .eq 21, 3) := by decide +kernel
theorem dX11_listeners_10 : decode cX11_listeners 10 = .ok (.iload_n 1, 1) := by decide +kernel
theorem dX11_listeners_11 : decode cX11_listeners 11 = .ok (.invokestatic 146, 3) := by decide +kernel
theorem dX11_listeners_14 : decode cX11_listeners 14 = .ok (.ifCond .eq 14, 3) := by decide +kernel
theorem dX11_listeners_17 : decode cX11_listeners 17 = .ok (.aload_n 0, 1) := by decide +kernel
theorem dX11_listeners_18 : decode cX11_listeners 18 = .ok (.getfield 81, 3) := by decide +kernel
theorem dX11_listeners_21 : decode cX11_listeners 21 = .ok (.iload_n 1, 1) := by decide +kernel
theorem dX11_listeners_22 : decode cX11_listeners 22 = .ok (.invokevirtual 231, 3) := by decide +kernel
theorem dX11_listeners_25 : decode cX11_listeners 25 = .ok (.goto 4, 3) := by decide +kernel
theorem dX11_listeners_28 : decode cX11_listeners 28 = .ok (.iconst (-1), 1) := by decide +kernel
theorem dX11_listeners_29 : decode cX11_listeners 29 = .ok (.ireturn, 1) := by decide +kernel
theorem dX11_count_0 : decode cX11_count 0 = .ok (.iload_n 1, 1) := by decide +kernel
theorem dX11_count_1 : decode cX11_count 1 = .ok (.tableswitch 105 0 7 #[47, 55, 63, 71, 79, 87, 95, 100], 47) := by decide +kernel
theorem dX11_count_48 : decode cX11_count 48 = .ok (.aload_n 0, 1) := by decide +kernel
theorem dX11_count_49 : decode cX11_count 49 = .ok (.getfield 14, 3) := by decide +kernel
theorem dX11_count_52 : decode cX11_count 52 = .ok (.getfield 253, 3) := by decide +kernel
theorem dX11_count_55 : decode cX11_count 55 = .ok (.ireturn, 1) := by decide +kernel
theorem dX11_count_56 : decode cX11_count 56 = .ok (.aload_n 0, 1) := by decide +kernel
theorem dX11_count_57 : decode cX11_count 57 = .ok (.getfield 18, 3) := by decide +kernel
theorem dX11_count_60 : decode cX11_count 60 = .ok (.getfield 253, 3) := by decide +kernel
theorem dX11_count_63 : decode cX11_count 63 = .ok (.ireturn, 1) := by decide +kernel
theorem dX11_count_64 : decode cX11_count 64 = .ok (.aload_n 0, 1) := by decide +kernel
theorem dX11_count_65 : decode cX11_count 65 = .ok (.getfield 24, 3) := by decide +kernel
theorem dX11_count_68 : decode cX11_count 68 = .ok (.getfield 224, 3) := by decide +kernel
theorem dX11_count_71 : decode cX11_count 71 = .ok (.ireturn, 1) := by decide +kernel
theorem dX11_count_72 : decode cX11_count 72 = .ok (.aload_n 0, 1) := by decide +kernel
theorem dX11_count_73 : decode cX11_count 73 = .ok (.getfield 31, 3) := by decide +kernel
theorem dX11_count_76 : decode cX11_count 76 = .ok (.getfield 216, 3) := by decide +kernel
theorem dX11_count_79 : decode cX11_count 79 = .ok (.ireturn, 1) := by decide +kernel
theorem dX11_count_80 : decode cX11_count 80 = .ok (.aload_n 0, 1) := by decide +kernel
theorem dX11_count_81 : decode cX11_count 81 = .ok (.getfield 45, 3) := by decide +kernel
theorem dX11_count_84 : decode cX11_count 84 = .ok (.getfield 254, 3) := by decide +kernel
theorem dX11_count_87 : decode cX11_count 87 = .ok (.ireturn, 1) := by decide +kernel
theorem dX11_count_88 : decode cX11_count 88 = .ok (.aload_n 0, 1) := by decide +kernel
theorem dX11_count_89 : decode cX11_count 89 = .ok (.getfield 88, 3) := by decide +kernel
theorem dX11_count_92 : decode cX11_count 92 = .ok (.getfield 255, 3) := by decide +kernel
theorem dX11_count_95 : decode cX11_count 95 = .ok (.ireturn, 1) := by decide +kernel
theorem dX11_count_96 : decode cX11_count 96 = .ok (.aload_n 0, 1) := by decide +kernel
theorem dX11_count_97 : decode cX11_count 97 = .ok (.getfield 96, 3) := by decide +kernel
theorem dX11_count_100 : decode cX11_count 100 = .ok (.ireturn, 1) := by decide +kernel
theorem dX11_count_101 : decode cX11_count 101 = .ok (.aload_n 0, 1) := by decide +kernel
theorem dX11_count_102 : decode cX11_count 102 = .ok (.getfield 92, 3) := by decide +kernel
theorem dX11_count_105 : decode cX11_count 105 = .ok (.ireturn, 1) := by decide +kernel
theorem dX11_count_106 : decode cX11_count 106 = .ok (.iconst (-1), 1) := by decide +kernel
theorem dX11_count_107 : decode cX11_count 107 = .ok (.ireturn, 1) := by decide +kernel
theorem dX11_append_0 : decode cX11_append 0 = .ok (.bipush 24, 2) := by decide +kernel
theorem dX11_append_2 : decode cX11_append 2 = .ok (.istore_n 2, 1) := by decide +kernel
theorem dX11_append_3 : decode cX11_append 3 = .ok (.iload_n 2, 1) := by decide +kernel
theorem dX11_append_4 : decode cX11_append 4 = .ok (.ifCond .lt 42, 3) := by decide +kernel
theorem dX11_append_7 : decode cX11_append 7 = .ok (.aload_n 0, 1) := by decide +kernel
theorem dX11_append_8 : decode cX11_append 8 = .ok (.getfield 92, 3) := by decide +kernel
theorem dX11_append_11 : decode cX11_append 11 = .ok (.sipush 2000, 3) := by decide +kernel
theorem dX11_append_14 : decode cX11_append 14 = .ok (.if_icmp .ge 32, 3) := by decide +kernel
theorem dX11_append_17 : decode cX11_append 17 = .ok (.aload_n 0, 1) := by decide +kernel
theorem dX11_append_18 : decode cX11_append 18 = .ok (.getfield 56, 3) := by decide +kernel
theorem dX11_append_21 : decode cX11_append 21 = .ok (.aload_n 0, 1) := by decide +kernel
theorem dX11_append_22 : decode cX11_append 22 = .ok (.getfield 92, 3) := by decide +kernel
theorem dX11_append_25 : decode cX11_append 25 = .ok (.iload_n 1, 1) := by decide +kernel
theorem dX11_append_26 : decode cX11_append 26 = .ok (.iload_n 2, 1) := by decide +kernel
theorem dX11_append_27 : decode cX11_append 27 = .ok (.ishr, 1) := by decide +kernel
theorem dX11_append_28 : decode cX11_append 28 = .ok (.i2b, 1) := by decide +kernel
theorem dX11_append_29 : decode cX11_append 29 = .ok (.bastore, 1) := by decide +kernel
theorem dX11_append_30 : decode cX11_append 30 = .ok (.aload_n 0, 1) := by decide +kernel
theorem dX11_append_31 : decode cX11_append 31 = .ok (.dup, 1) := by decide +kernel
theorem dX11_append_32 : decode cX11_append 32 = .ok (.getfield 92, 3) := by decide +kernel
theorem dX11_append_35 : decode cX11_append 35 = .ok (.iconst 1, 1) := by decide +kernel
theorem dX11_append_36 : decode cX11_append 36 = .ok (.iadd, 1) := by decide +kernel
theorem dX11_append_37 : decode cX11_append 37 = .ok (.putfield 92, 3) := by decide +kernel
theorem dX11_append_40 : decode cX11_append 40 = .ok (.iinc 2 (-8), 3) := by decide +kernel
theorem dX11_append_43 : decode cX11_append 43 = .ok (.goto (-40), 3) := by decide +kernel
theorem dX11_append_46 : decode cX11_append 46 = .ok (.return_, 1) := by decide +kernel
theorem dX11_isDay_0 : decode cX11_isDay 0 = .ok (.iload_n 0, 1) := by decide +kernel
theorem dX11_isDay_1 : decode cX11_isDay 1 = .ok (.ifCond .lt 14, 3) := by decide +kernel
theorem dX11_isDay_4 : decode cX11_isDay 4 = .ok (.iload_n 0, 1) := by decide +kernel
theorem dX11_isDay_5 : decode cX11_isDay 5 = .ok (.sipush 3600, 3) := by decide +kernel
theorem dX11_isDay_8 : decode cX11_isDay 8 = .ok (.if_icmp .ge 7, 3) := by decide +kernel
theorem dX11_isDay_11 : decode cX11_isDay 11 = .ok (.iconst 1, 1) := by decide +kernel
theorem dX11_isDay_12 : decode cX11_isDay 12 = .ok (.goto 4, 3) := by decide +kernel
theorem dX11_isDay_15 : decode cX11_isDay 15 = .ok (.iconst 0, 1) := by decide +kernel
theorem dX11_isDay_16 : decode cX11_isDay 16 = .ok (.ireturn, 1) := by decide +kernel
theorem dX11_isHour_0 : decode cX11_isHour 0 = .ok (.iload_n 0, 1) := by decide +kernel
theorem dX11_isHour_1 : decode cX11_isHour 1 = .ok (.ifCond .lt 13, 3) := by decide +kernel
theorem dX11_isHour_4 : decode cX11_isHour 4 = .ok (.iload_n 0, 1) := by decide +kernel
theorem dX11_isHour_5 : decode cX11_isHour 5 = .ok (.bipush 24, 2) := by decide +kernel
theorem dX11_isHour_7 : decode cX11_isHour 7 = .ok (.if_icmp .ge 7, 3) := by decide +kernel
theorem dX11_isHour_10 : decode cX11_isHour 10 = .ok (.iconst 1, 1) := by decide +kernel
theorem dX11_isHour_11 : decode cX11_isHour 11 = .ok (.goto 4, 3) := by decide +kernel
theorem dX11_isHour_14 : decode cX11_isHour 14 = .ok (.iconst 0, 1) := by decide +kernel
theorem dX11_isHour_15 : decode cX11_isHour 15 = .ok (.ireturn, 1) := by decide +kernel
theorem dX11_isBand_0 : decode cX11_isBand 0 = .ok (.iload_n 0, 1) := by decide +kernel
theorem dX11_isBand_1 : decode cX11_isBand 1 = .ok (.ifCond .lt 13, 3) := by decide +kernel
theorem dX11_isBand_4 : decode cX11_isBand 4 = .ok (.iload_n 0, 1) := by decide +kernel
theorem dX11_isBand_5 : decode cX11_isBand 5 = .ok (.bipush 6, 2) := by decide +kernel
theorem dX11_isBand_7 : decode cX11_isBand 7 = .ok (.if_icmp .ge 7, 3) := by decide +kernel
theorem dX11_isBand_10 : decode cX11_isBand 10 = .ok (.iconst 1, 1) := by decide +kernel
theorem dX11_isBand_11 : decode cX11_isBand 11 = .ok (.goto 4, 3) := by decide +kernel
theorem dX11_isBand_14 : decode cX11_isBand 14 = .ok (.iconst 0, 1) := by decide +kernel
theorem dX11_isBand_15 : decode cX11_isBand 15 = .ok (.ireturn, 1) := by decide +kernel
theorem dX11_isNumber_0 : decode cX11_isNumber 0 = .ok (.iload_n 0, 1) := by decide +kernel
theorem dX11_isNumber_1 : decode cX11_isNumber 1 = .ok (.bipush (-99), 2) := by decide +kernel
theorem dX11_isNumber_3 : decode cX11_isNumber 3 = .ok (.if_icmp .lt 13, 3) := by decide +kernel
theorem dX11_isNumber_6 : decode cX11_isNumber 6 = .ok (.iload_n 0, 1) := by decide +kernel
theorem dX11_isNumber_7 : decode cX11_isNumber 7 = .ok (.bipush 99, 2) := by decide +kernel
theorem dX11_isNumber_9 : decode cX11_isNumber 9 = .ok (.if_icmp .gt 7, 3) := by decide +kernel
theorem dX11_isNumber_12 : decode cX11_isNumber 12 = .ok (.iconst 1, 1) := by decide +kernel
theorem dX11_isNumber_13 : decode cX11_isNumber 13 = .ok (.goto 4, 3) := by decide +kernel
theorem dX11_isNumber_16 : decode cX11_isNumber 16 = .ok (.iconst 0, 1) := by decide +kernel
theorem dX11_isNumber_17 : decode cX11_isNumber 17 = .ok (.ireturn, 1) := by decide +kernel
theorem dX11_isSpan_0 : decode cX11_isSpan 0 = .ok (.iload_n 0, 1) := by decide +kernel
theorem dX11_isSpan_1 : decode cX11_isSpan 1 = .ok (.ifCond .lt 18, 3) := by decide +kernel
theorem dX11_isSpan_4 : decode cX11_isSpan 4 = .ok (.iload_n 0, 1) := by decide +kernel
theorem dX11_isSpan_5 : decode cX11_isSpan 5 = .ok (.iload_n 1, 1) := by decide +kernel
theorem dX11_isSpan_6 : decode cX11_isSpan 6 = .ok (.if_icmp .ge 13, 3) := by decide +kernel
theorem dX11_isSpan_9 : decode cX11_isSpan 9 = .ok (.iload_n 1, 1) := by decide +kernel
theorem dX11_isSpan_10 : decode cX11_isSpan 10 = .ok (.bipush 24, 2) := by decide +kernel
theorem dX11_isSpan_12 : decode cX11_isSpan 12 = .ok (.if_icmp .gt 7, 3) := by decide +kernel
theorem dX11_isSpan_15 : decode cX11_isSpan 15 = .ok (.iconst 1, 1) := by decide +kernel
theorem dX11_isSpan_16 : decode cX11_isSpan 16 = .ok (.goto 4, 3) := by decide +kernel
theorem dX11_isSpan_19 : decode cX11_isSpan 19 = .ok (.iconst 0, 1) := by decide +kernel
theorem dX11_isSpan_20 : decode cX11_isSpan 20 = .ok (.ireturn, 1) := by decide +kernel
theorem dX11_isPath_0 : decode cX11_isPath 0 = .ok (.aload_n 0, 1) := by decide +kernel
theorem dX11_isPath_1 : decode cX11_isPath 1 = .ok (.getfield 18, 3) := by decide +kernel
theorem dX11_isPath_4 : decode cX11_isPath 4 = .ok (.iload_n 1, 1) := by decide +kernel
theorem dX11_isPath_5 : decode cX11_isPath 5 = .ok (.invokevirtual 117, 3) := by decide +kernel
theorem dX11_isPath_8 : decode cX11_isPath 8 = .ok (.ifCond .eq 25, 3) := by decide +kernel
theorem dX11_isPath_11 : decode cX11_isPath 11 = .ok (.aload_n 0, 1) := by decide +kernel
theorem dX11_isPath_12 : decode cX11_isPath 12 = .ok (.getfield 14, 3) := by decide +kernel
theorem dX11_isPath_15 : decode cX11_isPath 15 = .ok (.iload_n 2, 1) := by decide +kernel
theorem dX11_isPath_16 : decode cX11_isPath 16 = .ok (.invokevirtual 117, 3) := by decide +kernel
theorem dX11_isPath_19 : decode cX11_isPath 19 = .ok (.ifCond .eq 14, 3) := by decide +kernel
theorem dX11_isPath_22 : decode cX11_isPath 22 = .ok (.iload_n 3, 1) := by decide +kernel
theorem dX11_isPath_23 : decode cX11_isPath 23 = .ok (.invokestatic 153, 3) := by decide +kernel
theorem dX11_isPath_26 : decode cX11_isPath 26 = .ok (.ifCond .eq 7, 3) := by decide +kernel
theorem dX11_isPath_29 : decode cX11_isPath 29 = .ok (.iconst 1, 1) := by decide +kernel
theorem dX11_isPath_30 : decode cX11_isPath 30 = .ok (.goto 4, 3) := by decide +kernel
theorem dX11_isPath_33 : decode cX11_isPath 33 = .ok (.iconst 0, 1) := by decide +kernel
theorem dX11_isPath_34 : decode cX11_isPath 34 = .ok (.ireturn, 1) := by decide +kernel
theorem dX11_isSending_0 : decode cX11_isSending 0 = .ok (.aload_n 0, 1) := by decide +kernel
theorem dX11_isSending_1 : decode cX11_isSending 1 = .ok (.getfield 24, 3) := by decide +kernel
theorem dX11_isSending_4 : decode cX11_isSending 4 = .ok (.iload_n 1, 1) := by decide +kernel
theorem dX11_isSending_5 : decode cX11_isSending 5 = .ok (.invokevirtual 256, 3) := by decide +kernel
theorem dX11_isSending_8 : decode cX11_isSending 8 = .ok (.ifCond .eq 41, 3) := by decide +kernel
theorem dX11_isSending_11 : decode cX11_isSending 11 = .ok (.iload_n 2, 1) := by decide +kernel
theorem dX11_isSending_12 : decode cX11_isSending 12 = .ok (.invokestatic 153, 3) := by decide +kernel
theorem dX11_isSending_15 : decode cX11_isSending 15 = .ok (.ifCond .eq 34, 3) := by decide +kernel
theorem dX11_isSending_18 : decode cX11_isSending 18 = .ok (.aload_n 0, 1) := by decide +kernel
theorem dX11_isSending_19 : decode cX11_isSending 19 = .ok (.getfield 14, 3) := by decide +kernel
theorem dX11_isSending_22 : decode cX11_isSending 22 = .ok (.iload_n 3, 1) := by decide +kernel
theorem dX11_isSending_23 : decode cX11_isSending 23 = .ok (.invokevirtual 117, 3) := by decide +kernel
theorem dX11_isSending_26 : decode cX11_isSending 26 = .ok (.ifCond .eq 23, 3) := by decide +kernel
theorem dX11_isSending_29 : decode cX11_isSending 29 = .ok (.iload 4, 2) := by decide +kernel
theorem dX11_isSending_31 : decode cX11_isSending 31 = .ok (.invokestatic 156, 3) := by decide +kernel
theorem dX11_isSending_34 : decode cX11_isSending 34 = .ok (.ifCond .eq 15, 3) := by decide +kernel
theorem dX11_isSending_37 : decode cX11_isSending 37 = .ok (.iload 5, 2) := by decide +kernel
theorem dX11_isSending_39 : decode cX11_isSending 39 = .ok (.invokestatic 146, 3) := by decide +kernel
theorem dX11_isSending_42 : decode cX11_isSending 42 = .ok (.ifCond .eq 7, 3) := by decide +kernel
theorem dX11_isSending_45 : decode cX11_isSending 45 = .ok (.iconst 1, 1) := by decide +kernel
theorem dX11_isSending_46 : decode cX11_isSending 46 = .ok (.goto 4, 3) := by decide +kernel
theorem dX11_isSending_49 : decode cX11_isSending 49 = .ok (.iconst 0, 1) := by decide +kernel
theorem dX11_isSending_50 : decode cX11_isSending 50 = .ok (.ireturn, 1) := by decide +kernel
theorem dX11_seasonOf_0 : decode cX11_seasonOf 0 = .ok (.iload_n 0, 1) := by decide +kernel
theorem dX11_seasonOf_1 : decode cX11_seasonOf 1 = .ok (.bipush 90, 2) := by decide +kernel
theorem dX11_seasonOf_3 : decode cX11_seasonOf 3 = .ok (.idiv, 1) := by decide +kernel
theorem dX11_seasonOf_4 : decode cX11_seasonOf 4 = .ok (.iconst 4, 1) := by decide +kernel
theorem dX11_seasonOf_5 : decode cX11_seasonOf 5 = .ok (.irem, 1) := by decide +kernel
theorem dX11_seasonOf_6 : decode cX11_seasonOf 6 = .ok (.ireturn, 1) := by decide +kernel
theorem dX11_firstCell_0 : decode cX11_firstCell 0 = .ok (.aload_n 0, 1) := by decide +kernel
theorem dX11_firstCell_1 : decode cX11_firstCell 1 = .ok (.getfield 18, 3) := by decide +kernel
theorem dX11_firstCell_4 : decode cX11_firstCell 4 = .ok (.iload_n 1, 1) := by decide +kernel
theorem dX11_firstCell_5 : decode cX11_firstCell 5 = .ok (.iload_n 3, 1) := by decide +kernel
theorem dX11_firstCell_6 : decode cX11_firstCell 6 = .ok (.iload 4, 2) := by decide +kernel
theorem dX11_firstCell_8 : decode cX11_firstCell 8 = .ok (.invokevirtual 176, 3) := by decide +kernel
theorem dX11_firstCell_11 : decode cX11_firstCell 11 = .ok (.iconst 3, 1) := by decide +kernel
theorem dX11_firstCell_12 : decode cX11_firstCell 12 = .ok (.imul, 1) := by decide +kernel
theorem dX11_firstCell_13 : decode cX11_firstCell 13 = .ok (.aload_n 0, 1) := by decide +kernel
theorem dX11_firstCell_14 : decode cX11_firstCell 14 = .ok (.getfield 14, 3) := by decide +kernel
theorem dX11_firstCell_17 : decode cX11_firstCell 17 = .ok (.iload_n 2, 1) := by decide +kernel
theorem dX11_firstCell_18 : decode cX11_firstCell 18 = .ok (.iload_n 3, 1) := by decide +kernel
theorem dX11_firstCell_19 : decode cX11_firstCell 19 = .ok (.iload 4, 2) := by decide +kernel
theorem dX11_firstCell_21 : decode cX11_firstCell 21 = .ok (.invokevirtual 176, 3) := by decide +kernel
theorem dX11_firstCell_24 : decode cX11_firstCell 24 = .ok (.iadd, 1) := by decide +kernel
theorem dX11_firstCell_25 : decode cX11_firstCell 25 = .ok (.istore 5, 2) := by decide +kernel
theorem dX11_firstCell_27 : decode cX11_firstCell 27 = .ok (.iload 5, 2) := by decide +kernel
theorem dX11_firstCell_29 : decode cX11_firstCell 29 = .ok (.iconst 5, 1) := by decide +kernel
theorem dX11_firstCell_30 : decode cX11_firstCell 30 = .ok (.imul, 1) := by decide +kernel
theorem dX11_firstCell_31 : decode cX11_firstCell 31 = .ok (.aload_n 0, 1) := by decide +kernel
theorem dX11_firstCell_32 : decode cX11_firstCell 32 = .ok (.getfield 18, 3) := by decide +kernel
theorem dX11_firstCell_35 : decode cX11_firstCell 35 = .ok (.iload_n 1, 1) := by decide +kernel
theorem dX11_firstCell_36 : decode cX11_firstCell 36 = .ok (.aload_n 0, 1) := by decide +kernel
theorem dX11_firstCell_37 : decode cX11_firstCell 37 = .ok (.getfield 14, 3) := by decide +kernel
theorem dX11_firstCell_40 : decode cX11_firstCell 40 = .ok (.iload_n 2, 1) := by decide +kernel
theorem dX11_firstCell_41 : decode cX11_firstCell 41 = .ok (.invokevirtual 167, 3) := by decide +kernel
theorem dX11_firstCell_44 : decode cX11_firstCell 44 = .ok (.iadd, 1) := by decide +kernel
theorem dX11_firstCell_45 : decode cX11_firstCell 45 = .ok (.bipush 6, 2) := by decide +kernel
theorem dX11_firstCell_47 : decode cX11_firstCell 47 = .ok (.imul, 1) := by decide +kernel
theorem dX11_firstCell_48 : decode cX11_firstCell 48 = .ok (.ireturn, 1) := by decide +kernel
theorem dX11_learn_0 : decode cX11_learn 0 = .ok (.aload_n 0, 1) := by decide +kernel
theorem dX11_learn_1 : decode cX11_learn 1 = .ok (.getfield 52, 3) := by decide +kernel
theorem dX11_learn_4 : decode cX11_learn 4 = .ok (.invokevirtual 257, 3) := by decide +kernel
theorem dX11_learn_7 : decode cX11_learn 7 = .ok (.iconst 0, 1) := by decide +kernel
theorem dX11_learn_8 : decode cX11_learn 8 = .ok (.istore_n 2, 1) := by decide +kernel
theorem dX11_learn_9 : decode cX11_learn 9 = .ok (.iload_n 2, 1) := by decide +kernel
theorem dX11_learn_10 : decode cX11_learn 10 = .ok (.iload_n 1, 1) := by decide +kernel
theorem dX11_learn_11 : decode cX11_learn 11 = .ok (.if_icmp .ge 25, 3) := by decide +kernel
theorem dX11_learn_14 : decode cX11_learn 14 = .ok (.aload_n 0, 1) := by decide +kernel
theorem dX11_learn_15 : decode cX11_learn 15 = .ok (.getfield 45, 3) := by decide +kernel
theorem dX11_learn_18 : decode cX11_learn 18 = .ok (.iload_n 2, 1) := by decide +kernel
theorem dX11_learn_19 : decode cX11_learn 19 = .ok (.invokevirtual 207, 3) := by decide +kernel
theorem dX11_learn_22 : decode cX11_learn 22 = .ok (.ifCond .ne 8, 3) := by decide +kernel
theorem dX11_learn_25 : decode cX11_learn 25 = .ok (.aload_n 0, 1) := by decide +kernel
theorem dX11_learn_26 : decode cX11_learn 26 = .ok (.iload_n 2, 1) := by decide +kernel
theorem dX11_learn_27 : decode cX11_learn 27 = .ok (.invokevirtual 259, 3) := by decide +kernel
theorem dX11_learn_30 : decode cX11_learn 30 = .ok (.iinc 2 1, 3) := by decide +kernel
theorem dX11_learn_33 : decode cX11_learn 33 = .ok (.goto (-24), 3) := by decide +kernel
theorem dX11_learn_36 : decode cX11_learn 36 = .ok (.return_, 1) := by decide +kernel
theorem dX11_learnReport_0 : decode cX11_learnReport 0 = .ok (.aload_n 0, 1) := by decide +kernel
theorem dX11_learnReport_1 : decode cX11_learnReport 1 = .ok (.getfield 45, 3) := by decide +kernel
theorem dX11_learnReport_4 : decode cX11_learnReport 4 = .ok (.iload_n 1, 1) := by decide +kernel
theorem dX11_learnReport_5 : decode cX11_learnReport 5 = .ok (.invokevirtual 262, 3) := by decide +kernel
theorem dX11_learnReport_8 : decode cX11_learnReport 8 = .ok (.istore_n 2, 1) := by decide +kernel
theorem dX11_learnReport_9 : decode cX11_learnReport 9 = .ok (.aload_n 0, 1) := by decide +kernel
theorem dX11_learnReport_10 : decode cX11_learnReport 10 = .ok (.getfield 45, 3) := by decide +kernel
theorem dX11_learnReport_13 : decode cX11_learnReport 13 = .ok (.iload_n 1, 1) := by decide +kernel
theorem dX11_learnReport_14 : decode cX11_learnReport 14 = .ok (.invokevirtual 263, 3) := by decide +kernel
theorem dX11_learnReport_17 : decode cX11_learnReport 17 = .ok (.istore_n 3, 1) := by decide +kernel
theorem dX11_learnReport_18 : decode cX11_learnReport 18 = .ok (.aload_n 0, 1) := by decide +kernel
theorem dX11_learnReport_19 : decode cX11_learnReport 19 = .ok (.getfield 45, 3) := by decide +kernel
theorem dX11_learnReport_22 : decode cX11_learnReport 22 = .ok (.iload_n 1, 1) := by decide +kernel
theorem dX11_learnReport_23 : decode cX11_learnReport 23 = .ok (.invokevirtual 266, 3) := by decide +kernel
theorem dX11_learnReport_26 : decode cX11_learnReport 26 = .ok (.istore 4, 2) := by decide +kernel
theorem dX11_learnReport_28 : decode cX11_learnReport 28 = .ok (.aload_n 0, 1) := by decide +kernel
theorem dX11_learnReport_29 : decode cX11_learnReport 29 = .ok (.getfield 45, 3) := by decide +kernel
theorem dX11_learnReport_32 : decode cX11_learnReport 32 = .ok (.iload_n 1, 1) := by decide +kernel
theorem dX11_learnReport_33 : decode cX11_learnReport 33 = .ok (.invokevirtual 269, 3) := by decide +kernel
theorem dX11_learnReport_36 : decode cX11_learnReport 36 = .ok (.istore 5, 2) := by decide +kernel
theorem dX11_learnReport_38 : decode cX11_learnReport 38 = .ok (.aload_n 0, 1) := by decide +kernel
theorem dX11_learnReport_39 : decode cX11_learnReport 39 = .ok (.getfield 38, 3) := by decide +kernel
theorem dX11_learnReport_42 : decode cX11_learnReport 42 = .ok (.iload 5, 2) := by decide +kernel
theorem dX11_learnReport_44 : decode cX11_learnReport 44 = .ok (.invokestatic 272, 3) := by decide +kernel
theorem dX11_learnReport_47 : decode cX11_learnReport 47 = .ok (.aload_n 0, 1) := by decide +kernel
theorem dX11_learnReport_48 : decode cX11_learnReport 48 = .ok (.iload_n 2, 1) := by decide +kernel
theorem dX11_learnReport_49 : decode cX11_learnReport 49 = .ok (.iload_n 3, 1) := by decide +kernel
theorem dX11_learnReport_50 : decode cX11_learnReport 50 = .ok (.iload 5, 2) := by decide +kernel
theorem dX11_learnReport_52 : decode cX11_learnReport 52 = .ok (.aload_n 0, 1) := by decide +kernel
theorem dX11_learnReport_53 : decode cX11_learnReport 53 = .ok (.getfield 45, 3) := by decide +kernel
theorem dX11_learnReport_56 : decode cX11_learnReport 56 = .ok (.iload_n 1, 1) := by decide +kernel
theorem dX11_learnReport_57 : decode cX11_learnReport 57 = .ok (.invokevirtual 275, 3) := by decide +kernel
theorem dX11_learnReport_60 : decode cX11_learnReport 60 = .ok (.invokevirtual 197, 3) := by decide +kernel
theorem dX11_learnReport_63 : decode cX11_learnReport 63 = .ok (.iload 4, 2) := by decide +kernel
theorem dX11_learnReport_65 : decode cX11_learnReport 65 = .ok (.iadd, 1) := by decide +kernel
theorem dX11_learnReport_66 : decode cX11_learnReport 66 = .ok (.invokevirtual 278, 3) := by decide +kernel
theorem dX11_learnReport_69 : decode cX11_learnReport 69 = .ok (.istore 6, 2) := by decide +kernel
theorem dX11_learnReport_71 : decode cX11_learnReport 71 = .ok (.iload 6, 2) := by decide +kernel
theorem dX11_learnReport_73 : decode cX11_learnReport 73 = .ok (.ldc 182, 2) := by decide +kernel
theorem dX11_learnReport_75 : decode cX11_learnReport 75 = .ok (.if_icmp .eq 25, 3) := by decide +kernel
theorem dX11_learnReport_78 : decode cX11_learnReport 78 = .ok (.aload_n 0, 1) := by decide +kernel
theorem dX11_learnReport_79 : decode cX11_learnReport 79 = .ok (.getfield 52, 3) := by decide +kernel
theorem dX11_learnReport_82 : decode cX11_learnReport 82 = .ok (.iload_n 2, 1) := by decide +kernel
theorem dX11_learnReport_83 : decode cX11_learnReport 83 = .ok (.iload_n 3, 1) := by decide +kernel
theorem dX11_learnReport_84 : decode cX11_learnReport 84 = .ok (.iload 4, 2) := by decide +kernel
theorem dX11_learnReport_86 : decode cX11_learnReport 86 = .ok (.aload_n 0, 1) := by decide +kernel
theorem dX11_learnReport_87 : decode cX11_learnReport 87 = .ok (.getfield 45, 3) := by decide +kernel
theorem dX11_learnReport_90 : decode cX11_learnReport 90 = .ok (.iload_n 1, 1) := by decide +kernel
theorem dX11_learnReport_91 : decode cX11_learnReport 91 = .ok (.invokevirtual 281, 3) := by decide +kernel
theorem dX11_learnReport_94 : decode cX11_learnReport 94 = .ok (.iload 6, 2) := by decide +kernel
theorem dX11_learnReport_96 : decode cX11_learnReport 96 = .ok (.isub, 1) := by decide +kernel
theorem dX11_learnReport_97 : decode cX11_learnReport 97 = .ok (.invokevirtual 284, 3) := by decide +kernel
theorem dX11_learnReport_100 : decode cX11_learnReport 100 = .ok (.return_, 1) := by decide +kernel
theorem dX11_strengthBy_0 : decode cX11_strengthBy 0 = .ok (.aload_n 0, 1) := by decide +kernel
theorem dX11_strengthBy_1 : decode cX11_strengthBy 1 = .ok (.getfield 38, 3) := by decide +kernel
theorem dX11_strengthBy_4 : decode cX11_strengthBy 4 = .ok (.iload 4, 2) := by decide +kernel
theorem dX11_strengthBy_6 : decode cX11_strengthBy 6 = .ok (.invokestatic 272, 3) := by decide +kernel
theorem dX11_strengthBy_9 : decode cX11_strengthBy 9 = .ok (.iload 5, 2) := by decide +kernel
theorem dX11_strengthBy_11 : decode cX11_strengthBy 11 = .ok (.iload_n 2, 1) := by decide +kernel
theorem dX11_strengthBy_12 : decode cX11_strengthBy 12 = .ok (.iadd, 1) := by decide +kernel
theorem dX11_strengthBy_13 : decode cX11_strengthBy 13 = .ok (.invokevirtual 278, 3) := by decide +kernel
theorem dX11_strengthBy_16 : decode cX11_strengthBy 16 = .ok (.istore 6, 2) := by decide +kernel
theorem dX11_strengthBy_18 : decode cX11_strengthBy 18 = .ok (.iload 6, 2) := by decide +kernel
theorem dX11_strengthBy_20 : decode cX11_strengthBy 20 = .ok (.ldc 182, 2) := by decide +kernel
theorem dX11_strengthBy_22 : decode cX11_strengthBy 22 = .ok (.if_icmp .ne 6, 3) := by decide +kernel
theorem dX11_strengthBy_25 : decode cX11_strengthBy 25 = .ok (.ldc 182, 2) := by decide +kernel
theorem dX11_strengthBy_27 : decode cX11_strengthBy 27 = .ok (.ireturn, 1) := by decide +kernel
theorem dX11_strengthBy_28 : decode cX11_strengthBy 28 = .ok (.iload 6, 2) := by decide +kernel
theorem dX11_strengthBy_30 : decode cX11_strengthBy 30 = .ok (.aload_n 0, 1) := by decide +kernel
theorem dX11_strengthBy_31 : decode cX11_strengthBy 31 = .ok (.getfield 52, 3) := by decide +kernel
theorem dX11_strengthBy_34 : decode cX11_strengthBy 34 = .ok (.aload_n 0, 1) := by decide +kernel
theorem dX11_strengthBy_35 : decode cX11_strengthBy 35 = .ok (.getfield 24, 3) := by decide +kernel
theorem dX11_strengthBy_38 : decode cX11_strengthBy 38 = .ok (.iload_n 1, 1) := by decide +kernel
theorem dX11_strengthBy_39 : decode cX11_strengthBy 39 = .ok (.invokevirtual 193, 3) := by decide +kernel
theorem dX11_strengthBy_42 : decode cX11_strengthBy 42 = .ok (.iload_n 3, 1) := by decide +kernel
theorem dX11_strengthBy_43 : decode cX11_strengthBy 43 = .ok (.iload_n 2, 1) := by decide +kernel
theorem dX11_strengthBy_44 : decode cX11_strengthBy 44 = .ok (.invokevirtual 186, 3) := by decide +kernel
theorem dX11_strengthBy_47 : decode cX11_strengthBy 47 = .ok (.iadd, 1) := by decide +kernel
theorem dX11_strengthBy_48 : decode cX11_strengthBy 48 = .ok (.aload_n 0, 1) := by decide +kernel
theorem dX11_strengthBy_49 : decode cX11_strengthBy 49 = .ok (.getfield 24, 3) := by decide +kernel
theorem dX11_strengthBy_52 : decode cX11_strengthBy 52 = .ok (.iload_n 1, 1) := by decide +kernel
theorem dX11_strengthBy_53 : decode cX11_strengthBy 53 = .ok (.invokevirtual 287, 3) := by decide +kernel
theorem dX11_strengthBy_56 : decode cX11_strengthBy 56 = .ok (.iadd, 1) := by decide +kernel
theorem dX11_strengthBy_57 : decode cX11_strengthBy 57 = .ok (.ireturn, 1) := by decide +kernel
theorem dX11_clashes_0 : decode cX11_clashes 0 = .ok (.aload_n 0, 1) := by decide +kernel
theorem dX11_clashes_1 : decode cX11_clashes 1 = .ok (.getfield 45, 3) := by decide +kernel
theorem dX11_clashes_4 : decode cX11_clashes 4 = .ok (.iload_n 1, 1) := by decide +kernel
theorem dX11_clashes_5 : decode cX11_clashes 5 = .ok (.iload_n 2, 1) := by decide +kernel
theorem dX11_clashes_6 : decode cX11_clashes 6 = .ok (.iload 4, 2) := by decide +kernel
theorem dX11_clashes_8 : decode cX11_clashes 8 = .ok (.iload 5, 2) := by decide +kernel
theorem dX11_clashes_10 : decode cX11_clashes 10 = .ok (.invokevirtual 290, 3) := by decide +kernel
theorem dX11_clashes_13 : decode cX11_clashes 13 = .ok (.ifCond .eq 30, 3) := by decide +kernel
theorem dX11_clashes_16 : decode cX11_clashes 16 = .ok (.aload_n 0, 1) := by decide +kernel
theorem dX11_clashes_17 : decode cX11_clashes 17 = .ok (.getfield 14, 3) := by decide +kernel
theorem dX11_clashes_20 : decode cX11_clashes 20 = .ok (.iload_n 3, 1) := by decide +kernel
theorem dX11_clashes_21 : decode cX11_clashes 21 = .ok (.aload_n 0, 1) := by decide +kernel
theorem dX11_clashes_22 : decode cX11_clashes 22 = .ok (.getfield 14, 3) := by decide +kernel
theorem dX11_clashes_25 : decode cX11_clashes 25 = .ok (.aload_n 0, 1) := by decide +kernel
theorem dX11_clashes_26 : decode cX11_clashes 26 = .ok (.getfield 45, 3) := by decide +kernel
theorem dX11_clashes_29 : decode cX11_clashes 29 = .ok (.iload_n 1, 1) := by decide +kernel
theorem dX11_clashes_30 : decode cX11_clashes 30 = .ok (.invokevirtual 263, 3) := by decide +kernel
theorem dX11_clashes_33 : decode cX11_clashes 33 = .ok (.invokevirtual 167, 3) := by decide +kernel
theorem dX11_clashes_36 : decode cX11_clashes 36 = .ok (.ifCond .ne 7, 3) := by decide +kernel
theorem dX11_clashes_39 : decode cX11_clashes 39 = .ok (.iconst 1, 1) := by decide +kernel
theorem dX11_clashes_40 : decode cX11_clashes 40 = .ok (.goto 4, 3) := by decide +kernel
theorem dX11_clashes_43 : decode cX11_clashes 43 = .ok (.iconst 0, 1) := by decide +kernel
theorem dX11_clashes_44 : decode cX11_clashes 44 = .ok (.ireturn, 1) := by decide +kernel
theorem dX11_decidingRule_0 : decode cX11_decidingRule 0 = .ok (.aload_n 0, 1) := by decide +kernel
theorem dX11_decidingRule_1 : decode cX11_decidingRule 1 = .ok (.getfield 67, 3) := by decide +kernel
theorem dX11_decidingRule_4 : decode cX11_decidingRule 4 = .ok (.iconst 0, 1) := by decide +kernel
theorem dX11_decidingRule_5 : decode cX11_decidingRule 5 = .ok (.iload_n 2, 1) := by decide +kernel
theorem dX11_decidingRule_6 : decode cX11_decidingRule 6 = .ok (.iastore, 1) := by decide +kernel
theorem dX11_decidingRule_7 : decode cX11_decidingRule 7 = .ok (.aload_n 0, 1) := by decide +kernel
theorem dX11_decidingRule_8 : decode cX11_decidingRule 8 = .ok (.getfield 67, 3) := by decide +kernel
theorem dX11_decidingRule_11 : decode cX11_decidingRule 11 = .ok (.iconst 1, 1) := by decide +kernel
theorem dX11_decidingRule_12 : decode cX11_decidingRule 12 = .ok (.iload 5, 2) := by decide +kernel
theorem dX11_decidingRule_14 : decode cX11_decidingRule 14 = .ok (.iastore, 1) := by decide +kernel
theorem dX11_decidingRule_15 : decode cX11_decidingRule 15 = .ok (.aload_n 0, 1) := by decide +kernel
theorem dX11_decidingRule_16 : decode cX11_decidingRule 16 = .ok (.getfield 67, 3) := by decide +kernel
theorem dX11_decidingRule_19 : decode cX11_decidingRule 19 = .ok (.iconst 2, 1) := by decide +kernel
theorem dX11_decidingRule_20 : decode cX11_decidingRule 20 = .ok (.iload 4, 2) := by decide +kernel
theorem dX11_decidingRule_22 : decode cX11_decidingRule 22 = .ok (.iastore, 1) := by decide +kernel
theorem dX11_decidingRule_23 : decode cX11_decidingRule 23 = .ok (.aload_n 0, 1) := by decide +kernel
theorem dX11_decidingRule_24 : decode cX11_decidingRule 24 = .ok (.getfield 67, 3) := by decide +kernel
theorem dX11_decidingRule_27 : decode cX11_decidingRule 27 = .ok (.iconst 3, 1) := by decide +kernel
theorem dX11_decidingRule_28 : decode cX11_decidingRule 28 = .ok (.iload_n 3, 1) := by decide +kernel
theorem dX11_decidingRule_29 : decode cX11_decidingRule 29 = .ok (.iastore, 1) := by decide +kernel
theorem dX11_decidingRule_30 : decode cX11_decidingRule 30 = .ok (.aload_n 0, 1) := by decide +kernel
theorem dX11_decidingRule_31 : decode cX11_decidingRule 31 = .ok (.getfield 67, 3) := by decide +kernel
theorem dX11_decidingRule_34 : decode cX11_decidingRule 34 = .ok (.iconst 4, 1) := by decide +kernel
theorem dX11_decidingRule_35 : decode cX11_decidingRule 35 = .ok (.aload_n 0, 1) := by decide +kernel
theorem dX11_decidingRule_36 : decode cX11_decidingRule 36 = .ok (.getfield 45, 3) := by decide +kernel
theorem dX11_decidingRule_39 : decode cX11_decidingRule 39 = .ok (.iload 6, 2) := by decide +kernel
theorem dX11_decidingRule_41 : decode cX11_decidingRule 41 = .ok (.invokevirtual 263, 3) := by decide +kernel
theorem dX11_decidingRule_44 : decode cX11_decidingRule 44 = .ok (.iastore, 1) := by decide +kernel
theorem dX11_decidingRule_45 : decode cX11_decidingRule 45 = .ok (.aload_n 0, 1) := by decide +kernel
theorem dX11_decidingRule_46 : decode cX11_decidingRule 46 = .ok (.getfield 67, 3) := by decide +kernel
theorem dX11_decidingRule_49 : decode cX11_decidingRule 49 = .ok (.iconst 5, 1) := by decide +kernel
theorem dX11_decidingRule_50 : decode cX11_decidingRule 50 = .ok (.aload_n 0, 1) := by decide +kernel
theorem dX11_decidingRule_51 : decode cX11_decidingRule 51 = .ok (.getfield 24, 3) := by decide +kernel
theorem dX11_decidingRule_54 : decode cX11_decidingRule 54 = .ok (.iload_n 1, 1) := by decide +kernel
theorem dX11_decidingRule_55 : decode cX11_decidingRule 55 = .ok (.invokevirtual 287, 3) := by decide +kernel
theorem dX11_decidingRule_58 : decode cX11_decidingRule 58 = .ok (.iastore, 1) := by decide +kernel
theorem dX11_decidingRule_59 : decode cX11_decidingRule 59 = .ok (.aload_n 0, 1) := by decide +kernel
theorem dX11_decidingRule_60 : decode cX11_decidingRule 60 = .ok (.getfield 67, 3) := by decide +kernel
theorem dX11_decidingRule_63 : decode cX11_decidingRule 63 = .ok (.bipush 6, 2) := by decide +kernel
theorem dX11_decidingRule_65 : decode cX11_decidingRule 65 = .ok (.aload_n 0, 1) := by decide +kernel
theorem dX11_decidingRule_66 : decode cX11_decidingRule 66 = .ok (.getfield 45, 3) := by decide +kernel
theorem dX11_decidingRule_69 : decode cX11_decidingRule 69 = .ok (.iload 6, 2) := by decide +kernel
theorem dX11_decidingRule_71 : decode cX11_decidingRule 71 = .ok (.invokevirtual 269, 3) := by decide +kernel
theorem dX11_decidingRule_74 : decode cX11_decidingRule 74 = .ok (.iastore, 1) := by decide +kernel
theorem dX11_decidingRule_75 : decode cX11_decidingRule 75 = .ok (.aload_n 0, 1) := by decide +kernel
theorem dX11_decidingRule_76 : decode cX11_decidingRule 76 = .ok (.getfield 67, 3) := by decide +kernel
theorem dX11_decidingRule_79 : decode cX11_decidingRule 79 = .ok (.bipush 7, 2) := by decide +kernel
theorem dX11_decidingRule_81 : decode cX11_decidingRule 81 = .ok (.iload 6, 2) := by decide +kernel
theorem dX11_decidingRule_83 : decode cX11_decidingRule 83 = .ok (.iastore, 1) := by decide +kernel
theorem dX11_decidingRule_84 : decode cX11_decidingRule 84 = .ok (.aload_n 0, 1) := by decide +kernel
theorem dX11_decidingRule_85 : decode cX11_decidingRule 85 = .ok (.getfield 88, 3) := by decide +kernel
theorem dX11_decidingRule_88 : decode cX11_decidingRule 88 = .ok (.iload 4, 2) := by decide +kernel
theorem dX11_decidingRule_90 : decode cX11_decidingRule 90 = .ok (.aload_n 0, 1) := by decide +kernel
theorem dX11_decidingRule_91 : decode cX11_decidingRule 91 = .ok (.getfield 67, 3) := by decide +kernel
theorem dX11_decidingRule_94 : decode cX11_decidingRule 94 = .ok (.invokevirtual 294, 3) := by decide +kernel
theorem dX11_decidingRule_97 : decode cX11_decidingRule 97 = .ok (.ireturn, 1) := by decide +kernel
theorem dX11_firstYield_0 : decode cX11_firstYield 0 = .ok (.iconst 0, 1) := by decide +kernel
theorem dX11_firstYield_1 : decode cX11_firstYield 1 = .ok (.istore 7, 2) := by decide +kernel
theorem dX11_firstYield_3 : decode cX11_firstYield 3 = .ok (.iload 7, 2) := by decide +kernel
theorem dX11_firstYield_5 : decode cX11_firstYield 5 = .ok (.aload_n 0, 1) := by decide +kernel
theorem dX11_firstYield_6 : decode cX11_firstYield 6 = .ok (.getfield 45, 3) := by decide +kernel
theorem dX11_firstYield_9 : decode cX11_firstYield 9 = .ok (.iload_n 2, 1) := by decide +kernel
theorem dX11_firstYield_10 : decode cX11_firstYield 10 = .ok (.invokevirtual 298, 3) := by decide +kernel
theorem dX11_firstYield_13 : decode cX11_firstYield 13 = .ok (.if_icmp .ge 71, 3) := by decide +kernel
theorem dX11_firstYield_16 : decode cX11_firstYield 16 = .ok (.aload_n 0, 1) := by decide +kernel
theorem dX11_firstYield_17 : decode cX11_firstYield 17 = .ok (.getfield 45, 3) := by decide +kernel
theorem dX11_firstYield_20 : decode cX11_firstYield 20 = .ok (.iload_n 2, 1) := by decide +kernel
theorem dX11_firstYield_21 : decode cX11_firstYield 21 = .ok (.iload 7, 2) := by decide +kernel
theorem dX11_firstYield_23 : decode cX11_firstYield 23 = .ok (.invokevirtual 301, 3) := by decide +kernel
theorem dX11_firstYield_26 : decode cX11_firstYield 26 = .ok (.istore 8, 2) := by decide +kernel
theorem dX11_firstYield_28 : decode cX11_firstYield 28 = .ok (.iload 8, 2) := by decide +kernel
theorem dX11_firstYield_30 : decode cX11_firstYield 30 = .ok (.iload 6, 2) := by decide +kernel
theorem dX11_firstYield_32 : decode cX11_firstYield 32 = .ok (.if_icmp .lt 5, 3) := by decide +kernel
theorem dX11_firstYield_35 : decode cX11_firstYield 35 = .ok (.iconst (-1), 1) := by decide +kernel
theorem dX11_firstYield_36 : decode cX11_firstYield 36 = .ok (.ireturn, 1) := by decide +kernel
theorem dX11_firstYield_37 : decode cX11_firstYield 37 = .ok (.aload_n 0, 1) := by decide +kernel
theorem dX11_firstYield_38 : decode cX11_firstYield 38 = .ok (.iload 8, 2) := by decide +kernel
theorem dX11_firstYield_40 : decode cX11_firstYield 40 = .ok (.iload_n 2, 1) := by decide +kernel
theorem dX11_firstYield_41 : decode cX11_firstYield 41 = .ok (.iload_n 3, 1) := by decide +kernel
theorem dX11_firstYield_42 : decode cX11_firstYield 42 = .ok (.iload 4, 2) := by decide +kernel
theorem dX11_firstYield_44 : decode cX11_firstYield 44 = .ok (.iload 5, 2) := by decide +kernel
theorem dX11_firstYield_46 : decode cX11_firstYield 46 = .ok (.invokevirtual 210, 3) := by decide +kernel
theorem dX11_firstYield_49 : decode cX11_firstYield 49 = .ok (.ifCond .eq 29, 3) := by decide +kernel
theorem dX11_firstYield_52 : decode cX11_firstYield 52 = .ok (.aload_n 0, 1) := by decide +kernel
theorem dX11_firstYield_53 : decode cX11_firstYield 53 = .ok (.getfield 88, 3) := by decide +kernel
theorem dX11_firstYield_56 : decode cX11_firstYield 56 = .ok (.aload_n 0, 1) := by decide +kernel
theorem dX11_firstYield_57 : decode cX11_firstYield 57 = .ok (.iload_n 1, 1) := by decide +kernel
theorem dX11_firstYield_58 : decode cX11_firstYield 58 = .ok (.iload_n 2, 1) := by decide +kernel
theorem dX11_firstYield_59 : decode cX11_firstYield 59 = .ok (.iload_n 3, 1) := by decide +kernel
theorem dX11_firstYield_60 : decode cX11_firstYield 60 = .ok (.iload 4, 2) := by decide +kernel
theorem dX11_firstYield_62 : decode cX11_firstYield 62 = .ok (.iload 5, 2) := by decide +kernel
theorem dX11_firstYield_64 : decode cX11_firstYield 64 = .ok (.iload 8, 2) := by decide +kernel
theorem dX11_firstYield_66 : decode cX11_firstYield 66 = .ok (.invokevirtual 213, 3) := by decide +kernel
theorem dX11_firstYield_69 : decode cX11_firstYield 69 = .ok (.invokevirtual 304, 3) := by decide +kernel
theorem dX11_firstYield_72 : decode cX11_firstYield 72 = .ok (.ifCond .eq 6, 3) := by decide +kernel
theorem dX11_firstYield_75 : decode cX11_firstYield 75 = .ok (.iload 8, 2) := by decide +kernel
theorem dX11_firstYield_77 : decode cX11_firstYield 77 = .ok (.ireturn, 1) := by decide +kernel
theorem dX11_firstYield_78 : decode cX11_firstYield 78 = .ok (.iinc 7 1, 3) := by decide +kernel
theorem dX11_firstYield_81 : decode cX11_firstYield 81 = .ok (.goto (-78), 3) := by decide +kernel
theorem dX11_firstYield_84 : decode cX11_firstYield 84 = .ok (.iconst (-1), 1) := by decide +kernel
theorem dX11_firstYield_85 : decode cX11_firstYield 85 = .ok (.ireturn, 1) := by decide +kernel
theorem dX11_offerAll_0 : decode cX11_offerAll 0 = .ok (.aload_n 0, 1) := by decide +kernel
theorem dX11_offerAll_1 : decode cX11_offerAll 1 = .ok (.getfield 74, 3) := by decide +kernel
theorem dX11_offerAll_4 : decode cX11_offerAll 4 = .ok (.invokevirtual 307, 3) := by decide +kernel
theorem dX11_offerAll_7 : decode cX11_offerAll 7 = .ok (.iconst 0, 1) := by decide +kernel
theorem dX11_offerAll_8 : decode cX11_offerAll 8 = .ok (.istore 4, 2) := by decide +kernel
theorem dX11_offerAll_10 : decode cX11_offerAll 10 = .ok (.iload 4, 2) := by decide +kernel
theorem dX11_offerAll_12 : decode cX11_offerAll 12 = .ok (.aload_n 0, 1) := by decide +kernel
theorem dX11_offerAll_13 : decode cX11_offerAll 13 = .ok (.getfield 31, 3) := by decide +kernel
theorem dX11_offerAll_16 : decode cX11_offerAll 16 = .ok (.getfield 216, 3) := by decide +kernel
theorem dX11_offerAll_19 : decode cX11_offerAll 19 = .ok (.if_icmp .ge 73, 3) := by decide +kernel
theorem dX11_offerAll_22 : decode cX11_offerAll 22 = .ok (.iconst 0, 1) := by decide +kernel
theorem dX11_offerAll_23 : decode cX11_offerAll 23 = .ok (.istore 5, 2) := by decide +kernel
theorem dX11_offerAll_25 : decode cX11_offerAll 25 = .ok (.iload 5, 2) := by decide +kernel
theorem dX11_offerAll_27 : decode cX11_offerAll 27 = .ok (.aload_n 0, 1) := by decide +kernel
theorem dX11_offerAll_28 : decode cX11_offerAll 28 = .ok (.getfield 24, 3) := by decide +kernel
theorem dX11_offerAll_31 : decode cX11_offerAll 31 = .ok (.getfield 224, 3) := by decide +kernel
theorem dX11_offerAll_34 : decode cX11_offerAll 34 = .ok (.if_icmp .ge 52, 3) := by decide +kernel
theorem dX11_offerAll_37 : decode cX11_offerAll 37 = .ok (.aload_n 0, 1) := by decide +kernel
theorem dX11_offerAll_38 : decode cX11_offerAll 38 = .ok (.getfield 31, 3) := by decide +kernel
theorem dX11_offerAll_41 : decode cX11_offerAll 41 = .ok (.iload 4, 2) := by decide +kernel
theorem dX11_offerAll_43 : decode cX11_offerAll 43 = .ok (.iload_n 2, 1) := by decide +kernel
theorem dX11_offerAll_44 : decode cX11_offerAll 44 = .ok (.invokevirtual 308, 3) := by decide +kernel
theorem dX11_offerAll_47 : decode cX11_offerAll 47 = .ok (.ifCond .eq 39, 3) := by decide +kernel
theorem dX11_offerAll_50 : decode cX11_offerAll 50 = .ok (.aload_n 0, 1) := by decide +kernel
theorem dX11_offerAll_51 : decode cX11_offerAll 51 = .ok (.iload 5, 2) := by decide +kernel
theorem dX11_offerAll_53 : decode cX11_offerAll 53 = .ok (.aload_n 0, 1) := by decide +kernel
theorem dX11_offerAll_54 : decode cX11_offerAll 54 = .ok (.getfield 31, 3) := by decide +kernel
theorem dX11_offerAll_57 : decode cX11_offerAll 57 = .ok (.iload 4, 2) := by decide +kernel
theorem dX11_offerAll_59 : decode cX11_offerAll 59 = .ok (.invokevirtual 311, 3) := by decide +kernel
theorem dX11_offerAll_62 : decode cX11_offerAll 62 = .ok (.iload_n 2, 1) := by decide +kernel
theorem dX11_offerAll_63 : decode cX11_offerAll 63 = .ok (.invokevirtual 312, 3) := by decide +kernel
theorem dX11_offerAll_66 : decode cX11_offerAll 66 = .ok (.ifCond .eq 14, 3) := by decide +kernel
theorem dX11_offerAll_69 : decode cX11_offerAll 69 = .ok (.aload_n 0, 1) := by decide +kernel
theorem dX11_offerAll_70 : decode cX11_offerAll 70 = .ok (.iload 4, 2) := by decide +kernel
theorem dX11_offerAll_72 : decode cX11_offerAll 72 = .ok (.iload 5, 2) := by decide +kernel
theorem dX11_offerAll_74 : decode cX11_offerAll 74 = .ok (.iload_n 1, 1) := by decide +kernel
theorem dX11_offerAll_75 : decode cX11_offerAll 75 = .ok (.iload_n 2, 1) := by decide +kernel
theorem dX11_offerAll_76 : decode cX11_offerAll 76 = .ok (.iload_n 3, 1) := by decide +kernel
theorem dX11_offerAll_77 : decode cX11_offerAll 77 = .ok (.invokevirtual 315, 3) := by decide +kernel
theorem dX11_offerAll_80 : decode cX11_offerAll 80 = .ok (.iinc 5 1, 3) := by decide +kernel
theorem dX11_offerAll_83 : decode cX11_offerAll 83 = .ok (.goto (-58), 3) := by decide +kernel
theorem dX11_offerAll_86 : decode cX11_offerAll 86 = .ok (.iinc 4 1, 3) := by decide +kernel
theorem dX11_offerAll_89 : decode cX11_offerAll 89 = .ok (.goto (-79), 3) := by decide +kernel
theorem dX11_offerAll_92 : decode cX11_offerAll 92 = .ok (.return_, 1) := by decide +kernel
theorem dX11_isTurned_0 : decode cX11_isTurned 0 = .ok (.aload_n 0, 1) := by decide +kernel
theorem dX11_isTurned_1 : decode cX11_isTurned 1 = .ok (.getfield 81, 3) := by decide +kernel
theorem dX11_isTurned_4 : decode cX11_isTurned 4 = .ok (.iload_n 3, 1) := by decide +kernel
theorem dX11_isTurned_5 : decode cX11_isTurned 5 = .ok (.iconst 1, 1) := by decide +kernel
theorem dX11_isTurned_6 : decode cX11_isTurned 6 = .ok (.isub, 1) := by decide +kernel
theorem dX11_isTurned_7 : decode cX11_isTurned 7 = .ok (.iload_n 1, 1) := by decide +kernel
theorem dX11_isTurned_8 : decode cX11_isTurned 8 = .ok (.invokevirtual 319, 3) := by decide +kernel
theorem dX11_isTurned_11 : decode cX11_isTurned 11 = .ok (.istore 4, 2) := by decide +kernel
theorem dX11_isTurned_13 : decode cX11_isTurned 13 = .ok (.iload 4, 2) := by decide +kernel
theorem dX11_isTurned_15 : decode cX11_isTurned 15 = .ok (.iconst (-1), 1) := by decide +kernel
theorem dX11_isTurned_16 : decode cX11_isTurned 16 = .ok (.if_icmp .eq 28, 3) := by decide +kernel
theorem dX11_isTurned_19 : decode cX11_isTurned 19 = .ok (.iload 4, 2) := by decide +kernel
theorem dX11_isTurned_21 : decode cX11_isTurned 21 = .ok (.aload_n 0, 1) := by decide +kernel
theorem dX11_isTurned_22 : decode cX11_isTurned 22 = .ok (.getfield 18, 3) := by decide +kernel
theorem dX11_isTurned_25 : decode cX11_isTurned 25 = .ok (.aload_n 0, 1) := by decide +kernel
theorem dX11_isTurned_26 : decode cX11_isTurned 26 = .ok (.getfield 24, 3) := by decide +kernel
theorem dX11_isTurned_29 : decode cX11_isTurned 29 = .ok (.iload_n 1, 1) := by decide +kernel
theorem dX11_isTurned_30 : decode cX11_isTurned 30 = .ok (.invokevirtual 193, 3) := by decide +kernel
theorem dX11_isTurned_33 : decode cX11_isTurned 33 = .ok (.aload_n 0, 1) := by decide +kernel
theorem dX11_isTurned_34 : decode cX11_isTurned 34 = .ok (.getfield 14, 3) := by decide +kernel
theorem dX11_isTurned_37 : decode cX11_isTurned 37 = .ok (.iload_n 2, 1) := by decide +kernel
theorem dX11_isTurned_38 : decode cX11_isTurned 38 = .ok (.invokevirtual 170, 3) := by decide +kernel
theorem dX11_isTurned_41 : decode cX11_isTurned 41 = .ok (.if_icmp .ne 7, 3) := by decide +kernel
theorem dX11_isTurned_44 : decode cX11_isTurned 44 = .ok (.iconst 1, 1) := by decide +kernel
theorem dX11_isTurned_45 : decode cX11_isTurned 45 = .ok (.goto 4, 3) := by decide +kernel
theorem dX11_isTurned_48 : decode cX11_isTurned 48 = .ok (.iconst 0, 1) := by decide +kernel
theorem dX11_isTurned_49 : decode cX11_isTurned 49 = .ok (.ireturn, 1) := by decide +kernel
theorem dX11_offer_0 : decode cX11_offer 0 = .ok (.aload_n 0, 1) := by decide +kernel
theorem dX11_offer_1 : decode cX11_offer 1 = .ok (.getfield 31, 3) := by decide +kernel
theorem dX11_offer_4 : decode cX11_offer 4 = .ok (.iload_n 1, 1) := by decide +kernel
theorem dX11_offer_5 : decode cX11_offer 5 = .ok (.invokevirtual 311, 3) := by decide +kernel
theorem dX11_offer_8 : decode cX11_offer 8 = .ok (.istore 6, 2) := by decide +kernel
theorem dX11_offer_10 : decode cX11_offer 10 = .ok (.aload_n 0, 1) := by decide +kernel
theorem dX11_offer_11 : decode cX11_offer 11 = .ok (.aload_n 0, 1) := by decide +kernel
theorem dX11_offer_12 : decode cX11_offer 12 = .ok (.getfield 24, 3) := by decide +kernel
theorem dX11_offer_15 : decode cX11_offer 15 = .ok (.iload_n 2, 1) := by decide +kernel
theorem dX11_offer_16 : decode cX11_offer 16 = .ok (.invokevirtual 193, 3) := by decide +kernel
theorem dX11_offer_19 : decode cX11_offer 19 = .ok (.iload 6, 2) := by decide +kernel
theorem dX11_offer_21 : decode cX11_offer 21 = .ok (.iload_n 3, 1) := by decide +kernel
theorem dX11_offer_22 : decode cX11_offer 22 = .ok (.iload 4, 2) := by decide +kernel
theorem dX11_offer_24 : decode cX11_offer 24 = .ok (.invokevirtual 197, 3) := by decide +kernel
theorem dX11_offer_27 : decode cX11_offer 27 = .ok (.istore 7, 2) := by decide +kernel
theorem dX11_offer_29 : decode cX11_offer 29 = .ok (.bipush 9, 2) := by decide +kernel
theorem dX11_offer_31 : decode cX11_offer 31 = .ok (.istore 8, 2) := by decide +kernel
theorem dX11_offer_33 : decode cX11_offer 33 = .ok (.iconst (-1), 1) := by decide +kernel
theorem dX11_offer_34 : decode cX11_offer 34 = .ok (.istore 9, 2) := by decide +kernel
theorem dX11_offer_36 : decode cX11_offer 36 = .ok (.iconst 0, 1) := by decide +kernel
theorem dX11_offer_37 : decode cX11_offer 37 = .ok (.istore 10, 2) := by decide +kernel
theorem dX11_offer_39 : decode cX11_offer 39 = .ok (.iload 10, 2) := by decide +kernel
theorem dX11_offer_41 : decode cX11_offer 41 = .ok (.bipush 6, 2) := by decide +kernel
theorem dX11_offer_43 : decode cX11_offer 43 = .ok (.if_icmp .ge 56, 3) := by decide +kernel
theorem dX11_offer_46 : decode cX11_offer 46 = .ok (.aload_n 0, 1) := by decide +kernel
theorem dX11_offer_47 : decode cX11_offer 47 = .ok (.iload_n 2, 1) := by decide +kernel
theorem dX11_offer_48 : decode cX11_offer 48 = .ok (.iload 10, 2) := by decide +kernel
theorem dX11_offer_50 : decode cX11_offer 50 = .ok (.iload 6, 2) := by decide +kernel
theorem dX11_offer_52 : decode cX11_offer 52 = .ok (.iload_n 3, 1) := by decide +kernel
theorem dX11_offer_53 : decode cX11_offer 53 = .ok (.iload 7, 2) := by decide +kernel
theorem dX11_offer_55 : decode cX11_offer 55 = .ok (.invokevirtual 201, 3) := by decide +kernel
theorem dX11_offer_58 : decode cX11_offer 58 = .ok (.istore 11, 2) := by decide +kernel
theorem dX11_offer_60 : decode cX11_offer 60 = .ok (.iload 11, 2) := by decide +kernel
theorem dX11_offer_62 : decode cX11_offer 62 = .ok (.iload 8, 2) := by decide +kernel
theorem dX11_offer_64 : decode cX11_offer 64 = .ok (.if_icmp .le 29, 3) := by decide +kernel
theorem dX11_offer_67 : decode cX11_offer 67 = .ok (.aload_n 0, 1) := by decide +kernel
theorem dX11_offer_68 : decode cX11_offer 68 = .ok (.iload_n 2, 1) := by decide +kernel
theorem dX11_offer_69 : decode cX11_offer 69 = .ok (.iload 10, 2) := by decide +kernel
theorem dX11_offer_71 : decode cX11_offer 71 = .ok (.iload 6, 2) := by decide +kernel
theorem dX11_offer_73 : decode cX11_offer 73 = .ok (.iload_n 3, 1) := by decide +kernel
theorem dX11_offer_74 : decode cX11_offer 74 = .ok (.iload 4, 2) := by decide +kernel
theorem dX11_offer_76 : decode cX11_offer 76 = .ok (.iload 5, 2) := by decide +kernel
theorem dX11_offer_78 : decode cX11_offer 78 = .ok (.invokevirtual 204, 3) := by decide +kernel
theorem dX11_offer_81 : decode cX11_offer 81 = .ok (.iconst (-1), 1) := by decide +kernel
theorem dX11_offer_82 : decode cX11_offer 82 = .ok (.if_icmp .ne 11, 3) := by decide +kernel
theorem dX11_offer_85 : decode cX11_offer 85 = .ok (.iload 11, 2) := by decide +kernel
theorem dX11_offer_87 : decode cX11_offer 87 = .ok (.istore 8, 2) := by decide +kernel
theorem dX11_offer_89 : decode cX11_offer 89 = .ok (.iload 10, 2) := by decide +kernel
theorem dX11_offer_91 : decode cX11_offer 91 = .ok (.istore 9, 2) := by decide +kernel
theorem dX11_offer_93 : decode cX11_offer 93 = .ok (.iinc 10 1, 3) := by decide +kernel
theorem dX11_offer_96 : decode cX11_offer 96 = .ok (.goto (-57), 3) := by decide +kernel
theorem dX11_offer_99 : decode cX11_offer 99 = .ok (.iload 9, 2) := by decide +kernel
theorem dX11_offer_101 : decode cX11_offer 101 = .ok (.iconst (-1), 1) := by decide +kernel
theorem dX11_offer_102 : decode cX11_offer 102 = .ok (.if_icmp .eq 25, 3) := by decide +kernel
theorem dX11_offer_105 : decode cX11_offer 105 = .ok (.aload_n 0, 1) := by decide +kernel
theorem dX11_offer_106 : decode cX11_offer 106 = .ok (.getfield 74, 3) := by decide +kernel
theorem dX11_offer_109 : decode cX11_offer 109 = .ok (.iload_n 1, 1) := by decide +kernel
theorem dX11_offer_110 : decode cX11_offer 110 = .ok (.iload_n 2, 1) := by decide +kernel
theorem dX11_offer_111 : decode cX11_offer 111 = .ok (.iload 9, 2) := by decide +kernel
theorem dX11_offer_113 : decode cX11_offer 113 = .ok (.iload 8, 2) := by decide +kernel
theorem dX11_offer_115 : decode cX11_offer 115 = .ok (.aload_n 0, 1) := by decide +kernel
theorem dX11_offer_116 : decode cX11_offer 116 = .ok (.getfield 14, 3) := by decide +kernel
theorem dX11_offer_119 : decode cX11_offer 119 = .ok (.iload 6, 2) := by decide +kernel
theorem dX11_offer_121 : decode cX11_offer 121 = .ok (.invokevirtual 322, 3) := by decide +kernel
theorem dX11_offer_124 : decode cX11_offer 124 = .ok (.invokevirtual 325, 3) := by decide +kernel
theorem dX11_offer_127 : decode cX11_offer 127 = .ok (.return_, 1) := by decide +kernel
theorem dX11_settle_0 : decode cX11_settle 0 = .ok (.iconst 0, 1) := by decide +kernel
theorem dX11_settle_1 : decode cX11_settle 1 = .ok (.istore_n 2, 1) := by decide +kernel
theorem dX11_settle_2 : decode cX11_settle 2 = .ok (.iload_n 2, 1) := by decide +kernel
theorem dX11_settle_3 : decode cX11_settle 3 = .ok (.aload_n 0, 1) := by decide +kernel
theorem dX11_settle_4 : decode cX11_settle 4 = .ok (.getfield 31, 3) := by decide +kernel
theorem dX11_settle_7 : decode cX11_settle 7 = .ok (.getfield 216, 3) := by decide +kernel
theorem dX11_settle_10 : decode cX11_settle 10 = .ok (.if_icmp .ge 103, 3) := by decide +kernel
theorem dX11_settle_13 : decode cX11_settle 13 = .ok (.aload_n 0, 1) := by decide +kernel
theorem dX11_settle_14 : decode cX11_settle 14 = .ok (.getfield 74, 3) := by decide +kernel
theorem dX11_settle_17 : decode cX11_settle 17 = .ok (.iload_n 2, 1) := by decide +kernel
theorem dX11_settle_18 : decode cX11_settle 18 = .ok (.invokevirtual 326, 3) := by decide +kernel
theorem dX11_settle_21 : decode cX11_settle 21 = .ok (.istore_n 3, 1) := by decide +kernel
theorem dX11_settle_22 : decode cX11_settle 22 = .ok (.iload_n 3, 1) := by decide +kernel
theorem dX11_settle_23 : decode cX11_settle 23 = .ok (.iconst (-1), 1) := by decide +kernel
theorem dX11_settle_24 : decode cX11_settle 24 = .ok (.if_icmp .eq 83, 3) := by decide +kernel
theorem dX11_settle_27 : decode cX11_settle 27 = .ok (.aload_n 0, 1) := by decide +kernel
theorem dX11_settle_28 : decode cX11_settle 28 = .ok (.getfield 31, 3) := by decide +kernel
theorem dX11_settle_31 : decode cX11_settle 31 = .ok (.iload_n 2, 1) := by decide +kernel
theorem dX11_settle_32 : decode cX11_settle 32 = .ok (.invokevirtual 311, 3) := by decide +kernel
theorem dX11_settle_35 : decode cX11_settle 35 = .ok (.istore 4, 2) := by decide +kernel
theorem dX11_settle_37 : decode cX11_settle 37 = .ok (.aload_n 0, 1) := by decide +kernel
theorem dX11_settle_38 : decode cX11_settle 38 = .ok (.getfield 18, 3) := by decide +kernel
theorem dX11_settle_41 : decode cX11_settle 41 = .ok (.aload_n 0, 1) := by decide +kernel
theorem dX11_settle_42 : decode cX11_settle 42 = .ok (.getfield 24, 3) := by decide +kernel
theorem dX11_settle_45 : decode cX11_settle 45 = .ok (.iload_n 3, 1) := by decide +kernel
theorem dX11_settle_46 : decode cX11_settle 46 = .ok (.invokevirtual 193, 3) := by decide +kernel
theorem dX11_settle_49 : decode cX11_settle 49 = .ok (.aload_n 0, 1) := by decide +kernel
theorem dX11_settle_50 : decode cX11_settle 50 = .ok (.getfield 14, 3) := by decide +kernel
theorem dX11_settle_53 : decode cX11_settle 53 = .ok (.iload 4, 2) := by decide +kernel
theorem dX11_settle_55 : decode cX11_settle 55 = .ok (.invokevirtual 170, 3) := by decide +kernel
theorem dX11_settle_58 : decode cX11_settle 58 = .ok (.istore 5, 2) := by decide +kernel
theorem dX11_settle_60 : decode cX11_settle 60 = .ok (.aload_n 0, 1) := by decide +kernel
theorem dX11_settle_61 : decode cX11_settle 61 = .ok (.getfield 81, 3) := by decide +kernel
theorem dX11_settle_64 : decode cX11_settle 64 = .ok (.iload_n 1, 1) := by decide +kernel
theorem dX11_settle_65 : decode cX11_settle 65 = .ok (.iload_n 2, 1) := by decide +kernel
theorem dX11_settle_66 : decode cX11_settle 66 = .ok (.iload_n 3, 1) := by decide +kernel
theorem dX11_settle_67 : decode cX11_settle 67 = .ok (.aload_n 0, 1) := by decide +kernel
theorem dX11_settle_68 : decode cX11_settle 68 = .ok (.getfield 74, 3) := by decide +kernel
theorem dX11_settle_71 : decode cX11_settle 71 = .ok (.iload_n 2, 1) := by decide +kernel
theorem dX11_settle_72 : decode cX11_settle 72 = .ok (.iload_n 3, 1) := by decide +kernel
theorem dX11_settle_73 : decode cX11_settle 73 = .ok (.invokevirtual 329, 3) := by decide +kernel
theorem dX11_settle_76 : decode cX11_settle 76 = .ok (.iload 5, 2) := by decide +kernel
theorem dX11_settle_78 : decode cX11_settle 78 = .ok (.aload_n 0, 1) := by decide +kernel
theorem dX11_settle_79 : decode cX11_settle 79 = .ok (.getfield 74, 3) := by decide +kernel
theorem dX11_settle_82 : decode cX11_settle 82 = .ok (.iload_n 2, 1) := by decide +kernel
theorem dX11_settle_83 : decode cX11_settle 83 = .ok (.iload_n 3, 1) := by decide +kernel
theorem dX11_settle_84 : decode cX11_settle 84 = .ok (.invokevirtual 331, 3) := by decide +kernel
theorem dX11_settle_87 : decode cX11_settle 87 = .ok (.invokevirtual 334, 3) := by decide +kernel
theorem dX11_settle_90 : decode cX11_settle 90 = .ok (.aload_n 0, 1) := by decide +kernel
theorem dX11_settle_91 : decode cX11_settle 91 = .ok (.getfield 81, 3) := by decide +kernel
theorem dX11_settle_94 : decode cX11_settle 94 = .ok (.iload_n 1, 1) := by decide +kernel
theorem dX11_settle_95 : decode cX11_settle 95 = .ok (.aload_n 0, 1) := by decide +kernel
theorem dX11_settle_96 : decode cX11_settle 96 = .ok (.getfield 14, 3) := by decide +kernel
theorem dX11_settle_99 : decode cX11_settle 99 = .ok (.iload 4, 2) := by decide +kernel
theorem dX11_settle_101 : decode cX11_settle 101 = .ok (.invokevirtual 322, 3) := by decide +kernel
theorem dX11_settle_104 : decode cX11_settle 104 = .ok (.invokevirtual 337, 3) := by decide +kernel
theorem dX11_settle_107 : decode cX11_settle 107 = .ok (.iinc 2 1, 3) := by decide +kernel
theorem dX11_settle_110 : decode cX11_settle 110 = .ok (.goto (-108), 3) := by decide +kernel
theorem dX11_settle_113 : decode cX11_settle 113 = .ok (.return_, 1) := by decide +kernel
