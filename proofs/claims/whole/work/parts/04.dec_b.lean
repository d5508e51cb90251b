theorem dX4_init_0 : decode cX4_init 0 = .ok (.aload_n 0, 1) := by decide +kernel
theorem dX4_init_1 : decode cX4_init 1 = .ok (.invokespecial 3, 3) := by decide +kernel
theorem dX4_init_4 : decode cX4_init 4 = .ok (.aload_n 0, 1) := by decide +kernel
theorem dX4_init_5 : decode cX4_init 5 = .ok (.new 9, 3) := by decide +kernel
theorem dX4_init_8 : decode cX4_init 8 = .ok (.dup, 1) := by decide +kernel
theorem dX4_init_9 : decode cX4_init 9 = .ok (.invokespecial 11, 3) := by decide +kernel
theorem dX4_init_12 : decode cX4_init 12 = .ok (.putfield 12, 3) := by decide +kernel
theorem dX4_init_15 : decode cX4_init 15 = .ok (.aload_n 0, 1) := by decide +kernel
theorem dX4_init_16 : decode cX4_init 16 = .ok (.bipush 22, 2) := by decide +kernel
theorem dX4_init_18 : decode cX4_init 18 = .ok (.newarray .int, 2) := by decide +kernel
theorem dX4_init_20 : decode cX4_init 20 = .ok (.putfield 18, 3) := by decide +kernel
theorem dX4_init_23 : decode cX4_init 23 = .ok (.aload_n 0, 1) := by decide +kernel
theorem dX4_init_24 : decode cX4_init 24 = .ok (.new 22, 3) := by decide +kernel
theorem dX4_init_27 : decode cX4_init 27 = .ok (.dup, 1) := by decide +kernel
theorem dX4_init_28 : decode cX4_init 28 = .ok (.invokespecial 24, 3) := by decide +kernel
theorem dX4_init_31 : decode cX4_init 31 = .ok (.putfield 25, 3) := by decide +kernel
theorem dX4_init_34 : decode cX4_init 34 = .ok (.aload_n 0, 1) := by decide +kernel
theorem dX4_init_35 : decode cX4_init 35 = .ok (.iconst 0, 1) := by decide +kernel
theorem dX4_init_36 : decode cX4_init 36 = .ok (.putfield 29, 3) := by decide +kernel
theorem dX4_init_39 : decode cX4_init 39 = .ok (.aload_n 0, 1) := by decide +kernel
theorem dX4_init_40 : decode cX4_init 40 = .ok (.iconst 0, 1) := by decide +kernel
theorem dX4_init_41 : decode cX4_init 41 = .ok (.putfield 33, 3) := by decide +kernel
theorem dX4_init_44 : decode cX4_init 44 = .ok (.aload_n 0, 1) := by decide +kernel
theorem dX4_init_45 : decode cX4_init 45 = .ok (.iconst 0, 1) := by decide +kernel
theorem dX4_init_46 : decode cX4_init 46 = .ok (.putfield 36, 3) := by decide +kernel
theorem dX4_init_49 : decode cX4_init 49 = .ok (.aload_n 0, 1) := by decide +kernel
theorem dX4_init_50 : decode cX4_init 50 = .ok (.iconst 0, 1) := by decide +kernel
theorem dX4_init_51 : decode cX4_init 51 = .ok (.putfield 39, 3) := by decide +kernel
theorem dX4_init_54 : decode cX4_init 54 = .ok (.aload_n 0, 1) := by decide +kernel
theorem dX4_init_55 : decode cX4_init 55 = .ok (.iconst 0, 1) := by decide +kernel
theorem dX4_init_56 : decode cX4_init 56 = .ok (.putfield 43, 3) := by decide +kernel
theorem dX4_init_59 : decode cX4_init 59 = .ok (.aload_n 0, 1) := by decide +kernel
theorem dX4_init_60 : decode cX4_init 60 = .ok (.iconst 0, 1) := by decide +kernel
theorem dX4_init_61 : decode cX4_init 61 = .ok (.putfield 46, 3) := by decide +kernel
theorem dX4_init_64 : decode cX4_init 64 = .ok (.aload_n 0, 1) := by decide +kernel
theorem dX4_init_65 : decode cX4_init 65 = .ok (.sipush 10000, 3) := by decide +kernel
theorem dX4_init_68 : decode cX4_init 68 = .ok (.putfield 49, 3) := by decide +kernel
theorem dX4_init_71 : decode cX4_init 71 = .ok (.aload_n 0, 1) := by decide +kernel
theorem dX4_init_72 : decode cX4_init 72 = .ok (.iconst (-1), 1) := by decide +kernel
theorem dX4_init_73 : decode cX4_init 73 = .ok (.putfield 52, 3) := by decide +kernel
theorem dX4_init_76 : decode cX4_init 76 = .ok (.aload_n 0, 1) := by decide +kernel
theorem dX4_init_77 : decode cX4_init 77 = .ok (.iconst (-1), 1) := by decide +kernel
theorem dX4_init_78 : decode cX4_init 78 = .ok (.putfield 55, 3) := by decide +kernel
theorem dX4_init_81 : decode cX4_init 81 = .ok (.return_, 1) := by decide +kernel
theorem dX4_parse_0 : decode cX4_parse 0 = .ok (.aload_n 0, 1) := by decide +kernel
theorem dX4_parse_1 : decode cX4_parse 1 = .ok (.getfield 25, 3) := by decide +kernel
theorem dX4_parse_4 : decode cX4_parse 4 = .ok (.invokevirtual 58, 3) := by decide +kernel
theorem dX4_parse_7 : decode cX4_parse 7 = .ok (.aload_n 0, 1) := by decide +kernel
theorem dX4_parse_8 : decode cX4_parse 8 = .ok (.getfield 12, 3) := by decide +kernel
theorem dX4_parse_11 : decode cX4_parse 11 = .ok (.aload_n 1, 1) := by decide +kernel
theorem dX4_parse_12 : decode cX4_parse 12 = .ok (.iload_n 2, 1) := by decide +kernel
theorem dX4_parse_13 : decode cX4_parse 13 = .ok (.invokevirtual 61, 3) := by decide +kernel
theorem dX4_parse_16 : decode cX4_parse 16 = .ok (.aload_n 0, 1) := by decide +kernel
theorem dX4_parse_17 : decode cX4_parse 17 = .ok (.iconst 0, 1) := by decide +kernel
theorem dX4_parse_18 : decode cX4_parse 18 = .ok (.putfield 33, 3) := by decide +kernel
theorem dX4_parse_21 : decode cX4_parse 21 = .ok (.aload_n 0, 1) := by decide +kernel
theorem dX4_parse_22 : decode cX4_parse 22 = .ok (.iconst 0, 1) := by decide +kernel
theorem dX4_parse_23 : decode cX4_parse 23 = .ok (.putfield 29, 3) := by decide +kernel
theorem dX4_parse_26 : decode cX4_parse 26 = .ok (.aload_n 0, 1) := by decide +kernel
theorem dX4_parse_27 : decode cX4_parse 27 = .ok (.iconst (-1), 1) := by decide +kernel
theorem dX4_parse_28 : decode cX4_parse 28 = .ok (.putfield 52, 3) := by decide +kernel
theorem dX4_parse_31 : decode cX4_parse 31 = .ok (.iconst 0, 1) := by decide +kernel
theorem dX4_parse_32 : decode cX4_parse 32 = .ok (.istore_n 3, 1) := by decide +kernel
theorem dX4_parse_33 : decode cX4_parse 33 = .ok (.iconst 1, 1) := by decide +kernel
theorem dX4_parse_34 : decode cX4_parse 34 = .ok (.istore 4, 2) := by decide +kernel
theorem dX4_parse_36 : decode cX4_parse 36 = .ok (.iconst 0, 1) := by decide +kernel
theorem dX4_parse_37 : decode cX4_parse 37 = .ok (.istore 5, 2) := by decide +kernel
theorem dX4_parse_39 : decode cX4_parse 39 = .ok (.iload 5, 2) := by decide +kernel
theorem dX4_parse_41 : decode cX4_parse 41 = .ok (.sipush 400, 3) := by decide +kernel
theorem dX4_parse_44 : decode cX4_parse 44 = .ok (.if_icmp .gt 72, 3) := by decide +kernel
theorem dX4_parse_47 : decode cX4_parse 47 = .ok (.iload 4, 2) := by decide +kernel
theorem dX4_parse_49 : decode cX4_parse 49 = .ok (.ifCond .eq 67, 3) := by decide +kernel
theorem dX4_parse_52 : decode cX4_parse 52 = .ok (.aload_n 0, 1) := by decide +kernel
theorem dX4_parse_53 : decode cX4_parse 53 = .ok (.getfield 12, 3) := by decide +kernel
theorem dX4_parse_56 : decode cX4_parse 56 = .ok (.invokevirtual 65, 3) := by decide +kernel
theorem dX4_parse_59 : decode cX4_parse 59 = .ok (.aload_n 0, 1) := by decide +kernel
theorem dX4_parse_60 : decode cX4_parse 60 = .ok (.aload_n 0, 1) := by decide +kernel
theorem dX4_parse_61 : decode cX4_parse 61 = .ok (.getfield 12, 3) := by decide +kernel
theorem dX4_parse_64 : decode cX4_parse 64 = .ok (.getfield 68, 3) := by decide +kernel
theorem dX4_parse_67 : decode cX4_parse 67 = .ok (.iload 5, 2) := by decide +kernel
theorem dX4_parse_69 : decode cX4_parse 69 = .ok (.invokevirtual 71, 3) := by decide +kernel
theorem dX4_parse_72 : decode cX4_parse 72 = .ok (.istore_n 3, 1) := by decide +kernel
theorem dX4_parse_73 : decode cX4_parse 73 = .ok (.iload_n 3, 1) := by decide +kernel
theorem dX4_parse_74 : decode cX4_parse 74 = .ok (.ifCond .ne 17, 3) := by decide +kernel
theorem dX4_parse_77 : decode cX4_parse 77 = .ok (.aload_n 0, 1) := by decide +kernel
theorem dX4_parse_78 : decode cX4_parse 78 = .ok (.getfield 12, 3) := by decide +kernel
theorem dX4_parse_81 : decode cX4_parse 81 = .ok (.getfield 68, 3) := by decide +kernel
theorem dX4_parse_84 : decode cX4_parse 84 = .ok (.ifCond .eq 7, 3) := by decide +kernel
theorem dX4_parse_87 : decode cX4_parse 87 = .ok (.iconst 1, 1) := by decide +kernel
theorem dX4_parse_88 : decode cX4_parse 88 = .ok (.goto 4, 3) := by decide +kernel
theorem dX4_parse_91 : decode cX4_parse 91 = .ok (.iconst 0, 1) := by decide +kernel
theorem dX4_parse_92 : decode cX4_parse 92 = .ok (.istore 4, 2) := by decide +kernel
theorem dX4_parse_94 : decode cX4_parse 94 = .ok (.iload 4, 2) := by decide +kernel
theorem dX4_parse_96 : decode cX4_parse 96 = .ok (.ifCond .eq 14, 3) := by decide +kernel
theorem dX4_parse_99 : decode cX4_parse 99 = .ok (.aload_n 0, 1) := by decide +kernel
theorem dX4_parse_100 : decode cX4_parse 100 = .ok (.aload_n 0, 1) := by decide +kernel
theorem dX4_parse_101 : decode cX4_parse 101 = .ok (.getfield 12, 3) := by decide +kernel
theorem dX4_parse_104 : decode cX4_parse 104 = .ok (.getfield 68, 3) := by decide +kernel
theorem dX4_parse_107 : decode cX4_parse 107 = .ok (.invokevirtual 75, 3) := by decide +kernel
theorem dX4_parse_110 : decode cX4_parse 110 = .ok (.iinc 5 1, 3) := by decide +kernel
theorem dX4_parse_113 : decode cX4_parse 113 = .ok (.goto (-74), 3) := by decide +kernel
theorem dX4_parse_116 : decode cX4_parse 116 = .ok (.aload_n 0, 1) := by decide +kernel
theorem dX4_parse_117 : decode cX4_parse 117 = .ok (.iload_n 3, 1) := by decide +kernel
theorem dX4_parse_118 : decode cX4_parse 118 = .ok (.ifCond .eq 13, 3) := by decide +kernel
theorem dX4_parse_121 : decode cX4_parse 121 = .ok (.aload_n 0, 1) := by decide +kernel
theorem dX4_parse_122 : decode cX4_parse 122 = .ok (.getfield 12, 3) := by decide +kernel
theorem dX4_parse_125 : decode cX4_parse 125 = .ok (.getfield 79, 3) := by decide +kernel
theorem dX4_parse_128 : decode cX4_parse 128 = .ok (.goto 7, 3) := by decide +kernel
theorem dX4_parse_131 : decode cX4_parse 131 = .ok (.aload_n 0, 1) := by decide +kernel
theorem dX4_parse_132 : decode cX4_parse 132 = .ok (.getfield 52, 3) := by decide +kernel
theorem dX4_parse_135 : decode cX4_parse 135 = .ok (.putfield 55, 3) := by decide +kernel
theorem dX4_parse_138 : decode cX4_parse 138 = .ok (.iload_n 3, 1) := by decide +kernel
theorem dX4_parse_139 : decode cX4_parse 139 = .ok (.ifCond .ne 15, 3) := by decide +kernel
theorem dX4_parse_142 : decode cX4_parse 142 = .ok (.aload_n 0, 1) := by decide +kernel
theorem dX4_parse_143 : decode cX4_parse 143 = .ok (.getfield 52, 3) := by decide +kernel
theorem dX4_parse_146 : decode cX4_parse 146 = .ok (.iconst (-1), 1) := by decide +kernel
theorem dX4_parse_147 : decode cX4_parse 147 = .ok (.if_icmp .eq 7, 3) := by decide +kernel
theorem dX4_parse_150 : decode cX4_parse 150 = .ok (.iconst 5, 1) := by decide +kernel
theorem dX4_parse_151 : decode cX4_parse 151 = .ok (.goto 4, 3) := by decide +kernel
theorem dX4_parse_154 : decode cX4_parse 154 = .ok (.iload_n 3, 1) := by decide +kernel
theorem dX4_parse_155 : decode cX4_parse 155 = .ok (.ireturn, 1) := by decide +kernel
theorem dX4_swapDraft_0 : decode cX4_swapDraft 0 = .ok (.aload_n 0, 1) := by decide +kernel
theorem dX4_swapDraft_1 : decode cX4_swapDraft 1 = .ok (.getfield 25, 3) := by decide +kernel
theorem dX4_swapDraft_4 : decode cX4_swapDraft 4 = .ok (.astore_n 2, 1) := by decide +kernel
theorem dX4_swapDraft_5 : decode cX4_swapDraft 5 = .ok (.aload_n 0, 1) := by decide +kernel
theorem dX4_swapDraft_6 : decode cX4_swapDraft 6 = .ok (.aload_n 1, 1) := by decide +kernel
theorem dX4_swapDraft_7 : decode cX4_swapDraft 7 = .ok (.putfield 25, 3) := by decide +kernel
theorem dX4_swapDraft_10 : decode cX4_swapDraft 10 = .ok (.aload_n 2, 1) := by decide +kernel
theorem dX4_swapDraft_11 : decode cX4_swapDraft 11 = .ok (.areturn, 1) := by decide +kernel
theorem dX4_faultOf_0 : decode cX4_faultOf 0 = .ok (.iload_n 1, 1) := by decide +kernel
theorem dX4_faultOf_1 : decode cX4_faultOf 1 = .ok (.ifCond .ne 16, 3) := by decide +kernel
theorem dX4_faultOf_4 : decode cX4_faultOf 4 = .ok (.aload_n 0, 1) := by decide +kernel
theorem dX4_faultOf_5 : decode cX4_faultOf 5 = .ok (.getfield 33, 3) := by decide +kernel
theorem dX4_faultOf_8 : decode cX4_faultOf 8 = .ok (.ifCond .ne 7, 3) := by decide +kernel
theorem dX4_faultOf_11 : decode cX4_faultOf 11 = .ok (.iconst 0, 1) := by decide +kernel
theorem dX4_faultOf_12 : decode cX4_faultOf 12 = .ok (.goto 4, 3) := by decide +kernel
theorem dX4_faultOf_15 : decode cX4_faultOf 15 = .ok (.iconst 1, 1) := by decide +kernel
theorem dX4_faultOf_16 : decode cX4_faultOf 16 = .ok (.ireturn, 1) := by decide +kernel
theorem dX4_faultOf_17 : decode cX4_faultOf 17 = .ok (.aload_n 0, 1) := by decide +kernel
theorem dX4_faultOf_18 : decode cX4_faultOf 18 = .ok (.iload_n 1, 1) := by decide +kernel
theorem dX4_faultOf_19 : decode cX4_faultOf 19 = .ok (.invokevirtual 82, 3) := by decide +kernel
theorem dX4_faultOf_22 : decode cX4_faultOf 22 = .ok (.iconst (-1), 1) := by decide +kernel
theorem dX4_faultOf_23 : decode cX4_faultOf 23 = .ok (.if_icmp .ne 5, 3) := by decide +kernel
theorem dX4_faultOf_26 : decode cX4_faultOf 26 = .ok (.iconst 1, 1) := by decide +kernel
theorem dX4_faultOf_27 : decode cX4_faultOf 27 = .ok (.ireturn, 1) := by decide +kernel
theorem dX4_faultOf_28 : decode cX4_faultOf 28 = .ok (.aload_n 0, 1) := by decide +kernel
theorem dX4_faultOf_29 : decode cX4_faultOf 29 = .ok (.getfield 33, 3) := by decide +kernel
theorem dX4_faultOf_32 : decode cX4_faultOf 32 = .ok (.ifCond .ne 19, 3) := by decide +kernel
theorem dX4_faultOf_35 : decode cX4_faultOf 35 = .ok (.aload_n 0, 1) := by decide +kernel
theorem dX4_faultOf_36 : decode cX4_faultOf 36 = .ok (.getfield 25, 3) := by decide +kernel
theorem dX4_faultOf_39 : decode cX4_faultOf 39 = .ok (.getfield 86, 3) := by decide +kernel
theorem dX4_faultOf_42 : decode cX4_faultOf 42 = .ok (.bipush 20, 2) := by decide +kernel
theorem dX4_faultOf_44 : decode cX4_faultOf 44 = .ok (.if_icmp .lt 7, 3) := by decide +kernel
theorem dX4_faultOf_47 : decode cX4_faultOf 47 = .ok (.iconst 1, 1) := by decide +kernel
theorem dX4_faultOf_48 : decode cX4_faultOf 48 = .ok (.goto 4, 3) := by decide +kernel
theorem dX4_faultOf_51 : decode cX4_faultOf 51 = .ok (.iconst 0, 1) := by decide +kernel
theorem dX4_faultOf_52 : decode cX4_faultOf 52 = .ok (.istore_n 3, 1) := by decide +kernel
theorem dX4_faultOf_53 : decode cX4_faultOf 53 = .ok (.iload_n 1, 1) := by decide +kernel
theorem dX4_faultOf_54 : decode cX4_faultOf 54 = .ok (.bipush 11, 2) := by decide +kernel
theorem dX4_faultOf_56 : decode cX4_faultOf 56 = .ok (.if_icmp .ne 16, 3) := by decide +kernel
theorem dX4_faultOf_59 : decode cX4_faultOf 59 = .ok (.aload_n 0, 1) := by decide +kernel
theorem dX4_faultOf_60 : decode cX4_faultOf 60 = .ok (.getfield 36, 3) := by decide +kernel
theorem dX4_faultOf_63 : decode cX4_faultOf 63 = .ok (.bipush 6, 2) := by decide +kernel
theorem dX4_faultOf_65 : decode cX4_faultOf 65 = .ok (.if_icmp .lt 7, 3) := by decide +kernel
theorem dX4_faultOf_68 : decode cX4_faultOf 68 = .ok (.iconst 1, 1) := by decide +kernel
theorem dX4_faultOf_69 : decode cX4_faultOf 69 = .ok (.goto 4, 3) := by decide +kernel
theorem dX4_faultOf_72 : decode cX4_faultOf 72 = .ok (.iconst 0, 1) := by decide +kernel
theorem dX4_faultOf_73 : decode cX4_faultOf 73 = .ok (.istore 4, 2) := by decide +kernel
theorem dX4_faultOf_75 : decode cX4_faultOf 75 = .ok (.iload_n 2, 1) := by decide +kernel
theorem dX4_faultOf_76 : decode cX4_faultOf 76 = .ok (.sipush 400, 3) := by decide +kernel
theorem dX4_faultOf_79 : decode cX4_faultOf 79 = .ok (.if_icmp .ge 12, 3) := by decide +kernel
theorem dX4_faultOf_82 : decode cX4_faultOf 82 = .ok (.iload_n 3, 1) := by decide +kernel
theorem dX4_faultOf_83 : decode cX4_faultOf 83 = .ok (.ifCond .ne 8, 3) := by decide +kernel
theorem dX4_faultOf_86 : decode cX4_faultOf 86 = .ok (.iload 4, 2) := by decide +kernel
theorem dX4_faultOf_88 : decode cX4_faultOf 88 = .ok (.ifCond .eq 7, 3) := by decide +kernel
theorem dX4_faultOf_91 : decode cX4_faultOf 91 = .ok (.iconst 2, 1) := by decide +kernel
theorem dX4_faultOf_92 : decode cX4_faultOf 92 = .ok (.goto 4, 3) := by decide +kernel
theorem dX4_faultOf_95 : decode cX4_faultOf 95 = .ok (.iconst 0, 1) := by decide +kernel
theorem dX4_faultOf_96 : decode cX4_faultOf 96 = .ok (.ireturn, 1) := by decide +kernel
theorem dX4_stateBehind_0 : decode cX4_stateBehind 0 = .ok (.aload_n 0, 1) := by decide +kernel
theorem dX4_stateBehind_1 : decode cX4_stateBehind 1 = .ok (.getfield 33, 3) := by decide +kernel
theorem dX4_stateBehind_4 : decode cX4_stateBehind 4 = .ok (.tableswitch 140 0 8 #[52, 70, 140, 82, 140, 93, 140, 105, 134], 52) := by decide +kernel
theorem dX4_stateBehind_56 : decode cX4_stateBehind 56 = .ok (.iload_n 1, 1) := by decide +kernel
theorem dX4_stateBehind_57 : decode cX4_stateBehind 57 = .ok (.bipush 13, 2) := by decide +kernel
theorem dX4_stateBehind_59 : decode cX4_stateBehind 59 = .ok (.if_icmp .eq 9, 3) := by decide +kernel
theorem dX4_stateBehind_62 : decode cX4_stateBehind 62 = .ok (.iload_n 1, 1) := by decide +kernel
theorem dX4_stateBehind_63 : decode cX4_stateBehind 63 = .ok (.bipush 14, 2) := by decide +kernel
theorem dX4_stateBehind_65 : decode cX4_stateBehind 65 = .ok (.if_icmp .ne 7, 3) := by decide +kernel
theorem dX4_stateBehind_68 : decode cX4_stateBehind 68 = .ok (.iconst 1, 1) := by decide +kernel
theorem dX4_stateBehind_69 : decode cX4_stateBehind 69 = .ok (.goto 4, 3) := by decide +kernel
theorem dX4_stateBehind_72 : decode cX4_stateBehind 72 = .ok (.iconst (-1), 1) := by decide +kernel
theorem dX4_stateBehind_73 : decode cX4_stateBehind 73 = .ok (.ireturn, 1) := by decide +kernel
theorem dX4_stateBehind_74 : decode cX4_stateBehind 74 = .ok (.iload_n 1, 1) := by decide +kernel
theorem dX4_stateBehind_75 : decode cX4_stateBehind 75 = .ok (.bipush 15, 2) := by decide +kernel
theorem dX4_stateBehind_77 : decode cX4_stateBehind 77 = .ok (.if_icmp .ne 7, 3) := by decide +kernel
theorem dX4_stateBehind_80 : decode cX4_stateBehind 80 = .ok (.iconst 2, 1) := by decide +kernel
theorem dX4_stateBehind_81 : decode cX4_stateBehind 81 = .ok (.goto 4, 3) := by decide +kernel
theorem dX4_stateBehind_84 : decode cX4_stateBehind 84 = .ok (.iconst (-1), 1) := by decide +kernel
theorem dX4_stateBehind_85 : decode cX4_stateBehind 85 = .ok (.ireturn, 1) := by decide +kernel
theorem dX4_stateBehind_86 : decode cX4_stateBehind 86 = .ok (.iload_n 1, 1) := by decide +kernel
theorem dX4_stateBehind_87 : decode cX4_stateBehind 87 = .ok (.iconst 2, 1) := by decide +kernel
theorem dX4_stateBehind_88 : decode cX4_stateBehind 88 = .ok (.if_icmp .ne 7, 3) := by decide +kernel
theorem dX4_stateBehind_91 : decode cX4_stateBehind 91 = .ok (.iconst 4, 1) := by decide +kernel
theorem dX4_stateBehind_92 : decode cX4_stateBehind 92 = .ok (.goto 4, 3) := by decide +kernel
theorem dX4_stateBehind_95 : decode cX4_stateBehind 95 = .ok (.iconst (-1), 1) := by decide +kernel
theorem dX4_stateBehind_96 : decode cX4_stateBehind 96 = .ok (.ireturn, 1) := by decide +kernel
theorem dX4_stateBehind_97 : decode cX4_stateBehind 97 = .ok (.iload_n 1, 1) := by decide +kernel
theorem dX4_stateBehind_98 : decode cX4_stateBehind 98 = .ok (.iconst 2, 1) := by decide +kernel
theorem dX4_stateBehind_99 : decode cX4_stateBehind 99 = .ok (.if_icmp .ne 8, 3) := by decide +kernel
theorem dX4_stateBehind_102 : decode cX4_stateBehind 102 = .ok (.bipush 6, 2) := by decide +kernel
theorem dX4_stateBehind_104 : decode cX4_stateBehind 104 = .ok (.goto 4, 3) := by decide +kernel
theorem dX4_stateBehind_107 : decode cX4_stateBehind 107 = .ok (.iconst (-1), 1) := by decide +kernel
theorem dX4_stateBehind_108 : decode cX4_stateBehind 108 = .ok (.ireturn, 1) := by decide +kernel
theorem dX4_stateBehind_109 : decode cX4_stateBehind 109 = .ok (.iload_n 1, 1) := by decide +kernel
theorem dX4_stateBehind_110 : decode cX4_stateBehind 110 = .ok (.bipush 11, 2) := by decide +kernel
theorem dX4_stateBehind_112 : decode cX4_stateBehind 112 = .ok (.if_icmp .ne 8, 3) := by decide +kernel
theorem dX4_stateBehind_115 : decode cX4_stateBehind 115 = .ok (.bipush 7, 2) := by decide +kernel
theorem dX4_stateBehind_117 : decode cX4_stateBehind 117 = .ok (.goto 20, 3) := by decide +kernel
theorem dX4_stateBehind_120 : decode cX4_stateBehind 120 = .ok (.iload_n 1, 1) := by decide +kernel
theorem dX4_stateBehind_121 : decode cX4_stateBehind 121 = .ok (.iconst 2, 1) := by decide +kernel
theorem dX4_stateBehind_122 : decode cX4_stateBehind 122 = .ok (.if_icmp .eq 9, 3) := by decide +kernel
theorem dX4_stateBehind_125 : decode cX4_stateBehind 125 = .ok (.iload_n 1, 1) := by decide +kernel
theorem dX4_stateBehind_126 : decode cX4_stateBehind 126 = .ok (.bipush 20, 2) := by decide +kernel
theorem dX4_stateBehind_128 : decode cX4_stateBehind 128 = .ok (.if_icmp .lt 8, 3) := by decide +kernel
theorem dX4_stateBehind_131 : decode cX4_stateBehind 131 = .ok (.bipush 8, 2) := by decide +kernel
theorem dX4_stateBehind_133 : decode cX4_stateBehind 133 = .ok (.goto 4, 3) := by decide +kernel
theorem dX4_stateBehind_136 : decode cX4_stateBehind 136 = .ok (.iconst (-1), 1) := by decide +kernel
theorem dX4_stateBehind_137 : decode cX4_stateBehind 137 = .ok (.ireturn, 1) := by decide +kernel
theorem dX4_stateBehind_138 : decode cX4_stateBehind 138 = .ok (.aload_n 0, 1) := by decide +kernel
theorem dX4_stateBehind_139 : decode cX4_stateBehind 139 = .ok (.iload_n 1, 1) := by decide +kernel
theorem dX4_stateBehind_140 : decode cX4_stateBehind 140 = .ok (.invokevirtual 89, 3) := by decide +kernel
theorem dX4_stateBehind_143 : decode cX4_stateBehind 143 = .ok (.ireturn, 1) := by decide +kernel
theorem dX4_stateBehind_144 : decode cX4_stateBehind 144 = .ok (.aload_n 0, 1) := by decide +kernel
theorem dX4_stateBehind_145 : decode cX4_stateBehind 145 = .ok (.iload_n 1, 1) := by decide +kernel
theorem dX4_stateBehind_146 : decode cX4_stateBehind 146 = .ok (.invokevirtual 92, 3) := by decide +kernel
theorem dX4_stateBehind_149 : decode cX4_stateBehind 149 = .ok (.ireturn, 1) := by decide +kernel
theorem dX4_stateBehindDays_0 : decode cX4_stateBehindDays 0 = .ok (.iload_n 1, 1) := by decide +kernel
theorem dX4_stateBehindDays_1 : decode cX4_stateBehindDays 1 = .ok (.bipush 16, 2) := by decide +kernel
theorem dX4_stateBehindDays_3 : decode cX4_stateBehindDays 3 = .ok (.if_icmp .ne 13, 3) := by decide +kernel
theorem dX4_stateBehindDays_6 : decode cX4_stateBehindDays 6 = .ok (.aload_n 0, 1) := by decide +kernel
theorem dX4_stateBehindDays_7 : decode cX4_stateBehindDays 7 = .ok (.getfield 33, 3) := by decide +kernel
theorem dX4_stateBehindDays_10 : decode cX4_stateBehindDays 10 = .ok (.iconst 2, 1) := by decide +kernel
theorem dX4_stateBehindDays_11 : decode cX4_stateBehindDays 11 = .ok (.if_icmp .ne 5, 3) := by decide +kernel
theorem dX4_stateBehindDays_14 : decode cX4_stateBehindDays 14 = .ok (.iconst 3, 1) := by decide +kernel
theorem dX4_stateBehindDays_15 : decode cX4_stateBehindDays 15 = .ok (.ireturn, 1) := by decide +kernel
theorem dX4_stateBehindDays_16 : decode cX4_stateBehindDays 16 = .ok (.iload_n 1, 1) := by decide +kernel
theorem dX4_stateBehindDays_17 : decode cX4_stateBehindDays 17 = .ok (.bipush 17, 2) := by decide +kernel
theorem dX4_stateBehindDays_19 : decode cX4_stateBehindDays 19 = .ok (.if_icmp .ne 14, 3) := by decide +kernel
theorem dX4_stateBehindDays_22 : decode cX4_stateBehindDays 22 = .ok (.aload_n 0, 1) := by decide +kernel
theorem dX4_stateBehindDays_23 : decode cX4_stateBehindDays 23 = .ok (.getfield 33, 3) := by decide +kernel
theorem dX4_stateBehindDays_26 : decode cX4_stateBehindDays 26 = .ok (.bipush 6, 2) := by decide +kernel
theorem dX4_stateBehindDays_28 : decode cX4_stateBehindDays 28 = .ok (.if_icmp .eq 5, 3) := by decide +kernel
theorem dX4_stateBehindDays_31 : decode cX4_stateBehindDays 31 = .ok (.iconst 5, 1) := by decide +kernel
theorem dX4_stateBehindDays_32 : decode cX4_stateBehindDays 32 = .ok (.ireturn, 1) := by decide +kernel
theorem dX4_stateBehindDays_33 : decode cX4_stateBehindDays 33 = .ok (.iload_n 1, 1) := by decide +kernel
theorem dX4_stateBehindDays_34 : decode cX4_stateBehindDays 34 = .ok (.bipush 18, 2) := by decide +kernel
theorem dX4_stateBehindDays_36 : decode cX4_stateBehindDays 36 = .ok (.if_icmp .ne 6, 3) := by decide +kernel
theorem dX4_stateBehindDays_39 : decode cX4_stateBehindDays 39 = .ok (.bipush 7, 2) := by decide +kernel
theorem dX4_stateBehindDays_41 : decode cX4_stateBehindDays 41 = .ok (.ireturn, 1) := by decide +kernel
theorem dX4_stateBehindDays_42 : decode cX4_stateBehindDays 42 = .ok (.iload_n 1, 1) := by decide +kernel
theorem dX4_stateBehindDays_43 : decode cX4_stateBehindDays 43 = .ok (.iconst 3, 1) := by decide +kernel
theorem dX4_stateBehindDays_44 : decode cX4_stateBehindDays 44 = .ok (.if_icmp .ne 7, 3) := by decide +kernel
theorem dX4_stateBehindDays_47 : decode cX4_stateBehindDays 47 = .ok (.iconst 0, 1) := by decide +kernel
theorem dX4_stateBehindDays_48 : decode cX4_stateBehindDays 48 = .ok (.goto 4, 3) := by decide +kernel
theorem dX4_stateBehindDays_51 : decode cX4_stateBehindDays 51 = .ok (.iconst (-1), 1) := by decide +kernel
theorem dX4_stateBehindDays_52 : decode cX4_stateBehindDays 52 = .ok (.ireturn, 1) := by decide +kernel
theorem dX4_stateBehindUnit_0 : decode cX4_stateBehindUnit 0 = .ok (.iload_n 1, 1) := by decide +kernel
theorem dX4_stateBehindUnit_1 : decode cX4_stateBehindUnit 1 = .ok (.iconst 4, 1) := by decide +kernel
theorem dX4_stateBehindUnit_2 : decode cX4_stateBehindUnit 2 = .ok (.if_icmp .eq 14, 3) := by decide +kernel
theorem dX4_stateBehindUnit_5 : decode cX4_stateBehindUnit 5 = .ok (.iload_n 1, 1) := by decide +kernel
theorem dX4_stateBehindUnit_6 : decode cX4_stateBehindUnit 6 = .ok (.iconst 5, 1) := by decide +kernel
theorem dX4_stateBehindUnit_7 : decode cX4_stateBehindUnit 7 = .ok (.if_icmp .eq 9, 3) := by decide +kernel
theorem dX4_stateBehindUnit_10 : decode cX4_stateBehindUnit 10 = .ok (.iload_n 1, 1) := by decide +kernel
theorem dX4_stateBehindUnit_11 : decode cX4_stateBehindUnit 11 = .ok (.bipush 6, 2) := by decide +kernel
theorem dX4_stateBehindUnit_13 : decode cX4_stateBehindUnit 13 = .ok (.if_icmp .ne 6, 3) := by decide +kernel
theorem dX4_stateBehindUnit_16 : decode cX4_stateBehindUnit 16 = .ok (.bipush 7, 2) := by decide +kernel
theorem dX4_stateBehindUnit_18 : decode cX4_stateBehindUnit 18 = .ok (.ireturn, 1) := by decide +kernel
theorem dX4_stateBehindUnit_19 : decode cX4_stateBehindUnit 19 = .ok (.aload_n 0, 1) := by decide +kernel
theorem dX4_stateBehindUnit_20 : decode cX4_stateBehindUnit 20 = .ok (.getfield 36, 3) := by decide +kernel
theorem dX4_stateBehindUnit_23 : decode cX4_stateBehindUnit 23 = .ok (.ifCond .le 16, 3) := by decide +kernel
theorem dX4_stateBehindUnit_26 : decode cX4_stateBehindUnit 26 = .ok (.iload_n 1, 1) := by decide +kernel
theorem dX4_stateBehindUnit_27 : decode cX4_stateBehindUnit 27 = .ok (.bipush 12, 2) := by decide +kernel
theorem dX4_stateBehindUnit_29 : decode cX4_stateBehindUnit 29 = .ok (.if_icmp .ne 8, 3) := by decide +kernel
theorem dX4_stateBehindUnit_32 : decode cX4_stateBehindUnit 32 = .ok (.bipush 8, 2) := by decide +kernel
theorem dX4_stateBehindUnit_34 : decode cX4_stateBehindUnit 34 = .ok (.goto 4, 3) := by decide +kernel
theorem dX4_stateBehindUnit_37 : decode cX4_stateBehindUnit 37 = .ok (.iconst (-1), 1) := by decide +kernel
theorem dX4_stateBehindUnit_38 : decode cX4_stateBehindUnit 38 = .ok (.ireturn, 1) := by decide +kernel
theorem dX4_stateBehindUnit_39 : decode cX4_stateBehindUnit 39 = .ok (.aload_n 0, 1) := by decide +kernel
theorem dX4_stateBehindUnit_40 : decode cX4_stateBehindUnit 40 = .ok (.getfield 39, 3) := by decide +kernel
theorem dX4_stateBehindUnit_43 : decode cX4_stateBehindUnit 43 = .ok (.ifCond .ne 17, 3) := by decide +kernel
theorem dX4_stateBehindUnit_46 : decode cX4_stateBehindUnit 46 = .ok (.iload_n 1, 1) := by decide +kernel
theorem dX4_stateBehindUnit_47 : decode cX4_stateBehindUnit 47 = .ok (.invokestatic 95, 3) := by decide +kernel
theorem dX4_stateBehindUnit_50 : decode cX4_stateBehindUnit 50 = .ok (.ifCond .eq 8, 3) := by decide +kernel
theorem dX4_stateBehindUnit_53 : decode cX4_stateBehindUnit 53 = .ok (.bipush 7, 2) := by decide +kernel
theorem dX4_stateBehindUnit_55 : decode cX4_stateBehindUnit 55 = .ok (.goto 4, 3) := by decide +kernel
theorem dX4_stateBehindUnit_58 : decode cX4_stateBehindUnit 58 = .ok (.iconst (-1), 1) := by decide +kernel
theorem dX4_stateBehindUnit_59 : decode cX4_stateBehindUnit 59 = .ok (.ireturn, 1) := by decide +kernel
theorem dX4_stateBehindUnit_60 : decode cX4_stateBehindUnit 60 = .ok (.iload_n 1, 1) := by decide +kernel
theorem dX4_stateBehindUnit_61 : decode cX4_stateBehindUnit 61 = .ok (.bipush 19, 2) := by decide +kernel
theorem dX4_stateBehindUnit_63 : decode cX4_stateBehindUnit 63 = .ok (.if_icmp .ne 6, 3) := by decide +kernel
theorem dX4_stateBehindUnit_66 : decode cX4_stateBehindUnit 66 = .ok (.bipush 7, 2) := by decide +kernel
theorem dX4_stateBehindUnit_68 : decode cX4_stateBehindUnit 68 = .ok (.ireturn, 1) := by decide +kernel
theorem dX4_stateBehindUnit_69 : decode cX4_stateBehindUnit 69 = .ok (.iload_n 1, 1) := by decide +kernel
theorem dX4_stateBehindUnit_70 : decode cX4_stateBehindUnit 70 = .ok (.iconst 3, 1) := by decide +kernel
theorem dX4_stateBehindUnit_71 : decode cX4_stateBehindUnit 71 = .ok (.if_icmp .ne 7, 3) := by decide +kernel
theorem dX4_stateBehindUnit_74 : decode cX4_stateBehindUnit 74 = .ok (.iconst 0, 1) := by decide +kernel
theorem dX4_stateBehindUnit_75 : decode cX4_stateBehindUnit 75 = .ok (.goto 4, 3) := by decide +kernel
theorem dX4_stateBehindUnit_78 : decode cX4_stateBehindUnit 78 = .ok (.iconst (-1), 1) := by decide +kernel
theorem dX4_stateBehindUnit_79 : decode cX4_stateBehindUnit 79 = .ok (.ireturn, 1) := by decide +kernel
theorem dX4_isRelation_0 : decode cX4_isRelation 0 = .ok (.iload_n 0, 1) := by decide +kernel
theorem dX4_isRelation_1 : decode cX4_isRelation 1 = .ok (.bipush 7, 2) := by decide +kernel
theorem dX4_isRelation_3 : decode cX4_isRelation 3 = .ok (.if_icmp .lt 13, 3) := by decide +kernel
theorem dX4_isRelation_6 : decode cX4_isRelation 6 = .ok (.iload_n 0, 1) := by decide +kernel
theorem dX4_isRelation_7 : decode cX4_isRelation 7 = .ok (.bipush 10, 2) := by decide +kernel
theorem dX4_isRelation_9 : decode cX4_isRelation 9 = .ok (.if_icmp .gt 7, 3) := by decide +kernel
theorem dX4_isRelation_12 : decode cX4_isRelation 12 = .ok (.iconst 1, 1) := by decide +kernel
theorem dX4_isRelation_13 : decode cX4_isRelation 13 = .ok (.goto 4, 3) := by decide +kernel
theorem dX4_isRelation_16 : decode cX4_isRelation 16 = .ok (.iconst 0, 1) := by decide +kernel
theorem dX4_isRelation_17 : decode cX4_isRelation 17 = .ok (.ireturn, 1) := by decide +kernel
theorem dX4_take_0 : decode cX4_take 0 = .ok (.aload_n 0, 1) := by decide +kernel
theorem dX4_take_1 : decode cX4_take 1 = .ok (.getfield 33, 3) := by decide +kernel
theorem dX4_take_4 : decode cX4_take 4 = .ok (.istore_n 2, 1) := by decide +kernel
theorem dX4_take_5 : decode cX4_take 5 = .ok (.aload_n 0, 1) := by decide +kernel
theorem dX4_take_6 : decode cX4_take 6 = .ok (.aload_n 0, 1) := by decide +kernel
theorem dX4_take_7 : decode cX4_take 7 = .ok (.iload_n 1, 1) := by decide +kernel
theorem dX4_take_8 : decode cX4_take 8 = .ok (.invokevirtual 82, 3) := by decide +kernel
theorem dX4_take_11 : decode cX4_take 11 = .ok (.putfield 33, 3) := by decide +kernel
theorem dX4_take_14 : decode cX4_take 14 = .ok (.iload_n 2, 1) := by decide +kernel
theorem dX4_take_15 : decode cX4_take 15 = .ok (.ifCond .ne 11, 3) := by decide +kernel
theorem dX4_take_18 : decode cX4_take 18 = .ok (.aload_n 0, 1) := by decide +kernel
theorem dX4_take_19 : decode cX4_take 19 = .ok (.iload_n 1, 1) := by decide +kernel
theorem dX4_take_20 : decode cX4_take 20 = .ok (.invokevirtual 99, 3) := by decide +kernel
theorem dX4_take_23 : decode cX4_take 23 = .ok (.goto 59, 3) := by decide +kernel
theorem dX4_take_26 : decode cX4_take 26 = .ok (.iload_n 2, 1) := by decide +kernel
theorem dX4_take_27 : decode cX4_take 27 = .ok (.iconst 3, 1) := by decide +kernel
theorem dX4_take_28 : decode cX4_take 28 = .ok (.if_icmp .ne 17, 3) := by decide +kernel
theorem dX4_take_31 : decode cX4_take 31 = .ok (.aload_n 0, 1) := by decide +kernel
theorem dX4_take_32 : decode cX4_take 32 = .ok (.aload_n 0, 1) := by decide +kernel
theorem dX4_take_33 : decode cX4_take 33 = .ok (.getfield 12, 3) := by decide +kernel
theorem dX4_take_36 : decode cX4_take 36 = .ok (.getfield 102, 3) := by decide +kernel
theorem dX4_take_39 : decode cX4_take 39 = .ok (.putfield 46, 3) := by decide +kernel
theorem dX4_take_42 : decode cX4_take 42 = .ok (.goto 40, 3) := by decide +kernel
theorem dX4_take_45 : decode cX4_take 45 = .ok (.iload_n 2, 1) := by decide +kernel
theorem dX4_take_46 : decode cX4_take 46 = .ok (.iconst 5, 1) := by decide +kernel
theorem dX4_take_47 : decode cX4_take 47 = .ok (.if_icmp .ne 10, 3) := by decide +kernel
theorem dX4_take_50 : decode cX4_take 50 = .ok (.aload_n 0, 1) := by decide +kernel
theorem dX4_take_51 : decode cX4_take 51 = .ok (.invokevirtual 105, 3) := by decide +kernel
theorem dX4_take_54 : decode cX4_take 54 = .ok (.goto 28, 3) := by decide +kernel
theorem dX4_take_57 : decode cX4_take 57 = .ok (.iload_n 2, 1) := by decide +kernel
theorem dX4_take_58 : decode cX4_take 58 = .ok (.bipush 7, 2) := by decide +kernel
theorem dX4_take_60 : decode cX4_take 60 = .ok (.if_icmp .ne 11, 3) := by decide +kernel
theorem dX4_take_63 : decode cX4_take 63 = .ok (.aload_n 0, 1) := by decide +kernel
theorem dX4_take_64 : decode cX4_take 64 = .ok (.iload_n 1, 1) := by decide +kernel
theorem dX4_take_65 : decode cX4_take 65 = .ok (.invokevirtual 108, 3) := by decide +kernel
theorem dX4_take_68 : decode cX4_take 68 = .ok (.goto 14, 3) := by decide +kernel
theorem dX4_take_71 : decode cX4_take 71 = .ok (.iload_n 2, 1) := by decide +kernel
theorem dX4_take_72 : decode cX4_take 72 = .ok (.bipush 8, 2) := by decide +kernel
theorem dX4_take_74 : decode cX4_take 74 = .ok (.if_icmp .ne 8, 3) := by decide +kernel
theorem dX4_take_77 : decode cX4_take 77 = .ok (.aload_n 0, 1) := by decide +kernel
theorem dX4_take_78 : decode cX4_take 78 = .ok (.iload_n 1, 1) := by decide +kernel
theorem dX4_take_79 : decode cX4_take 79 = .ok (.invokevirtual 111, 3) := by decide +kernel
theorem dX4_take_82 : decode cX4_take 82 = .ok (.iload_n 1, 1) := by decide +kernel
theorem dX4_take_83 : decode cX4_take 83 = .ok (.iconst 3, 1) := by decide +kernel
theorem dX4_take_84 : decode cX4_take 84 = .ok (.if_icmp .ne 22, 3) := by decide +kernel
theorem dX4_take_87 : decode cX4_take 87 = .ok (.aload_n 0, 1) := by decide +kernel
theorem dX4_take_88 : decode cX4_take 88 = .ok (.getfield 25, 3) := by decide +kernel
theorem dX4_take_91 : decode cX4_take 91 = .ok (.aload_n 0, 1) := by decide +kernel
theorem dX4_take_92 : decode cX4_take 92 = .ok (.getfield 43, 3) := by decide +kernel
theorem dX4_take_95 : decode cX4_take 95 = .ok (.aload_n 0, 1) := by decide +kernel
theorem dX4_take_96 : decode cX4_take 96 = .ok (.getfield 46, 3) := by decide +kernel
theorem dX4_take_99 : decode cX4_take 99 = .ok (.aload_n 0, 1) := by decide +kernel
theorem dX4_take_100 : decode cX4_take 100 = .ok (.getfield 49, 3) := by decide +kernel
theorem dX4_take_103 : decode cX4_take 103 = .ok (.invokevirtual 114, 3) := by decide +kernel
theorem dX4_take_106 : decode cX4_take 106 = .ok (.return_, 1) := by decide +kernel
theorem dX4_startRule_0 : decode cX4_startRule 0 = .ok (.aload_n 0, 1) := by decide +kernel
theorem dX4_startRule_1 : decode cX4_startRule 1 = .ok (.iload_n 1, 1) := by decide +kernel
theorem dX4_startRule_2 : decode cX4_startRule 2 = .ok (.bipush 14, 2) := by decide +kernel
theorem dX4_startRule_4 : decode cX4_startRule 4 = .ok (.if_icmp .ne 7, 3) := by decide +kernel
theorem dX4_startRule_7 : decode cX4_startRule 7 = .ok (.iconst 1, 1) := by decide +kernel
theorem dX4_startRule_8 : decode cX4_startRule 8 = .ok (.goto 4, 3) := by decide +kernel
theorem dX4_startRule_11 : decode cX4_startRule 11 = .ok (.iconst 0, 1) := by decide +kernel
theorem dX4_startRule_12 : decode cX4_startRule 12 = .ok (.putfield 43, 3) := by decide +kernel
theorem dX4_startRule_15 : decode cX4_startRule 15 = .ok (.aload_n 0, 1) := by decide +kernel
theorem dX4_startRule_16 : decode cX4_startRule 16 = .ok (.iconst 0, 1) := by decide +kernel
theorem dX4_startRule_17 : decode cX4_startRule 17 = .ok (.putfield 46, 3) := by decide +kernel
theorem dX4_startRule_20 : decode cX4_startRule 20 = .ok (.aload_n 0, 1) := by decide +kernel
theorem dX4_startRule_21 : decode cX4_startRule 21 = .ok (.sipush 10000, 3) := by decide +kernel
theorem dX4_startRule_24 : decode cX4_startRule 24 = .ok (.putfield 49, 3) := by decide +kernel
theorem dX4_startRule_27 : decode cX4_startRule 27 = .ok (.aload_n 0, 1) := by decide +kernel
theorem dX4_startRule_28 : decode cX4_startRule 28 = .ok (.iconst 0, 1) := by decide +kernel
theorem dX4_startRule_29 : decode cX4_startRule 29 = .ok (.putfield 36, 3) := by decide +kernel
theorem dX4_startRule_32 : decode cX4_startRule 32 = .ok (.aload_n 0, 1) := by decide +kernel
theorem dX4_startRule_33 : decode cX4_startRule 33 = .ok (.iconst 0, 1) := by decide +kernel
theorem dX4_startRule_34 : decode cX4_startRule 34 = .ok (.putfield 39, 3) := by decide +kernel
theorem dX4_startRule_37 : decode cX4_startRule 37 = .ok (.return_, 1) := by decide +kernel
theorem dX4_takeUntil_0 : decode cX4_takeUntil 0 = .ok (.aload_n 0, 1) := by decide +kernel
theorem dX4_takeUntil_1 : decode cX4_takeUntil 1 = .ok (.aload_n 0, 1) := by decide +kernel
theorem dX4_takeUntil_2 : decode cX4_takeUntil 2 = .ok (.getfield 12, 3) := by decide +kernel
theorem dX4_takeUntil_5 : decode cX4_takeUntil 5 = .ok (.getfield 102, 3) := by decide +kernel
theorem dX4_takeUntil_8 : decode cX4_takeUntil 8 = .ok (.putfield 49, 3) := by decide +kernel
theorem dX4_takeUntil_11 : decode cX4_takeUntil 11 = .ok (.aload_n 0, 1) := by decide +kernel
theorem dX4_takeUntil_12 : decode cX4_takeUntil 12 = .ok (.getfield 49, 3) := by decide +kernel
theorem dX4_takeUntil_15 : decode cX4_takeUntil 15 = .ok (.aload_n 0, 1) := by decide +kernel
theorem dX4_takeUntil_16 : decode cX4_takeUntil 16 = .ok (.getfield 46, 3) := by decide +kernel
theorem dX4_takeUntil_19 : decode cX4_takeUntil 19 = .ok (.if_icmp .gt 22, 3) := by decide +kernel
theorem dX4_takeUntil_22 : decode cX4_takeUntil 22 = .ok (.aload_n 0, 1) := by decide +kernel
theorem dX4_takeUntil_23 : decode cX4_takeUntil 23 = .ok (.getfield 52, 3) := by decide +kernel
theorem dX4_takeUntil_26 : decode cX4_takeUntil 26 = .ok (.iconst (-1), 1) := by decide +kernel
theorem dX4_takeUntil_27 : decode cX4_takeUntil 27 = .ok (.if_icmp .ne 14, 3) := by decide +kernel
theorem dX4_takeUntil_30 : decode cX4_takeUntil 30 = .ok (.aload_n 0, 1) := by decide +kernel
theorem dX4_takeUntil_31 : decode cX4_takeUntil 31 = .ok (.aload_n 0, 1) := by decide +kernel
theorem dX4_takeUntil_32 : decode cX4_takeUntil 32 = .ok (.getfield 12, 3) := by decide +kernel
theorem dX4_takeUntil_35 : decode cX4_takeUntil 35 = .ok (.getfield 79, 3) := by decide +kernel
theorem dX4_takeUntil_38 : decode cX4_takeUntil 38 = .ok (.putfield 52, 3) := by decide +kernel
theorem dX4_takeUntil_41 : decode cX4_takeUntil 41 = .ok (.return_, 1) := by decide +kernel
theorem dX4_takeUnit_0 : decode cX4_takeUnit 0 = .ok (.iload_n 1, 1) := by decide +kernel
theorem dX4_takeUnit_1 : decode cX4_takeUnit 1 = .ok (.bipush 11, 2) := by decide +kernel
theorem dX4_takeUnit_3 : decode cX4_takeUnit 3 = .ok (.if_icmp .ne 22, 3) := by decide +kernel
theorem dX4_takeUnit_6 : decode cX4_takeUnit 6 = .ok (.aload_n 0, 1) := by decide +kernel
theorem dX4_takeUnit_7 : decode cX4_takeUnit 7 = .ok (.dup, 1) := by decide +kernel
theorem dX4_takeUnit_8 : decode cX4_takeUnit 8 = .ok (.getfield 36, 3) := by decide +kernel
theorem dX4_takeUnit_11 : decode cX4_takeUnit 11 = .ok (.iconst 1, 1) := by decide +kernel
theorem dX4_takeUnit_12 : decode cX4_takeUnit 12 = .ok (.iadd, 1) := by decide +kernel
theorem dX4_takeUnit_13 : decode cX4_takeUnit 13 = .ok (.putfield 36, 3) := by decide +kernel
theorem dX4_takeUnit_16 : decode cX4_takeUnit 16 = .ok (.aload_n 0, 1) := by decide +kernel
theorem dX4_takeUnit_17 : decode cX4_takeUnit 17 = .ok (.bipush 11, 2) := by decide +kernel
theorem dX4_takeUnit_19 : decode cX4_takeUnit 19 = .ok (.invokevirtual 118, 3) := by decide +kernel
theorem dX4_takeUnit_22 : decode cX4_takeUnit 22 = .ok (.goto 18, 3) := by decide +kernel
theorem dX4_takeUnit_25 : decode cX4_takeUnit 25 = .ok (.aload_n 0, 1) := by decide +kernel
theorem dX4_takeUnit_26 : decode cX4_takeUnit 26 = .ok (.getfield 25, 3) := by decide +kernel
theorem dX4_takeUnit_29 : decode cX4_takeUnit 29 = .ok (.iload_n 1, 1) := by decide +kernel
theorem dX4_takeUnit_30 : decode cX4_takeUnit 30 = .ok (.aload_n 0, 1) := by decide +kernel
theorem dX4_takeUnit_31 : decode cX4_takeUnit 31 = .ok (.getfield 12, 3) := by decide +kernel
theorem dX4_takeUnit_34 : decode cX4_takeUnit 34 = .ok (.getfield 102, 3) := by decide +kernel
theorem dX4_takeUnit_37 : decode cX4_takeUnit 37 = .ok (.invokevirtual 121, 3) := by decide +kernel
theorem dX4_takeUnit_40 : decode cX4_takeUnit 40 = .ok (.return_, 1) := by decide +kernel
theorem dX4_takeSign_0 : decode cX4_takeSign 0 = .ok (.aload_n 0, 1) := by decide +kernel
theorem dX4_takeSign_1 : decode cX4_takeSign 1 = .ok (.iload_n 1, 1) := by decide +kernel
theorem dX4_takeSign_2 : decode cX4_takeSign 2 = .ok (.invokevirtual 125, 3) := by decide +kernel
theorem dX4_takeSign_5 : decode cX4_takeSign 5 = .ok (.iload_n 1, 1) := by decide +kernel
theorem dX4_takeSign_6 : decode cX4_takeSign 6 = .ok (.bipush 12, 2) := by decide +kernel
theorem dX4_takeSign_8 : decode cX4_takeSign 8 = .ok (.if_icmp .ne 30, 3) := by decide +kernel
theorem dX4_takeSign_11 : decode cX4_takeSign 11 = .ok (.aload_n 0, 1) := by decide +kernel
theorem dX4_takeSign_12 : decode cX4_takeSign 12 = .ok (.dup, 1) := by decide +kernel
theorem dX4_takeSign_13 : decode cX4_takeSign 13 = .ok (.getfield 36, 3) := by decide +kernel
theorem dX4_takeSign_16 : decode cX4_takeSign 16 = .ok (.iconst 1, 1) := by decide +kernel
theorem dX4_takeSign_17 : decode cX4_takeSign 17 = .ok (.isub, 1) := by decide +kernel
theorem dX4_takeSign_18 : decode cX4_takeSign 18 = .ok (.putfield 36, 3) := by decide +kernel
theorem dX4_takeSign_21 : decode cX4_takeSign 21 = .ok (.aload_n 0, 1) := by decide +kernel
theorem dX4_takeSign_22 : decode cX4_takeSign 22 = .ok (.aload_n 0, 1) := by decide +kernel
theorem dX4_takeSign_23 : decode cX4_takeSign 23 = .ok (.getfield 29, 3) := by decide +kernel
theorem dX4_takeSign_26 : decode cX4_takeSign 26 = .ok (.iconst 1, 1) := by decide +kernel
theorem dX4_takeSign_27 : decode cX4_takeSign 27 = .ok (.isub, 1) := by decide +kernel
theorem dX4_takeSign_28 : decode cX4_takeSign 28 = .ok (.iconst 0, 1) := by decide +kernel
theorem dX4_takeSign_29 : decode cX4_takeSign 29 = .ok (.invokestatic 128, 3) := by decide +kernel
theorem dX4_takeSign_32 : decode cX4_takeSign 32 = .ok (.putfield 29, 3) := by decide +kernel
theorem dX4_takeSign_35 : decode cX4_takeSign 35 = .ok (.goto 50, 3) := by decide +kernel
theorem dX4_takeSign_38 : decode cX4_takeSign 38 = .ok (.iload_n 1, 1) := by decide +kernel
theorem dX4_takeSign_39 : decode cX4_takeSign 39 = .ok (.bipush 19, 2) := by decide +kernel
theorem dX4_takeSign_41 : decode cX4_takeSign 41 = .ok (.if_icmp .ne 11, 3) := by decide +kernel
theorem dX4_takeSign_44 : decode cX4_takeSign 44 = .ok (.aload_n 0, 1) := by decide +kernel
theorem dX4_takeSign_45 : decode cX4_takeSign 45 = .ok (.iconst 0, 1) := by decide +kernel
theorem dX4_takeSign_46 : decode cX4_takeSign 46 = .ok (.putfield 39, 3) := by decide +kernel
theorem dX4_takeSign_49 : decode cX4_takeSign 49 = .ok (.goto 36, 3) := by decide +kernel
theorem dX4_takeSign_52 : decode cX4_takeSign 52 = .ok (.iload_n 1, 1) := by decide +kernel
theorem dX4_takeSign_53 : decode cX4_takeSign 53 = .ok (.iconst 3, 1) := by decide +kernel
theorem dX4_takeSign_54 : decode cX4_takeSign 54 = .ok (.if_icmp .eq 31, 3) := by decide +kernel
theorem dX4_takeSign_57 : decode cX4_takeSign 57 = .ok (.aload_n 0, 1) := by decide +kernel
theorem dX4_takeSign_58 : decode cX4_takeSign 58 = .ok (.aload_n 0, 1) := by decide +kernel
theorem dX4_takeSign_59 : decode cX4_takeSign 59 = .ok (.getfield 39, 3) := by decide +kernel
theorem dX4_takeSign_62 : decode cX4_takeSign 62 = .ok (.ifCond .ne 10, 3) := by decide +kernel
theorem dX4_takeSign_65 : decode cX4_takeSign 65 = .ok (.iload_n 1, 1) := by decide +kernel
theorem dX4_takeSign_66 : decode cX4_takeSign 66 = .ok (.invokestatic 95, 3) := by decide +kernel
theorem dX4_takeSign_69 : decode cX4_takeSign 69 = .ok (.ifCond .eq 7, 3) := by decide +kernel
theorem dX4_takeSign_72 : decode cX4_takeSign 72 = .ok (.iconst 1, 1) := by decide +kernel
theorem dX4_takeSign_73 : decode cX4_takeSign 73 = .ok (.goto 4, 3) := by decide +kernel
theorem dX4_takeSign_76 : decode cX4_takeSign 76 = .ok (.iconst 0, 1) := by decide +kernel
theorem dX4_takeSign_77 : decode cX4_takeSign 77 = .ok (.putfield 39, 3) := by decide +kernel
theorem dX4_takeSign_80 : decode cX4_takeSign 80 = .ok (.aload_n 0, 1) := by decide +kernel
theorem dX4_takeSign_81 : decode cX4_takeSign 81 = .ok (.iload_n 1, 1) := by decide +kernel
theorem dX4_takeSign_82 : decode cX4_takeSign 82 = .ok (.invokevirtual 118, 3) := by decide +kernel
theorem dX4_takeSign_85 : decode cX4_takeSign 85 = .ok (.return_, 1) := by decide +kernel
theorem dX4_putOff_0 : decode cX4_putOff 0 = .ok (.aload_n 0, 1) := by decide +kernel
theorem dX4_putOff_1 : decode cX4_putOff 1 = .ok (.getfield 29, 3) := by decide +kernel
theorem dX4_putOff_4 : decode cX4_putOff 4 = .ok (.bipush 22, 2) := by decide +kernel
theorem dX4_putOff_6 : decode cX4_putOff 6 = .ok (.if_icmp .ge 23, 3) := by decide +kernel
theorem dX4_putOff_9 : decode cX4_putOff 9 = .ok (.aload_n 0, 1) := by decide +kernel
theorem dX4_putOff_10 : decode cX4_putOff 10 = .ok (.getfield 18, 3) := by decide +kernel
theorem dX4_putOff_13 : decode cX4_putOff 13 = .ok (.aload_n 0, 1) := by decide +kernel
theorem dX4_putOff_14 : decode cX4_putOff 14 = .ok (.getfield 29, 3) := by decide +kernel
theorem dX4_putOff_17 : decode cX4_putOff 17 = .ok (.iload_n 1, 1) := by decide +kernel
theorem dX4_putOff_18 : decode cX4_putOff 18 = .ok (.iastore, 1) := by decide +kernel
theorem dX4_putOff_19 : decode cX4_putOff 19 = .ok (.aload_n 0, 1) := by decide +kernel
theorem dX4_putOff_20 : decode cX4_putOff 20 = .ok (.dup, 1) := by decide +kernel
theorem dX4_putOff_21 : decode cX4_putOff 21 = .ok (.getfield 29, 3) := by decide +kernel
theorem dX4_putOff_24 : decode cX4_putOff 24 = .ok (.iconst 1, 1) := by decide +kernel
theorem dX4_putOff_25 : decode cX4_putOff 25 = .ok (.iadd, 1) := by decide +kernel
theorem dX4_putOff_26 : decode cX4_putOff 26 = .ok (.putfield 29, 3) := by decide +kernel
theorem dX4_putOff_29 : decode cX4_putOff 29 = .ok (.return_, 1) := by decide +kernel
theorem dX4_release_0 : decode cX4_release 0 = .ok (.iload_n 1, 1) := by decide +kernel
theorem dX4_release_1 : decode cX4_release 1 = .ok (.invokestatic 133, 3) := by decide +kernel
theorem dX4_release_4 : decode cX4_release 4 = .ok (.iconst 1, 1) := by decide +kernel
theorem dX4_release_5 : decode cX4_release 5 = .ok (.invokestatic 128, 3) := by decide +kernel
theorem dX4_release_8 : decode cX4_release 8 = .ok (.istore_n 2, 1) := by decide +kernel
theorem dX4_release_9 : decode cX4_release 9 = .ok (.aload_n 0, 1) := by decide +kernel
theorem dX4_release_10 : decode cX4_release 10 = .ok (.getfield 29, 3) := by decide +kernel
theorem dX4_release_13 : decode cX4_release 13 = .ok (.iconst 1, 1) := by decide +kernel
theorem dX4_release_14 : decode cX4_release 14 = .ok (.isub, 1) := by decide +kernel
theorem dX4_release_15 : decode cX4_release 15 = .ok (.istore_n 3, 1) := by decide +kernel
theorem dX4_release_16 : decode cX4_release 16 = .ok (.iload_n 3, 1) := by decide +kernel
theorem dX4_release_17 : decode cX4_release 17 = .ok (.ifCond .lt 41, 3) := by decide +kernel
theorem dX4_release_20 : decode cX4_release 20 = .ok (.aload_n 0, 1) := by decide +kernel
theorem dX4_release_21 : decode cX4_release 21 = .ok (.getfield 18, 3) := by decide +kernel
theorem dX4_release_24 : decode cX4_release 24 = .ok (.iload_n 3, 1) := by decide +kernel
theorem dX4_release_25 : decode cX4_release 25 = .ok (.iaload, 1) := by decide +kernel
theorem dX4_release_26 : decode cX4_release 26 = .ok (.invokestatic 133, 3) := by decide +kernel
theorem dX4_release_29 : decode cX4_release 29 = .ok (.iload_n 2, 1) := by decide +kernel
theorem dX4_release_30 : decode cX4_release 30 = .ok (.if_icmp .lt 28, 3) := by decide +kernel
theorem dX4_release_33 : decode cX4_release 33 = .ok (.aload_n 0, 1) := by decide +kernel
theorem dX4_release_34 : decode cX4_release 34 = .ok (.getfield 25, 3) := by decide +kernel
theorem dX4_release_37 : decode cX4_release 37 = .ok (.aload_n 0, 1) := by decide +kernel
theorem dX4_release_38 : decode cX4_release 38 = .ok (.getfield 18, 3) := by decide +kernel
theorem dX4_release_41 : decode cX4_release 41 = .ok (.iload_n 3, 1) := by decide +kernel
theorem dX4_release_42 : decode cX4_release 42 = .ok (.iaload, 1) := by decide +kernel
theorem dX4_release_43 : decode cX4_release 43 = .ok (.iconst 0, 1) := by decide +kernel
theorem dX4_release_44 : decode cX4_release 44 = .ok (.invokevirtual 121, 3) := by decide +kernel
theorem dX4_release_47 : decode cX4_release 47 = .ok (.aload_n 0, 1) := by decide +kernel
theorem dX4_release_48 : decode cX4_release 48 = .ok (.iload_n 3, 1) := by decide +kernel
theorem dX4_release_49 : decode cX4_release 49 = .ok (.putfield 29, 3) := by decide +kernel
theorem dX4_release_52 : decode cX4_release 52 = .ok (.iinc 3 (-1), 3) := by decide +kernel
theorem dX4_release_55 : decode cX4_release 55 = .ok (.goto (-39), 3) := by decide +kernel
theorem dX4_release_58 : decode cX4_release 58 = .ok (.return_, 1) := by decide +kernel
theorem dX4_rank_0 : decode cX4_rank 0 = .ok (.iload_n 0, 1) := by decide +kernel
theorem dX4_rank_1 : decode cX4_rank 1 = .ok (.bipush 6, 2) := by decide +kernel
theorem dX4_rank_3 : decode cX4_rank 3 = .ok (.if_icmp .ne 5, 3) := by decide +kernel
theorem dX4_rank_6 : decode cX4_rank 6 = .ok (.iconst 3, 1) := by decide +kernel
theorem dX4_rank_7 : decode cX4_rank 7 = .ok (.ireturn, 1) := by decide +kernel
theorem dX4_rank_8 : decode cX4_rank 8 = .ok (.iload_n 0, 1) := by decide +kernel
theorem dX4_rank_9 : decode cX4_rank 9 = .ok (.iconst 4, 1) := by decide +kernel
theorem dX4_rank_10 : decode cX4_rank 10 = .ok (.if_icmp .eq 8, 3) := by decide +kernel
theorem dX4_rank_13 : decode cX4_rank 13 = .ok (.iload_n 0, 1) := by decide +kernel
theorem dX4_rank_14 : decode cX4_rank 14 = .ok (.iconst 5, 1) := by decide +kernel
theorem dX4_rank_15 : decode cX4_rank 15 = .ok (.if_icmp .ne 5, 3) := by decide +kernel
theorem dX4_rank_18 : decode cX4_rank 18 = .ok (.iconst 2, 1) := by decide +kernel
theorem dX4_rank_19 : decode cX4_rank 19 = .ok (.ireturn, 1) := by decide +kernel
theorem dX4_rank_20 : decode cX4_rank 20 = .ok (.iload_n 0, 1) := by decide +kernel
theorem dX4_rank_21 : decode cX4_rank 21 = .ok (.invokestatic 95, 3) := by decide +kernel
theorem dX4_rank_24 : decode cX4_rank 24 = .ok (.ifCond .eq 7, 3) := by decide +kernel
theorem dX4_rank_27 : decode cX4_rank 27 = .ok (.iconst 1, 1) := by decide +kernel
theorem dX4_rank_28 : decode cX4_rank 28 = .ok (.goto 4, 3) := by decide +kernel
theorem dX4_rank_31 : decode cX4_rank 31 = .ok (.iconst 0, 1) := by decide +kernel
theorem dX4_rank_32 : decode cX4_rank 32 = .ok (.ireturn, 1) := by decide +kernel
theorem dX7_init_0 : decode cX7_init 0 = .ok (.aload_n 0, 1) := by decide +kernel
theorem dX7_init_1 : decode cX7_init 1 = .ok (.invokespecial 3, 3) := by decide +kernel
theorem dX7_init_4 : decode cX7_init 4 = .ok (.aload_n 0, 1) := by decide +kernel
theorem dX7_init_5 : decode cX7_init 5 = .ok (.iconst 0, 1) := by decide +kernel
theorem dX7_init_6 : decode cX7_init 6 = .ok (.newarray .byte, 2) := by decide +kernel
theorem dX7_init_8 : decode cX7_init 8 = .ok (.putfield 9, 3) := by decide +kernel
theorem dX7_init_11 : decode cX7_init 11 = .ok (.aload_n 0, 1) := by decide +kernel
theorem dX7_init_12 : decode cX7_init 12 = .ok (.iconst 0, 1) := by decide +kernel
theorem dX7_init_13 : decode cX7_init 13 = .ok (.putfield 15, 3) := by decide +kernel
theorem dX7_init_16 : decode cX7_init 16 = .ok (.aload_n 0, 1) := by decide +kernel
theorem dX7_init_17 : decode cX7_init 17 = .ok (.iconst 0, 1) := by decide +kernel
theorem dX7_init_18 : decode cX7_init 18 = .ok (.putfield 19, 3) := by decide +kernel
theorem dX7_init_21 : decode cX7_init 21 = .ok (.aload_n 0, 1) := by decide +kernel
theorem dX7_init_22 : decode cX7_init 22 = .ok (.iconst 0, 1) := by decide +kernel
theorem dX7_init_23 : decode cX7_init 23 = .ok (.putfield 22, 3) := by decide +kernel
theorem dX7_init_26 : decode cX7_init 26 = .ok (.aload_n 0, 1) := by decide +kernel
theorem dX7_init_27 : decode cX7_init 27 = .ok (.iconst 0, 1) := by decide +kernel
theorem dX7_init_28 : decode cX7_init 28 = .ok (.putfield 25, 3) := by decide +kernel
theorem dX7_init_31 : decode cX7_init 31 = .ok (.aload_n 0, 1) := by decide +kernel
theorem dX7_init_32 : decode cX7_init 32 = .ok (.iconst 0, 1) := by decide +kernel
theorem dX7_init_33 : decode cX7_init 33 = .ok (.putfield 28, 3) := by decide +kernel
theorem dX7_init_36 : decode cX7_init 36 = .ok (.return_, 1) := by decide +kernel
theorem dX7_start_0 : decode cX7_start 0 = .ok (.aload_n 0, 1) := by decide +kernel
theorem dX7_start_1 : decode cX7_start 1 = .ok (.aload_n 1, 1) := by decide +kernel
theorem dX7_start_2 : decode cX7_start 2 = .ok (.putfield 9, 3) := by decide +kernel
theorem dX7_start_5 : decode cX7_start 5 = .ok (.aload_n 0, 1) := by decide +kernel
theorem dX7_start_6 : decode cX7_start 6 = .ok (.iload_n 2, 1) := by decide +kernel
theorem dX7_start_7 : decode cX7_start 7 = .ok (.aload_n 1, 1) := by decide +kernel
theorem dX7_start_8 : decode cX7_start 8 = .ok (.arraylength, 1) := by decide +kernel
theorem dX7_start_9 : decode cX7_start 9 = .ok (.invokestatic 31, 3) := by decide +kernel
theorem dX7_start_12 : decode cX7_start 12 = .ok (.putfield 15, 3) := by decide +kernel
theorem dX7_start_15 : decode cX7_start 15 = .ok (.aload_n 0, 1) := by decide +kernel
theorem dX7_start_16 : decode cX7_start 16 = .ok (.iconst 0, 1) := by decide +kernel
theorem dX7_start_17 : decode cX7_start 17 = .ok (.putfield 19, 3) := by decide +kernel
theorem dX7_start_20 : decode cX7_start 20 = .ok (.return_, 1) := by decide +kernel
theorem dX7_advance_0 : decode cX7_advance 0 = .ok (.aload_n 0, 1) := by decide +kernel
theorem dX7_advance_1 : decode cX7_advance 1 = .ok (.aload_n 0, 1) := by decide +kernel
theorem dX7_advance_2 : decode cX7_advance 2 = .ok (.invokevirtual 37, 3) := by decide +kernel
theorem dX7_advance_5 : decode cX7_advance 5 = .ok (.putfield 19, 3) := by decide +kernel
theorem dX7_advance_8 : decode cX7_advance 8 = .ok (.aload_n 0, 1) := by decide +kernel
theorem dX7_advance_9 : decode cX7_advance 9 = .ok (.aload_n 0, 1) := by decide +kernel
theorem dX7_advance_10 : decode cX7_advance 10 = .ok (.getfield 19, 3) := by decide +kernel
theorem dX7_advance_13 : decode cX7_advance 13 = .ok (.putfield 25, 3) := by decide +kernel
theorem dX7_advance_16 : decode cX7_advance 16 = .ok (.aload_n 0, 1) := by decide +kernel
theorem dX7_advance_17 : decode cX7_advance 17 = .ok (.iconst 0, 1) := by decide +kernel
theorem dX7_advance_18 : decode cX7_advance 18 = .ok (.putfield 28, 3) := by decide +kernel
theorem dX7_advance_21 : decode cX7_advance 21 = .ok (.aload_n 0, 1) := by decide +kernel
theorem dX7_advance_22 : decode cX7_advance 22 = .ok (.getfield 19, 3) := by decide +kernel
theorem dX7_advance_25 : decode cX7_advance 25 = .ok (.aload_n 0, 1) := by decide +kernel
theorem dX7_advance_26 : decode cX7_advance 26 = .ok (.getfield 15, 3) := by decide +kernel
theorem dX7_advance_29 : decode cX7_advance 29 = .ok (.if_icmp .lt 11, 3) := by decide +kernel
theorem dX7_advance_32 : decode cX7_advance 32 = .ok (.aload_n 0, 1) := by decide +kernel
theorem dX7_advance_33 : decode cX7_advance 33 = .ok (.iconst 0, 1) := by decide +kernel
theorem dX7_advance_34 : decode cX7_advance 34 = .ok (.putfield 22, 3) := by decide +kernel
theorem dX7_advance_37 : decode cX7_advance 37 = .ok (.goto 51, 3) := by decide +kernel
theorem dX7_advance_40 : decode cX7_advance 40 = .ok (.aload_n 0, 1) := by decide +kernel
theorem dX7_advance_41 : decode cX7_advance 41 = .ok (.getfield 9, 3) := by decide +kernel
theorem dX7_advance_44 : decode cX7_advance 44 = .ok (.aload_n 0, 1) := by decide +kernel
theorem dX7_advance_45 : decode cX7_advance 45 = .ok (.getfield 19, 3) := by decide +kernel
theorem dX7_advance_48 : decode cX7_advance 48 = .ok (.baload, 1) := by decide +kernel
theorem dX7_advance_49 : decode cX7_advance 49 = .ok (.invokestatic 41, 3) := by decide +kernel
theorem dX7_advance_52 : decode cX7_advance 52 = .ok (.ifCond .eq 10, 3) := by decide +kernel
theorem dX7_advance_55 : decode cX7_advance 55 = .ok (.aload_n 0, 1) := by decide +kernel
theorem dX7_advance_56 : decode cX7_advance 56 = .ok (.invokevirtual 45, 3) := by decide +kernel
theorem dX7_advance_59 : decode cX7_advance 59 = .ok (.goto 29, 3) := by decide +kernel
theorem dX7_advance_62 : decode cX7_advance 62 = .ok (.aload_n 0, 1) := by decide +kernel
theorem dX7_advance_63 : decode cX7_advance 63 = .ok (.getfield 9, 3) := by decide +kernel
theorem dX7_advance_66 : decode cX7_advance 66 = .ok (.aload_n 0, 1) := by decide +kernel
theorem dX7_advance_67 : decode cX7_advance 67 = .ok (.getfield 19, 3) := by decide +kernel
theorem dX7_advance_70 : decode cX7_advance 70 = .ok (.baload, 1) := by decide +kernel
theorem dX7_advance_71 : decode cX7_advance 71 = .ok (.invokestatic 48, 3) := by decide +kernel
theorem dX7_advance_74 : decode cX7_advance 74 = .ok (.ifCond .eq 10, 3) := by decide +kernel
theorem dX7_advance_77 : decode cX7_advance 77 = .ok (.aload_n 0, 1) := by decide +kernel
theorem dX7_advance_78 : decode cX7_advance 78 = .ok (.invokevirtual 51, 3) := by decide +kernel
theorem dX7_advance_81 : decode cX7_advance 81 = .ok (.goto 7, 3) := by decide +kernel
theorem dX7_advance_84 : decode cX7_advance 84 = .ok (.aload_n 0, 1) := by decide +kernel
theorem dX7_advance_85 : decode cX7_advance 85 = .ok (.invokevirtual 54, 3) := by decide +kernel
theorem dX7_advance_88 : decode cX7_advance 88 = .ok (.return_, 1) := by decide +kernel
theorem dX7_behindBlanks_0 : decode cX7_behindBlanks 0 = .ok (.aload_n 0, 1) := by decide +kernel
theorem dX7_behindBlanks_1 : decode cX7_behindBlanks 1 = .ok (.getfield 19, 3) := by decide +kernel
theorem dX7_behindBlanks_4 : decode cX7_behindBlanks 4 = .ok (.istore_n 1, 1) := by decide +kernel
theorem dX7_behindBlanks_5 : decode cX7_behindBlanks 5 = .ok (.iload_n 1, 1) := by decide +kernel
theorem dX7_behindBlanks_6 : decode cX7_behindBlanks 6 = .ok (.aload_n 0, 1) := by decide +kernel
theorem dX7_behindBlanks_7 : decode cX7_behindBlanks 7 = .ok (.getfield 15, 3) := by decide +kernel
theorem dX7_behindBlanks_10 : decode cX7_behindBlanks 10 = .ok (.if_icmp .ge 21, 3) := by decide +kernel
theorem dX7_behindBlanks_13 : decode cX7_behindBlanks 13 = .ok (.aload_n 0, 1) := by decide +kernel
theorem dX7_behindBlanks_14 : decode cX7_behindBlanks 14 = .ok (.getfield 9, 3) := by decide +kernel
theorem dX7_behindBlanks_17 : decode cX7_behindBlanks 17 = .ok (.iload_n 1, 1) := by decide +kernel
theorem dX7_behindBlanks_18 : decode cX7_behindBlanks 18 = .ok (.baload, 1) := by decide +kernel
theorem dX7_behindBlanks_19 : decode cX7_behindBlanks 19 = .ok (.invokestatic 57, 3) := by decide +kernel
theorem dX7_behindBlanks_22 : decode cX7_behindBlanks 22 = .ok (.ifCond .eq 9, 3) := by decide +kernel
theorem dX7_behindBlanks_25 : decode cX7_behindBlanks 25 = .ok (.iinc 1 1, 3) := by decide +kernel
theorem dX7_behindBlanks_28 : decode cX7_behindBlanks 28 = .ok (.goto (-23), 3) := by decide +kernel
theorem dX7_behindBlanks_31 : decode cX7_behindBlanks 31 = .ok (.iload_n 1, 1) := by decide +kernel
theorem dX7_behindBlanks_32 : decode cX7_behindBlanks 32 = .ok (.ireturn, 1) := by decide +kernel
theorem dX7_isBlank_0 : decode cX7_isBlank 0 = .ok (.iload_n 0, 1) := by decide +kernel
theorem dX7_isBlank_1 : decode cX7_isBlank 1 = .ok (.bipush 9, 2) := by decide +kernel
theorem dX7_isBlank_3 : decode cX7_isBlank 3 = .ok (.if_icmp .eq 21, 3) := by decide +kernel
theorem dX7_isBlank_6 : decode cX7_isBlank 6 = .ok (.iload_n 0, 1) := by decide +kernel
theorem dX7_isBlank_7 : decode cX7_isBlank 7 = .ok (.bipush 10, 2) := by decide +kernel
theorem dX7_isBlank_9 : decode cX7_isBlank 9 = .ok (.if_icmp .eq 15, 3) := by decide +kernel
theorem dX7_isBlank_12 : decode cX7_isBlank 12 = .ok (.iload_n 0, 1) := by decide +kernel
theorem dX7_isBlank_13 : decode cX7_isBlank 13 = .ok (.bipush 13, 2) := by decide +kernel
theorem dX7_isBlank_15 : decode cX7_isBlank 15 = .ok (.if_icmp .eq 9, 3) := by decide +kernel
theorem dX7_isBlank_18 : decode cX7_isBlank 18 = .ok (.iload_n 0, 1) := by decide +kernel
theorem dX7_isBlank_19 : decode cX7_isBlank 19 = .ok (.bipush 32, 2) := by decide +kernel
theorem dX7_isBlank_21 : decode cX7_isBlank 21 = .ok (.if_icmp .ne 7, 3) := by decide +kernel
theorem dX7_isBlank_24 : decode cX7_isBlank 24 = .ok (.iconst 1, 1) := by decide +kernel
theorem dX7_isBlank_25 : decode cX7_isBlank 25 = .ok (.goto 4, 3) := by decide +kernel
theorem dX7_isBlank_28 : decode cX7_isBlank 28 = .ok (.iconst 0, 1) := by decide +kernel
theorem dX7_isBlank_29 : decode cX7_isBlank 29 = .ok (.ireturn, 1) := by decide +kernel
theorem dX7_isLetter_0 : decode cX7_isLetter 0 = .ok (.iload_n 0, 1) := by decide +kernel
theorem dX7_isLetter_1 : decode cX7_isLetter 1 = .ok (.bipush 97, 2) := by decide +kernel
theorem dX7_isLetter_3 : decode cX7_isLetter 3 = .ok (.if_icmp .lt 13, 3) := by decide +kernel
theorem dX7_isLetter_6 : decode cX7_isLetter 6 = .ok (.iload_n 0, 1) := by decide +kernel
theorem dX7_isLetter_7 : decode cX7_isLetter 7 = .ok (.bipush 122, 2) := by decide +kernel
theorem dX7_isLetter_9 : decode cX7_isLetter 9 = .ok (.if_icmp .gt 7, 3) := by decide +kernel
theorem dX7_isLetter_12 : decode cX7_isLetter 12 = .ok (.iconst 1, 1) := by decide +kernel
theorem dX7_isLetter_13 : decode cX7_isLetter 13 = .ok (.goto 4, 3) := by decide +kernel
theorem dX7_isLetter_16 : decode cX7_isLetter 16 = .ok (.iconst 0, 1) := by decide +kernel
theorem dX7_isLetter_17 : decode cX7_isLetter 17 = .ok (.ireturn, 1) := by decide +kernel
theorem dX7_isDigit_0 : decode cX7_isDigit 0 = .ok (.iload_n 0, 1) := by decide +kernel
theorem dX7_isDigit_1 : decode cX7_isDigit 1 = .ok (.bipush 48, 2) := by decide +kernel
theorem dX7_isDigit_3 : decode cX7_isDigit 3 = .ok (.if_icmp .lt 13, 3) := by decide +kernel
theorem dX7_isDigit_6 : decode cX7_isDigit 6 = .ok (.iload_n 0, 1) := by decide +kernel
theorem dX7_isDigit_7 : decode cX7_isDigit 7 = .ok (.bipush 57, 2) := by decide +kernel
theorem dX7_isDigit_9 : decode cX7_isDigit 9 = .ok (.if_icmp .gt 7, 3) := by decide +kernel
theorem dX7_isDigit_12 : decode cX7_isDigit 12 = .ok (.iconst 1, 1) := by decide +kernel
theorem dX7_isDigit_13 : decode cX7_isDigit 13 = .ok (.goto 4, 3) := by decide +kernel
theorem dX7_isDigit_16 : decode cX7_isDigit 16 = .ok (.iconst 0, 1) := by decide +kernel
theorem dX7_isDigit_17 : decode cX7_isDigit 17 = .ok (.ireturn, 1) := by decide +kernel
theorem dX7_scanWord_0 : decode cX7_scanWord 0 = .ok (.aload_n 0, 1) := by decide +kernel
theorem dX7_scanWord_1 : decode cX7_scanWord 1 = .ok (.getfield 19, 3) := by decide +kernel
theorem dX7_scanWord_4 : decode cX7_scanWord 4 = .ok (.aload_n 0, 1) := by decide +kernel
theorem dX7_scanWord_5 : decode cX7_scanWord 5 = .ok (.getfield 15, 3) := by decide +kernel
theorem dX7_scanWord_8 : decode cX7_scanWord 8 = .ok (.if_icmp .ge 31, 3) := by decide +kernel
theorem dX7_scanWord_11 : decode cX7_scanWord 11 = .ok (.aload_n 0, 1) := by decide +kernel
theorem dX7_scanWord_12 : decode cX7_scanWord 12 = .ok (.getfield 9, 3) := by decide +kernel
theorem dX7_scanWord_15 : decode cX7_scanWord 15 = .ok (.aload_n 0, 1) := by decide +kernel
theorem dX7_scanWord_16 : decode cX7_scanWord 16 = .ok (.getfield 19, 3) := by decide +kernel
theorem dX7_scanWord_19 : decode cX7_scanWord 19 = .ok (.baload, 1) := by decide +kernel
theorem dX7_scanWord_20 : decode cX7_scanWord 20 = .ok (.invokestatic 41, 3) := by decide +kernel
theorem dX7_scanWord_23 : decode cX7_scanWord 23 = .ok (.ifCond .eq 16, 3) := by decide +kernel
theorem dX7_scanWord_26 : decode cX7_scanWord 26 = .ok (.aload_n 0, 1) := by decide +kernel
theorem dX7_scanWord_27 : decode cX7_scanWord 27 = .ok (.dup, 1) := by decide +kernel
theorem dX7_scanWord_28 : decode cX7_scanWord 28 = .ok (.getfield 19, 3) := by decide +kernel
theorem dX7_scanWord_31 : decode cX7_scanWord 31 = .ok (.iconst 1, 1) := by decide +kernel
theorem dX7_scanWord_32 : decode cX7_scanWord 32 = .ok (.iadd, 1) := by decide +kernel
theorem dX7_scanWord_33 : decode cX7_scanWord 33 = .ok (.putfield 19, 3) := by decide +kernel
theorem dX7_scanWord_36 : decode cX7_scanWord 36 = .ok (.goto (-36), 3) := by decide +kernel
theorem dX7_scanWord_39 : decode cX7_scanWord 39 = .ok (.aload_n 0, 1) := by decide +kernel
theorem dX7_scanWord_40 : decode cX7_scanWord 40 = .ok (.iconst 1, 1) := by decide +kernel
theorem dX7_scanWord_41 : decode cX7_scanWord 41 = .ok (.putfield 22, 3) := by decide +kernel
theorem dX7_scanWord_44 : decode cX7_scanWord 44 = .ok (.aload_n 0, 1) := by decide +kernel
theorem dX7_scanWord_45 : decode cX7_scanWord 45 = .ok (.getfield 19, 3) := by decide +kernel
theorem dX7_scanWord_48 : decode cX7_scanWord 48 = .ok (.aload_n 0, 1) := by decide +kernel
theorem dX7_scanWord_49 : decode cX7_scanWord 49 = .ok (.getfield 25, 3) := by decide +kernel
theorem dX7_scanWord_52 : decode cX7_scanWord 52 = .ok (.isub, 1) := by decide +kernel
theorem dX7_scanWord_53 : decode cX7_scanWord 53 = .ok (.bipush 8, 2) := by decide +kernel
theorem dX7_scanWord_55 : decode cX7_scanWord 55 = .ok (.if_icmp .gt 51, 3) := by decide +kernel
theorem dX7_scanWord_58 : decode cX7_scanWord 58 = .ok (.iconst 0, 1) := by decide +kernel
theorem dX7_scanWord_59 : decode cX7_scanWord 59 = .ok (.istore_n 1, 1) := by decide +kernel
theorem dX7_scanWord_60 : decode cX7_scanWord 60 = .ok (.iload_n 1, 1) := by decide +kernel
theorem dX7_scanWord_61 : decode cX7_scanWord 61 = .ok (.bipush 8, 2) := by decide +kernel
theorem dX7_scanWord_63 : decode cX7_scanWord 63 = .ok (.imul, 1) := by decide +kernel
theorem dX7_scanWord_64 : decode cX7_scanWord 64 = .ok (.ldc 60, 2) := by decide +kernel
theorem dX7_scanWord_66 : decode cX7_scanWord 66 = .ok (.invokevirtual 62, 3) := by decide +kernel
theorem dX7_scanWord_69 : decode cX7_scanWord 69 = .ok (.if_icmp .ge 37, 3) := by decide +kernel
theorem dX7_scanWord_72 : decode cX7_scanWord 72 = .ok (.aload_n 0, 1) := by decide +kernel
theorem dX7_scanWord_73 : decode cX7_scanWord 73 = .ok (.getfield 22, 3) := by decide +kernel
theorem dX7_scanWord_76 : decode cX7_scanWord 76 = .ok (.iconst 1, 1) := by decide +kernel
theorem dX7_scanWord_77 : decode cX7_scanWord 77 = .ok (.if_icmp .ne 29, 3) := by decide +kernel
theorem dX7_scanWord_80 : decode cX7_scanWord 80 = .ok (.aload_n 0, 1) := by decide +kernel
theorem dX7_scanWord_81 : decode cX7_scanWord 81 = .ok (.aload_n 0, 1) := by decide +kernel
theorem dX7_scanWord_82 : decode cX7_scanWord 82 = .ok (.iload_n 1, 1) := by decide +kernel
theorem dX7_scanWord_83 : decode cX7_scanWord 83 = .ok (.invokevirtual 66, 3) := by decide +kernel
theorem dX7_scanWord_86 : decode cX7_scanWord 86 = .ok (.ifCond .eq 10, 3) := by decide +kernel
theorem dX7_scanWord_89 : decode cX7_scanWord 89 = .ok (.bipush 13, 2) := by decide +kernel
theorem dX7_scanWord_91 : decode cX7_scanWord 91 = .ok (.iload_n 1, 1) := by decide +kernel
theorem dX7_scanWord_92 : decode cX7_scanWord 92 = .ok (.iadd, 1) := by decide +kernel
theorem dX7_scanWord_93 : decode cX7_scanWord 93 = .ok (.goto 4, 3) := by decide +kernel
theorem dX7_scanWord_96 : decode cX7_scanWord 96 = .ok (.iconst 1, 1) := by decide +kernel
theorem dX7_scanWord_97 : decode cX7_scanWord 97 = .ok (.putfield 22, 3) := by decide +kernel
theorem dX7_scanWord_100 : decode cX7_scanWord 100 = .ok (.iinc 1 1, 3) := by decide +kernel
theorem dX7_scanWord_103 : decode cX7_scanWord 103 = .ok (.goto (-43), 3) := by decide +kernel
theorem dX7_scanWord_106 : decode cX7_scanWord 106 = .ok (.return_, 1) := by decide +kernel
theorem dX7_isWord_0 : decode cX7_isWord 0 = .ok (.iconst 0, 1) := by decide +kernel
theorem dX7_isWord_1 : decode cX7_isWord 1 = .ok (.istore_n 2, 1) := by decide +kernel
theorem dX7_isWord_2 : decode cX7_isWord 2 = .ok (.iload_n 2, 1) := by decide +kernel
theorem dX7_isWord_3 : decode cX7_isWord 3 = .ok (.bipush 8, 2) := by decide +kernel
theorem dX7_isWord_5 : decode cX7_isWord 5 = .ok (.if_icmp .ge 56, 3) := by decide +kernel
theorem dX7_isWord_8 : decode cX7_isWord 8 = .ok (.aload_n 0, 1) := by decide +kernel
theorem dX7_isWord_9 : decode cX7_isWord 9 = .ok (.getfield 25, 3) := by decide +kernel
theorem dX7_isWord_12 : decode cX7_isWord 12 = .ok (.iload_n 2, 1) := by decide +kernel
theorem dX7_isWord_13 : decode cX7_isWord 13 = .ok (.iadd, 1) := by decide +kernel
theorem dX7_isWord_14 : decode cX7_isWord 14 = .ok (.aload_n 0, 1) := by decide +kernel
theorem dX7_isWord_15 : decode cX7_isWord 15 = .ok (.getfield 19, 3) := by decide +kernel
theorem dX7_isWord_18 : decode cX7_isWord 18 = .ok (.if_icmp .ge 17, 3) := by decide +kernel
theorem dX7_isWord_21 : decode cX7_isWord 21 = .ok (.aload_n 0, 1) := by decide +kernel
theorem dX7_isWord_22 : decode cX7_isWord 22 = .ok (.getfield 9, 3) := by decide +kernel
theorem dX7_isWord_25 : decode cX7_isWord 25 = .ok (.aload_n 0, 1) := by decide +kernel
theorem dX7_isWord_26 : decode cX7_isWord 26 = .ok (.getfield 25, 3) := by decide +kernel
theorem dX7_isWord_29 : decode cX7_isWord 29 = .ok (.iload_n 2, 1) := by decide +kernel
theorem dX7_isWord_30 : decode cX7_isWord 30 = .ok (.iadd, 1) := by decide +kernel
theorem dX7_isWord_31 : decode cX7_isWord 31 = .ok (.baload, 1) := by decide +kernel
theorem dX7_isWord_32 : decode cX7_isWord 32 = .ok (.goto 5, 3) := by decide +kernel
theorem dX7_isWord_35 : decode cX7_isWord 35 = .ok (.bipush 32, 2) := by decide +kernel
theorem dX7_isWord_37 : decode cX7_isWord 37 = .ok (.istore_n 3, 1) := by decide +kernel
theorem dX7_isWord_38 : decode cX7_isWord 38 = .ok (.ldc 60, 2) := by decide +kernel
theorem dX7_isWord_40 : decode cX7_isWord 40 = .ok (.iload_n 1, 1) := by decide +kernel
theorem dX7_isWord_41 : decode cX7_isWord 41 = .ok (.bipush 8, 2) := by decide +kernel
theorem dX7_isWord_43 : decode cX7_isWord 43 = .ok (.imul, 1) := by decide +kernel
theorem dX7_isWord_44 : decode cX7_isWord 44 = .ok (.iload_n 2, 1) := by decide +kernel
theorem dX7_isWord_45 : decode cX7_isWord 45 = .ok (.iadd, 1) := by decide +kernel
theorem dX7_isWord_46 : decode cX7_isWord 46 = .ok (.invokevirtual 69, 3) := by decide +kernel
theorem dX7_isWord_49 : decode cX7_isWord 49 = .ok (.iload_n 3, 1) := by decide +kernel
theorem dX7_isWord_50 : decode cX7_isWord 50 = .ok (.if_icmp .eq 5, 3) := by decide +kernel
theorem dX7_isWord_53 : decode cX7_isWord 53 = .ok (.iconst 0, 1) := by decide +kernel
theorem dX7_isWord_54 : decode cX7_isWord 54 = .ok (.ireturn, 1) := by decide +kernel
theorem dX7_isWord_55 : decode cX7_isWord 55 = .ok (.iinc 2 1, 3) := by decide +kernel
theorem dX7_isWord_58 : decode cX7_isWord 58 = .ok (.goto (-56), 3) := by decide +kernel
theorem dX7_isWord_61 : decode cX7_isWord 61 = .ok (.iconst 1, 1) := by decide +kernel
theorem dX7_isWord_62 : decode cX7_isWord 62 = .ok (.ireturn, 1) := by decide +kernel
theorem dX7_scanInt_0 : decode cX7_scanInt 0 = .ok (.aload_n 0, 1) := by decide +kernel
theorem dX7_scanInt_1 : decode cX7_scanInt 1 = .ok (.getfield 19, 3) := by decide +kernel
theorem dX7_scanInt_4 : decode cX7_scanInt 4 = .ok (.aload_n 0, 1) := by decide +kernel
theorem dX7_scanInt_5 : decode cX7_scanInt 5 = .ok (.getfield 15, 3) := by decide +kernel
theorem dX7_scanInt_8 : decode cX7_scanInt 8 = .ok (.if_icmp .ge 72, 3) := by decide +kernel
theorem dX7_scanInt_11 : decode cX7_scanInt 11 = .ok (.aload_n 0, 1) := by decide +kernel
theorem dX7_scanInt_12 : decode cX7_scanInt 12 = .ok (.getfield 9, 3) := by decide +kernel
theorem dX7_scanInt_15 : decode cX7_scanInt 15 = .ok (.aload_n 0, 1) := by decide +kernel
theorem dX7_scanInt_16 : decode cX7_scanInt 16 = .ok (.getfield 19, 3) := by decide +kernel
theorem dX7_scanInt_19 : decode cX7_scanInt 19 = .ok (.baload, 1) := by decide +kernel
theorem dX7_scanInt_20 : decode cX7_scanInt 20 = .ok (.invokestatic 48, 3) := by decide +kernel
theorem dX7_scanInt_23 : decode cX7_scanInt 23 = .ok (.ifCond .eq 57, 3) := by decide +kernel
theorem dX7_scanInt_26 : decode cX7_scanInt 26 = .ok (.aload_n 0, 1) := by decide +kernel
theorem dX7_scanInt_27 : decode cX7_scanInt 27 = .ok (.aload_n 0, 1) := by decide +kernel
theorem dX7_scanInt_28 : decode cX7_scanInt 28 = .ok (.getfield 19, 3) := by decide +kernel
theorem dX7_scanInt_31 : decode cX7_scanInt 31 = .ok (.aload_n 0, 1) := by decide +kernel
theorem dX7_scanInt_32 : decode cX7_scanInt 32 = .ok (.getfield 25, 3) := by decide +kernel
theorem dX7_scanInt_35 : decode cX7_scanInt 35 = .ok (.isub, 1) := by decide +kernel
theorem dX7_scanInt_36 : decode cX7_scanInt 36 = .ok (.iconst 4, 1) := by decide +kernel
theorem dX7_scanInt_37 : decode cX7_scanInt 37 = .ok (.if_icmp .ge 26, 3) := by decide +kernel
theorem dX7_scanInt_40 : decode cX7_scanInt 40 = .ok (.aload_n 0, 1) := by decide +kernel
theorem dX7_scanInt_41 : decode cX7_scanInt 41 = .ok (.getfield 28, 3) := by decide +kernel
theorem dX7_scanInt_44 : decode cX7_scanInt 44 = .ok (.bipush 10, 2) := by decide +kernel
theorem dX7_scanInt_46 : decode cX7_scanInt 46 = .ok (.imul, 1) := by decide +kernel
theorem dX7_scanInt_47 : decode cX7_scanInt 47 = .ok (.aload_n 0, 1) := by decide +kernel
theorem dX7_scanInt_48 : decode cX7_scanInt 48 = .ok (.getfield 9, 3) := by decide +kernel
theorem dX7_scanInt_51 : decode cX7_scanInt 51 = .ok (.aload_n 0, 1) := by decide +kernel
theorem dX7_scanInt_52 : decode cX7_scanInt 52 = .ok (.getfield 19, 3) := by decide +kernel
theorem dX7_scanInt_55 : decode cX7_scanInt 55 = .ok (.baload, 1) := by decide +kernel
theorem dX7_scanInt_56 : decode cX7_scanInt 56 = .ok (.iadd, 1) := by decide +kernel
theorem dX7_scanInt_57 : decode cX7_scanInt 57 = .ok (.bipush 48, 2) := by decide +kernel
theorem dX7_scanInt_59 : decode cX7_scanInt 59 = .ok (.isub, 1) := by decide +kernel
theorem dX7_scanInt_60 : decode cX7_scanInt 60 = .ok (.goto 4, 3) := by decide +kernel
theorem dX7_scanInt_63 : decode cX7_scanInt 63 = .ok (.iconst 0, 1) := by decide +kernel
theorem dX7_scanInt_64 : decode cX7_scanInt 64 = .ok (.putfield 28, 3) := by decide +kernel
theorem dX7_scanInt_67 : decode cX7_scanInt 67 = .ok (.aload_n 0, 1) := by decide +kernel
theorem dX7_scanInt_68 : decode cX7_scanInt 68 = .ok (.dup, 1) := by decide +kernel
theorem dX7_scanInt_69 : decode cX7_scanInt 69 = .ok (.getfield 19, 3) := by decide +kernel
theorem dX7_scanInt_72 : decode cX7_scanInt 72 = .ok (.iconst 1, 1) := by decide +kernel
theorem dX7_scanInt_73 : decode cX7_scanInt 73 = .ok (.iadd, 1) := by decide +kernel
theorem dX7_scanInt_74 : decode cX7_scanInt 74 = .ok (.putfield 19, 3) := by decide +kernel
theorem dX7_scanInt_77 : decode cX7_scanInt 77 = .ok (.goto (-77), 3) := by decide +kernel
theorem dX7_scanInt_80 : decode cX7_scanInt 80 = .ok (.aload_n 0, 1) := by decide +kernel
theorem dX7_scanInt_81 : decode cX7_scanInt 81 = .ok (.aload_n 0, 1) := by decide +kernel
theorem dX7_scanInt_82 : decode cX7_scanInt 82 = .ok (.getfield 19, 3) := by decide +kernel
theorem dX7_scanInt_85 : decode cX7_scanInt 85 = .ok (.aload_n 0, 1) := by decide +kernel
theorem dX7_scanInt_86 : decode cX7_scanInt 86 = .ok (.getfield 25, 3) := by decide +kernel
theorem dX7_scanInt_89 : decode cX7_scanInt 89 = .ok (.isub, 1) := by decide +kernel
theorem dX7_scanInt_90 : decode cX7_scanInt 90 = .ok (.iconst 4, 1) := by decide +kernel
theorem dX7_scanInt_91 : decode cX7_scanInt 91 = .ok (.if_icmp .gt 7, 3) := by decide +kernel
theorem dX7_scanInt_94 : decode cX7_scanInt 94 = .ok (.iconst 2, 1) := by decide +kernel
theorem dX7_scanInt_95 : decode cX7_scanInt 95 = .ok (.goto 4, 3) := by decide +kernel
theorem dX7_scanInt_98 : decode cX7_scanInt 98 = .ok (.iconst 1, 1) := by decide +kernel
theorem dX7_scanInt_99 : decode cX7_scanInt 99 = .ok (.putfield 22, 3) := by decide +kernel
theorem dX7_scanInt_102 : decode cX7_scanInt 102 = .ok (.return_, 1) := by decide +kernel
theorem dX7_scanSign_0 : decode cX7_scanSign 0 = .ok (.aload_n 0, 1) := by decide +kernel
theorem dX7_scanSign_1 : decode cX7_scanSign 1 = .ok (.getfield 19, 3) := by decide +kernel
theorem dX7_scanSign_4 : decode cX7_scanSign 4 = .ok (.iconst 1, 1) := by decide +kernel
theorem dX7_scanSign_5 : decode cX7_scanSign 5 = .ok (.iadd, 1) := by decide +kernel
theorem dX7_scanSign_6 : decode cX7_scanSign 6 = .ok (.aload_n 0, 1) := by decide +kernel
theorem dX7_scanSign_7 : decode cX7_scanSign 7 = .ok (.getfield 15, 3) := by decide +kernel
theorem dX7_scanSign_10 : decode cX7_scanSign 10 = .ok (.if_icmp .ge 23, 3) := by decide +kernel
theorem dX7_scanSign_13 : decode cX7_scanSign 13 = .ok (.aload_n 0, 1) := by decide +kernel
theorem dX7_scanSign_14 : decode cX7_scanSign 14 = .ok (.getfield 9, 3) := by decide +kernel
theorem dX7_scanSign_17 : decode cX7_scanSign 17 = .ok (.aload_n 0, 1) := by decide +kernel
theorem dX7_scanSign_18 : decode cX7_scanSign 18 = .ok (.getfield 19, 3) := by decide +kernel
theorem dX7_scanSign_21 : decode cX7_scanSign 21 = .ok (.iconst 1, 1) := by decide +kernel
theorem dX7_scanSign_22 : decode cX7_scanSign 22 = .ok (.iadd, 1) := by decide +kernel
theorem dX7_scanSign_23 : decode cX7_scanSign 23 = .ok (.baload, 1) := by decide +kernel
theorem dX7_scanSign_24 : decode cX7_scanSign 24 = .ok (.bipush 61, 2) := by decide +kernel
theorem dX7_scanSign_26 : decode cX7_scanSign 26 = .ok (.if_icmp .ne 7, 3) := by decide +kernel
theorem dX7_scanSign_29 : decode cX7_scanSign 29 = .ok (.iconst 1, 1) := by decide +kernel
theorem dX7_scanSign_30 : decode cX7_scanSign 30 = .ok (.goto 4, 3) := by decide +kernel
theorem dX7_scanSign_33 : decode cX7_scanSign 33 = .ok (.iconst 0, 1) := by decide +kernel
theorem dX7_scanSign_34 : decode cX7_scanSign 34 = .ok (.istore_n 1, 1) := by decide +kernel
theorem dX7_scanSign_35 : decode cX7_scanSign 35 = .ok (.aload_n 0, 1) := by decide +kernel
theorem dX7_scanSign_36 : decode cX7_scanSign 36 = .ok (.aload_n 0, 1) := by decide +kernel
theorem dX7_scanSign_37 : decode cX7_scanSign 37 = .ok (.getfield 9, 3) := by decide +kernel
theorem dX7_scanSign_40 : decode cX7_scanSign 40 = .ok (.aload_n 0, 1) := by decide +kernel
theorem dX7_scanSign_41 : decode cX7_scanSign 41 = .ok (.getfield 19, 3) := by decide +kernel
theorem dX7_scanSign_44 : decode cX7_scanSign 44 = .ok (.baload, 1) := by decide +kernel
theorem dX7_scanSign_45 : decode cX7_scanSign 45 = .ok (.iload_n 1, 1) := by decide +kernel
theorem dX7_scanSign_46 : decode cX7_scanSign 46 = .ok (.invokestatic 73, 3) := by decide +kernel
theorem dX7_scanSign_49 : decode cX7_scanSign 49 = .ok (.putfield 22, 3) := by decide +kernel
theorem dX7_scanSign_52 : decode cX7_scanSign 52 = .ok (.aload_n 0, 1) := by decide +kernel
theorem dX7_scanSign_53 : decode cX7_scanSign 53 = .ok (.getfield 22, 3) := by decide +kernel
theorem dX7_scanSign_56 : decode cX7_scanSign 56 = .ok (.bipush 7, 2) := by decide +kernel
theorem dX7_scanSign_58 : decode cX7_scanSign 58 = .ok (.if_icmp .eq 21, 3) := by decide +kernel
theorem dX7_scanSign_61 : decode cX7_scanSign 61 = .ok (.aload_n 0, 1) := by decide +kernel
theorem dX7_scanSign_62 : decode cX7_scanSign 62 = .ok (.getfield 22, 3) := by decide +kernel
theorem dX7_scanSign_65 : decode cX7_scanSign 65 = .ok (.bipush 8, 2) := by decide +kernel
theorem dX7_scanSign_67 : decode cX7_scanSign 67 = .ok (.if_icmp .eq 12, 3) := by decide +kernel
theorem dX7_scanSign_70 : decode cX7_scanSign 70 = .ok (.aload_n 0, 1) := by decide +kernel
theorem dX7_scanSign_71 : decode cX7_scanSign 71 = .ok (.getfield 22, 3) := by decide +kernel
theorem dX7_scanSign_74 : decode cX7_scanSign 74 = .ok (.bipush 10, 2) := by decide +kernel
theorem dX7_scanSign_76 : decode cX7_scanSign 76 = .ok (.if_icmp .ne 7, 3) := by decide +kernel
theorem dX7_scanSign_79 : decode cX7_scanSign 79 = .ok (.iconst 1, 1) := by decide +kernel
theorem dX7_scanSign_80 : decode cX7_scanSign 80 = .ok (.goto 4, 3) := by decide +kernel
theorem dX7_scanSign_83 : decode cX7_scanSign 83 = .ok (.iconst 0, 1) := by decide +kernel
theorem dX7_scanSign_84 : decode cX7_scanSign 84 = .ok (.istore_n 2, 1) := by decide +kernel
theorem dX7_scanSign_85 : decode cX7_scanSign 85 = .ok (.aload_n 0, 1) := by decide +kernel
theorem dX7_scanSign_86 : decode cX7_scanSign 86 = .ok (.dup, 1) := by decide +kernel
theorem dX7_scanSign_87 : decode cX7_scanSign 87 = .ok (.getfield 19, 3) := by decide +kernel
theorem dX7_scanSign_90 : decode cX7_scanSign 90 = .ok (.iload_n 2, 1) := by decide +kernel
theorem dX7_scanSign_91 : decode cX7_scanSign 91 = .ok (.ifCond .eq 7, 3) := by decide +kernel
theorem dX7_scanSign_94 : decode cX7_scanSign 94 = .ok (.iconst 2, 1) := by decide +kernel
theorem dX7_scanSign_95 : decode cX7_scanSign 95 = .ok (.goto 4, 3) := by decide +kernel
theorem dX7_scanSign_98 : decode cX7_scanSign 98 = .ok (.iconst 1, 1) := by decide +kernel
theorem dX7_scanSign_99 : decode cX7_scanSign 99 = .ok (.iadd, 1) := by decide +kernel
theorem dX7_scanSign_100 : decode cX7_scanSign 100 = .ok (.putfield 19, 3) := by decide +kernel
theorem dX7_scanSign_103 : decode cX7_scanSign 103 = .ok (.return_, 1) := by decide +kernel
theorem dX7_signOf_0 : decode cX7_signOf 0 = .ok (.iload_n 0, 1) := by decide +kernel
theorem dX7_signOf_1 : decode cX7_signOf 1 = .ok (.tableswitch 180 33 61 #[169, 180, 180, 180, 180, 180, 180, 140, 143, 137, 133, 180, 135, 180, 180, 180, 180, 180, 180, 180, 180, 180, 180, 180, 180, 180, 131, 146, 158], 131) := by decide +kernel
theorem dX7_signOf_132 : decode cX7_signOf 132 = .ok (.iconst 3, 1) := by decide +kernel
theorem dX7_signOf_133 : decode cX7_signOf 133 = .ok (.ireturn, 1) := by decide +kernel
theorem dX7_signOf_134 : decode cX7_signOf 134 = .ok (.iconst 4, 1) := by decide +kernel
theorem dX7_signOf_135 : decode cX7_signOf 135 = .ok (.ireturn, 1) := by decide +kernel
theorem dX7_signOf_136 : decode cX7_signOf 136 = .ok (.iconst 5, 1) := by decide +kernel
theorem dX7_signOf_137 : decode cX7_signOf 137 = .ok (.ireturn, 1) := by decide +kernel
theorem dX7_signOf_138 : decode cX7_signOf 138 = .ok (.bipush 6, 2) := by decide +kernel
theorem dX7_signOf_140 : decode cX7_signOf 140 = .ok (.ireturn, 1) := by decide +kernel
theorem dX7_signOf_141 : decode cX7_signOf 141 = .ok (.bipush 11, 2) := by decide +kernel
theorem dX7_signOf_143 : decode cX7_signOf 143 = .ok (.ireturn, 1) := by decide +kernel
theorem dX7_signOf_144 : decode cX7_signOf 144 = .ok (.bipush 12, 2) := by decide +kernel
theorem dX7_signOf_146 : decode cX7_signOf 146 = .ok (.ireturn, 1) := by decide +kernel
theorem dX7_signOf_147 : decode cX7_signOf 147 = .ok (.iload_n 1, 1) := by decide +kernel
theorem dX7_signOf_148 : decode cX7_signOf 148 = .ok (.ifCond .eq 8, 3) := by decide +kernel
theorem dX7_signOf_151 : decode cX7_signOf 151 = .ok (.bipush 10, 2) := by decide +kernel
theorem dX7_signOf_153 : decode cX7_signOf 153 = .ok (.goto 5, 3) := by decide +kernel
theorem dX7_signOf_156 : decode cX7_signOf 156 = .ok (.bipush 9, 2) := by decide +kernel
theorem dX7_signOf_158 : decode cX7_signOf 158 = .ok (.ireturn, 1) := by decide +kernel
theorem dX7_signOf_159 : decode cX7_signOf 159 = .ok (.iload_n 1, 1) := by decide +kernel
theorem dX7_signOf_160 : decode cX7_signOf 160 = .ok (.ifCond .eq 8, 3) := by decide +kernel
theorem dX7_signOf_163 : decode cX7_signOf 163 = .ok (.bipush 7, 2) := by decide +kernel
theorem dX7_signOf_165 : decode cX7_signOf 165 = .ok (.goto 4, 3) := by decide +kernel
theorem dX7_signOf_168 : decode cX7_signOf 168 = .ok (.iconst 1, 1) := by decide +kernel
theorem dX7_signOf_169 : decode cX7_signOf 169 = .ok (.ireturn, 1) := by decide +kernel
theorem dX7_signOf_170 : decode cX7_signOf 170 = .ok (.iload_n 1, 1) := by decide +kernel
theorem dX7_signOf_171 : decode cX7_signOf 171 = .ok (.ifCond .eq 8, 3) := by decide +kernel
theorem dX7_signOf_174 : decode cX7_signOf 174 = .ok (.bipush 8, 2) := by decide +kernel
theorem dX7_signOf_176 : decode cX7_signOf 176 = .ok (.goto 4, 3) := by decide +kernel
theorem dX7_signOf_179 : decode cX7_signOf 179 = .ok (.iconst 1, 1) := by decide +kernel
theorem dX7_signOf_180 : decode cX7_signOf 180 = .ok (.ireturn, 1) := by decide +kernel
theorem dX7_signOf_181 : decode cX7_signOf 181 = .ok (.iconst 1, 1) := by decide +kernel
theorem dX7_signOf_182 : decode cX7_signOf 182 = .ok (.ireturn, 1) := by decide +kernel
