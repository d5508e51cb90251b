theorem dX12_holds_137 : decode cX12_holds 137 = .ok (.iconst 2, 1) := by decide +kernel
theorem dX12_holds_138 : decode cX12_holds 138 = .ok (.if_icmp .ne 18, 3) := by decide +kernel
theorem dX12_holds_141 : decode cX12_holds 141 = .ok (.iload 4, 2) := by decide +kernel
theorem dX12_holds_143 : decode cX12_holds 143 = .ok (.iload 5, 2) := by decide +kernel
theorem dX12_holds_145 : decode cX12_holds 145 = .ok (.if_icmp .ge 7, 3) := by decide +kernel
theorem dX12_holds_148 : decode cX12_holds 148 = .ok (.iconst 1, 1) := by decide +kernel
theorem dX12_holds_149 : decode cX12_holds 149 = .ok (.goto 19, 3) := by decide +kernel
theorem dX12_holds_152 : decode cX12_holds 152 = .ok (.iconst 0, 1) := by decide +kernel
theorem dX12_holds_153 : decode cX12_holds 153 = .ok (.goto 15, 3) := by decide +kernel
theorem dX12_holds_156 : decode cX12_holds 156 = .ok (.iload 4, 2) := by decide +kernel
theorem dX12_holds_158 : decode cX12_holds 158 = .ok (.iload 5, 2) := by decide +kernel
theorem dX12_holds_160 : decode cX12_holds 160 = .ok (.if_icmp .gt 7, 3) := by decide +kernel
theorem dX12_holds_163 : decode cX12_holds 163 = .ok (.iconst 1, 1) := by decide +kernel
theorem dX12_holds_164 : decode cX12_holds 164 = .ok (.goto 4, 3) := by decide +kernel
theorem dX12_holds_167 : decode cX12_holds 167 = .ok (.iconst 0, 1) := by decide +kernel
theorem dX12_holds_168 : decode cX12_holds 168 = .ok (.istore 6, 2) := by decide +kernel
theorem dX12_holds_170 : decode cX12_holds 170 = .ok (.iload 6, 2) := by decide +kernel
theorem dX12_holds_172 : decode cX12_holds 172 = .ok (.ifCond .ne 5, 3) := by decide +kernel
theorem dX12_holds_175 : decode cX12_holds 175 = .ok (.iconst 0, 1) := by decide +kernel
theorem dX12_holds_176 : decode cX12_holds 176 = .ok (.ireturn, 1) := by decide +kernel
theorem dX12_holds_177 : decode cX12_holds 177 = .ok (.iinc 2 1, 3) := by decide +kernel
theorem dX12_holds_180 : decode cX12_holds 180 = .ok (.goto (-165), 3) := by decide +kernel
theorem dX12_holds_183 : decode cX12_holds 183 = .ok (.iconst 1, 1) := by decide +kernel
theorem dX12_holds_184 : decode cX12_holds 184 = .ok (.ireturn, 1) := by decide +kernel
theorem dX12_clashes_0 : decode cX12_clashes 0 = .ok (.aload_n 0, 1) := by decide +kernel
theorem dX12_clashes_1 : decode cX12_clashes 1 = .ok (.getfield 110, 3) := by decide +kernel
theorem dX12_clashes_4 : decode cX12_clashes 4 = .ok (.iload 5, 2) := by decide +kernel
theorem dX12_clashes_6 : decode cX12_clashes 6 = .ok (.baload, 1) := by decide +kernel
theorem dX12_clashes_7 : decode cX12_clashes 7 = .ok (.ifCond .eq 49, 3) := by decide +kernel
theorem dX12_clashes_10 : decode cX12_clashes 10 = .ok (.aload_n 0, 1) := by decide +kernel
theorem dX12_clashes_11 : decode cX12_clashes 11 = .ok (.getfield 113, 3) := by decide +kernel
theorem dX12_clashes_14 : decode cX12_clashes 14 = .ok (.iload 5, 2) := by decide +kernel
theorem dX12_clashes_16 : decode cX12_clashes 16 = .ok (.iaload, 1) := by decide +kernel
theorem dX12_clashes_17 : decode cX12_clashes 17 = .ok (.iload_n 3, 1) := by decide +kernel
theorem dX12_clashes_18 : decode cX12_clashes 18 = .ok (.if_icmp .gt 38, 3) := by decide +kernel
theorem dX12_clashes_21 : decode cX12_clashes 21 = .ok (.aload_n 0, 1) := by decide +kernel
theorem dX12_clashes_22 : decode cX12_clashes 22 = .ok (.getfield 122, 3) := by decide +kernel
theorem dX12_clashes_25 : decode cX12_clashes 25 = .ok (.iload 5, 2) := by decide +kernel
theorem dX12_clashes_27 : decode cX12_clashes 27 = .ok (.iaload, 1) := by decide +kernel
theorem dX12_clashes_28 : decode cX12_clashes 28 = .ok (.iload_n 1, 1) := by decide +kernel
theorem dX12_clashes_29 : decode cX12_clashes 29 = .ok (.if_icmp .ne 27, 3) := by decide +kernel
theorem dX12_clashes_32 : decode cX12_clashes 32 = .ok (.iload 4, 2) := by decide +kernel
theorem dX12_clashes_34 : decode cX12_clashes 34 = .ok (.aload_n 0, 1) := by decide +kernel
theorem dX12_clashes_35 : decode cX12_clashes 35 = .ok (.getfield 125, 3) := by decide +kernel
theorem dX12_clashes_38 : decode cX12_clashes 38 = .ok (.iload 5, 2) := by decide +kernel
theorem dX12_clashes_40 : decode cX12_clashes 40 = .ok (.iaload, 1) := by decide +kernel
theorem dX12_clashes_41 : decode cX12_clashes 41 = .ok (.if_icmp .lt 15, 3) := by decide +kernel
theorem dX12_clashes_44 : decode cX12_clashes 44 = .ok (.iload 4, 2) := by decide +kernel
theorem dX12_clashes_46 : decode cX12_clashes 46 = .ok (.aload_n 0, 1) := by decide +kernel
theorem dX12_clashes_47 : decode cX12_clashes 47 = .ok (.getfield 128, 3) := by decide +kernel
theorem dX12_clashes_50 : decode cX12_clashes 50 = .ok (.iload 5, 2) := by decide +kernel
theorem dX12_clashes_52 : decode cX12_clashes 52 = .ok (.iaload, 1) := by decide +kernel
theorem dX12_clashes_53 : decode cX12_clashes 53 = .ok (.if_icmp .lt 5, 3) := by decide +kernel
theorem dX12_clashes_56 : decode cX12_clashes 56 = .ok (.iconst 0, 1) := by decide +kernel
theorem dX12_clashes_57 : decode cX12_clashes 57 = .ok (.ireturn, 1) := by decide +kernel
theorem dX12_clashes_58 : decode cX12_clashes 58 = .ok (.aload_n 0, 1) := by decide +kernel
theorem dX12_clashes_59 : decode cX12_clashes 59 = .ok (.iload_n 2, 1) := by decide +kernel
theorem dX12_clashes_60 : decode cX12_clashes 60 = .ok (.aload_n 0, 1) := by decide +kernel
theorem dX12_clashes_61 : decode cX12_clashes 61 = .ok (.getfield 119, 3) := by decide +kernel
theorem dX12_clashes_64 : decode cX12_clashes 64 = .ok (.iload 5, 2) := by decide +kernel
theorem dX12_clashes_66 : decode cX12_clashes 66 = .ok (.iaload, 1) := by decide +kernel
theorem dX12_clashes_67 : decode cX12_clashes 67 = .ok (.invokevirtual 322, 3) := by decide +kernel
theorem dX12_clashes_70 : decode cX12_clashes 70 = .ok (.aload_n 0, 1) := by decide +kernel
theorem dX12_clashes_71 : decode cX12_clashes 71 = .ok (.invokevirtual 325, 3) := by decide +kernel
theorem dX12_clashes_74 : decode cX12_clashes 74 = .ok (.ifCond .ne 7, 3) := by decide +kernel
theorem dX12_clashes_77 : decode cX12_clashes 77 = .ok (.iconst 1, 1) := by decide +kernel
theorem dX12_clashes_78 : decode cX12_clashes 78 = .ok (.goto 4, 3) := by decide +kernel
theorem dX12_clashes_81 : decode cX12_clashes 81 = .ok (.iconst 0, 1) := by decide +kernel
theorem dX12_clashes_82 : decode cX12_clashes 82 = .ok (.ireturn, 1) := by decide +kernel
theorem dX12_decides_0 : decode cX12_decides 0 = .ok (.aload_n 0, 1) := by decide +kernel
theorem dX12_decides_1 : decode cX12_decides 1 = .ok (.getfield 134, 3) := by decide +kernel
theorem dX12_decides_4 : decode cX12_decides 4 = .ok (.iconst 0, 1) := by decide +kernel
theorem dX12_decides_5 : decode cX12_decides 5 = .ok (.iload_n 2, 1) := by decide +kernel
theorem dX12_decides_6 : decode cX12_decides 6 = .ok (.iastore, 1) := by decide +kernel
theorem dX12_decides_7 : decode cX12_decides 7 = .ok (.aload_n 0, 1) := by decide +kernel
theorem dX12_decides_8 : decode cX12_decides 8 = .ok (.getfield 134, 3) := by decide +kernel
theorem dX12_decides_11 : decode cX12_decides 11 = .ok (.iconst 1, 1) := by decide +kernel
theorem dX12_decides_12 : decode cX12_decides 12 = .ok (.iload 5, 2) := by decide +kernel
theorem dX12_decides_14 : decode cX12_decides 14 = .ok (.iastore, 1) := by decide +kernel
theorem dX12_decides_15 : decode cX12_decides 15 = .ok (.aload_n 0, 1) := by decide +kernel
theorem dX12_decides_16 : decode cX12_decides 16 = .ok (.getfield 134, 3) := by decide +kernel
theorem dX12_decides_19 : decode cX12_decides 19 = .ok (.iconst 2, 1) := by decide +kernel
theorem dX12_decides_20 : decode cX12_decides 20 = .ok (.iload 4, 2) := by decide +kernel
theorem dX12_decides_22 : decode cX12_decides 22 = .ok (.iastore, 1) := by decide +kernel
theorem dX12_decides_23 : decode cX12_decides 23 = .ok (.aload_n 0, 1) := by decide +kernel
theorem dX12_decides_24 : decode cX12_decides 24 = .ok (.getfield 134, 3) := by decide +kernel
theorem dX12_decides_27 : decode cX12_decides 27 = .ok (.iconst 3, 1) := by decide +kernel
theorem dX12_decides_28 : decode cX12_decides 28 = .ok (.iload_n 3, 1) := by decide +kernel
theorem dX12_decides_29 : decode cX12_decides 29 = .ok (.iastore, 1) := by decide +kernel
theorem dX12_decides_30 : decode cX12_decides 30 = .ok (.aload_n 0, 1) := by decide +kernel
theorem dX12_decides_31 : decode cX12_decides 31 = .ok (.getfield 134, 3) := by decide +kernel
theorem dX12_decides_34 : decode cX12_decides 34 = .ok (.iconst 4, 1) := by decide +kernel
theorem dX12_decides_35 : decode cX12_decides 35 = .ok (.aload_n 0, 1) := by decide +kernel
theorem dX12_decides_36 : decode cX12_decides 36 = .ok (.getfield 119, 3) := by decide +kernel
theorem dX12_decides_39 : decode cX12_decides 39 = .ok (.iload 6, 2) := by decide +kernel
theorem dX12_decides_41 : decode cX12_decides 41 = .ok (.iaload, 1) := by decide +kernel
theorem dX12_decides_42 : decode cX12_decides 42 = .ok (.iastore, 1) := by decide +kernel
theorem dX12_decides_43 : decode cX12_decides 43 = .ok (.aload_n 0, 1) := by decide +kernel
theorem dX12_decides_44 : decode cX12_decides 44 = .ok (.getfield 134, 3) := by decide +kernel
theorem dX12_decides_47 : decode cX12_decides 47 = .ok (.iconst 5, 1) := by decide +kernel
theorem dX12_decides_48 : decode cX12_decides 48 = .ok (.aload_n 0, 1) := by decide +kernel
theorem dX12_decides_49 : decode cX12_decides 49 = .ok (.getfield 92, 3) := by decide +kernel
theorem dX12_decides_52 : decode cX12_decides 52 = .ok (.iload_n 1, 1) := by decide +kernel
theorem dX12_decides_53 : decode cX12_decides 53 = .ok (.iaload, 1) := by decide +kernel
theorem dX12_decides_54 : decode cX12_decides 54 = .ok (.iastore, 1) := by decide +kernel
theorem dX12_decides_55 : decode cX12_decides 55 = .ok (.aload_n 0, 1) := by decide +kernel
theorem dX12_decides_56 : decode cX12_decides 56 = .ok (.getfield 134, 3) := by decide +kernel
theorem dX12_decides_59 : decode cX12_decides 59 = .ok (.bipush 6, 2) := by decide +kernel
theorem dX12_decides_61 : decode cX12_decides 61 = .ok (.aload_n 0, 1) := by decide +kernel
theorem dX12_decides_62 : decode cX12_decides 62 = .ok (.getfield 113, 3) := by decide +kernel
theorem dX12_decides_65 : decode cX12_decides 65 = .ok (.iload 6, 2) := by decide +kernel
theorem dX12_decides_67 : decode cX12_decides 67 = .ok (.iaload, 1) := by decide +kernel
theorem dX12_decides_68 : decode cX12_decides 68 = .ok (.iastore, 1) := by decide +kernel
theorem dX12_decides_69 : decode cX12_decides 69 = .ok (.aload_n 0, 1) := by decide +kernel
theorem dX12_decides_70 : decode cX12_decides 70 = .ok (.getfield 134, 3) := by decide +kernel
theorem dX12_decides_73 : decode cX12_decides 73 = .ok (.bipush 7, 2) := by decide +kernel
theorem dX12_decides_75 : decode cX12_decides 75 = .ok (.iload 6, 2) := by decide +kernel
theorem dX12_decides_77 : decode cX12_decides 77 = .ok (.iastore, 1) := by decide +kernel
theorem dX12_decides_78 : decode cX12_decides 78 = .ok (.iconst 0, 1) := by decide +kernel
theorem dX12_decides_79 : decode cX12_decides 79 = .ok (.istore 7, 2) := by decide +kernel
theorem dX12_decides_81 : decode cX12_decides 81 = .ok (.iload 7, 2) := by decide +kernel
theorem dX12_decides_83 : decode cX12_decides 83 = .ok (.aload_n 0, 1) := by decide +kernel
theorem dX12_decides_84 : decode cX12_decides 84 = .ok (.getfield 40, 3) := by decide +kernel
theorem dX12_decides_87 : decode cX12_decides 87 = .ok (.aload_n 0, 1) := by decide +kernel
theorem dX12_decides_88 : decode cX12_decides 88 = .ok (.getfield 245, 3) := by decide +kernel
theorem dX12_decides_91 : decode cX12_decides 91 = .ok (.iaload, 1) := by decide +kernel
theorem dX12_decides_92 : decode cX12_decides 92 = .ok (.if_icmp .ge 68, 3) := by decide +kernel
theorem dX12_decides_95 : decode cX12_decides 95 = .ok (.bipush 20, 2) := by decide +kernel
theorem dX12_decides_97 : decode cX12_decides 97 = .ok (.aload_n 0, 1) := by decide +kernel
theorem dX12_decides_98 : decode cX12_decides 98 = .ok (.getfield 245, 3) := by decide +kernel
theorem dX12_decides_101 : decode cX12_decides 101 = .ok (.imul, 1) := by decide +kernel
theorem dX12_decides_102 : decode cX12_decides 102 = .ok (.iload 7, 2) := by decide +kernel
theorem dX12_decides_104 : decode cX12_decides 104 = .ok (.iadd, 1) := by decide +kernel
theorem dX12_decides_105 : decode cX12_decides 105 = .ok (.istore 8, 2) := by decide +kernel
theorem dX12_decides_107 : decode cX12_decides 107 = .ok (.iload 4, 2) := by decide +kernel
theorem dX12_decides_109 : decode cX12_decides 109 = .ok (.aload_n 0, 1) := by decide +kernel
theorem dX12_decides_110 : decode cX12_decides 110 = .ok (.getfield 47, 3) := by decide +kernel
theorem dX12_decides_113 : decode cX12_decides 113 = .ok (.iload 8, 2) := by decide +kernel
theorem dX12_decides_115 : decode cX12_decides 115 = .ok (.iaload, 1) := by decide +kernel
theorem dX12_decides_116 : decode cX12_decides 116 = .ok (.if_icmp .lt 38, 3) := by decide +kernel
theorem dX12_decides_119 : decode cX12_decides 119 = .ok (.aload_n 0, 1) := by decide +kernel
theorem dX12_decides_120 : decode cX12_decides 120 = .ok (.getfield 50, 3) := by decide +kernel
theorem dX12_decides_123 : decode cX12_decides 123 = .ok (.iload 8, 2) := by decide +kernel
theorem dX12_decides_125 : decode cX12_decides 125 = .ok (.iaload, 1) := by decide +kernel
theorem dX12_decides_126 : decode cX12_decides 126 = .ok (.iconst (-1), 1) := by decide +kernel
theorem dX12_decides_127 : decode cX12_decides 127 = .ok (.if_icmp .eq 15, 3) := by decide +kernel
theorem dX12_decides_130 : decode cX12_decides 130 = .ok (.iload 4, 2) := by decide +kernel
theorem dX12_decides_132 : decode cX12_decides 132 = .ok (.aload_n 0, 1) := by decide +kernel
theorem dX12_decides_133 : decode cX12_decides 133 = .ok (.getfield 50, 3) := by decide +kernel
theorem dX12_decides_136 : decode cX12_decides 136 = .ok (.iload 8, 2) := by decide +kernel
theorem dX12_decides_138 : decode cX12_decides 138 = .ok (.iaload, 1) := by decide +kernel
theorem dX12_decides_139 : decode cX12_decides 139 = .ok (.if_icmp .ge 15, 3) := by decide +kernel
theorem dX12_decides_142 : decode cX12_decides 142 = .ok (.aload_n 0, 1) := by decide +kernel
theorem dX12_decides_143 : decode cX12_decides 143 = .ok (.iload 7, 2) := by decide +kernel
theorem dX12_decides_145 : decode cX12_decides 145 = .ok (.invokevirtual 356, 3) := by decide +kernel
theorem dX12_decides_148 : decode cX12_decides 148 = .ok (.ifCond .eq 6, 3) := by decide +kernel
theorem dX12_decides_151 : decode cX12_decides 151 = .ok (.iload 7, 2) := by decide +kernel
theorem dX12_decides_153 : decode cX12_decides 153 = .ok (.ireturn, 1) := by decide +kernel
theorem dX12_decides_154 : decode cX12_decides 154 = .ok (.iinc 7 1, 3) := by decide +kernel
theorem dX12_decides_157 : decode cX12_decides 157 = .ok (.goto (-76), 3) := by decide +kernel
theorem dX12_decides_160 : decode cX12_decides 160 = .ok (.iconst (-1), 1) := by decide +kernel
theorem dX12_decides_161 : decode cX12_decides 161 = .ok (.ireturn, 1) := by decide +kernel
theorem dX12_yieldsTo_0 : decode cX12_yieldsTo 0 = .ok (.iconst 0, 1) := by decide +kernel
theorem dX12_yieldsTo_1 : decode cX12_yieldsTo 1 = .ok (.istore 7, 2) := by decide +kernel
theorem dX12_yieldsTo_3 : decode cX12_yieldsTo 3 = .ok (.iload 7, 2) := by decide +kernel
theorem dX12_yieldsTo_5 : decode cX12_yieldsTo 5 = .ok (.iload 6, 2) := by decide +kernel
theorem dX12_yieldsTo_7 : decode cX12_yieldsTo 7 = .ok (.if_icmp .ge 69, 3) := by decide +kernel
theorem dX12_yieldsTo_10 : decode cX12_yieldsTo 10 = .ok (.aload_n 0, 1) := by decide +kernel
theorem dX12_yieldsTo_11 : decode cX12_yieldsTo 11 = .ok (.iload_n 2, 1) := by decide +kernel
theorem dX12_yieldsTo_12 : decode cX12_yieldsTo 12 = .ok (.iload_n 3, 1) := by decide +kernel
theorem dX12_yieldsTo_13 : decode cX12_yieldsTo 13 = .ok (.iload 4, 2) := by decide +kernel
theorem dX12_yieldsTo_15 : decode cX12_yieldsTo 15 = .ok (.iload 5, 2) := by decide +kernel
theorem dX12_yieldsTo_17 : decode cX12_yieldsTo 17 = .ok (.iload 7, 2) := by decide +kernel
theorem dX12_yieldsTo_19 : decode cX12_yieldsTo 19 = .ok (.invokevirtual 359, 3) := by decide +kernel
theorem dX12_yieldsTo_22 : decode cX12_yieldsTo 22 = .ok (.ifCond .ne 6, 3) := by decide +kernel
theorem dX12_yieldsTo_25 : decode cX12_yieldsTo 25 = .ok (.goto 45, 3) := by decide +kernel
theorem dX12_yieldsTo_28 : decode cX12_yieldsTo 28 = .ok (.aload_n 0, 1) := by decide +kernel
theorem dX12_yieldsTo_29 : decode cX12_yieldsTo 29 = .ok (.iload_n 1, 1) := by decide +kernel
theorem dX12_yieldsTo_30 : decode cX12_yieldsTo 30 = .ok (.iload_n 2, 1) := by decide +kernel
theorem dX12_yieldsTo_31 : decode cX12_yieldsTo 31 = .ok (.iload_n 3, 1) := by decide +kernel
theorem dX12_yieldsTo_32 : decode cX12_yieldsTo 32 = .ok (.iload 4, 2) := by decide +kernel
theorem dX12_yieldsTo_34 : decode cX12_yieldsTo 34 = .ok (.iload 5, 2) := by decide +kernel
theorem dX12_yieldsTo_36 : decode cX12_yieldsTo 36 = .ok (.iload 7, 2) := by decide +kernel
theorem dX12_yieldsTo_38 : decode cX12_yieldsTo 38 = .ok (.invokevirtual 362, 3) := by decide +kernel
theorem dX12_yieldsTo_41 : decode cX12_yieldsTo 41 = .ok (.istore 8, 2) := by decide +kernel
theorem dX12_yieldsTo_43 : decode cX12_yieldsTo 43 = .ok (.iload 8, 2) := by decide +kernel
theorem dX12_yieldsTo_45 : decode cX12_yieldsTo 45 = .ok (.iconst (-1), 1) := by decide +kernel
theorem dX12_yieldsTo_46 : decode cX12_yieldsTo 46 = .ok (.if_icmp .eq 21, 3) := by decide +kernel
theorem dX12_yieldsTo_49 : decode cX12_yieldsTo 49 = .ok (.aload_n 0, 1) := by decide +kernel
theorem dX12_yieldsTo_50 : decode cX12_yieldsTo 50 = .ok (.getfield 43, 3) := by decide +kernel
theorem dX12_yieldsTo_53 : decode cX12_yieldsTo 53 = .ok (.bipush 20, 2) := by decide +kernel
theorem dX12_yieldsTo_55 : decode cX12_yieldsTo 55 = .ok (.aload_n 0, 1) := by decide +kernel
theorem dX12_yieldsTo_56 : decode cX12_yieldsTo 56 = .ok (.getfield 245, 3) := by decide +kernel
theorem dX12_yieldsTo_59 : decode cX12_yieldsTo 59 = .ok (.imul, 1) := by decide +kernel
theorem dX12_yieldsTo_60 : decode cX12_yieldsTo 60 = .ok (.iload 8, 2) := by decide +kernel
theorem dX12_yieldsTo_62 : decode cX12_yieldsTo 62 = .ok (.iadd, 1) := by decide +kernel
theorem dX12_yieldsTo_63 : decode cX12_yieldsTo 63 = .ok (.baload, 1) := by decide +kernel
theorem dX12_yieldsTo_64 : decode cX12_yieldsTo 64 = .ok (.ifCond .eq 6, 3) := by decide +kernel
theorem dX12_yieldsTo_67 : decode cX12_yieldsTo 67 = .ok (.iload 7, 2) := by decide +kernel
theorem dX12_yieldsTo_69 : decode cX12_yieldsTo 69 = .ok (.ireturn, 1) := by decide +kernel
theorem dX12_yieldsTo_70 : decode cX12_yieldsTo 70 = .ok (.iinc 7 1, 3) := by decide +kernel
theorem dX12_yieldsTo_73 : decode cX12_yieldsTo 73 = .ok (.goto (-70), 3) := by decide +kernel
theorem dX12_yieldsTo_76 : decode cX12_yieldsTo 76 = .ok (.iconst (-1), 1) := by decide +kernel
theorem dX12_yieldsTo_77 : decode cX12_yieldsTo 77 = .ok (.ireturn, 1) := by decide +kernel
theorem dX12_yields_0 : decode cX12_yields 0 = .ok (.aload_n 0, 1) := by decide +kernel
theorem dX12_yields_1 : decode cX12_yields 1 = .ok (.iload_n 1, 1) := by decide +kernel
theorem dX12_yields_2 : decode cX12_yields 2 = .ok (.iload_n 2, 1) := by decide +kernel
theorem dX12_yields_3 : decode cX12_yields 3 = .ok (.iload_n 3, 1) := by decide +kernel
theorem dX12_yields_4 : decode cX12_yields 4 = .ok (.iload 4, 2) := by decide +kernel
theorem dX12_yields_6 : decode cX12_yields 6 = .ok (.iload 5, 2) := by decide +kernel
theorem dX12_yields_8 : decode cX12_yields 8 = .ok (.invokevirtual 344, 3) := by decide +kernel
theorem dX12_yields_11 : decode cX12_yields 11 = .ok (.ifCond .eq 28, 3) := by decide +kernel
theorem dX12_yields_14 : decode cX12_yields 14 = .ok (.aload_n 0, 1) := by decide +kernel
theorem dX12_yields_15 : decode cX12_yields 15 = .ok (.iload 6, 2) := by decide +kernel
theorem dX12_yields_17 : decode cX12_yields 17 = .ok (.invokevirtual 337, 3) := by decide +kernel
theorem dX12_yields_20 : decode cX12_yields 20 = .ok (.ifCond .eq 19, 3) := by decide +kernel
theorem dX12_yields_23 : decode cX12_yields 23 = .ok (.aload_n 0, 1) := by decide +kernel
theorem dX12_yields_24 : decode cX12_yields 24 = .ok (.iload_n 1, 1) := by decide +kernel
theorem dX12_yields_25 : decode cX12_yields 25 = .ok (.iload_n 2, 1) := by decide +kernel
theorem dX12_yields_26 : decode cX12_yields 26 = .ok (.iload_n 3, 1) := by decide +kernel
theorem dX12_yields_27 : decode cX12_yields 27 = .ok (.iload 4, 2) := by decide +kernel
theorem dX12_yields_29 : decode cX12_yields 29 = .ok (.iload 5, 2) := by decide +kernel
theorem dX12_yields_31 : decode cX12_yields 31 = .ok (.iload 6, 2) := by decide +kernel
theorem dX12_yields_33 : decode cX12_yields 33 = .ok (.invokevirtual 365, 3) := by decide +kernel
theorem dX12_yields_36 : decode cX12_yields 36 = .ok (.goto 4, 3) := by decide +kernel
theorem dX12_yields_39 : decode cX12_yields 39 = .ok (.iconst (-1), 1) := by decide +kernel
theorem dX12_yields_40 : decode cX12_yields 40 = .ok (.ireturn, 1) := by decide +kernel
theorem dX12_rule_0 : decode cX12_rule 0 = .ok (.aload_n 0, 1) := by decide +kernel
theorem dX12_rule_1 : decode cX12_rule 1 = .ok (.iload_n 1, 1) := by decide +kernel
theorem dX12_rule_2 : decode cX12_rule 2 = .ok (.iload_n 2, 1) := by decide +kernel
theorem dX12_rule_3 : decode cX12_rule 3 = .ok (.iload_n 3, 1) := by decide +kernel
theorem dX12_rule_4 : decode cX12_rule 4 = .ok (.iload 4, 2) := by decide +kernel
theorem dX12_rule_6 : decode cX12_rule 6 = .ok (.iload 5, 2) := by decide +kernel
theorem dX12_rule_8 : decode cX12_rule 8 = .ok (.invokevirtual 344, 3) := by decide +kernel
theorem dX12_rule_11 : decode cX12_rule 11 = .ok (.ifCond .eq 32, 3) := by decide +kernel
theorem dX12_rule_14 : decode cX12_rule 14 = .ok (.iload 6, 2) := by decide +kernel
theorem dX12_rule_16 : decode cX12_rule 16 = .ok (.ifCond .lt 27, 3) := by decide +kernel
theorem dX12_rule_19 : decode cX12_rule 19 = .ok (.iload 6, 2) := by decide +kernel
theorem dX12_rule_21 : decode cX12_rule 21 = .ok (.aload_n 0, 1) := by decide +kernel
theorem dX12_rule_22 : decode cX12_rule 22 = .ok (.getfield 286, 3) := by decide +kernel
theorem dX12_rule_25 : decode cX12_rule 25 = .ok (.if_icmp .ge 18, 3) := by decide +kernel
theorem dX12_rule_28 : decode cX12_rule 28 = .ok (.aload_n 0, 1) := by decide +kernel
theorem dX12_rule_29 : decode cX12_rule 29 = .ok (.iload_n 2, 1) := by decide +kernel
theorem dX12_rule_30 : decode cX12_rule 30 = .ok (.iload_n 3, 1) := by decide +kernel
theorem dX12_rule_31 : decode cX12_rule 31 = .ok (.iload 4, 2) := by decide +kernel
theorem dX12_rule_33 : decode cX12_rule 33 = .ok (.iload 5, 2) := by decide +kernel
theorem dX12_rule_35 : decode cX12_rule 35 = .ok (.iload 6, 2) := by decide +kernel
theorem dX12_rule_37 : decode cX12_rule 37 = .ok (.invokevirtual 359, 3) := by decide +kernel
theorem dX12_rule_40 : decode cX12_rule 40 = .ok (.ifCond .ne 5, 3) := by decide +kernel
theorem dX12_rule_43 : decode cX12_rule 43 = .ok (.iconst (-1), 1) := by decide +kernel
theorem dX12_rule_44 : decode cX12_rule 44 = .ok (.ireturn, 1) := by decide +kernel
theorem dX12_rule_45 : decode cX12_rule 45 = .ok (.aload_n 0, 1) := by decide +kernel
theorem dX12_rule_46 : decode cX12_rule 46 = .ok (.iload_n 1, 1) := by decide +kernel
theorem dX12_rule_47 : decode cX12_rule 47 = .ok (.iload_n 2, 1) := by decide +kernel
theorem dX12_rule_48 : decode cX12_rule 48 = .ok (.iload_n 3, 1) := by decide +kernel
theorem dX12_rule_49 : decode cX12_rule 49 = .ok (.iload 4, 2) := by decide +kernel
theorem dX12_rule_51 : decode cX12_rule 51 = .ok (.iload 5, 2) := by decide +kernel
theorem dX12_rule_53 : decode cX12_rule 53 = .ok (.iload 6, 2) := by decide +kernel
theorem dX12_rule_55 : decode cX12_rule 55 = .ok (.invokevirtual 362, 3) := by decide +kernel
theorem dX12_rule_58 : decode cX12_rule 58 = .ok (.ireturn, 1) := by decide +kernel
theorem dX12_fits_0 : decode cX12_fits 0 = .ok (.bipush 6, 2) := by decide +kernel
theorem dX12_fits_2 : decode cX12_fits 2 = .ok (.iload_n 1, 1) := by decide +kernel
theorem dX12_fits_3 : decode cX12_fits 3 = .ok (.imul, 1) := by decide +kernel
theorem dX12_fits_4 : decode cX12_fits 4 = .ok (.iload_n 2, 1) := by decide +kernel
theorem dX12_fits_5 : decode cX12_fits 5 = .ok (.iadd, 1) := by decide +kernel
theorem dX12_fits_6 : decode cX12_fits 6 = .ok (.istore 6, 2) := by decide +kernel
theorem dX12_fits_8 : decode cX12_fits 8 = .ok (.aload_n 0, 1) := by decide +kernel
theorem dX12_fits_9 : decode cX12_fits 9 = .ok (.getfield 155, 3) := by decide +kernel
theorem dX12_fits_12 : decode cX12_fits 12 = .ok (.iload 6, 2) := by decide +kernel
theorem dX12_fits_14 : decode cX12_fits 14 = .ok (.iconst (-1), 1) := by decide +kernel
theorem dX12_fits_15 : decode cX12_fits 15 = .ok (.iastore, 1) := by decide +kernel
theorem dX12_fits_16 : decode cX12_fits 16 = .ok (.aload_n 0, 1) := by decide +kernel
theorem dX12_fits_17 : decode cX12_fits 17 = .ok (.getfield 95, 3) := by decide +kernel
theorem dX12_fits_20 : decode cX12_fits 20 = .ok (.iload_n 1, 1) := by decide +kernel
theorem dX12_fits_21 : decode cX12_fits 21 = .ok (.iaload, 1) := by decide +kernel
theorem dX12_fits_22 : decode cX12_fits 22 = .ok (.istore 7, 2) := by decide +kernel
theorem dX12_fits_24 : decode cX12_fits 24 = .ok (.iload 4, 2) := by decide +kernel
theorem dX12_fits_26 : decode cX12_fits 26 = .ok (.aload_n 0, 1) := by decide +kernel
theorem dX12_fits_27 : decode cX12_fits 27 = .ok (.getfield 98, 3) := by decide +kernel
theorem dX12_fits_30 : decode cX12_fits 30 = .ok (.iload_n 1, 1) := by decide +kernel
theorem dX12_fits_31 : decode cX12_fits 31 = .ok (.iaload, 1) := by decide +kernel
theorem dX12_fits_32 : decode cX12_fits 32 = .ok (.if_icmp .lt 14, 3) := by decide +kernel
theorem dX12_fits_35 : decode cX12_fits 35 = .ok (.iload 4, 2) := by decide +kernel
theorem dX12_fits_37 : decode cX12_fits 37 = .ok (.aload_n 0, 1) := by decide +kernel
theorem dX12_fits_38 : decode cX12_fits 38 = .ok (.getfield 101, 3) := by decide +kernel
theorem dX12_fits_41 : decode cX12_fits 41 = .ok (.iload_n 1, 1) := by decide +kernel
theorem dX12_fits_42 : decode cX12_fits 42 = .ok (.iaload, 1) := by decide +kernel
theorem dX12_fits_43 : decode cX12_fits 43 = .ok (.if_icmp .lt 4, 3) := by decide +kernel
theorem dX12_fits_46 : decode cX12_fits 46 = .ok (.return_, 1) := by decide +kernel
theorem dX12_fits_47 : decode cX12_fits 47 = .ok (.aload_n 0, 1) := by decide +kernel
theorem dX12_fits_48 : decode cX12_fits 48 = .ok (.bipush 8, 2) := by decide +kernel
theorem dX12_fits_50 : decode cX12_fits 50 = .ok (.aload_n 0, 1) := by decide +kernel
theorem dX12_fits_51 : decode cX12_fits 51 = .ok (.getfield 89, 3) := by decide +kernel
theorem dX12_fits_54 : decode cX12_fits 54 = .ok (.iload_n 2, 1) := by decide +kernel
theorem dX12_fits_55 : decode cX12_fits 55 = .ok (.iaload, 1) := by decide +kernel
theorem dX12_fits_56 : decode cX12_fits 56 = .ok (.iadd, 1) := by decide +kernel
theorem dX12_fits_57 : decode cX12_fits 57 = .ok (.iload 7, 2) := by decide +kernel
theorem dX12_fits_59 : decode cX12_fits 59 = .ok (.invokevirtual 322, 3) := by decide +kernel
theorem dX12_fits_62 : decode cX12_fits 62 = .ok (.aload_n 0, 1) := by decide +kernel
theorem dX12_fits_63 : decode cX12_fits 63 = .ok (.getfield 319, 3) := by decide +kernel
theorem dX12_fits_66 : decode cX12_fits 66 = .ok (.istore 8, 2) := by decide +kernel
theorem dX12_fits_68 : decode cX12_fits 68 = .ok (.aload_n 0, 1) := by decide +kernel
theorem dX12_fits_69 : decode cX12_fits 69 = .ok (.getfield 164, 3) := by decide +kernel
theorem dX12_fits_72 : decode cX12_fits 72 = .ok (.iload_n 2, 1) := by decide +kernel
theorem dX12_fits_73 : decode cX12_fits 73 = .ok (.iaload, 1) := by decide +kernel
theorem dX12_fits_74 : decode cX12_fits 74 = .ok (.iconst (-1), 1) := by decide +kernel
theorem dX12_fits_75 : decode cX12_fits 75 = .ok (.if_icmp .eq 15, 3) := by decide +kernel
theorem dX12_fits_78 : decode cX12_fits 78 = .ok (.aload_n 0, 1) := by decide +kernel
theorem dX12_fits_79 : decode cX12_fits 79 = .ok (.getfield 164, 3) := by decide +kernel
theorem dX12_fits_82 : decode cX12_fits 82 = .ok (.iload_n 2, 1) := by decide +kernel
theorem dX12_fits_83 : decode cX12_fits 83 = .ok (.iaload, 1) := by decide +kernel
theorem dX12_fits_84 : decode cX12_fits 84 = .ok (.iload 8, 2) := by decide +kernel
theorem dX12_fits_86 : decode cX12_fits 86 = .ok (.if_icmp .eq 4, 3) := by decide +kernel
theorem dX12_fits_89 : decode cX12_fits 89 = .ok (.return_, 1) := by decide +kernel
theorem dX12_fits_90 : decode cX12_fits 90 = .ok (.iconst 0, 1) := by decide +kernel
theorem dX12_fits_91 : decode cX12_fits 91 = .ok (.istore 9, 2) := by decide +kernel
theorem dX12_fits_93 : decode cX12_fits 93 = .ok (.iload 9, 2) := by decide +kernel
theorem dX12_fits_95 : decode cX12_fits 95 = .ok (.bipush 6, 2) := by decide +kernel
theorem dX12_fits_97 : decode cX12_fits 97 = .ok (.if_icmp .ge 95, 3) := by decide +kernel
theorem dX12_fits_100 : decode cX12_fits 100 = .ok (.aload_n 0, 1) := by decide +kernel
theorem dX12_fits_101 : decode cX12_fits 101 = .ok (.iload_n 2, 1) := by decide +kernel
theorem dX12_fits_102 : decode cX12_fits 102 = .ok (.iload 9, 2) := by decide +kernel
theorem dX12_fits_104 : decode cX12_fits 104 = .ok (.iload 7, 2) := by decide +kernel
theorem dX12_fits_106 : decode cX12_fits 106 = .ok (.iload_n 3, 1) := by decide +kernel
theorem dX12_fits_107 : decode cX12_fits 107 = .ok (.iload 4, 2) := by decide +kernel
theorem dX12_fits_109 : decode cX12_fits 109 = .ok (.iload 5, 2) := by decide +kernel
theorem dX12_fits_111 : decode cX12_fits 111 = .ok (.invokevirtual 348, 3) := by decide +kernel
theorem dX12_fits_114 : decode cX12_fits 114 = .ok (.istore 10, 2) := by decide +kernel
theorem dX12_fits_116 : decode cX12_fits 116 = .ok (.iload 10, 2) := by decide +kernel
theorem dX12_fits_118 : decode cX12_fits 118 = .ok (.ldc_w 332, 3) := by decide +kernel
theorem dX12_fits_121 : decode cX12_fits 121 = .ok (.if_icmp .eq 65, 3) := by decide +kernel
theorem dX12_fits_124 : decode cX12_fits 124 = .ok (.aload_n 0, 1) := by decide +kernel
theorem dX12_fits_125 : decode cX12_fits 125 = .ok (.getfield 155, 3) := by decide +kernel
theorem dX12_fits_128 : decode cX12_fits 128 = .ok (.iload 6, 2) := by decide +kernel
theorem dX12_fits_130 : decode cX12_fits 130 = .ok (.iaload, 1) := by decide +kernel
theorem dX12_fits_131 : decode cX12_fits 131 = .ok (.iconst (-1), 1) := by decide +kernel
theorem dX12_fits_132 : decode cX12_fits 132 = .ok (.if_icmp .eq 15, 3) := by decide +kernel
theorem dX12_fits_135 : decode cX12_fits 135 = .ok (.iload 10, 2) := by decide +kernel
theorem dX12_fits_137 : decode cX12_fits 137 = .ok (.aload_n 0, 1) := by decide +kernel
theorem dX12_fits_138 : decode cX12_fits 138 = .ok (.getfield 158, 3) := by decide +kernel
theorem dX12_fits_141 : decode cX12_fits 141 = .ok (.iload 6, 2) := by decide +kernel
theorem dX12_fits_143 : decode cX12_fits 143 = .ok (.iaload, 1) := by decide +kernel
theorem dX12_fits_144 : decode cX12_fits 144 = .ok (.if_icmp .le 42, 3) := by decide +kernel
theorem dX12_fits_147 : decode cX12_fits 147 = .ok (.aload_n 0, 1) := by decide +kernel
theorem dX12_fits_148 : decode cX12_fits 148 = .ok (.iload_n 2, 1) := by decide +kernel
theorem dX12_fits_149 : decode cX12_fits 149 = .ok (.iload 9, 2) := by decide +kernel
theorem dX12_fits_151 : decode cX12_fits 151 = .ok (.iload 7, 2) := by decide +kernel
theorem dX12_fits_153 : decode cX12_fits 153 = .ok (.iload_n 3, 1) := by decide +kernel
theorem dX12_fits_154 : decode cX12_fits 154 = .ok (.iload 4, 2) := by decide +kernel
theorem dX12_fits_156 : decode cX12_fits 156 = .ok (.iload 5, 2) := by decide +kernel
theorem dX12_fits_158 : decode cX12_fits 158 = .ok (.invokevirtual 365, 3) := by decide +kernel
theorem dX12_fits_161 : decode cX12_fits 161 = .ok (.iconst (-1), 1) := by decide +kernel
theorem dX12_fits_162 : decode cX12_fits 162 = .ok (.if_icmp .eq 6, 3) := by decide +kernel
theorem dX12_fits_165 : decode cX12_fits 165 = .ok (.goto 21, 3) := by decide +kernel
theorem dX12_fits_168 : decode cX12_fits 168 = .ok (.aload_n 0, 1) := by decide +kernel
theorem dX12_fits_169 : decode cX12_fits 169 = .ok (.getfield 155, 3) := by decide +kernel
theorem dX12_fits_172 : decode cX12_fits 172 = .ok (.iload 6, 2) := by decide +kernel
theorem dX12_fits_174 : decode cX12_fits 174 = .ok (.iload 9, 2) := by decide +kernel
theorem dX12_fits_176 : decode cX12_fits 176 = .ok (.iastore, 1) := by decide +kernel
theorem dX12_fits_177 : decode cX12_fits 177 = .ok (.aload_n 0, 1) := by decide +kernel
theorem dX12_fits_178 : decode cX12_fits 178 = .ok (.getfield 158, 3) := by decide +kernel
theorem dX12_fits_181 : decode cX12_fits 181 = .ok (.iload 6, 2) := by decide +kernel
theorem dX12_fits_183 : decode cX12_fits 183 = .ok (.iload 10, 2) := by decide +kernel
theorem dX12_fits_185 : decode cX12_fits 185 = .ok (.iastore, 1) := by decide +kernel
theorem dX12_fits_186 : decode cX12_fits 186 = .ok (.iinc 9 1, 3) := by decide +kernel
theorem dX12_fits_189 : decode cX12_fits 189 = .ok (.goto (-96), 3) := by decide +kernel
theorem dX12_fits_192 : decode cX12_fits 192 = .ok (.aload_n 0, 1) := by decide +kernel
theorem dX12_fits_193 : decode cX12_fits 193 = .ok (.getfield 155, 3) := by decide +kernel
theorem dX12_fits_196 : decode cX12_fits 196 = .ok (.iload 6, 2) := by decide +kernel
theorem dX12_fits_198 : decode cX12_fits 198 = .ok (.iaload, 1) := by decide +kernel
theorem dX12_fits_199 : decode cX12_fits 199 = .ok (.iconst (-1), 1) := by decide +kernel
theorem dX12_fits_200 : decode cX12_fits 200 = .ok (.if_icmp .eq 23, 3) := by decide +kernel
theorem dX12_fits_203 : decode cX12_fits 203 = .ok (.aload_n 0, 1) := by decide +kernel
theorem dX12_fits_204 : decode cX12_fits 204 = .ok (.getfield 158, 3) := by decide +kernel
theorem dX12_fits_207 : decode cX12_fits 207 = .ok (.iload 6, 2) := by decide +kernel
theorem dX12_fits_209 : decode cX12_fits 209 = .ok (.iaload, 1) := by decide +kernel
theorem dX12_fits_210 : decode cX12_fits 210 = .ok (.bipush 10, 2) := by decide +kernel
theorem dX12_fits_212 : decode cX12_fits 212 = .ok (.if_icmp .ge 11, 3) := by decide +kernel
theorem dX12_fits_215 : decode cX12_fits 215 = .ok (.aload_n 0, 1) := by decide +kernel
theorem dX12_fits_216 : decode cX12_fits 216 = .ok (.getfield 155, 3) := by decide +kernel
theorem dX12_fits_219 : decode cX12_fits 219 = .ok (.iload 6, 2) := by decide +kernel
theorem dX12_fits_221 : decode cX12_fits 221 = .ok (.iconst (-1), 1) := by decide +kernel
theorem dX12_fits_222 : decode cX12_fits 222 = .ok (.iastore, 1) := by decide +kernel
theorem dX12_fits_223 : decode cX12_fits 223 = .ok (.aload_n 0, 1) := by decide +kernel
theorem dX12_fits_224 : decode cX12_fits 224 = .ok (.getfield 161, 3) := by decide +kernel
theorem dX12_fits_227 : decode cX12_fits 227 = .ok (.iload 6, 2) := by decide +kernel
theorem dX12_fits_229 : decode cX12_fits 229 = .ok (.iload 8, 2) := by decide +kernel
theorem dX12_fits_231 : decode cX12_fits 231 = .ok (.iastore, 1) := by decide +kernel
theorem dX12_fits_232 : decode cX12_fits 232 = .ok (.return_, 1) := by decide +kernel
theorem dX12_schedule_0 : decode cX12_schedule 0 = .ok (.iload_n 1, 1) := by decide +kernel
theorem dX12_schedule_1 : decode cX12_schedule 1 = .ok (.invokestatic 304, 3) := by decide +kernel
theorem dX12_schedule_4 : decode cX12_schedule 4 = .ok (.ifCond .eq 11, 3) := by decide +kernel
theorem dX12_schedule_7 : decode cX12_schedule 7 = .ok (.aload_n 0, 1) := by decide +kernel
theorem dX12_schedule_8 : decode cX12_schedule 8 = .ok (.iload_n 2, 1) := by decide +kernel
theorem dX12_schedule_9 : decode cX12_schedule 9 = .ok (.invokevirtual 337, 3) := by decide +kernel
theorem dX12_schedule_12 : decode cX12_schedule 12 = .ok (.ifCond .ne 5, 3) := by decide +kernel
theorem dX12_schedule_15 : decode cX12_schedule 15 = .ok (.iconst (-1), 1) := by decide +kernel
theorem dX12_schedule_16 : decode cX12_schedule 16 = .ok (.ireturn, 1) := by decide +kernel
theorem dX12_schedule_17 : decode cX12_schedule 17 = .ok (.iconst 0, 1) := by decide +kernel
theorem dX12_schedule_18 : decode cX12_schedule 18 = .ok (.istore_n 3, 1) := by decide +kernel
theorem dX12_schedule_19 : decode cX12_schedule 19 = .ok (.iload_n 3, 1) := by decide +kernel
theorem dX12_schedule_20 : decode cX12_schedule 20 = .ok (.bipush 6, 2) := by decide +kernel
theorem dX12_schedule_22 : decode cX12_schedule 22 = .ok (.if_icmp .ge 16, 3) := by decide +kernel
theorem dX12_schedule_25 : decode cX12_schedule 25 = .ok (.aload_n 0, 1) := by decide +kernel
theorem dX12_schedule_26 : decode cX12_schedule 26 = .ok (.getfield 164, 3) := by decide +kernel
theorem dX12_schedule_29 : decode cX12_schedule 29 = .ok (.iload_n 3, 1) := by decide +kernel
theorem dX12_schedule_30 : decode cX12_schedule 30 = .ok (.iconst (-1), 1) := by decide +kernel
theorem dX12_schedule_31 : decode cX12_schedule 31 = .ok (.iastore, 1) := by decide +kernel
theorem dX12_schedule_32 : decode cX12_schedule 32 = .ok (.iinc 3 1, 3) := by decide +kernel
theorem dX12_schedule_35 : decode cX12_schedule 35 = .ok (.goto (-16), 3) := by decide +kernel
theorem dX12_schedule_38 : decode cX12_schedule 38 = .ok (.iconst 0, 1) := by decide +kernel
theorem dX12_schedule_39 : decode cX12_schedule 39 = .ok (.istore_n 3, 1) := by decide +kernel
theorem dX12_schedule_40 : decode cX12_schedule 40 = .ok (.iconst 0, 1) := by decide +kernel
theorem dX12_schedule_41 : decode cX12_schedule 41 = .ok (.istore 4, 2) := by decide +kernel
theorem dX12_schedule_43 : decode cX12_schedule 43 = .ok (.iload 4, 2) := by decide +kernel
theorem dX12_schedule_45 : decode cX12_schedule 45 = .ok (.bipush 24, 2) := by decide +kernel
theorem dX12_schedule_47 : decode cX12_schedule 47 = .ok (.if_icmp .ge 73, 3) := by decide +kernel
theorem dX12_schedule_50 : decode cX12_schedule 50 = .ok (.iconst 0, 1) := by decide +kernel
theorem dX12_schedule_51 : decode cX12_schedule 51 = .ok (.istore 5, 2) := by decide +kernel
theorem dX12_schedule_53 : decode cX12_schedule 53 = .ok (.iload 5, 2) := by decide +kernel
theorem dX12_schedule_55 : decode cX12_schedule 55 = .ok (.aload_n 0, 1) := by decide +kernel
theorem dX12_schedule_56 : decode cX12_schedule 56 = .ok (.getfield 295, 3) := by decide +kernel
theorem dX12_schedule_59 : decode cX12_schedule 59 = .ok (.if_icmp .ge 39, 3) := by decide +kernel
theorem dX12_schedule_62 : decode cX12_schedule 62 = .ok (.iconst 0, 1) := by decide +kernel
theorem dX12_schedule_63 : decode cX12_schedule 63 = .ok (.istore 6, 2) := by decide +kernel
theorem dX12_schedule_65 : decode cX12_schedule 65 = .ok (.iload 6, 2) := by decide +kernel
theorem dX12_schedule_67 : decode cX12_schedule 67 = .ok (.aload_n 0, 1) := by decide +kernel
theorem dX12_schedule_68 : decode cX12_schedule 68 = .ok (.getfield 289, 3) := by decide +kernel
theorem dX12_schedule_71 : decode cX12_schedule 71 = .ok (.if_icmp .ge 21, 3) := by decide +kernel
theorem dX12_schedule_74 : decode cX12_schedule 74 = .ok (.aload_n 0, 1) := by decide +kernel
theorem dX12_schedule_75 : decode cX12_schedule 75 = .ok (.iload 5, 2) := by decide +kernel
theorem dX12_schedule_77 : decode cX12_schedule 77 = .ok (.iload 6, 2) := by decide +kernel
theorem dX12_schedule_79 : decode cX12_schedule 79 = .ok (.iload_n 1, 1) := by decide +kernel
theorem dX12_schedule_80 : decode cX12_schedule 80 = .ok (.iload 4, 2) := by decide +kernel
theorem dX12_schedule_82 : decode cX12_schedule 82 = .ok (.iload_n 2, 1) := by decide +kernel
theorem dX12_schedule_83 : decode cX12_schedule 83 = .ok (.invokevirtual 368, 3) := by decide +kernel
theorem dX12_schedule_86 : decode cX12_schedule 86 = .ok (.iinc 6 1, 3) := by decide +kernel
theorem dX12_schedule_89 : decode cX12_schedule 89 = .ok (.goto (-24), 3) := by decide +kernel
theorem dX12_schedule_92 : decode cX12_schedule 92 = .ok (.iinc 5 1, 3) := by decide +kernel
theorem dX12_schedule_95 : decode cX12_schedule 95 = .ok (.goto (-42), 3) := by decide +kernel
theorem dX12_schedule_98 : decode cX12_schedule 98 = .ok (.aload_n 0, 1) := by decide +kernel
theorem dX12_schedule_99 : decode cX12_schedule 99 = .ok (.iload 4, 2) := by decide +kernel
theorem dX12_schedule_101 : decode cX12_schedule 101 = .ok (.invokevirtual 372, 3) := by decide +kernel
theorem dX12_schedule_104 : decode cX12_schedule 104 = .ok (.iload_n 3, 1) := by decide +kernel
theorem dX12_schedule_105 : decode cX12_schedule 105 = .ok (.aload_n 0, 1) := by decide +kernel
theorem dX12_schedule_106 : decode cX12_schedule 106 = .ok (.getfield 152, 3) := by decide +kernel
theorem dX12_schedule_109 : decode cX12_schedule 109 = .ok (.iload 4, 2) := by decide +kernel
theorem dX12_schedule_111 : decode cX12_schedule 111 = .ok (.iaload, 1) := by decide +kernel
theorem dX12_schedule_112 : decode cX12_schedule 112 = .ok (.iadd, 1) := by decide +kernel
theorem dX12_schedule_113 : decode cX12_schedule 113 = .ok (.istore_n 3, 1) := by decide +kernel
theorem dX12_schedule_114 : decode cX12_schedule 114 = .ok (.iinc 4 1, 3) := by decide +kernel
theorem dX12_schedule_117 : decode cX12_schedule 117 = .ok (.goto (-74), 3) := by decide +kernel
theorem dX12_schedule_120 : decode cX12_schedule 120 = .ok (.aload_n 0, 1) := by decide +kernel
theorem dX12_schedule_121 : decode cX12_schedule 121 = .ok (.iconst 1, 1) := by decide +kernel
theorem dX12_schedule_122 : decode cX12_schedule 122 = .ok (.putfield 375, 3) := by decide +kernel
theorem dX12_schedule_125 : decode cX12_schedule 125 = .ok (.aload_n 0, 1) := by decide +kernel
theorem dX12_schedule_126 : decode cX12_schedule 126 = .ok (.aload_n 0, 1) := by decide +kernel
theorem dX12_schedule_127 : decode cX12_schedule 127 = .ok (.getfield 295, 3) := by decide +kernel
theorem dX12_schedule_130 : decode cX12_schedule 130 = .ok (.putfield 379, 3) := by decide +kernel
theorem dX12_schedule_133 : decode cX12_schedule 133 = .ok (.iload_n 3, 1) := by decide +kernel
theorem dX12_schedule_134 : decode cX12_schedule 134 = .ok (.ireturn, 1) := by decide +kernel
theorem dX12_lays_0 : decode cX12_lays 0 = .ok (.iconst 0, 1) := by decide +kernel
theorem dX12_lays_1 : decode cX12_lays 1 = .ok (.istore_n 2, 1) := by decide +kernel
theorem dX12_lays_2 : decode cX12_lays 2 = .ok (.iload_n 2, 1) := by decide +kernel
theorem dX12_lays_3 : decode cX12_lays 3 = .ok (.bipush 64, 2) := by decide +kernel
theorem dX12_lays_5 : decode cX12_lays 5 = .ok (.if_icmp .ge 39, 3) := by decide +kernel
theorem dX12_lays_8 : decode cX12_lays 8 = .ok (.aload_n 0, 1) := by decide +kernel
theorem dX12_lays_9 : decode cX12_lays 9 = .ok (.getfield 167, 3) := by decide +kernel
theorem dX12_lays_12 : decode cX12_lays 12 = .ok (.bipush 64, 2) := by decide +kernel
theorem dX12_lays_14 : decode cX12_lays 14 = .ok (.aload_n 0, 1) := by decide +kernel
theorem dX12_lays_15 : decode cX12_lays 15 = .ok (.getfield 295, 3) := by decide +kernel
theorem dX12_lays_18 : decode cX12_lays 18 = .ok (.imul, 1) := by decide +kernel
theorem dX12_lays_19 : decode cX12_lays 19 = .ok (.iload_n 2, 1) := by decide +kernel
theorem dX12_lays_20 : decode cX12_lays 20 = .ok (.iadd, 1) := by decide +kernel
theorem dX12_lays_21 : decode cX12_lays 21 = .ok (.iconst 0, 1) := by decide +kernel
theorem dX12_lays_22 : decode cX12_lays 22 = .ok (.iastore, 1) := by decide +kernel
theorem dX12_lays_23 : decode cX12_lays 23 = .ok (.aload_n 0, 1) := by decide +kernel
theorem dX12_lays_24 : decode cX12_lays 24 = .ok (.getfield 170, 3) := by decide +kernel
theorem dX12_lays_27 : decode cX12_lays 27 = .ok (.bipush 64, 2) := by decide +kernel
theorem dX12_lays_29 : decode cX12_lays 29 = .ok (.aload_n 0, 1) := by decide +kernel
theorem dX12_lays_30 : decode cX12_lays 30 = .ok (.getfield 295, 3) := by decide +kernel
theorem dX12_lays_33 : decode cX12_lays 33 = .ok (.imul, 1) := by decide +kernel
theorem dX12_lays_34 : decode cX12_lays 34 = .ok (.iload_n 2, 1) := by decide +kernel
theorem dX12_lays_35 : decode cX12_lays 35 = .ok (.iadd, 1) := by decide +kernel
theorem dX12_lays_36 : decode cX12_lays 36 = .ok (.iconst 0, 1) := by decide +kernel
theorem dX12_lays_37 : decode cX12_lays 37 = .ok (.iastore, 1) := by decide +kernel
theorem dX12_lays_38 : decode cX12_lays 38 = .ok (.iinc 2 1, 3) := by decide +kernel
theorem dX12_lays_41 : decode cX12_lays 41 = .ok (.goto (-39), 3) := by decide +kernel
theorem dX12_lays_44 : decode cX12_lays 44 = .ok (.aload_n 0, 1) := by decide +kernel
theorem dX12_lays_45 : decode cX12_lays 45 = .ok (.getfield 295, 3) := by decide +kernel
theorem dX12_lays_48 : decode cX12_lays 48 = .ok (.iconst 1, 1) := by decide +kernel
theorem dX12_lays_49 : decode cX12_lays 49 = .ok (.isub, 1) := by decide +kernel
theorem dX12_lays_50 : decode cX12_lays 50 = .ok (.istore_n 2, 1) := by decide +kernel
theorem dX12_lays_51 : decode cX12_lays 51 = .ok (.iload_n 2, 1) := by decide +kernel
theorem dX12_lays_52 : decode cX12_lays 52 = .ok (.ifCond .lt 233, 3) := by decide +kernel
theorem dX12_lays_55 : decode cX12_lays 55 = .ok (.iconst 0, 1) := by decide +kernel
theorem dX12_lays_56 : decode cX12_lays 56 = .ok (.istore_n 3, 1) := by decide +kernel
theorem dX12_lays_57 : decode cX12_lays 57 = .ok (.iload_n 3, 1) := by decide +kernel
theorem dX12_lays_58 : decode cX12_lays 58 = .ok (.bipush 64, 2) := by decide +kernel
theorem dX12_lays_60 : decode cX12_lays 60 = .ok (.if_icmp .ge 219, 3) := by decide +kernel
theorem dX12_lays_63 : decode cX12_lays 63 = .ok (.bipush 64, 2) := by decide +kernel
theorem dX12_lays_65 : decode cX12_lays 65 = .ok (.iload_n 2, 1) := by decide +kernel
theorem dX12_lays_66 : decode cX12_lays 66 = .ok (.imul, 1) := by decide +kernel
theorem dX12_lays_67 : decode cX12_lays 67 = .ok (.iload_n 3, 1) := by decide +kernel
theorem dX12_lays_68 : decode cX12_lays 68 = .ok (.iadd, 1) := by decide +kernel
theorem dX12_lays_69 : decode cX12_lays 69 = .ok (.istore 4, 2) := by decide +kernel
theorem dX12_lays_71 : decode cX12_lays 71 = .ok (.aload_n 0, 1) := by decide +kernel
theorem dX12_lays_72 : decode cX12_lays 72 = .ok (.getfield 167, 3) := by decide +kernel
theorem dX12_lays_75 : decode cX12_lays 75 = .ok (.iload 4, 2) := by decide +kernel
theorem dX12_lays_77 : decode cX12_lays 77 = .ok (.aload_n 0, 1) := by decide +kernel
theorem dX12_lays_78 : decode cX12_lays 78 = .ok (.getfield 167, 3) := by decide +kernel
theorem dX12_lays_81 : decode cX12_lays 81 = .ok (.bipush 64, 2) := by decide +kernel
theorem dX12_lays_83 : decode cX12_lays 83 = .ok (.iload_n 2, 1) := by decide +kernel
theorem dX12_lays_84 : decode cX12_lays 84 = .ok (.iconst 1, 1) := by decide +kernel
theorem dX12_lays_85 : decode cX12_lays 85 = .ok (.iadd, 1) := by decide +kernel
theorem dX12_lays_86 : decode cX12_lays 86 = .ok (.imul, 1) := by decide +kernel
theorem dX12_lays_87 : decode cX12_lays 87 = .ok (.iload_n 3, 1) := by decide +kernel
theorem dX12_lays_88 : decode cX12_lays 88 = .ok (.iadd, 1) := by decide +kernel
theorem dX12_lays_89 : decode cX12_lays 89 = .ok (.iaload, 1) := by decide +kernel
theorem dX12_lays_90 : decode cX12_lays 90 = .ok (.iastore, 1) := by decide +kernel
theorem dX12_lays_91 : decode cX12_lays 91 = .ok (.aload_n 0, 1) := by decide +kernel
theorem dX12_lays_92 : decode cX12_lays 92 = .ok (.getfield 170, 3) := by decide +kernel
theorem dX12_lays_95 : decode cX12_lays 95 = .ok (.iload 4, 2) := by decide +kernel
theorem dX12_lays_97 : decode cX12_lays 97 = .ok (.aload_n 0, 1) := by decide +kernel
theorem dX12_lays_98 : decode cX12_lays 98 = .ok (.getfield 170, 3) := by decide +kernel
theorem dX12_lays_101 : decode cX12_lays 101 = .ok (.bipush 64, 2) := by decide +kernel
theorem dX12_lays_103 : decode cX12_lays 103 = .ok (.iload_n 2, 1) := by decide +kernel
theorem dX12_lays_104 : decode cX12_lays 104 = .ok (.iconst 1, 1) := by decide +kernel
theorem dX12_lays_105 : decode cX12_lays 105 = .ok (.iadd, 1) := by decide +kernel
theorem dX12_lays_106 : decode cX12_lays 106 = .ok (.imul, 1) := by decide +kernel
theorem dX12_lays_107 : decode cX12_lays 107 = .ok (.iload_n 3, 1) := by decide +kernel
theorem dX12_lays_108 : decode cX12_lays 108 = .ok (.iadd, 1) := by decide +kernel
theorem dX12_lays_109 : decode cX12_lays 109 = .ok (.iaload, 1) := by decide +kernel
theorem dX12_lays_110 : decode cX12_lays 110 = .ok (.iastore, 1) := by decide +kernel
theorem dX12_lays_111 : decode cX12_lays 111 = .ok (.iconst 0, 1) := by decide +kernel
theorem dX12_lays_112 : decode cX12_lays 112 = .ok (.istore 5, 2) := by decide +kernel
theorem dX12_lays_114 : decode cX12_lays 114 = .ok (.iload 5, 2) := by decide +kernel
theorem dX12_lays_116 : decode cX12_lays 116 = .ok (.aload_n 0, 1) := by decide +kernel
theorem dX12_lays_117 : decode cX12_lays 117 = .ok (.getfield 289, 3) := by decide +kernel
theorem dX12_lays_120 : decode cX12_lays 120 = .ok (.if_icmp .ge 153, 3) := by decide +kernel
theorem dX12_lays_123 : decode cX12_lays 123 = .ok (.iload_n 3, 1) := by decide +kernel
theorem dX12_lays_124 : decode cX12_lays 124 = .ok (.iload 5, 2) := by decide +kernel
theorem dX12_lays_126 : decode cX12_lays 126 = .ok (.ishr, 1) := by decide +kernel
theorem dX12_lays_127 : decode cX12_lays 127 = .ok (.iconst 1, 1) := by decide +kernel
theorem dX12_lays_128 : decode cX12_lays 128 = .ok (.iand, 1) := by decide +kernel
theorem dX12_lays_129 : decode cX12_lays 129 = .ok (.iconst 1, 1) := by decide +kernel
theorem dX12_lays_130 : decode cX12_lays 130 = .ok (.if_icmp .eq 137, 3) := by decide +kernel
theorem dX12_lays_133 : decode cX12_lays 133 = .ok (.aload_n 0, 1) := by decide +kernel
theorem dX12_lays_134 : decode cX12_lays 134 = .ok (.getfield 155, 3) := by decide +kernel
theorem dX12_lays_137 : decode cX12_lays 137 = .ok (.bipush 6, 2) := by decide +kernel
theorem dX12_lays_139 : decode cX12_lays 139 = .ok (.iload_n 2, 1) := by decide +kernel
theorem dX12_lays_140 : decode cX12_lays 140 = .ok (.imul, 1) := by decide +kernel
theorem dX12_lays_141 : decode cX12_lays 141 = .ok (.iload 5, 2) := by decide +kernel
theorem dX12_lays_143 : decode cX12_lays 143 = .ok (.iadd, 1) := by decide +kernel
theorem dX12_lays_144 : decode cX12_lays 144 = .ok (.iaload, 1) := by decide +kernel
theorem dX12_lays_145 : decode cX12_lays 145 = .ok (.iconst (-1), 1) := by decide +kernel
theorem dX12_lays_146 : decode cX12_lays 146 = .ok (.if_icmp .ne 6, 3) := by decide +kernel
theorem dX12_lays_149 : decode cX12_lays 149 = .ok (.goto 118, 3) := by decide +kernel
theorem dX12_lays_152 : decode cX12_lays 152 = .ok (.bipush 64, 2) := by decide +kernel
theorem dX12_lays_154 : decode cX12_lays 154 = .ok (.iload_n 2, 1) := by decide +kernel
theorem dX12_lays_155 : decode cX12_lays 155 = .ok (.iconst 1, 1) := by decide +kernel
theorem dX12_lays_156 : decode cX12_lays 156 = .ok (.iadd, 1) := by decide +kernel
theorem dX12_lays_157 : decode cX12_lays 157 = .ok (.imul, 1) := by decide +kernel
theorem dX12_lays_158 : decode cX12_lays 158 = .ok (.iload_n 3, 1) := by decide +kernel
theorem dX12_lays_159 : decode cX12_lays 159 = .ok (.iconst 1, 1) := by decide +kernel
theorem dX12_lays_160 : decode cX12_lays 160 = .ok (.iload 5, 2) := by decide +kernel
theorem dX12_lays_162 : decode cX12_lays 162 = .ok (.ishl, 1) := by decide +kernel
theorem dX12_lays_163 : decode cX12_lays 163 = .ok (.ior, 1) := by decide +kernel
theorem dX12_lays_164 : decode cX12_lays 164 = .ok (.iadd, 1) := by decide +kernel
theorem dX12_lays_165 : decode cX12_lays 165 = .ok (.istore 6, 2) := by decide +kernel
theorem dX12_lays_167 : decode cX12_lays 167 = .ok (.aload_n 0, 1) := by decide +kernel
theorem dX12_lays_168 : decode cX12_lays 168 = .ok (.getfield 167, 3) := by decide +kernel
theorem dX12_lays_171 : decode cX12_lays 171 = .ok (.iload 6, 2) := by decide +kernel
theorem dX12_lays_173 : decode cX12_lays 173 = .ok (.iaload, 1) := by decide +kernel
theorem dX12_lays_174 : decode cX12_lays 174 = .ok (.aload_n 0, 1) := by decide +kernel
theorem dX12_lays_175 : decode cX12_lays 175 = .ok (.getfield 86, 3) := by decide +kernel
theorem dX12_lays_178 : decode cX12_lays 178 = .ok (.aload_n 0, 1) := by decide +kernel
theorem dX12_lays_179 : decode cX12_lays 179 = .ok (.getfield 95, 3) := by decide +kernel
theorem dX12_lays_182 : decode cX12_lays 182 = .ok (.iload_n 2, 1) := by decide +kernel
theorem dX12_lays_183 : decode cX12_lays 183 = .ok (.iaload, 1) := by decide +kernel
theorem dX12_lays_184 : decode cX12_lays 184 = .ok (.iaload, 1) := by decide +kernel
theorem dX12_lays_185 : decode cX12_lays 185 = .ok (.iadd, 1) := by decide +kernel
theorem dX12_lays_186 : decode cX12_lays 186 = .ok (.istore 7, 2) := by decide +kernel
theorem dX12_lays_188 : decode cX12_lays 188 = .ok (.aload_n 0, 1) := by decide +kernel
theorem dX12_lays_189 : decode cX12_lays 189 = .ok (.getfield 170, 3) := by decide +kernel
theorem dX12_lays_192 : decode cX12_lays 192 = .ok (.iload 6, 2) := by decide +kernel
theorem dX12_lays_194 : decode cX12_lays 194 = .ok (.iaload, 1) := by decide +kernel
theorem dX12_lays_195 : decode cX12_lays 195 = .ok (.aload_n 0, 1) := by decide +kernel
theorem dX12_lays_196 : decode cX12_lays 196 = .ok (.getfield 158, 3) := by decide +kernel
theorem dX12_lays_199 : decode cX12_lays 199 = .ok (.bipush 6, 2) := by decide +kernel
theorem dX12_lays_201 : decode cX12_lays 201 = .ok (.iload_n 2, 1) := by decide +kernel
theorem dX12_lays_202 : decode cX12_lays 202 = .ok (.imul, 1) := by decide +kernel
theorem dX12_lays_203 : decode cX12_lays 203 = .ok (.iload 5, 2) := by decide +kernel
theorem dX12_lays_205 : decode cX12_lays 205 = .ok (.iadd, 1) := by decide +kernel
theorem dX12_lays_206 : decode cX12_lays 206 = .ok (.iaload, 1) := by decide +kernel
theorem dX12_lays_207 : decode cX12_lays 207 = .ok (.iadd, 1) := by decide +kernel
theorem dX12_lays_208 : decode cX12_lays 208 = .ok (.istore 8, 2) := by decide +kernel
theorem dX12_lays_210 : decode cX12_lays 210 = .ok (.iload 7, 2) := by decide +kernel
theorem dX12_lays_212 : decode cX12_lays 212 = .ok (.aload_n 0, 1) := by decide +kernel
theorem dX12_lays_213 : decode cX12_lays 213 = .ok (.getfield 167, 3) := by decide +kernel
theorem dX12_lays_216 : decode cX12_lays 216 = .ok (.iload 4, 2) := by decide +kernel
theorem dX12_lays_218 : decode cX12_lays 218 = .ok (.iaload, 1) := by decide +kernel
theorem dX12_lays_219 : decode cX12_lays 219 = .ok (.if_icmp .lt 48, 3) := by decide +kernel
theorem dX12_lays_222 : decode cX12_lays 222 = .ok (.iload 7, 2) := by decide +kernel
theorem dX12_lays_224 : decode cX12_lays 224 = .ok (.aload_n 0, 1) := by decide +kernel
theorem dX12_lays_225 : decode cX12_lays 225 = .ok (.getfield 167, 3) := by decide +kernel
theorem dX12_lays_228 : decode cX12_lays 228 = .ok (.iload 4, 2) := by decide +kernel
theorem dX12_lays_230 : decode cX12_lays 230 = .ok (.iaload, 1) := by decide +kernel
theorem dX12_lays_231 : decode cX12_lays 231 = .ok (.if_icmp .ne 18, 3) := by decide +kernel
theorem dX12_lays_234 : decode cX12_lays 234 = .ok (.iload 8, 2) := by decide +kernel
theorem dX12_lays_236 : decode cX12_lays 236 = .ok (.aload_n 0, 1) := by decide +kernel
theorem dX12_lays_237 : decode cX12_lays 237 = .ok (.getfield 170, 3) := by decide +kernel
theorem dX12_lays_240 : decode cX12_lays 240 = .ok (.iload 4, 2) := by decide +kernel
theorem dX12_lays_242 : decode cX12_lays 242 = .ok (.iaload, 1) := by decide +kernel
theorem dX12_lays_243 : decode cX12_lays 243 = .ok (.if_icmp .gt 6, 3) := by decide +kernel
theorem dX12_lays_246 : decode cX12_lays 246 = .ok (.goto 21, 3) := by decide +kernel
theorem dX12_lays_249 : decode cX12_lays 249 = .ok (.aload_n 0, 1) := by decide +kernel
theorem dX12_lays_250 : decode cX12_lays 250 = .ok (.getfield 167, 3) := by decide +kernel
theorem dX12_lays_253 : decode cX12_lays 253 = .ok (.iload 4, 2) := by decide +kernel
theorem dX12_lays_255 : decode cX12_lays 255 = .ok (.iload 7, 2) := by decide +kernel
theorem dX12_lays_257 : decode cX12_lays 257 = .ok (.iastore, 1) := by decide +kernel
theorem dX12_lays_258 : decode cX12_lays 258 = .ok (.aload_n 0, 1) := by decide +kernel
theorem dX12_lays_259 : decode cX12_lays 259 = .ok (.getfield 170, 3) := by decide +kernel
theorem dX12_lays_262 : decode cX12_lays 262 = .ok (.iload 4, 2) := by decide +kernel
theorem dX12_lays_264 : decode cX12_lays 264 = .ok (.iload 8, 2) := by decide +kernel
theorem dX12_lays_266 : decode cX12_lays 266 = .ok (.iastore, 1) := by decide +kernel
theorem dX12_lays_267 : decode cX12_lays 267 = .ok (.iinc 5 1, 3) := by decide +kernel
theorem dX12_lays_270 : decode cX12_lays 270 = .ok (.goto (-156), 3) := by decide +kernel
theorem dX12_lays_273 : decode cX12_lays 273 = .ok (.iinc 3 1, 3) := by decide +kernel
theorem dX12_lays_276 : decode cX12_lays 276 = .ok (.goto (-219), 3) := by decide +kernel
theorem dX12_lays_279 : decode cX12_lays 279 = .ok (.iinc 2 (-1), 3) := by decide +kernel
theorem dX12_lays_282 : decode cX12_lays 282 = .ok (.goto (-231), 3) := by decide +kernel
theorem dX12_lays_285 : decode cX12_lays 285 = .ok (.aload_n 0, 1) := by decide +kernel
theorem dX12_lays_286 : decode cX12_lays 286 = .ok (.getfield 152, 3) := by decide +kernel
theorem dX12_lays_289 : decode cX12_lays 289 = .ok (.iload_n 1, 1) := by decide +kernel
theorem dX12_lays_290 : decode cX12_lays 290 = .ok (.aload_n 0, 1) := by decide +kernel
theorem dX12_lays_291 : decode cX12_lays 291 = .ok (.getfield 167, 3) := by decide +kernel
theorem dX12_lays_294 : decode cX12_lays 294 = .ok (.iconst 0, 1) := by decide +kernel
theorem dX12_lays_295 : decode cX12_lays 295 = .ok (.iaload, 1) := by decide +kernel
theorem dX12_lays_296 : decode cX12_lays 296 = .ok (.iastore, 1) := by decide +kernel
theorem dX12_lays_297 : decode cX12_lays 297 = .ok (.iconst 0, 1) := by decide +kernel
theorem dX12_lays_298 : decode cX12_lays 298 = .ok (.istore_n 2, 1) := by decide +kernel
theorem dX12_lays_299 : decode cX12_lays 299 = .ok (.iconst 0, 1) := by decide +kernel
theorem dX12_lays_300 : decode cX12_lays 300 = .ok (.istore_n 3, 1) := by decide +kernel
theorem dX12_lays_301 : decode cX12_lays 301 = .ok (.iload_n 3, 1) := by decide +kernel
theorem dX12_lays_302 : decode cX12_lays 302 = .ok (.bipush 6, 2) := by decide +kernel
theorem dX12_lays_304 : decode cX12_lays 304 = .ok (.if_icmp .ge 16, 3) := by decide +kernel
theorem dX12_lays_307 : decode cX12_lays 307 = .ok (.aload_n 0, 1) := by decide +kernel
theorem dX12_lays_308 : decode cX12_lays 308 = .ok (.getfield 164, 3) := by decide +kernel
theorem dX12_lays_311 : decode cX12_lays 311 = .ok (.iload_n 3, 1) := by decide +kernel
theorem dX12_lays_312 : decode cX12_lays 312 = .ok (.iconst (-1), 1) := by decide +kernel
theorem dX12_lays_313 : decode cX12_lays 313 = .ok (.iastore, 1) := by decide +kernel
theorem dX12_lays_314 : decode cX12_lays 314 = .ok (.iinc 3 1, 3) := by decide +kernel
theorem dX12_lays_317 : decode cX12_lays 317 = .ok (.goto (-16), 3) := by decide +kernel
theorem dX12_lays_320 : decode cX12_lays 320 = .ok (.iconst 0, 1) := by decide +kernel
theorem dX12_lays_321 : decode cX12_lays 321 = .ok (.istore_n 3, 1) := by decide +kernel
theorem dX12_lays_322 : decode cX12_lays 322 = .ok (.iload_n 3, 1) := by decide +kernel
theorem dX12_lays_323 : decode cX12_lays 323 = .ok (.aload_n 0, 1) := by decide +kernel
theorem dX12_lays_324 : decode cX12_lays 324 = .ok (.getfield 295, 3) := by decide +kernel
theorem dX12_lays_327 : decode cX12_lays 327 = .ok (.if_icmp .ge 265, 3) := by decide +kernel
theorem dX12_lays_330 : decode cX12_lays 330 = .ok (.bipush 10, 2) := by decide +kernel
theorem dX12_lays_332 : decode cX12_lays 332 = .ok (.iload_n 1, 1) := by decide +kernel
theorem dX12_lays_333 : decode cX12_lays 333 = .ok (.imul, 1) := by decide +kernel
theorem dX12_lays_334 : decode cX12_lays 334 = .ok (.iload_n 3, 1) := by decide +kernel
theorem dX12_lays_335 : decode cX12_lays 335 = .ok (.iadd, 1) := by decide +kernel
theorem dX12_lays_336 : decode cX12_lays 336 = .ok (.istore 4, 2) := by decide +kernel
theorem dX12_lays_338 : decode cX12_lays 338 = .ok (.aload_n 0, 1) := by decide +kernel
theorem dX12_lays_339 : decode cX12_lays 339 = .ok (.getfield 140, 3) := by decide +kernel
theorem dX12_lays_342 : decode cX12_lays 342 = .ok (.iload 4, 2) := by decide +kernel
theorem dX12_lays_344 : decode cX12_lays 344 = .ok (.iconst (-1), 1) := by decide +kernel
theorem dX12_lays_345 : decode cX12_lays 345 = .ok (.iastore, 1) := by decide +kernel
theorem dX12_lays_346 : decode cX12_lays 346 = .ok (.aload_n 0, 1) := by decide +kernel
theorem dX12_lays_347 : decode cX12_lays 347 = .ok (.getfield 289, 3) := by decide +kernel
theorem dX12_lays_350 : decode cX12_lays 350 = .ok (.iconst 1, 1) := by decide +kernel
theorem dX12_lays_351 : decode cX12_lays 351 = .ok (.isub, 1) := by decide +kernel
theorem dX12_lays_352 : decode cX12_lays 352 = .ok (.istore 5, 2) := by decide +kernel
theorem dX12_lays_354 : decode cX12_lays 354 = .ok (.iload 5, 2) := by decide +kernel
theorem dX12_lays_356 : decode cX12_lays 356 = .ok (.ifCond .lt 129, 3) := by decide +kernel
theorem dX12_lays_359 : decode cX12_lays 359 = .ok (.iload_n 2, 1) := by decide +kernel
theorem dX12_lays_360 : decode cX12_lays 360 = .ok (.iload 5, 2) := by decide +kernel
theorem dX12_lays_362 : decode cX12_lays 362 = .ok (.ishr, 1) := by decide +kernel
theorem dX12_lays_363 : decode cX12_lays 363 = .ok (.iconst 1, 1) := by decide +kernel
theorem dX12_lays_364 : decode cX12_lays 364 = .ok (.iand, 1) := by decide +kernel
theorem dX12_lays_365 : decode cX12_lays 365 = .ok (.iconst 1, 1) := by decide +kernel
theorem dX12_lays_366 : decode cX12_lays 366 = .ok (.if_icmp .eq 113, 3) := by decide +kernel
theorem dX12_lays_369 : decode cX12_lays 369 = .ok (.aload_n 0, 1) := by decide +kernel
theorem dX12_lays_370 : decode cX12_lays 370 = .ok (.getfield 155, 3) := by decide +kernel
theorem dX12_lays_373 : decode cX12_lays 373 = .ok (.bipush 6, 2) := by decide +kernel
theorem dX12_lays_375 : decode cX12_lays 375 = .ok (.iload_n 3, 1) := by decide +kernel
theorem dX12_lays_376 : decode cX12_lays 376 = .ok (.imul, 1) := by decide +kernel
theorem dX12_lays_377 : decode cX12_lays 377 = .ok (.iload 5, 2) := by decide +kernel
theorem dX12_lays_379 : decode cX12_lays 379 = .ok (.iadd, 1) := by decide +kernel
theorem dX12_lays_380 : decode cX12_lays 380 = .ok (.iaload, 1) := by decide +kernel
theorem dX12_lays_381 : decode cX12_lays 381 = .ok (.iconst (-1), 1) := by decide +kernel
theorem dX12_lays_382 : decode cX12_lays 382 = .ok (.if_icmp .ne 6, 3) := by decide +kernel
theorem dX12_lays_385 : decode cX12_lays 385 = .ok (.goto 94, 3) := by decide +kernel
theorem dX12_lays_388 : decode cX12_lays 388 = .ok (.bipush 64, 2) := by decide +kernel
theorem dX12_lays_390 : decode cX12_lays 390 = .ok (.iload_n 3, 1) := by decide +kernel
theorem dX12_lays_391 : decode cX12_lays 391 = .ok (.iconst 1, 1) := by decide +kernel
theorem dX12_lays_392 : decode cX12_lays 392 = .ok (.iadd, 1) := by decide +kernel
theorem dX12_lays_393 : decode cX12_lays 393 = .ok (.imul, 1) := by decide +kernel
theorem dX12_lays_394 : decode cX12_lays 394 = .ok (.iload_n 2, 1) := by decide +kernel
theorem dX12_lays_395 : decode cX12_lays 395 = .ok (.iconst 1, 1) := by decide +kernel
theorem dX12_lays_396 : decode cX12_lays 396 = .ok (.iload 5, 2) := by decide +kernel
theorem dX12_lays_398 : decode cX12_lays 398 = .ok (.ishl, 1) := by decide +kernel
theorem dX12_lays_399 : decode cX12_lays 399 = .ok (.ior, 1) := by decide +kernel
theorem dX12_lays_400 : decode cX12_lays 400 = .ok (.iadd, 1) := by decide +kernel
theorem dX12_lays_401 : decode cX12_lays 401 = .ok (.istore 6, 2) := by decide +kernel
theorem dX12_lays_403 : decode cX12_lays 403 = .ok (.aload_n 0, 1) := by decide +kernel
theorem dX12_lays_404 : decode cX12_lays 404 = .ok (.getfield 167, 3) := by decide +kernel
theorem dX12_lays_407 : decode cX12_lays 407 = .ok (.iload 6, 2) := by decide +kernel
theorem dX12_lays_409 : decode cX12_lays 409 = .ok (.iaload, 1) := by decide +kernel
theorem dX12_lays_410 : decode cX12_lays 410 = .ok (.aload_n 0, 1) := by decide +kernel
theorem dX12_lays_411 : decode cX12_lays 411 = .ok (.getfield 86, 3) := by decide +kernel
theorem dX12_lays_414 : decode cX12_lays 414 = .ok (.aload_n 0, 1) := by decide +kernel
theorem dX12_lays_415 : decode cX12_lays 415 = .ok (.getfield 95, 3) := by decide +kernel
theorem dX12_lays_418 : decode cX12_lays 418 = .ok (.iload_n 3, 1) := by decide +kernel
theorem dX12_lays_419 : decode cX12_lays 419 = .ok (.iaload, 1) := by decide +kernel
theorem dX12_lays_420 : decode cX12_lays 420 = .ok (.iaload, 1) := by decide +kernel
theorem dX12_lays_421 : decode cX12_lays 421 = .ok (.iadd, 1) := by decide +kernel
theorem dX12_lays_422 : decode cX12_lays 422 = .ok (.aload_n 0, 1) := by decide +kernel
theorem dX12_lays_423 : decode cX12_lays 423 = .ok (.getfield 167, 3) := by decide +kernel
theorem dX12_lays_426 : decode cX12_lays 426 = .ok (.bipush 64, 2) := by decide +kernel
theorem dX12_lays_428 : decode cX12_lays 428 = .ok (.iload_n 3, 1) := by decide +kernel
theorem dX12_lays_429 : decode cX12_lays 429 = .ok (.imul, 1) := by decide +kernel
theorem dX12_lays_430 : decode cX12_lays 430 = .ok (.iload_n 2, 1) := by decide +kernel
theorem dX12_lays_431 : decode cX12_lays 431 = .ok (.iadd, 1) := by decide +kernel
theorem dX12_lays_432 : decode cX12_lays 432 = .ok (.iaload, 1) := by decide +kernel
theorem dX12_lays_433 : decode cX12_lays 433 = .ok (.if_icmp .ne 46, 3) := by decide +kernel
theorem dX12_lays_436 : decode cX12_lays 436 = .ok (.aload_n 0, 1) := by decide +kernel
theorem dX12_lays_437 : decode cX12_lays 437 = .ok (.getfield 170, 3) := by decide +kernel
theorem dX12_lays_440 : decode cX12_lays 440 = .ok (.iload 6, 2) := by decide +kernel
theorem dX12_lays_442 : decode cX12_lays 442 = .ok (.iaload, 1) := by decide +kernel
theorem dX12_lays_443 : decode cX12_lays 443 = .ok (.aload_n 0, 1) := by decide +kernel
theorem dX12_lays_444 : decode cX12_lays 444 = .ok (.getfield 158, 3) := by decide +kernel
theorem dX12_lays_447 : decode cX12_lays 447 = .ok (.bipush 6, 2) := by decide +kernel
theorem dX12_lays_449 : decode cX12_lays 449 = .ok (.iload_n 3, 1) := by decide +kernel
theorem dX12_lays_450 : decode cX12_lays 450 = .ok (.imul, 1) := by decide +kernel
theorem dX12_lays_451 : decode cX12_lays 451 = .ok (.iload 5, 2) := by decide +kernel
theorem dX12_lays_453 : decode cX12_lays 453 = .ok (.iadd, 1) := by decide +kernel
theorem dX12_lays_454 : decode cX12_lays 454 = .ok (.iaload, 1) := by decide +kernel
theorem dX12_lays_455 : decode cX12_lays 455 = .ok (.iadd, 1) := by decide +kernel
theorem dX12_lays_456 : decode cX12_lays 456 = .ok (.aload_n 0, 1) := by decide +kernel
theorem dX12_lays_457 : decode cX12_lays 457 = .ok (.getfield 170, 3) := by decide +kernel
theorem dX12_lays_460 : decode cX12_lays 460 = .ok (.bipush 64, 2) := by decide +kernel
theorem dX12_lays_462 : decode cX12_lays 462 = .ok (.iload_n 3, 1) := by decide +kernel
theorem dX12_lays_463 : decode cX12_lays 463 = .ok (.imul, 1) := by decide +kernel
theorem dX12_lays_464 : decode cX12_lays 464 = .ok (.iload_n 2, 1) := by decide +kernel
theorem dX12_lays_465 : decode cX12_lays 465 = .ok (.iadd, 1) := by decide +kernel
theorem dX12_lays_466 : decode cX12_lays 466 = .ok (.iaload, 1) := by decide +kernel
theorem dX12_lays_467 : decode cX12_lays 467 = .ok (.if_icmp .ne 12, 3) := by decide +kernel
theorem dX12_lays_470 : decode cX12_lays 470 = .ok (.aload_n 0, 1) := by decide +kernel
theorem dX12_lays_471 : decode cX12_lays 471 = .ok (.getfield 140, 3) := by decide +kernel
theorem dX12_lays_474 : decode cX12_lays 474 = .ok (.iload 4, 2) := by decide +kernel
theorem dX12_lays_476 : decode cX12_lays 476 = .ok (.iload 5, 2) := by decide +kernel
theorem dX12_lays_478 : decode cX12_lays 478 = .ok (.iastore, 1) := by decide +kernel
theorem dX12_lays_479 : decode cX12_lays 479 = .ok (.iinc 5 (-1), 3) := by decide +kernel
theorem dX12_lays_482 : decode cX12_lays 482 = .ok (.goto (-128), 3) := by decide +kernel
theorem dX12_lays_485 : decode cX12_lays 485 = .ok (.aload_n 0, 1) := by decide +kernel
theorem dX12_lays_486 : decode cX12_lays 486 = .ok (.getfield 140, 3) := by decide +kernel
theorem dX12_lays_489 : decode cX12_lays 489 = .ok (.iload 4, 2) := by decide +kernel
theorem dX12_lays_491 : decode cX12_lays 491 = .ok (.iaload, 1) := by decide +kernel
theorem dX12_lays_492 : decode cX12_lays 492 = .ok (.istore 5, 2) := by decide +kernel
theorem dX12_lays_494 : decode cX12_lays 494 = .ok (.iload 5, 2) := by decide +kernel
theorem dX12_lays_496 : decode cX12_lays 496 = .ok (.iconst (-1), 1) := by decide +kernel
theorem dX12_lays_497 : decode cX12_lays 497 = .ok (.if_icmp .ne 6, 3) := by decide +kernel
theorem dX12_lays_500 : decode cX12_lays 500 = .ok (.goto 86, 3) := by decide +kernel
theorem dX12_lays_503 : decode cX12_lays 503 = .ok (.iload_n 2, 1) := by decide +kernel
theorem dX12_lays_504 : decode cX12_lays 504 = .ok (.iconst 1, 1) := by decide +kernel
theorem dX12_lays_505 : decode cX12_lays 505 = .ok (.iload 5, 2) := by decide +kernel
theorem dX12_lays_507 : decode cX12_lays 507 = .ok (.ishl, 1) := by decide +kernel
theorem dX12_lays_508 : decode cX12_lays 508 = .ok (.ior, 1) := by decide +kernel
theorem dX12_lays_509 : decode cX12_lays 509 = .ok (.istore_n 2, 1) := by decide +kernel
theorem dX12_lays_510 : decode cX12_lays 510 = .ok (.aload_n 0, 1) := by decide +kernel
theorem dX12_lays_511 : decode cX12_lays 511 = .ok (.getfield 164, 3) := by decide +kernel
theorem dX12_lays_514 : decode cX12_lays 514 = .ok (.iload 5, 2) := by decide +kernel
theorem dX12_lays_516 : decode cX12_lays 516 = .ok (.aload_n 0, 1) := by decide +kernel
theorem dX12_lays_517 : decode cX12_lays 517 = .ok (.getfield 161, 3) := by decide +kernel
theorem dX12_lays_520 : decode cX12_lays 520 = .ok (.bipush 6, 2) := by decide +kernel
theorem dX12_lays_522 : decode cX12_lays 522 = .ok (.iload_n 3, 1) := by decide +kernel
theorem dX12_lays_523 : decode cX12_lays 523 = .ok (.imul, 1) := by decide +kernel
theorem dX12_lays_524 : decode cX12_lays 524 = .ok (.iload 5, 2) := by decide +kernel
theorem dX12_lays_526 : decode cX12_lays 526 = .ok (.iadd, 1) := by decide +kernel
theorem dX12_lays_527 : decode cX12_lays 527 = .ok (.iaload, 1) := by decide +kernel
theorem dX12_lays_528 : decode cX12_lays 528 = .ok (.iastore, 1) := by decide +kernel
theorem dX12_lays_529 : decode cX12_lays 529 = .ok (.aload_n 0, 1) := by decide +kernel
theorem dX12_lays_530 : decode cX12_lays 530 = .ok (.getfield 143, 3) := by decide +kernel
theorem dX12_lays_533 : decode cX12_lays 533 = .ok (.iload 4, 2) := by decide +kernel
theorem dX12_lays_535 : decode cX12_lays 535 = .ok (.aload_n 0, 1) := by decide +kernel
theorem dX12_lays_536 : decode cX12_lays 536 = .ok (.getfield 155, 3) := by decide +kernel
theorem dX12_lays_539 : decode cX12_lays 539 = .ok (.bipush 6, 2) := by decide +kernel
theorem dX12_lays_541 : decode cX12_lays 541 = .ok (.iload_n 3, 1) := by decide +kernel
theorem dX12_lays_542 : decode cX12_lays 542 = .ok (.imul, 1) := by decide +kernel
theorem dX12_lays_543 : decode cX12_lays 543 = .ok (.iload 5, 2) := by decide +kernel
theorem dX12_lays_545 : decode cX12_lays 545 = .ok (.iadd, 1) := by decide +kernel
theorem dX12_lays_546 : decode cX12_lays 546 = .ok (.iaload, 1) := by decide +kernel
theorem dX12_lays_547 : decode cX12_lays 547 = .ok (.iastore, 1) := by decide +kernel
theorem dX12_lays_548 : decode cX12_lays 548 = .ok (.aload_n 0, 1) := by decide +kernel
theorem dX12_lays_549 : decode cX12_lays 549 = .ok (.getfield 146, 3) := by decide +kernel
theorem dX12_lays_552 : decode cX12_lays 552 = .ok (.iload 4, 2) := by decide +kernel
theorem dX12_lays_554 : decode cX12_lays 554 = .ok (.aload_n 0, 1) := by decide +kernel
theorem dX12_lays_555 : decode cX12_lays 555 = .ok (.getfield 161, 3) := by decide +kernel
theorem dX12_lays_558 : decode cX12_lays 558 = .ok (.bipush 6, 2) := by decide +kernel
theorem dX12_lays_560 : decode cX12_lays 560 = .ok (.iload_n 3, 1) := by decide +kernel
theorem dX12_lays_561 : decode cX12_lays 561 = .ok (.imul, 1) := by decide +kernel
theorem dX12_lays_562 : decode cX12_lays 562 = .ok (.iload 5, 2) := by decide +kernel
theorem dX12_lays_564 : decode cX12_lays 564 = .ok (.iadd, 1) := by decide +kernel
theorem dX12_lays_565 : decode cX12_lays 565 = .ok (.iaload, 1) := by decide +kernel
theorem dX12_lays_566 : decode cX12_lays 566 = .ok (.iastore, 1) := by decide +kernel
theorem dX12_lays_567 : decode cX12_lays 567 = .ok (.aload_n 0, 1) := by decide +kernel
theorem dX12_lays_568 : decode cX12_lays 568 = .ok (.getfield 149, 3) := by decide +kernel
theorem dX12_lays_571 : decode cX12_lays 571 = .ok (.iload 4, 2) := by decide +kernel
theorem dX12_lays_573 : decode cX12_lays 573 = .ok (.aload_n 0, 1) := by decide +kernel
theorem dX12_lays_574 : decode cX12_lays 574 = .ok (.getfield 158, 3) := by decide +kernel
theorem dX12_lays_577 : decode cX12_lays 577 = .ok (.bipush 6, 2) := by decide +kernel
theorem dX12_lays_579 : decode cX12_lays 579 = .ok (.iload_n 3, 1) := by decide +kernel
theorem dX12_lays_580 : decode cX12_lays 580 = .ok (.imul, 1) := by decide +kernel
theorem dX12_lays_581 : decode cX12_lays 581 = .ok (.iload 5, 2) := by decide +kernel
theorem dX12_lays_583 : decode cX12_lays 583 = .ok (.iadd, 1) := by decide +kernel
theorem dX12_lays_584 : decode cX12_lays 584 = .ok (.iaload, 1) := by decide +kernel
theorem dX12_lays_585 : decode cX12_lays 585 = .ok (.iastore, 1) := by decide +kernel
theorem dX12_lays_586 : decode cX12_lays 586 = .ok (.iinc 3 1, 3) := by decide +kernel
theorem dX12_lays_589 : decode cX12_lays 589 = .ok (.goto (-267), 3) := by decide +kernel
theorem dX12_lays_592 : decode cX12_lays 592 = .ok (.return_, 1) := by decide +kernel
theorem dX12_slot_0 : decode cX12_slot 0 = .ok (.aload_n 0, 1) := by decide +kernel
theorem dX12_slot_1 : decode cX12_slot 1 = .ok (.getfield 375, 3) := by decide +kernel
theorem dX12_slot_4 : decode cX12_slot 4 = .ok (.ifCond .eq 31, 3) := by decide +kernel
theorem dX12_slot_7 : decode cX12_slot 7 = .ok (.iload_n 1, 1) := by decide +kernel
theorem dX12_slot_8 : decode cX12_slot 8 = .ok (.invokestatic 310, 3) := by decide +kernel
theorem dX12_slot_11 : decode cX12_slot 11 = .ok (.ifCond .eq 24, 3) := by decide +kernel
theorem dX12_slot_14 : decode cX12_slot 14 = .ok (.iload_n 2, 1) := by decide +kernel
theorem dX12_slot_15 : decode cX12_slot 15 = .ok (.ifCond .lt 20, 3) := by decide +kernel
theorem dX12_slot_18 : decode cX12_slot 18 = .ok (.iload_n 2, 1) := by decide +kernel
theorem dX12_slot_19 : decode cX12_slot 19 = .ok (.aload_n 0, 1) := by decide +kernel
theorem dX12_slot_20 : decode cX12_slot 20 = .ok (.getfield 379, 3) := by decide +kernel
theorem dX12_slot_23 : decode cX12_slot 23 = .ok (.if_icmp .ge 12, 3) := by decide +kernel
theorem dX12_slot_26 : decode cX12_slot 26 = .ok (.iload_n 3, 1) := by decide +kernel
theorem dX12_slot_27 : decode cX12_slot 27 = .ok (.ifCond .lt 8, 3) := by decide +kernel
theorem dX12_slot_30 : decode cX12_slot 30 = .ok (.iload_n 3, 1) := by decide +kernel
theorem dX12_slot_31 : decode cX12_slot 31 = .ok (.iconst 3, 1) := by decide +kernel
theorem dX12_slot_32 : decode cX12_slot 32 = .ok (.if_icmp .le 5, 3) := by decide +kernel
theorem dX12_slot_35 : decode cX12_slot 35 = .ok (.iconst (-1), 1) := by decide +kernel
theorem dX12_slot_36 : decode cX12_slot 36 = .ok (.ireturn, 1) := by decide +kernel
theorem dX12_slot_37 : decode cX12_slot 37 = .ok (.bipush 10, 2) := by decide +kernel
theorem dX12_slot_39 : decode cX12_slot 39 = .ok (.iload_n 1, 1) := by decide +kernel
theorem dX12_slot_40 : decode cX12_slot 40 = .ok (.imul, 1) := by decide +kernel
theorem dX12_slot_41 : decode cX12_slot 41 = .ok (.iload_n 2, 1) := by decide +kernel
theorem dX12_slot_42 : decode cX12_slot 42 = .ok (.iadd, 1) := by decide +kernel
theorem dX12_slot_43 : decode cX12_slot 43 = .ok (.istore 4, 2) := by decide +kernel
theorem dX12_slot_45 : decode cX12_slot 45 = .ok (.aload_n 0, 1) := by decide +kernel
theorem dX12_slot_46 : decode cX12_slot 46 = .ok (.getfield 140, 3) := by decide +kernel
theorem dX12_slot_49 : decode cX12_slot 49 = .ok (.iload 4, 2) := by decide +kernel
theorem dX12_slot_51 : decode cX12_slot 51 = .ok (.iaload, 1) := by decide +kernel
theorem dX12_slot_52 : decode cX12_slot 52 = .ok (.iconst (-1), 1) := by decide +kernel
theorem dX12_slot_53 : decode cX12_slot 53 = .ok (.if_icmp .ne 14, 3) := by decide +kernel
theorem dX12_slot_56 : decode cX12_slot 56 = .ok (.iload_n 3, 1) := by decide +kernel
theorem dX12_slot_57 : decode cX12_slot 57 = .ok (.iconst 3, 1) := by decide +kernel
theorem dX12_slot_58 : decode cX12_slot 58 = .ok (.if_icmp .ne 7, 3) := by decide +kernel
theorem dX12_slot_61 : decode cX12_slot 61 = .ok (.iconst 0, 1) := by decide +kernel
theorem dX12_slot_62 : decode cX12_slot 62 = .ok (.goto 4, 3) := by decide +kernel
theorem dX12_slot_65 : decode cX12_slot 65 = .ok (.iconst (-1), 1) := by decide +kernel
theorem dX12_slot_66 : decode cX12_slot 66 = .ok (.ireturn, 1) := by decide +kernel
theorem dX12_slot_67 : decode cX12_slot 67 = .ok (.iload_n 3, 1) := by decide +kernel
theorem dX12_slot_68 : decode cX12_slot 68 = .ok (.tableswitch 52 0 2 #[28, 36, 44], 28) := by decide +kernel
theorem dX12_slot_96 : decode cX12_slot 96 = .ok (.aload_n 0, 1) := by decide +kernel
theorem dX12_slot_97 : decode cX12_slot 97 = .ok (.getfield 140, 3) := by decide +kernel
theorem dX12_slot_100 : decode cX12_slot 100 = .ok (.iload 4, 2) := by decide +kernel
theorem dX12_slot_102 : decode cX12_slot 102 = .ok (.iaload, 1) := by decide +kernel
theorem dX12_slot_103 : decode cX12_slot 103 = .ok (.ireturn, 1) := by decide +kernel
theorem dX12_slot_104 : decode cX12_slot 104 = .ok (.aload_n 0, 1) := by decide +kernel
theorem dX12_slot_105 : decode cX12_slot 105 = .ok (.getfield 143, 3) := by decide +kernel
theorem dX12_slot_108 : decode cX12_slot 108 = .ok (.iload 4, 2) := by decide +kernel
theorem dX12_slot_110 : decode cX12_slot 110 = .ok (.iaload, 1) := by decide +kernel
theorem dX12_slot_111 : decode cX12_slot 111 = .ok (.ireturn, 1) := by decide +kernel
theorem dX12_slot_112 : decode cX12_slot 112 = .ok (.aload_n 0, 1) := by decide +kernel
theorem dX12_slot_113 : decode cX12_slot 113 = .ok (.getfield 146, 3) := by decide +kernel
theorem dX12_slot_116 : decode cX12_slot 116 = .ok (.iload 4, 2) := by decide +kernel
theorem dX12_slot_118 : decode cX12_slot 118 = .ok (.iaload, 1) := by decide +kernel
theorem dX12_slot_119 : decode cX12_slot 119 = .ok (.ireturn, 1) := by decide +kernel
theorem dX12_slot_120 : decode cX12_slot 120 = .ok (.aload_n 0, 1) := by decide +kernel
theorem dX12_slot_121 : decode cX12_slot 121 = .ok (.getfield 149, 3) := by decide +kernel
theorem dX12_slot_124 : decode cX12_slot 124 = .ok (.iload 4, 2) := by decide +kernel
theorem dX12_slot_126 : decode cX12_slot 126 = .ok (.iaload, 1) := by decide +kernel
theorem dX12_slot_127 : decode cX12_slot 127 = .ok (.ireturn, 1) := by decide +kernel
theorem dX12_listeners_0 : decode cX12_listeners 0 = .ok (.aload_n 0, 1) := by decide +kernel
theorem dX12_listeners_1 : decode cX12_listeners 1 = .ok (.getfield 375, 3) := by decide +kernel
theorem dX12_listeners_4 : decode cX12_listeners 4 = .ok (.ifCond .eq 19, 3) := by decide +kernel
theorem dX12_listeners_7 : decode cX12_listeners 7 = .ok (.iload_n 1, 1) := by decide +kernel
theorem dX12_listeners_8 : decode cX12_listeners 8 = .ok (.invokestatic 310, 3) := by decide +kernel
theorem dX12_listeners_11 : decode cX12_listeners 11 = .ok (.ifCond .eq 12, 3) := by decide +kernel
theorem dX12_listeners_14 : decode cX12_listeners 14 = .ok (.aload_n 0, 1) := by decide +kernel
theorem dX12_listeners_15 : decode cX12_listeners 15 = .ok (.getfield 152, 3) := by decide +kernel
theorem dX12_listeners_18 : decode cX12_listeners 18 = .ok (.iload_n 1, 1) := by decide +kernel
theorem dX12_listeners_19 : decode cX12_listeners 19 = .ok (.iaload, 1) := by decide +kernel
theorem dX12_listeners_20 : decode cX12_listeners 20 = .ok (.goto 4, 3) := by decide +kernel
theorem dX12_listeners_23 : decode cX12_listeners 23 = .ok (.iconst (-1), 1) := by decide +kernel
theorem dX12_listeners_24 : decode cX12_listeners 24 = .ok (.ireturn, 1) := by decide +kernel
theorem dX12_count_0 : decode cX12_count 0 = .ok (.iload_n 1, 1) := by decide +kernel
theorem dX12_count_1 : decode cX12_count 1 = .ok (.tableswitch 92 0 7 #[47, 52, 57, 62, 67, 72, 82, 87], 47) := by decide +kernel
theorem dX12_count_48 : decode cX12_count 48 = .ok (.aload_n 0, 1) := by decide +kernel
theorem dX12_count_49 : decode cX12_count 49 = .ok (.getfield 280, 3) := by decide +kernel
theorem dX12_count_52 : decode cX12_count 52 = .ok (.ireturn, 1) := by decide +kernel
theorem dX12_count_53 : decode cX12_count 53 = .ok (.aload_n 0, 1) := by decide +kernel
theorem dX12_count_54 : decode cX12_count 54 = .ok (.getfield 283, 3) := by decide +kernel
theorem dX12_count_57 : decode cX12_count 57 = .ok (.ireturn, 1) := by decide +kernel
theorem dX12_count_58 : decode cX12_count 58 = .ok (.aload_n 0, 1) := by decide +kernel
theorem dX12_count_59 : decode cX12_count 59 = .ok (.getfield 289, 3) := by decide +kernel
theorem dX12_count_62 : decode cX12_count 62 = .ok (.ireturn, 1) := by decide +kernel
theorem dX12_count_63 : decode cX12_count 63 = .ok (.aload_n 0, 1) := by decide +kernel
theorem dX12_count_64 : decode cX12_count 64 = .ok (.getfield 295, 3) := by decide +kernel
theorem dX12_count_67 : decode cX12_count 67 = .ok (.ireturn, 1) := by decide +kernel
theorem dX12_count_68 : decode cX12_count 68 = .ok (.aload_n 0, 1) := by decide +kernel
theorem dX12_count_69 : decode cX12_count 69 = .ok (.getfield 286, 3) := by decide +kernel
theorem dX12_count_72 : decode cX12_count 72 = .ok (.ireturn, 1) := by decide +kernel
theorem dX12_count_73 : decode cX12_count 73 = .ok (.aload_n 0, 1) := by decide +kernel
theorem dX12_count_74 : decode cX12_count 74 = .ok (.getfield 40, 3) := by decide +kernel
theorem dX12_count_77 : decode cX12_count 77 = .ok (.aload_n 0, 1) := by decide +kernel
theorem dX12_count_78 : decode cX12_count 78 = .ok (.getfield 245, 3) := by decide +kernel
theorem dX12_count_81 : decode cX12_count 81 = .ok (.iaload, 1) := by decide +kernel
theorem dX12_count_82 : decode cX12_count 82 = .ok (.ireturn, 1) := by decide +kernel
theorem dX12_count_83 : decode cX12_count 83 = .ok (.aload_n 0, 1) := by decide +kernel
theorem dX12_count_84 : decode cX12_count 84 = .ok (.getfield 301, 3) := by decide +kernel
theorem dX12_count_87 : decode cX12_count 87 = .ok (.ireturn, 1) := by decide +kernel
theorem dX12_count_88 : decode cX12_count 88 = .ok (.aload_n 0, 1) := by decide +kernel
theorem dX12_count_89 : decode cX12_count 89 = .ok (.getfield 177, 3) := by decide +kernel
theorem dX12_count_92 : decode cX12_count 92 = .ok (.ireturn, 1) := by decide +kernel
theorem dX12_count_93 : decode cX12_count 93 = .ok (.iconst (-1), 1) := by decide +kernel
theorem dX12_count_94 : decode cX12_count 94 = .ok (.ireturn, 1) := by decide +kernel
