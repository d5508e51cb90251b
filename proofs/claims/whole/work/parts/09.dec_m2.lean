theorem dX12_report_75 : decode cX12_report 75 = .ok (.aload_n 0, 1) := by decide +kernel
theorem dX12_report_76 : decode cX12_report 76 = .ok (.getfield 301, 3) := by decide +kernel
theorem dX12_report_79 : decode cX12_report 79 = .ok (.iastore, 1) := by decide +kernel
theorem dX12_report_80 : decode cX12_report 80 = .ok (.aload_n 0, 1) := by decide +kernel
theorem dX12_report_81 : decode cX12_report 81 = .ok (.getfield 116, 3) := by decide +kernel
theorem dX12_report_84 : decode cX12_report 84 = .ok (.aload_n 0, 1) := by decide +kernel
theorem dX12_report_85 : decode cX12_report 85 = .ok (.getfield 286, 3) := by decide +kernel
theorem dX12_report_88 : decode cX12_report 88 = .ok (.iload_n 1, 1) := by decide +kernel
theorem dX12_report_89 : decode cX12_report 89 = .ok (.iastore, 1) := by decide +kernel
theorem dX12_report_90 : decode cX12_report 90 = .ok (.aload_n 0, 1) := by decide +kernel
theorem dX12_report_91 : decode cX12_report 91 = .ok (.getfield 119, 3) := by decide +kernel
theorem dX12_report_94 : decode cX12_report 94 = .ok (.aload_n 0, 1) := by decide +kernel
theorem dX12_report_95 : decode cX12_report 95 = .ok (.getfield 286, 3) := by decide +kernel
theorem dX12_report_98 : decode cX12_report 98 = .ok (.iload_n 2, 1) := by decide +kernel
theorem dX12_report_99 : decode cX12_report 99 = .ok (.iastore, 1) := by decide +kernel
theorem dX12_report_100 : decode cX12_report 100 = .ok (.aload_n 0, 1) := by decide +kernel
theorem dX12_report_101 : decode cX12_report 101 = .ok (.getfield 122, 3) := by decide +kernel
theorem dX12_report_104 : decode cX12_report 104 = .ok (.aload_n 0, 1) := by decide +kernel
theorem dX12_report_105 : decode cX12_report 105 = .ok (.getfield 286, 3) := by decide +kernel
theorem dX12_report_108 : decode cX12_report 108 = .ok (.iload_n 3, 1) := by decide +kernel
theorem dX12_report_109 : decode cX12_report 109 = .ok (.iastore, 1) := by decide +kernel
theorem dX12_report_110 : decode cX12_report 110 = .ok (.aload_n 0, 1) := by decide +kernel
theorem dX12_report_111 : decode cX12_report 111 = .ok (.getfield 125, 3) := by decide +kernel
theorem dX12_report_114 : decode cX12_report 114 = .ok (.aload_n 0, 1) := by decide +kernel
theorem dX12_report_115 : decode cX12_report 115 = .ok (.getfield 286, 3) := by decide +kernel
theorem dX12_report_118 : decode cX12_report 118 = .ok (.iload 4, 2) := by decide +kernel
theorem dX12_report_120 : decode cX12_report 120 = .ok (.iastore, 1) := by decide +kernel
theorem dX12_report_121 : decode cX12_report 121 = .ok (.aload_n 0, 1) := by decide +kernel
theorem dX12_report_122 : decode cX12_report 122 = .ok (.getfield 131, 3) := by decide +kernel
theorem dX12_report_125 : decode cX12_report 125 = .ok (.aload_n 0, 1) := by decide +kernel
theorem dX12_report_126 : decode cX12_report 126 = .ok (.getfield 286, 3) := by decide +kernel
theorem dX12_report_129 : decode cX12_report 129 = .ok (.iload 5, 2) := by decide +kernel
theorem dX12_report_131 : decode cX12_report 131 = .ok (.iastore, 1) := by decide +kernel
theorem dX12_report_132 : decode cX12_report 132 = .ok (.aload_n 0, 1) := by decide +kernel
theorem dX12_report_133 : decode cX12_report 133 = .ok (.dup, 1) := by decide +kernel
theorem dX12_report_134 : decode cX12_report 134 = .ok (.getfield 286, 3) := by decide +kernel
theorem dX12_report_137 : decode cX12_report 137 = .ok (.iconst 1, 1) := by decide +kernel
theorem dX12_report_138 : decode cX12_report 138 = .ok (.iadd, 1) := by decide +kernel
theorem dX12_report_139 : decode cX12_report 139 = .ok (.putfield 286, 3) := by decide +kernel
theorem dX12_report_142 : decode cX12_report 142 = .ok (.aload_n 0, 1) := by decide +kernel
theorem dX12_report_143 : decode cX12_report 143 = .ok (.getfield 286, 3) := by decide +kernel
theorem dX12_report_146 : decode cX12_report 146 = .ok (.iconst 1, 1) := by decide +kernel
theorem dX12_report_147 : decode cX12_report 147 = .ok (.isub, 1) := by decide +kernel
theorem dX12_report_148 : decode cX12_report 148 = .ok (.ireturn, 1) := by decide +kernel
theorem dX12_notice_0 : decode cX12_notice 0 = .ok (.aload_n 0, 1) := by decide +kernel
theorem dX12_notice_1 : decode cX12_notice 1 = .ok (.getfield 286, 3) := by decide +kernel
theorem dX12_notice_4 : decode cX12_notice 4 = .ok (.sipush 300, 3) := by decide +kernel
theorem dX12_notice_7 : decode cX12_notice 7 = .ok (.if_icmp .eq 42, 3) := by decide +kernel
theorem dX12_notice_10 : decode cX12_notice 10 = .ok (.iload_n 1, 1) := by decide +kernel
theorem dX12_notice_11 : decode cX12_notice 11 = .ok (.invokestatic 307, 3) := by decide +kernel
theorem dX12_notice_14 : decode cX12_notice 14 = .ok (.ifCond .eq 35, 3) := by decide +kernel
theorem dX12_notice_17 : decode cX12_notice 17 = .ok (.aload_n 0, 1) := by decide +kernel
theorem dX12_notice_18 : decode cX12_notice 18 = .ok (.iload 4, 2) := by decide +kernel
theorem dX12_notice_20 : decode cX12_notice 20 = .ok (.invokevirtual 298, 3) := by decide +kernel
theorem dX12_notice_23 : decode cX12_notice 23 = .ok (.ifCond .eq 26, 3) := by decide +kernel
theorem dX12_notice_26 : decode cX12_notice 26 = .ok (.iload 5, 2) := by decide +kernel
theorem dX12_notice_28 : decode cX12_notice 28 = .ok (.invokestatic 304, 3) := by decide +kernel
theorem dX12_notice_31 : decode cX12_notice 31 = .ok (.ifCond .eq 18, 3) := by decide +kernel
theorem dX12_notice_34 : decode cX12_notice 34 = .ok (.iload_n 2, 1) := by decide +kernel
theorem dX12_notice_35 : decode cX12_notice 35 = .ok (.ifCond .lt 14, 3) := by decide +kernel
theorem dX12_notice_38 : decode cX12_notice 38 = .ok (.iload_n 2, 1) := by decide +kernel
theorem dX12_notice_39 : decode cX12_notice 39 = .ok (.iload_n 3, 1) := by decide +kernel
theorem dX12_notice_40 : decode cX12_notice 40 = .ok (.if_icmp .ge 9, 3) := by decide +kernel
theorem dX12_notice_43 : decode cX12_notice 43 = .ok (.iload_n 3, 1) := by decide +kernel
theorem dX12_notice_44 : decode cX12_notice 44 = .ok (.bipush 24, 2) := by decide +kernel
theorem dX12_notice_46 : decode cX12_notice 46 = .ok (.if_icmp .le 5, 3) := by decide +kernel
theorem dX12_notice_49 : decode cX12_notice 49 = .ok (.iconst (-1), 1) := by decide +kernel
theorem dX12_notice_50 : decode cX12_notice 50 = .ok (.ireturn, 1) := by decide +kernel
theorem dX12_notice_51 : decode cX12_notice 51 = .ok (.aload_n 0, 1) := by decide +kernel
theorem dX12_notice_52 : decode cX12_notice 52 = .ok (.getfield 110, 3) := by decide +kernel
theorem dX12_notice_55 : decode cX12_notice 55 = .ok (.aload_n 0, 1) := by decide +kernel
theorem dX12_notice_56 : decode cX12_notice 56 = .ok (.getfield 286, 3) := by decide +kernel
theorem dX12_notice_59 : decode cX12_notice 59 = .ok (.iconst 1, 1) := by decide +kernel
theorem dX12_notice_60 : decode cX12_notice 60 = .ok (.bastore, 1) := by decide +kernel
theorem dX12_notice_61 : decode cX12_notice 61 = .ok (.aload_n 0, 1) := by decide +kernel
theorem dX12_notice_62 : decode cX12_notice 62 = .ok (.getfield 113, 3) := by decide +kernel
theorem dX12_notice_65 : decode cX12_notice 65 = .ok (.aload_n 0, 1) := by decide +kernel
theorem dX12_notice_66 : decode cX12_notice 66 = .ok (.getfield 286, 3) := by decide +kernel
theorem dX12_notice_69 : decode cX12_notice 69 = .ok (.iload 5, 2) := by decide +kernel
theorem dX12_notice_71 : decode cX12_notice 71 = .ok (.iastore, 1) := by decide +kernel
theorem dX12_notice_72 : decode cX12_notice 72 = .ok (.aload_n 0, 1) := by decide +kernel
theorem dX12_notice_73 : decode cX12_notice 73 = .ok (.getfield 122, 3) := by decide +kernel
theorem dX12_notice_76 : decode cX12_notice 76 = .ok (.aload_n 0, 1) := by decide +kernel
theorem dX12_notice_77 : decode cX12_notice 77 = .ok (.getfield 286, 3) := by decide +kernel
theorem dX12_notice_80 : decode cX12_notice 80 = .ok (.iload_n 1, 1) := by decide +kernel
theorem dX12_notice_81 : decode cX12_notice 81 = .ok (.iastore, 1) := by decide +kernel
theorem dX12_notice_82 : decode cX12_notice 82 = .ok (.aload_n 0, 1) := by decide +kernel
theorem dX12_notice_83 : decode cX12_notice 83 = .ok (.getfield 125, 3) := by decide +kernel
theorem dX12_notice_86 : decode cX12_notice 86 = .ok (.aload_n 0, 1) := by decide +kernel
theorem dX12_notice_87 : decode cX12_notice 87 = .ok (.getfield 286, 3) := by decide +kernel
theorem dX12_notice_90 : decode cX12_notice 90 = .ok (.iload_n 2, 1) := by decide +kernel
theorem dX12_notice_91 : decode cX12_notice 91 = .ok (.iastore, 1) := by decide +kernel
theorem dX12_notice_92 : decode cX12_notice 92 = .ok (.aload_n 0, 1) := by decide +kernel
theorem dX12_notice_93 : decode cX12_notice 93 = .ok (.getfield 128, 3) := by decide +kernel
theorem dX12_notice_96 : decode cX12_notice 96 = .ok (.aload_n 0, 1) := by decide +kernel
theorem dX12_notice_97 : decode cX12_notice 97 = .ok (.getfield 286, 3) := by decide +kernel
theorem dX12_notice_100 : decode cX12_notice 100 = .ok (.iload_n 3, 1) := by decide +kernel
theorem dX12_notice_101 : decode cX12_notice 101 = .ok (.iastore, 1) := by decide +kernel
theorem dX12_notice_102 : decode cX12_notice 102 = .ok (.aload_n 0, 1) := by decide +kernel
theorem dX12_notice_103 : decode cX12_notice 103 = .ok (.getfield 119, 3) := by decide +kernel
theorem dX12_notice_106 : decode cX12_notice 106 = .ok (.aload_n 0, 1) := by decide +kernel
theorem dX12_notice_107 : decode cX12_notice 107 = .ok (.getfield 286, 3) := by decide +kernel
theorem dX12_notice_110 : decode cX12_notice 110 = .ok (.iload 4, 2) := by decide +kernel
theorem dX12_notice_112 : decode cX12_notice 112 = .ok (.iastore, 1) := by decide +kernel
theorem dX12_notice_113 : decode cX12_notice 113 = .ok (.aload_n 0, 1) := by decide +kernel
theorem dX12_notice_114 : decode cX12_notice 114 = .ok (.dup, 1) := by decide +kernel
theorem dX12_notice_115 : decode cX12_notice 115 = .ok (.getfield 286, 3) := by decide +kernel
theorem dX12_notice_118 : decode cX12_notice 118 = .ok (.iconst 1, 1) := by decide +kernel
theorem dX12_notice_119 : decode cX12_notice 119 = .ok (.iadd, 1) := by decide +kernel
theorem dX12_notice_120 : decode cX12_notice 120 = .ok (.putfield 286, 3) := by decide +kernel
theorem dX12_notice_123 : decode cX12_notice 123 = .ok (.aload_n 0, 1) := by decide +kernel
theorem dX12_notice_124 : decode cX12_notice 124 = .ok (.getfield 286, 3) := by decide +kernel
theorem dX12_notice_127 : decode cX12_notice 127 = .ok (.iconst 1, 1) := by decide +kernel
theorem dX12_notice_128 : decode cX12_notice 128 = .ok (.isub, 1) := by decide +kernel
theorem dX12_notice_129 : decode cX12_notice 129 = .ok (.ireturn, 1) := by decide +kernel
theorem dX12_goes_0 : decode cX12_goes 0 = .ok (.aload_n 0, 1) := by decide +kernel
theorem dX12_goes_1 : decode cX12_goes 1 = .ok (.getfield 80, 3) := by decide +kernel
theorem dX12_goes_4 : decode cX12_goes 4 = .ok (.iload_n 2, 1) := by decide +kernel
theorem dX12_goes_5 : decode cX12_goes 5 = .ok (.iaload, 1) := by decide +kernel
theorem dX12_goes_6 : decode cX12_goes 6 = .ok (.aload_n 0, 1) := by decide +kernel
theorem dX12_goes_7 : decode cX12_goes 7 = .ok (.getfield 80, 3) := by decide +kernel
theorem dX12_goes_10 : decode cX12_goes 10 = .ok (.iload_n 1, 1) := by decide +kernel
theorem dX12_goes_11 : decode cX12_goes 11 = .ok (.iaload, 1) := by decide +kernel
theorem dX12_goes_12 : decode cX12_goes 12 = .ok (.isub, 1) := by decide +kernel
theorem dX12_goes_13 : decode cX12_goes 13 = .ok (.bipush 24, 2) := by decide +kernel
theorem dX12_goes_15 : decode cX12_goes 15 = .ok (.iadd, 1) := by decide +kernel
theorem dX12_goes_16 : decode cX12_goes 16 = .ok (.bipush 24, 2) := by decide +kernel
theorem dX12_goes_18 : decode cX12_goes 18 = .ok (.irem, 1) := by decide +kernel
theorem dX12_goes_19 : decode cX12_goes 19 = .ok (.istore_n 3, 1) := by decide +kernel
theorem dX12_goes_20 : decode cX12_goes 20 = .ok (.iload_n 3, 1) := by decide +kernel
theorem dX12_goes_21 : decode cX12_goes 21 = .ok (.bipush 12, 2) := by decide +kernel
theorem dX12_goes_23 : decode cX12_goes 23 = .ok (.if_icmp .le 10, 3) := by decide +kernel
theorem dX12_goes_26 : decode cX12_goes 26 = .ok (.bipush 24, 2) := by decide +kernel
theorem dX12_goes_28 : decode cX12_goes 28 = .ok (.iload_n 3, 1) := by decide +kernel
theorem dX12_goes_29 : decode cX12_goes 29 = .ok (.isub, 1) := by decide +kernel
theorem dX12_goes_30 : decode cX12_goes 30 = .ok (.goto 4, 3) := by decide +kernel
theorem dX12_goes_33 : decode cX12_goes 33 = .ok (.iload_n 3, 1) := by decide +kernel
theorem dX12_goes_34 : decode cX12_goes 34 = .ok (.istore 4, 2) := by decide +kernel
theorem dX12_goes_36 : decode cX12_goes 36 = .ok (.aload_n 0, 1) := by decide +kernel
theorem dX12_goes_37 : decode cX12_goes 37 = .ok (.getfield 83, 3) := by decide +kernel
theorem dX12_goes_40 : decode cX12_goes 40 = .ok (.iload_n 2, 1) := by decide +kernel
theorem dX12_goes_41 : decode cX12_goes 41 = .ok (.iaload, 1) := by decide +kernel
theorem dX12_goes_42 : decode cX12_goes 42 = .ok (.aload_n 0, 1) := by decide +kernel
theorem dX12_goes_43 : decode cX12_goes 43 = .ok (.getfield 83, 3) := by decide +kernel
theorem dX12_goes_46 : decode cX12_goes 46 = .ok (.iload_n 1, 1) := by decide +kernel
theorem dX12_goes_47 : decode cX12_goes 47 = .ok (.iaload, 1) := by decide +kernel
theorem dX12_goes_48 : decode cX12_goes 48 = .ok (.if_icmp .le 19, 3) := by decide +kernel
theorem dX12_goes_51 : decode cX12_goes 51 = .ok (.aload_n 0, 1) := by decide +kernel
theorem dX12_goes_52 : decode cX12_goes 52 = .ok (.getfield 83, 3) := by decide +kernel
theorem dX12_goes_55 : decode cX12_goes 55 = .ok (.iload_n 2, 1) := by decide +kernel
theorem dX12_goes_56 : decode cX12_goes 56 = .ok (.iaload, 1) := by decide +kernel
theorem dX12_goes_57 : decode cX12_goes 57 = .ok (.aload_n 0, 1) := by decide +kernel
theorem dX12_goes_58 : decode cX12_goes 58 = .ok (.getfield 83, 3) := by decide +kernel
theorem dX12_goes_61 : decode cX12_goes 61 = .ok (.iload_n 1, 1) := by decide +kernel
theorem dX12_goes_62 : decode cX12_goes 62 = .ok (.iaload, 1) := by decide +kernel
theorem dX12_goes_63 : decode cX12_goes 63 = .ok (.isub, 1) := by decide +kernel
theorem dX12_goes_64 : decode cX12_goes 64 = .ok (.goto 16, 3) := by decide +kernel
theorem dX12_goes_67 : decode cX12_goes 67 = .ok (.aload_n 0, 1) := by decide +kernel
theorem dX12_goes_68 : decode cX12_goes 68 = .ok (.getfield 83, 3) := by decide +kernel
theorem dX12_goes_71 : decode cX12_goes 71 = .ok (.iload_n 1, 1) := by decide +kernel
theorem dX12_goes_72 : decode cX12_goes 72 = .ok (.iaload, 1) := by decide +kernel
theorem dX12_goes_73 : decode cX12_goes 73 = .ok (.aload_n 0, 1) := by decide +kernel
theorem dX12_goes_74 : decode cX12_goes 74 = .ok (.getfield 83, 3) := by decide +kernel
theorem dX12_goes_77 : decode cX12_goes 77 = .ok (.iload_n 2, 1) := by decide +kernel
theorem dX12_goes_78 : decode cX12_goes 78 = .ok (.iaload, 1) := by decide +kernel
theorem dX12_goes_79 : decode cX12_goes 79 = .ok (.isub, 1) := by decide +kernel
theorem dX12_goes_80 : decode cX12_goes 80 = .ok (.istore 5, 2) := by decide +kernel
theorem dX12_goes_82 : decode cX12_goes 82 = .ok (.aload_n 0, 1) := by decide +kernel
theorem dX12_goes_83 : decode cX12_goes 83 = .ok (.getfield 83, 3) := by decide +kernel
theorem dX12_goes_86 : decode cX12_goes 86 = .ok (.iload_n 1, 1) := by decide +kernel
theorem dX12_goes_87 : decode cX12_goes 87 = .ok (.iaload, 1) := by decide +kernel
theorem dX12_goes_88 : decode cX12_goes 88 = .ok (.aload_n 0, 1) := by decide +kernel
theorem dX12_goes_89 : decode cX12_goes 89 = .ok (.getfield 83, 3) := by decide +kernel
theorem dX12_goes_92 : decode cX12_goes 92 = .ok (.iload_n 2, 1) := by decide +kernel
theorem dX12_goes_93 : decode cX12_goes 93 = .ok (.iaload, 1) := by decide +kernel
theorem dX12_goes_94 : decode cX12_goes 94 = .ok (.iadd, 1) := by decide +kernel
theorem dX12_goes_95 : decode cX12_goes 95 = .ok (.iconst 1, 1) := by decide +kernel
theorem dX12_goes_96 : decode cX12_goes 96 = .ok (.iadd, 1) := by decide +kernel
theorem dX12_goes_97 : decode cX12_goes 97 = .ok (.bipush 12, 2) := by decide +kernel
theorem dX12_goes_99 : decode cX12_goes 99 = .ok (.iadd, 1) := by decide +kernel
theorem dX12_goes_100 : decode cX12_goes 100 = .ok (.iload 4, 2) := by decide +kernel
theorem dX12_goes_102 : decode cX12_goes 102 = .ok (.isub, 1) := by decide +kernel
theorem dX12_goes_103 : decode cX12_goes 103 = .ok (.istore 6, 2) := by decide +kernel
theorem dX12_goes_105 : decode cX12_goes 105 = .ok (.bipush 12, 2) := by decide +kernel
theorem dX12_goes_107 : decode cX12_goes 107 = .ok (.aload_n 0, 1) := by decide +kernel
theorem dX12_goes_108 : decode cX12_goes 108 = .ok (.getfield 83, 3) := by decide +kernel
theorem dX12_goes_111 : decode cX12_goes 111 = .ok (.iload_n 1, 1) := by decide +kernel
theorem dX12_goes_112 : decode cX12_goes 112 = .ok (.iaload, 1) := by decide +kernel
theorem dX12_goes_113 : decode cX12_goes 113 = .ok (.isub, 1) := by decide +kernel
theorem dX12_goes_114 : decode cX12_goes 114 = .ok (.aload_n 0, 1) := by decide +kernel
theorem dX12_goes_115 : decode cX12_goes 115 = .ok (.getfield 83, 3) := by decide +kernel
theorem dX12_goes_118 : decode cX12_goes 118 = .ok (.iload_n 2, 1) := by decide +kernel
theorem dX12_goes_119 : decode cX12_goes 119 = .ok (.iaload, 1) := by decide +kernel
theorem dX12_goes_120 : decode cX12_goes 120 = .ok (.isub, 1) := by decide +kernel
theorem dX12_goes_121 : decode cX12_goes 121 = .ok (.iconst 1, 1) := by decide +kernel
theorem dX12_goes_122 : decode cX12_goes 122 = .ok (.iadd, 1) := by decide +kernel
theorem dX12_goes_123 : decode cX12_goes 123 = .ok (.bipush 12, 2) := by decide +kernel
theorem dX12_goes_125 : decode cX12_goes 125 = .ok (.iadd, 1) := by decide +kernel
theorem dX12_goes_126 : decode cX12_goes 126 = .ok (.iload 4, 2) := by decide +kernel
theorem dX12_goes_128 : decode cX12_goes 128 = .ok (.isub, 1) := by decide +kernel
theorem dX12_goes_129 : decode cX12_goes 129 = .ok (.istore 7, 2) := by decide +kernel
theorem dX12_goes_131 : decode cX12_goes 131 = .ok (.aload_n 0, 1) := by decide +kernel
theorem dX12_goes_132 : decode cX12_goes 132 = .ok (.iload 4, 2) := by decide +kernel
theorem dX12_goes_134 : decode cX12_goes 134 = .ok (.iload 5, 2) := by decide +kernel
theorem dX12_goes_136 : decode cX12_goes 136 = .ok (.iadd, 1) := by decide +kernel
theorem dX12_goes_137 : decode cX12_goes 137 = .ok (.putfield 313, 3) := by decide +kernel
theorem dX12_goes_140 : decode cX12_goes 140 = .ok (.aload_n 0, 1) := by decide +kernel
theorem dX12_goes_141 : decode cX12_goes 141 = .ok (.iconst 0, 1) := by decide +kernel
theorem dX12_goes_142 : decode cX12_goes 142 = .ok (.putfield 316, 3) := by decide +kernel
theorem dX12_goes_145 : decode cX12_goes 145 = .ok (.iload 6, 2) := by decide +kernel
theorem dX12_goes_147 : decode cX12_goes 147 = .ok (.aload_n 0, 1) := by decide +kernel
theorem dX12_goes_148 : decode cX12_goes 148 = .ok (.getfield 313, 3) := by decide +kernel
theorem dX12_goes_151 : decode cX12_goes 151 = .ok (.if_icmp .ge 14, 3) := by decide +kernel
theorem dX12_goes_154 : decode cX12_goes 154 = .ok (.aload_n 0, 1) := by decide +kernel
theorem dX12_goes_155 : decode cX12_goes 155 = .ok (.iload 6, 2) := by decide +kernel
theorem dX12_goes_157 : decode cX12_goes 157 = .ok (.putfield 313, 3) := by decide +kernel
theorem dX12_goes_160 : decode cX12_goes 160 = .ok (.aload_n 0, 1) := by decide +kernel
theorem dX12_goes_161 : decode cX12_goes 161 = .ok (.iconst 1, 1) := by decide +kernel
theorem dX12_goes_162 : decode cX12_goes 162 = .ok (.putfield 316, 3) := by decide +kernel
theorem dX12_goes_165 : decode cX12_goes 165 = .ok (.iload 7, 2) := by decide +kernel
theorem dX12_goes_167 : decode cX12_goes 167 = .ok (.aload_n 0, 1) := by decide +kernel
theorem dX12_goes_168 : decode cX12_goes 168 = .ok (.getfield 313, 3) := by decide +kernel
theorem dX12_goes_171 : decode cX12_goes 171 = .ok (.if_icmp .ge 14, 3) := by decide +kernel
theorem dX12_goes_174 : decode cX12_goes 174 = .ok (.aload_n 0, 1) := by decide +kernel
theorem dX12_goes_175 : decode cX12_goes 175 = .ok (.iload 7, 2) := by decide +kernel
theorem dX12_goes_177 : decode cX12_goes 177 = .ok (.putfield 313, 3) := by decide +kernel
theorem dX12_goes_180 : decode cX12_goes 180 = .ok (.aload_n 0, 1) := by decide +kernel
theorem dX12_goes_181 : decode cX12_goes 181 = .ok (.iconst 2, 1) := by decide +kernel
theorem dX12_goes_182 : decode cX12_goes 182 = .ok (.putfield 316, 3) := by decide +kernel
theorem dX12_goes_185 : decode cX12_goes 185 = .ok (.aload_n 0, 1) := by decide +kernel
theorem dX12_goes_186 : decode cX12_goes 186 = .ok (.aload_n 0, 1) := by decide +kernel
theorem dX12_goes_187 : decode cX12_goes 187 = .ok (.getfield 316, 3) := by decide +kernel
theorem dX12_goes_190 : decode cX12_goes 190 = .ok (.iconst 2, 1) := by decide +kernel
theorem dX12_goes_191 : decode cX12_goes 191 = .ok (.if_icmp .ne 7, 3) := by decide +kernel
theorem dX12_goes_194 : decode cX12_goes 194 = .ok (.iconst 4, 1) := by decide +kernel
theorem dX12_goes_195 : decode cX12_goes 195 = .ok (.goto 4, 3) := by decide +kernel
theorem dX12_goes_198 : decode cX12_goes 198 = .ok (.iconst 0, 1) := by decide +kernel
theorem dX12_goes_199 : decode cX12_goes 199 = .ok (.putfield 319, 3) := by decide +kernel
theorem dX12_goes_202 : decode cX12_goes 202 = .ok (.aload_n 0, 1) := by decide +kernel
theorem dX12_goes_203 : decode cX12_goes 203 = .ok (.getfield 316, 3) := by decide +kernel
theorem dX12_goes_206 : decode cX12_goes 206 = .ok (.ifCond .le 4, 3) := by decide +kernel
theorem dX12_goes_209 : decode cX12_goes 209 = .ok (.return_, 1) := by decide +kernel
theorem dX12_goes_210 : decode cX12_goes 210 = .ok (.iload_n 3, 1) := by decide +kernel
theorem dX12_goes_211 : decode cX12_goes 211 = .ok (.ifCond .ne 7, 3) := by decide +kernel
theorem dX12_goes_214 : decode cX12_goes 214 = .ok (.iconst 0, 1) := by decide +kernel
theorem dX12_goes_215 : decode cX12_goes 215 = .ok (.goto 14, 3) := by decide +kernel
theorem dX12_goes_218 : decode cX12_goes 218 = .ok (.iload_n 3, 1) := by decide +kernel
theorem dX12_goes_219 : decode cX12_goes 219 = .ok (.bipush 12, 2) := by decide +kernel
theorem dX12_goes_221 : decode cX12_goes 221 = .ok (.if_icmp .gt 7, 3) := by decide +kernel
theorem dX12_goes_224 : decode cX12_goes 224 = .ok (.iconst 1, 1) := by decide +kernel
theorem dX12_goes_225 : decode cX12_goes 225 = .ok (.goto 4, 3) := by decide +kernel
theorem dX12_goes_228 : decode cX12_goes 228 = .ok (.iconst 2, 1) := by decide +kernel
theorem dX12_goes_229 : decode cX12_goes 229 = .ok (.istore 8, 2) := by decide +kernel
theorem dX12_goes_231 : decode cX12_goes 231 = .ok (.aload_n 0, 1) := by decide +kernel
theorem dX12_goes_232 : decode cX12_goes 232 = .ok (.getfield 83, 3) := by decide +kernel
theorem dX12_goes_235 : decode cX12_goes 235 = .ok (.iload_n 2, 1) := by decide +kernel
theorem dX12_goes_236 : decode cX12_goes 236 = .ok (.iaload, 1) := by decide +kernel
theorem dX12_goes_237 : decode cX12_goes 237 = .ok (.aload_n 0, 1) := by decide +kernel
theorem dX12_goes_238 : decode cX12_goes 238 = .ok (.getfield 83, 3) := by decide +kernel
theorem dX12_goes_241 : decode cX12_goes 241 = .ok (.iload_n 1, 1) := by decide +kernel
theorem dX12_goes_242 : decode cX12_goes 242 = .ok (.iaload, 1) := by decide +kernel
theorem dX12_goes_243 : decode cX12_goes 243 = .ok (.if_icmp .ge 7, 3) := by decide +kernel
theorem dX12_goes_246 : decode cX12_goes 246 = .ok (.iconst 1, 1) := by decide +kernel
theorem dX12_goes_247 : decode cX12_goes 247 = .ok (.goto 23, 3) := by decide +kernel
theorem dX12_goes_250 : decode cX12_goes 250 = .ok (.aload_n 0, 1) := by decide +kernel
theorem dX12_goes_251 : decode cX12_goes 251 = .ok (.getfield 83, 3) := by decide +kernel
theorem dX12_goes_254 : decode cX12_goes 254 = .ok (.iload_n 2, 1) := by decide +kernel
theorem dX12_goes_255 : decode cX12_goes 255 = .ok (.iaload, 1) := by decide +kernel
theorem dX12_goes_256 : decode cX12_goes 256 = .ok (.aload_n 0, 1) := by decide +kernel
theorem dX12_goes_257 : decode cX12_goes 257 = .ok (.getfield 83, 3) := by decide +kernel
theorem dX12_goes_260 : decode cX12_goes 260 = .ok (.iload_n 1, 1) := by decide +kernel
theorem dX12_goes_261 : decode cX12_goes 261 = .ok (.iaload, 1) := by decide +kernel
theorem dX12_goes_262 : decode cX12_goes 262 = .ok (.if_icmp .le 7, 3) := by decide +kernel
theorem dX12_goes_265 : decode cX12_goes 265 = .ok (.iconst 2, 1) := by decide +kernel
theorem dX12_goes_266 : decode cX12_goes 266 = .ok (.goto 4, 3) := by decide +kernel
theorem dX12_goes_269 : decode cX12_goes 269 = .ok (.iconst 0, 1) := by decide +kernel
theorem dX12_goes_270 : decode cX12_goes 270 = .ok (.istore 9, 2) := by decide +kernel
theorem dX12_goes_272 : decode cX12_goes 272 = .ok (.iload 8, 2) := by decide +kernel
theorem dX12_goes_274 : decode cX12_goes 274 = .ok (.ifCond .ne 21, 3) := by decide +kernel
theorem dX12_goes_277 : decode cX12_goes 277 = .ok (.aload_n 0, 1) := by decide +kernel
theorem dX12_goes_278 : decode cX12_goes 278 = .ok (.iload 9, 2) := by decide +kernel
theorem dX12_goes_280 : decode cX12_goes 280 = .ok (.iconst 2, 1) := by decide +kernel
theorem dX12_goes_281 : decode cX12_goes 281 = .ok (.if_icmp .ne 7, 3) := by decide +kernel
theorem dX12_goes_284 : decode cX12_goes 284 = .ok (.iconst 4, 1) := by decide +kernel
theorem dX12_goes_285 : decode cX12_goes 285 = .ok (.goto 4, 3) := by decide +kernel
theorem dX12_goes_288 : decode cX12_goes 288 = .ok (.iconst 0, 1) := by decide +kernel
theorem dX12_goes_289 : decode cX12_goes 289 = .ok (.putfield 319, 3) := by decide +kernel
theorem dX12_goes_292 : decode cX12_goes 292 = .ok (.goto 64, 3) := by decide +kernel
theorem dX12_goes_295 : decode cX12_goes 295 = .ok (.iload 8, 2) := by decide +kernel
theorem dX12_goes_297 : decode cX12_goes 297 = .ok (.iconst 1, 1) := by decide +kernel
theorem dX12_goes_298 : decode cX12_goes 298 = .ok (.if_icmp .ne 31, 3) := by decide +kernel
theorem dX12_goes_301 : decode cX12_goes 301 = .ok (.aload_n 0, 1) := by decide +kernel
theorem dX12_goes_302 : decode cX12_goes 302 = .ok (.iload 9, 2) := by decide +kernel
theorem dX12_goes_304 : decode cX12_goes 304 = .ok (.iconst 1, 1) := by decide +kernel
theorem dX12_goes_305 : decode cX12_goes 305 = .ok (.if_icmp .ne 7, 3) := by decide +kernel
theorem dX12_goes_308 : decode cX12_goes 308 = .ok (.iconst 1, 1) := by decide +kernel
theorem dX12_goes_309 : decode cX12_goes 309 = .ok (.goto 14, 3) := by decide +kernel
theorem dX12_goes_312 : decode cX12_goes 312 = .ok (.iload 9, 2) := by decide +kernel
theorem dX12_goes_314 : decode cX12_goes 314 = .ok (.iconst 2, 1) := by decide +kernel
theorem dX12_goes_315 : decode cX12_goes 315 = .ok (.if_icmp .ne 7, 3) := by decide +kernel
theorem dX12_goes_318 : decode cX12_goes 318 = .ok (.iconst 3, 1) := by decide +kernel
theorem dX12_goes_319 : decode cX12_goes 319 = .ok (.goto 4, 3) := by decide +kernel
theorem dX12_goes_322 : decode cX12_goes 322 = .ok (.iconst 2, 1) := by decide +kernel
theorem dX12_goes_323 : decode cX12_goes 323 = .ok (.putfield 319, 3) := by decide +kernel
theorem dX12_goes_326 : decode cX12_goes 326 = .ok (.goto 30, 3) := by decide +kernel
theorem dX12_goes_329 : decode cX12_goes 329 = .ok (.aload_n 0, 1) := by decide +kernel
theorem dX12_goes_330 : decode cX12_goes 330 = .ok (.iload 9, 2) := by decide +kernel
theorem dX12_goes_332 : decode cX12_goes 332 = .ok (.iconst 1, 1) := by decide +kernel
theorem dX12_goes_333 : decode cX12_goes 333 = .ok (.if_icmp .ne 8, 3) := by decide +kernel
theorem dX12_goes_336 : decode cX12_goes 336 = .ok (.bipush 7, 2) := by decide +kernel
theorem dX12_goes_338 : decode cX12_goes 338 = .ok (.goto 15, 3) := by decide +kernel
theorem dX12_goes_341 : decode cX12_goes 341 = .ok (.iload 9, 2) := by decide +kernel
theorem dX12_goes_343 : decode cX12_goes 343 = .ok (.iconst 2, 1) := by decide +kernel
theorem dX12_goes_344 : decode cX12_goes 344 = .ok (.if_icmp .ne 7, 3) := by decide +kernel
theorem dX12_goes_347 : decode cX12_goes 347 = .ok (.iconst 5, 1) := by decide +kernel
theorem dX12_goes_348 : decode cX12_goes 348 = .ok (.goto 5, 3) := by decide +kernel
theorem dX12_goes_351 : decode cX12_goes 351 = .ok (.bipush 6, 2) := by decide +kernel
theorem dX12_goes_353 : decode cX12_goes 353 = .ok (.putfield 319, 3) := by decide +kernel
theorem dX12_goes_356 : decode cX12_goes 356 = .ok (.return_, 1) := by decide +kernel
theorem dX12_far_0 : decode cX12_far 0 = .ok (.aload_n 0, 1) := by decide +kernel
theorem dX12_far_1 : decode cX12_far 1 = .ok (.getfield 313, 3) := by decide +kernel
theorem dX12_far_4 : decode cX12_far 4 = .ok (.iconst 5, 1) := by decide +kernel
theorem dX12_far_5 : decode cX12_far 5 = .ok (.idiv, 1) := by decide +kernel
theorem dX12_far_6 : decode cX12_far 6 = .ok (.iconst 4, 1) := by decide +kernel
theorem dX12_far_7 : decode cX12_far 7 = .ok (.if_icmp .ge 12, 3) := by decide +kernel
theorem dX12_far_10 : decode cX12_far 10 = .ok (.aload_n 0, 1) := by decide +kernel
theorem dX12_far_11 : decode cX12_far 11 = .ok (.getfield 313, 3) := by decide +kernel
theorem dX12_far_14 : decode cX12_far 14 = .ok (.iconst 5, 1) := by decide +kernel
theorem dX12_far_15 : decode cX12_far 15 = .ok (.idiv, 1) := by decide +kernel
theorem dX12_far_16 : decode cX12_far 16 = .ok (.goto 4, 3) := by decide +kernel
theorem dX12_far_19 : decode cX12_far 19 = .ok (.iconst 4, 1) := by decide +kernel
theorem dX12_far_20 : decode cX12_far 20 = .ok (.ireturn, 1) := by decide +kernel
theorem dX12_way_0 : decode cX12_way 0 = .ok (.aload_n 0, 1) := by decide +kernel
theorem dX12_way_1 : decode cX12_way 1 = .ok (.iload_n 1, 1) := by decide +kernel
theorem dX12_way_2 : decode cX12_way 2 = .ok (.invokevirtual 292, 3) := by decide +kernel
theorem dX12_way_5 : decode cX12_way 5 = .ok (.ifCond .eq 11, 3) := by decide +kernel
theorem dX12_way_8 : decode cX12_way 8 = .ok (.aload_n 0, 1) := by decide +kernel
theorem dX12_way_9 : decode cX12_way 9 = .ok (.iload_n 2, 1) := by decide +kernel
theorem dX12_way_10 : decode cX12_way 10 = .ok (.invokevirtual 298, 3) := by decide +kernel
theorem dX12_way_13 : decode cX12_way 13 = .ok (.ifCond .ne 5, 3) := by decide +kernel
theorem dX12_way_16 : decode cX12_way 16 = .ok (.iconst (-1), 1) := by decide +kernel
theorem dX12_way_17 : decode cX12_way 17 = .ok (.ireturn, 1) := by decide +kernel
theorem dX12_way_18 : decode cX12_way 18 = .ok (.aload_n 0, 1) := by decide +kernel
theorem dX12_way_19 : decode cX12_way 19 = .ok (.bipush 8, 2) := by decide +kernel
theorem dX12_way_21 : decode cX12_way 21 = .ok (.iload_n 1, 1) := by decide +kernel
theorem dX12_way_22 : decode cX12_way 22 = .ok (.iadd, 1) := by decide +kernel
theorem dX12_way_23 : decode cX12_way 23 = .ok (.iload_n 2, 1) := by decide +kernel
theorem dX12_way_24 : decode cX12_way 24 = .ok (.invokevirtual 322, 3) := by decide +kernel
theorem dX12_way_27 : decode cX12_way 27 = .ok (.iload_n 3, 1) := by decide +kernel
theorem dX12_way_28 : decode cX12_way 28 = .ok (.tableswitch 52 0 3 #[32, 37, 42, 47], 32) := by decide +kernel
theorem dX12_way_60 : decode cX12_way 60 = .ok (.aload_n 0, 1) := by decide +kernel
theorem dX12_way_61 : decode cX12_way 61 = .ok (.getfield 313, 3) := by decide +kernel
theorem dX12_way_64 : decode cX12_way 64 = .ok (.ireturn, 1) := by decide +kernel
theorem dX12_way_65 : decode cX12_way 65 = .ok (.aload_n 0, 1) := by decide +kernel
theorem dX12_way_66 : decode cX12_way 66 = .ok (.invokevirtual 325, 3) := by decide +kernel
theorem dX12_way_69 : decode cX12_way 69 = .ok (.ireturn, 1) := by decide +kernel
theorem dX12_way_70 : decode cX12_way 70 = .ok (.aload_n 0, 1) := by decide +kernel
theorem dX12_way_71 : decode cX12_way 71 = .ok (.getfield 319, 3) := by decide +kernel
theorem dX12_way_74 : decode cX12_way 74 = .ok (.ireturn, 1) := by decide +kernel
theorem dX12_way_75 : decode cX12_way 75 = .ok (.aload_n 0, 1) := by decide +kernel
theorem dX12_way_76 : decode cX12_way 76 = .ok (.getfield 316, 3) := by decide +kernel
theorem dX12_way_79 : decode cX12_way 79 = .ok (.ireturn, 1) := by decide +kernel
theorem dX12_way_80 : decode cX12_way 80 = .ok (.iconst (-1), 1) := by decide +kernel
theorem dX12_way_81 : decode cX12_way 81 = .ok (.ireturn, 1) := by decide +kernel
theorem dX12_sunAt_0 : decode cX12_sunAt 0 = .ok (.iload_n 3, 1) := by decide +kernel
theorem dX12_sunAt_1 : decode cX12_sunAt 1 = .ok (.aload_n 0, 1) := by decide +kernel
theorem dX12_sunAt_2 : decode cX12_sunAt 2 = .ok (.getfield 80, 3) := by decide +kernel
theorem dX12_sunAt_5 : decode cX12_sunAt 5 = .ok (.iload_n 1, 1) := by decide +kernel
theorem dX12_sunAt_6 : decode cX12_sunAt 6 = .ok (.iaload, 1) := by decide +kernel
theorem dX12_sunAt_7 : decode cX12_sunAt 7 = .ok (.iadd, 1) := by decide +kernel
theorem dX12_sunAt_8 : decode cX12_sunAt 8 = .ok (.bipush 24, 2) := by decide +kernel
theorem dX12_sunAt_10 : decode cX12_sunAt 10 = .ok (.irem, 1) := by decide +kernel
theorem dX12_sunAt_11 : decode cX12_sunAt 11 = .ok (.istore 4, 2) := by decide +kernel
theorem dX12_sunAt_13 : decode cX12_sunAt 13 = .ok (.iload_n 2, 1) := by decide +kernel
theorem dX12_sunAt_14 : decode cX12_sunAt 14 = .ok (.bipush 90, 2) := by decide +kernel
theorem dX12_sunAt_16 : decode cX12_sunAt 16 = .ok (.idiv, 1) := by decide +kernel
theorem dX12_sunAt_17 : decode cX12_sunAt 17 = .ok (.iconst 4, 1) := by decide +kernel
theorem dX12_sunAt_18 : decode cX12_sunAt 18 = .ok (.irem, 1) := by decide +kernel
theorem dX12_sunAt_19 : decode cX12_sunAt 19 = .ok (.istore 5, 2) := by decide +kernel
theorem dX12_sunAt_21 : decode cX12_sunAt 21 = .ok (.aload_n 0, 1) := by decide +kernel
theorem dX12_sunAt_22 : decode cX12_sunAt 22 = .ok (.getfield 83, 3) := by decide +kernel
theorem dX12_sunAt_25 : decode cX12_sunAt 25 = .ok (.iload_n 1, 1) := by decide +kernel
theorem dX12_sunAt_26 : decode cX12_sunAt 26 = .ok (.iaload, 1) := by decide +kernel
theorem dX12_sunAt_27 : decode cX12_sunAt 27 = .ok (.iconst 3, 1) := by decide +kernel
theorem dX12_sunAt_28 : decode cX12_sunAt 28 = .ok (.if_icmp .ge 7, 3) := by decide +kernel
theorem dX12_sunAt_31 : decode cX12_sunAt 31 = .ok (.iconst 1, 1) := by decide +kernel
theorem dX12_sunAt_32 : decode cX12_sunAt 32 = .ok (.goto 4, 3) := by decide +kernel
theorem dX12_sunAt_35 : decode cX12_sunAt 35 = .ok (.iconst 0, 1) := by decide +kernel
theorem dX12_sunAt_36 : decode cX12_sunAt 36 = .ok (.istore 6, 2) := by decide +kernel
theorem dX12_sunAt_38 : decode cX12_sunAt 38 = .ok (.aload_n 0, 1) := by decide +kernel
theorem dX12_sunAt_39 : decode cX12_sunAt 39 = .ok (.getfield 83, 3) := by decide +kernel
theorem dX12_sunAt_42 : decode cX12_sunAt 42 = .ok (.iload_n 1, 1) := by decide +kernel
theorem dX12_sunAt_43 : decode cX12_sunAt 43 = .ok (.iaload, 1) := by decide +kernel
theorem dX12_sunAt_44 : decode cX12_sunAt 44 = .ok (.iconst 3, 1) := by decide +kernel
theorem dX12_sunAt_45 : decode cX12_sunAt 45 = .ok (.if_icmp .le 7, 3) := by decide +kernel
theorem dX12_sunAt_48 : decode cX12_sunAt 48 = .ok (.iconst 1, 1) := by decide +kernel
theorem dX12_sunAt_49 : decode cX12_sunAt 49 = .ok (.goto 4, 3) := by decide +kernel
theorem dX12_sunAt_52 : decode cX12_sunAt 52 = .ok (.iconst 0, 1) := by decide +kernel
theorem dX12_sunAt_53 : decode cX12_sunAt 53 = .ok (.istore 7, 2) := by decide +kernel
theorem dX12_sunAt_55 : decode cX12_sunAt 55 = .ok (.iload 6, 2) := by decide +kernel
theorem dX12_sunAt_57 : decode cX12_sunAt 57 = .ok (.ifCond .eq 9, 3) := by decide +kernel
theorem dX12_sunAt_60 : decode cX12_sunAt 60 = .ok (.iload 5, 2) := by decide +kernel
theorem dX12_sunAt_62 : decode cX12_sunAt 62 = .ok (.iconst 1, 1) := by decide +kernel
theorem dX12_sunAt_63 : decode cX12_sunAt 63 = .ok (.if_icmp .eq 14, 3) := by decide +kernel
theorem dX12_sunAt_66 : decode cX12_sunAt 66 = .ok (.iload 7, 2) := by decide +kernel
theorem dX12_sunAt_68 : decode cX12_sunAt 68 = .ok (.ifCond .eq 13, 3) := by decide +kernel
theorem dX12_sunAt_71 : decode cX12_sunAt 71 = .ok (.iload 5, 2) := by decide +kernel
theorem dX12_sunAt_73 : decode cX12_sunAt 73 = .ok (.iconst 3, 1) := by decide +kernel
theorem dX12_sunAt_74 : decode cX12_sunAt 74 = .ok (.if_icmp .ne 7, 3) := by decide +kernel
theorem dX12_sunAt_77 : decode cX12_sunAt 77 = .ok (.iconst 1, 1) := by decide +kernel
theorem dX12_sunAt_78 : decode cX12_sunAt 78 = .ok (.goto 4, 3) := by decide +kernel
theorem dX12_sunAt_81 : decode cX12_sunAt 81 = .ok (.iconst 0, 1) := by decide +kernel
theorem dX12_sunAt_82 : decode cX12_sunAt 82 = .ok (.istore 8, 2) := by decide +kernel
theorem dX12_sunAt_84 : decode cX12_sunAt 84 = .ok (.iload 7, 2) := by decide +kernel
theorem dX12_sunAt_86 : decode cX12_sunAt 86 = .ok (.ifCond .eq 9, 3) := by decide +kernel
theorem dX12_sunAt_89 : decode cX12_sunAt 89 = .ok (.iload 5, 2) := by decide +kernel
theorem dX12_sunAt_91 : decode cX12_sunAt 91 = .ok (.iconst 1, 1) := by decide +kernel
theorem dX12_sunAt_92 : decode cX12_sunAt 92 = .ok (.if_icmp .eq 14, 3) := by decide +kernel
theorem dX12_sunAt_95 : decode cX12_sunAt 95 = .ok (.iload 6, 2) := by decide +kernel
theorem dX12_sunAt_97 : decode cX12_sunAt 97 = .ok (.ifCond .eq 13, 3) := by decide +kernel
theorem dX12_sunAt_100 : decode cX12_sunAt 100 = .ok (.iload 5, 2) := by decide +kernel
theorem dX12_sunAt_102 : decode cX12_sunAt 102 = .ok (.iconst 3, 1) := by decide +kernel
theorem dX12_sunAt_103 : decode cX12_sunAt 103 = .ok (.if_icmp .ne 7, 3) := by decide +kernel
theorem dX12_sunAt_106 : decode cX12_sunAt 106 = .ok (.iconst 1, 1) := by decide +kernel
theorem dX12_sunAt_107 : decode cX12_sunAt 107 = .ok (.goto 4, 3) := by decide +kernel
theorem dX12_sunAt_110 : decode cX12_sunAt 110 = .ok (.iconst 0, 1) := by decide +kernel
theorem dX12_sunAt_111 : decode cX12_sunAt 111 = .ok (.istore 9, 2) := by decide +kernel
theorem dX12_sunAt_113 : decode cX12_sunAt 113 = .ok (.iload 8, 2) := by decide +kernel
theorem dX12_sunAt_115 : decode cX12_sunAt 115 = .ok (.ifCond .eq 39, 3) := by decide +kernel
theorem dX12_sunAt_118 : decode cX12_sunAt 118 = .ok (.iload 4, 2) := by decide +kernel
theorem dX12_sunAt_120 : decode cX12_sunAt 120 = .ok (.iconst 5, 1) := by decide +kernel
theorem dX12_sunAt_121 : decode cX12_sunAt 121 = .ok (.if_icmp .lt 14, 3) := by decide +kernel
theorem dX12_sunAt_124 : decode cX12_sunAt 124 = .ok (.iload 4, 2) := by decide +kernel
theorem dX12_sunAt_126 : decode cX12_sunAt 126 = .ok (.bipush 18, 2) := by decide +kernel
theorem dX12_sunAt_128 : decode cX12_sunAt 128 = .ok (.if_icmp .gt 7, 3) := by decide +kernel
theorem dX12_sunAt_131 : decode cX12_sunAt 131 = .ok (.iconst 2, 1) := by decide +kernel
theorem dX12_sunAt_132 : decode cX12_sunAt 132 = .ok (.goto 21, 3) := by decide +kernel
theorem dX12_sunAt_135 : decode cX12_sunAt 135 = .ok (.iload 4, 2) := by decide +kernel
theorem dX12_sunAt_137 : decode cX12_sunAt 137 = .ok (.iconst 4, 1) := by decide +kernel
theorem dX12_sunAt_138 : decode cX12_sunAt 138 = .ok (.if_icmp .eq 10, 3) := by decide +kernel
theorem dX12_sunAt_141 : decode cX12_sunAt 141 = .ok (.iload 4, 2) := by decide +kernel
theorem dX12_sunAt_143 : decode cX12_sunAt 143 = .ok (.bipush 19, 2) := by decide +kernel
theorem dX12_sunAt_145 : decode cX12_sunAt 145 = .ok (.if_icmp .ne 7, 3) := by decide +kernel
theorem dX12_sunAt_148 : decode cX12_sunAt 148 = .ok (.iconst 1, 1) := by decide +kernel
theorem dX12_sunAt_149 : decode cX12_sunAt 149 = .ok (.goto 4, 3) := by decide +kernel
theorem dX12_sunAt_152 : decode cX12_sunAt 152 = .ok (.iconst 0, 1) := by decide +kernel
theorem dX12_sunAt_153 : decode cX12_sunAt 153 = .ok (.ireturn, 1) := by decide +kernel
theorem dX12_sunAt_154 : decode cX12_sunAt 154 = .ok (.iload 9, 2) := by decide +kernel
theorem dX12_sunAt_156 : decode cX12_sunAt 156 = .ok (.ifCond .eq 41, 3) := by decide +kernel
theorem dX12_sunAt_159 : decode cX12_sunAt 159 = .ok (.iload 4, 2) := by decide +kernel
theorem dX12_sunAt_161 : decode cX12_sunAt 161 = .ok (.bipush 8, 2) := by decide +kernel
theorem dX12_sunAt_163 : decode cX12_sunAt 163 = .ok (.if_icmp .lt 14, 3) := by decide +kernel
theorem dX12_sunAt_166 : decode cX12_sunAt 166 = .ok (.iload 4, 2) := by decide +kernel
theorem dX12_sunAt_168 : decode cX12_sunAt 168 = .ok (.bipush 15, 2) := by decide +kernel
theorem dX12_sunAt_170 : decode cX12_sunAt 170 = .ok (.if_icmp .gt 7, 3) := by decide +kernel
theorem dX12_sunAt_173 : decode cX12_sunAt 173 = .ok (.iconst 2, 1) := by decide +kernel
theorem dX12_sunAt_174 : decode cX12_sunAt 174 = .ok (.goto 22, 3) := by decide +kernel
theorem dX12_sunAt_177 : decode cX12_sunAt 177 = .ok (.iload 4, 2) := by decide +kernel
theorem dX12_sunAt_179 : decode cX12_sunAt 179 = .ok (.bipush 7, 2) := by decide +kernel
theorem dX12_sunAt_181 : decode cX12_sunAt 181 = .ok (.if_icmp .eq 10, 3) := by decide +kernel
theorem dX12_sunAt_184 : decode cX12_sunAt 184 = .ok (.iload 4, 2) := by decide +kernel
theorem dX12_sunAt_186 : decode cX12_sunAt 186 = .ok (.bipush 16, 2) := by decide +kernel
theorem dX12_sunAt_188 : decode cX12_sunAt 188 = .ok (.if_icmp .ne 7, 3) := by decide +kernel
theorem dX12_sunAt_191 : decode cX12_sunAt 191 = .ok (.iconst 1, 1) := by decide +kernel
theorem dX12_sunAt_192 : decode cX12_sunAt 192 = .ok (.goto 4, 3) := by decide +kernel
theorem dX12_sunAt_195 : decode cX12_sunAt 195 = .ok (.iconst 0, 1) := by decide +kernel
theorem dX12_sunAt_196 : decode cX12_sunAt 196 = .ok (.ireturn, 1) := by decide +kernel
theorem dX12_sunAt_197 : decode cX12_sunAt 197 = .ok (.iload 4, 2) := by decide +kernel
theorem dX12_sunAt_199 : decode cX12_sunAt 199 = .ok (.bipush 7, 2) := by decide +kernel
theorem dX12_sunAt_201 : decode cX12_sunAt 201 = .ok (.if_icmp .lt 12, 3) := by decide +kernel
theorem dX12_sunAt_204 : decode cX12_sunAt 204 = .ok (.iload 4, 2) := by decide +kernel
theorem dX12_sunAt_206 : decode cX12_sunAt 206 = .ok (.bipush 16, 2) := by decide +kernel
theorem dX12_sunAt_208 : decode cX12_sunAt 208 = .ok (.if_icmp .gt 5, 3) := by decide +kernel
theorem dX12_sunAt_211 : decode cX12_sunAt 211 = .ok (.iconst 2, 1) := by decide +kernel
theorem dX12_sunAt_212 : decode cX12_sunAt 212 = .ok (.ireturn, 1) := by decide +kernel
theorem dX12_sunAt_213 : decode cX12_sunAt 213 = .ok (.iload 4, 2) := by decide +kernel
theorem dX12_sunAt_215 : decode cX12_sunAt 215 = .ok (.iconst 5, 1) := by decide +kernel
theorem dX12_sunAt_216 : decode cX12_sunAt 216 = .ok (.if_icmp .eq 24, 3) := by decide +kernel
theorem dX12_sunAt_219 : decode cX12_sunAt 219 = .ok (.iload 4, 2) := by decide +kernel
theorem dX12_sunAt_221 : decode cX12_sunAt 221 = .ok (.bipush 6, 2) := by decide +kernel
theorem dX12_sunAt_223 : decode cX12_sunAt 223 = .ok (.if_icmp .eq 17, 3) := by decide +kernel
theorem dX12_sunAt_226 : decode cX12_sunAt 226 = .ok (.iload 4, 2) := by decide +kernel
theorem dX12_sunAt_228 : decode cX12_sunAt 228 = .ok (.bipush 17, 2) := by decide +kernel
theorem dX12_sunAt_230 : decode cX12_sunAt 230 = .ok (.if_icmp .eq 10, 3) := by decide +kernel
theorem dX12_sunAt_233 : decode cX12_sunAt 233 = .ok (.iload 4, 2) := by decide +kernel
theorem dX12_sunAt_235 : decode cX12_sunAt 235 = .ok (.bipush 18, 2) := by decide +kernel
theorem dX12_sunAt_237 : decode cX12_sunAt 237 = .ok (.if_icmp .ne 7, 3) := by decide +kernel
theorem dX12_sunAt_240 : decode cX12_sunAt 240 = .ok (.iconst 1, 1) := by decide +kernel
theorem dX12_sunAt_241 : decode cX12_sunAt 241 = .ok (.goto 4, 3) := by decide +kernel
theorem dX12_sunAt_244 : decode cX12_sunAt 244 = .ok (.iconst 0, 1) := by decide +kernel
theorem dX12_sunAt_245 : decode cX12_sunAt 245 = .ok (.ireturn, 1) := by decide +kernel
theorem dX12_sun_0 : decode cX12_sun 0 = .ok (.iload_n 1, 1) := by decide +kernel
theorem dX12_sun_1 : decode cX12_sun 1 = .ok (.ifCond .eq 14, 3) := by decide +kernel
theorem dX12_sun_4 : decode cX12_sun 4 = .ok (.aload_n 0, 1) := by decide +kernel
theorem dX12_sun_5 : decode cX12_sun 5 = .ok (.iload_n 2, 1) := by decide +kernel
theorem dX12_sun_6 : decode cX12_sun 6 = .ok (.invokevirtual 292, 3) := by decide +kernel
theorem dX12_sun_9 : decode cX12_sun 9 = .ok (.ifCond .ne 16, 3) := by decide +kernel
theorem dX12_sun_12 : decode cX12_sun 12 = .ok (.goto 11, 3) := by decide +kernel
theorem dX12_sun_15 : decode cX12_sun 15 = .ok (.aload_n 0, 1) := by decide +kernel
theorem dX12_sun_16 : decode cX12_sun 16 = .ok (.iload_n 2, 1) := by decide +kernel
theorem dX12_sun_17 : decode cX12_sun 17 = .ok (.invokevirtual 298, 3) := by decide +kernel
theorem dX12_sun_20 : decode cX12_sun 20 = .ok (.ifCond .ne 5, 3) := by decide +kernel
theorem dX12_sun_23 : decode cX12_sun 23 = .ok (.iconst (-1), 1) := by decide +kernel
theorem dX12_sun_24 : decode cX12_sun 24 = .ok (.ireturn, 1) := by decide +kernel
theorem dX12_sun_25 : decode cX12_sun 25 = .ok (.iload_n 3, 1) := by decide +kernel
theorem dX12_sun_26 : decode cX12_sun 26 = .ok (.invokestatic 304, 3) := by decide +kernel
theorem dX12_sun_29 : decode cX12_sun 29 = .ok (.ifCond .eq 33, 3) := by decide +kernel
theorem dX12_sun_32 : decode cX12_sun 32 = .ok (.iload 4, 2) := by decide +kernel
theorem dX12_sun_34 : decode cX12_sun 34 = .ok (.invokestatic 310, 3) := by decide +kernel
theorem dX12_sun_37 : decode cX12_sun 37 = .ok (.ifCond .eq 25, 3) := by decide +kernel
theorem dX12_sun_40 : decode cX12_sun 40 = .ok (.aload_n 0, 1) := by decide +kernel
theorem dX12_sun_41 : decode cX12_sun 41 = .ok (.iload_n 1, 1) := by decide +kernel
theorem dX12_sun_42 : decode cX12_sun 42 = .ok (.ifCond .eq 10, 3) := by decide +kernel
theorem dX12_sun_45 : decode cX12_sun 45 = .ok (.bipush 8, 2) := by decide +kernel
theorem dX12_sun_47 : decode cX12_sun 47 = .ok (.iload_n 2, 1) := by decide +kernel
theorem dX12_sun_48 : decode cX12_sun 48 = .ok (.iadd, 1) := by decide +kernel
theorem dX12_sun_49 : decode cX12_sun 49 = .ok (.goto 4, 3) := by decide +kernel
theorem dX12_sun_52 : decode cX12_sun 52 = .ok (.iload_n 2, 1) := by decide +kernel
theorem dX12_sun_53 : decode cX12_sun 53 = .ok (.iload_n 3, 1) := by decide +kernel
theorem dX12_sun_54 : decode cX12_sun 54 = .ok (.iload 4, 2) := by decide +kernel
theorem dX12_sun_56 : decode cX12_sun 56 = .ok (.invokevirtual 329, 3) := by decide +kernel
theorem dX12_sun_59 : decode cX12_sun 59 = .ok (.goto 4, 3) := by decide +kernel
theorem dX12_sun_62 : decode cX12_sun 62 = .ok (.iconst (-1), 1) := by decide +kernel
theorem dX12_sun_63 : decode cX12_sun 63 = .ok (.ireturn, 1) := by decide +kernel
theorem dX12_toldBy_0 : decode cX12_toldBy 0 = .ok (.aload_n 0, 1) := by decide +kernel
theorem dX12_toldBy_1 : decode cX12_toldBy 1 = .ok (.bipush 8, 2) := by decide +kernel
theorem dX12_toldBy_3 : decode cX12_toldBy 3 = .ok (.iload_n 1, 1) := by decide +kernel
theorem dX12_toldBy_4 : decode cX12_toldBy 4 = .ok (.iadd, 1) := by decide +kernel
theorem dX12_toldBy_5 : decode cX12_toldBy 5 = .ok (.iload_n 2, 1) := by decide +kernel
theorem dX12_toldBy_6 : decode cX12_toldBy 6 = .ok (.invokevirtual 322, 3) := by decide +kernel
theorem dX12_toldBy_9 : decode cX12_toldBy 9 = .ok (.iload 4, 2) := by decide +kernel
theorem dX12_toldBy_11 : decode cX12_toldBy 11 = .ok (.bipush 90, 2) := by decide +kernel
theorem dX12_toldBy_13 : decode cX12_toldBy 13 = .ok (.idiv, 1) := by decide +kernel
theorem dX12_toldBy_14 : decode cX12_toldBy 14 = .ok (.iconst 4, 1) := by decide +kernel
theorem dX12_toldBy_15 : decode cX12_toldBy 15 = .ok (.irem, 1) := by decide +kernel
theorem dX12_toldBy_16 : decode cX12_toldBy 16 = .ok (.istore 6, 2) := by decide +kernel
theorem dX12_toldBy_18 : decode cX12_toldBy 18 = .ok (.aload_n 0, 1) := by decide +kernel
theorem dX12_toldBy_19 : decode cX12_toldBy 19 = .ok (.bipush 8, 2) := by decide +kernel
theorem dX12_toldBy_21 : decode cX12_toldBy 21 = .ok (.iload_n 1, 1) := by decide +kernel
theorem dX12_toldBy_22 : decode cX12_toldBy 22 = .ok (.iadd, 1) := by decide +kernel
theorem dX12_toldBy_23 : decode cX12_toldBy 23 = .ok (.iload 4, 2) := by decide +kernel
theorem dX12_toldBy_25 : decode cX12_toldBy 25 = .ok (.iload 5, 2) := by decide +kernel
theorem dX12_toldBy_27 : decode cX12_toldBy 27 = .ok (.invokevirtual 329, 3) := by decide +kernel
theorem dX12_toldBy_30 : decode cX12_toldBy 30 = .ok (.iconst 3, 1) := by decide +kernel
theorem dX12_toldBy_31 : decode cX12_toldBy 31 = .ok (.imul, 1) := by decide +kernel
theorem dX12_toldBy_32 : decode cX12_toldBy 32 = .ok (.aload_n 0, 1) := by decide +kernel
theorem dX12_toldBy_33 : decode cX12_toldBy 33 = .ok (.iload_n 2, 1) := by decide +kernel
theorem dX12_toldBy_34 : decode cX12_toldBy 34 = .ok (.iload 4, 2) := by decide +kernel
theorem dX12_toldBy_36 : decode cX12_toldBy 36 = .ok (.iload 5, 2) := by decide +kernel
theorem dX12_toldBy_38 : decode cX12_toldBy 38 = .ok (.invokevirtual 329, 3) := by decide +kernel
theorem dX12_toldBy_41 : decode cX12_toldBy 41 = .ok (.iadd, 1) := by decide +kernel
theorem dX12_toldBy_42 : decode cX12_toldBy 42 = .ok (.iconst 5, 1) := by decide +kernel
theorem dX12_toldBy_43 : decode cX12_toldBy 43 = .ok (.imul, 1) := by decide +kernel
theorem dX12_toldBy_44 : decode cX12_toldBy 44 = .ok (.aload_n 0, 1) := by decide +kernel
theorem dX12_toldBy_45 : decode cX12_toldBy 45 = .ok (.invokevirtual 325, 3) := by decide +kernel
theorem dX12_toldBy_48 : decode cX12_toldBy 48 = .ok (.iadd, 1) := by decide +kernel
theorem dX12_toldBy_49 : decode cX12_toldBy 49 = .ok (.bipush 6, 2) := by decide +kernel
theorem dX12_toldBy_51 : decode cX12_toldBy 51 = .ok (.imul, 1) := by decide +kernel
theorem dX12_toldBy_52 : decode cX12_toldBy 52 = .ok (.iload_n 3, 1) := by decide +kernel
theorem dX12_toldBy_53 : decode cX12_toldBy 53 = .ok (.iadd, 1) := by decide +kernel
theorem dX12_toldBy_54 : decode cX12_toldBy 54 = .ok (.istore 7, 2) := by decide +kernel
theorem dX12_toldBy_56 : decode cX12_toldBy 56 = .ok (.iload 7, 2) := by decide +kernel
theorem dX12_toldBy_58 : decode cX12_toldBy 58 = .ok (.aload_n 0, 1) := by decide +kernel
theorem dX12_toldBy_59 : decode cX12_toldBy 59 = .ok (.getfield 104, 3) := by decide +kernel
theorem dX12_toldBy_62 : decode cX12_toldBy 62 = .ok (.iload 6, 2) := by decide +kernel
theorem dX12_toldBy_64 : decode cX12_toldBy 64 = .ok (.iaload, 1) := by decide +kernel
theorem dX12_toldBy_65 : decode cX12_toldBy 65 = .ok (.if_icmp .ge 20, 3) := by decide +kernel
theorem dX12_toldBy_68 : decode cX12_toldBy 68 = .ok (.aload_n 0, 1) := by decide +kernel
theorem dX12_toldBy_69 : decode cX12_toldBy 69 = .ok (.getfield 107, 3) := by decide +kernel
theorem dX12_toldBy_72 : decode cX12_toldBy 72 = .ok (.sipush 270, 3) := by decide +kernel
theorem dX12_toldBy_75 : decode cX12_toldBy 75 = .ok (.iload 6, 2) := by decide +kernel
theorem dX12_toldBy_77 : decode cX12_toldBy 77 = .ok (.imul, 1) := by decide +kernel
theorem dX12_toldBy_78 : decode cX12_toldBy 78 = .ok (.iload 7, 2) := by decide +kernel
theorem dX12_toldBy_80 : decode cX12_toldBy 80 = .ok (.iadd, 1) := by decide +kernel
theorem dX12_toldBy_81 : decode cX12_toldBy 81 = .ok (.iaload, 1) := by decide +kernel
theorem dX12_toldBy_82 : decode cX12_toldBy 82 = .ok (.goto 6, 3) := by decide +kernel
theorem dX12_toldBy_85 : decode cX12_toldBy 85 = .ok (.ldc_w 332, 3) := by decide +kernel
theorem dX12_toldBy_88 : decode cX12_toldBy 88 = .ok (.ireturn, 1) := by decide +kernel
theorem dX12_corrected_0 : decode cX12_corrected 0 = .ok (.iconst 0, 1) := by decide +kernel
theorem dX12_corrected_1 : decode cX12_corrected 1 = .ok (.istore 5, 2) := by decide +kernel
theorem dX12_corrected_3 : decode cX12_corrected 3 = .ok (.iconst 0, 1) := by decide +kernel
theorem dX12_corrected_4 : decode cX12_corrected 4 = .ok (.istore 6, 2) := by decide +kernel
theorem dX12_corrected_6 : decode cX12_corrected 6 = .ok (.iconst 0, 1) := by decide +kernel
theorem dX12_corrected_7 : decode cX12_corrected 7 = .ok (.istore 7, 2) := by decide +kernel
theorem dX12_corrected_9 : decode cX12_corrected 9 = .ok (.iload 7, 2) := by decide +kernel
theorem dX12_corrected_11 : decode cX12_corrected 11 = .ok (.iload 4, 2) := by decide +kernel
theorem dX12_corrected_13 : decode cX12_corrected 13 = .ok (.if_icmp .ge 107, 3) := by decide +kernel
theorem dX12_corrected_16 : decode cX12_corrected 16 = .ok (.aload_n 0, 1) := by decide +kernel
theorem dX12_corrected_17 : decode cX12_corrected 17 = .ok (.getfield 110, 3) := by decide +kernel
theorem dX12_corrected_20 : decode cX12_corrected 20 = .ok (.iload 7, 2) := by decide +kernel
theorem dX12_corrected_22 : decode cX12_corrected 22 = .ok (.baload, 1) := by decide +kernel
theorem dX12_corrected_23 : decode cX12_corrected 23 = .ok (.ifCond .ne 91, 3) := by decide +kernel
theorem dX12_corrected_26 : decode cX12_corrected 26 = .ok (.aload_n 0, 1) := by decide +kernel
theorem dX12_corrected_27 : decode cX12_corrected 27 = .ok (.getfield 116, 3) := by decide +kernel
theorem dX12_corrected_30 : decode cX12_corrected 30 = .ok (.iload 7, 2) := by decide +kernel
theorem dX12_corrected_32 : decode cX12_corrected 32 = .ok (.iaload, 1) := by decide +kernel
theorem dX12_corrected_33 : decode cX12_corrected 33 = .ok (.iload_n 1, 1) := by decide +kernel
theorem dX12_corrected_34 : decode cX12_corrected 34 = .ok (.if_icmp .ne 80, 3) := by decide +kernel
theorem dX12_corrected_37 : decode cX12_corrected 37 = .ok (.aload_n 0, 1) := by decide +kernel
theorem dX12_corrected_38 : decode cX12_corrected 38 = .ok (.getfield 119, 3) := by decide +kernel
theorem dX12_corrected_41 : decode cX12_corrected 41 = .ok (.iload 7, 2) := by decide +kernel
theorem dX12_corrected_43 : decode cX12_corrected 43 = .ok (.iaload, 1) := by decide +kernel
theorem dX12_corrected_44 : decode cX12_corrected 44 = .ok (.iload_n 2, 1) := by decide +kernel
theorem dX12_corrected_45 : decode cX12_corrected 45 = .ok (.if_icmp .ne 69, 3) := by decide +kernel
theorem dX12_corrected_48 : decode cX12_corrected 48 = .ok (.aload_n 0, 1) := by decide +kernel
theorem dX12_corrected_49 : decode cX12_corrected 49 = .ok (.getfield 122, 3) := by decide +kernel
theorem dX12_corrected_52 : decode cX12_corrected 52 = .ok (.iload 7, 2) := by decide +kernel
theorem dX12_corrected_54 : decode cX12_corrected 54 = .ok (.iaload, 1) := by decide +kernel
theorem dX12_corrected_55 : decode cX12_corrected 55 = .ok (.iload_n 3, 1) := by decide +kernel
theorem dX12_corrected_56 : decode cX12_corrected 56 = .ok (.if_icmp .eq 6, 3) := by decide +kernel
theorem dX12_corrected_59 : decode cX12_corrected 59 = .ok (.goto 55, 3) := by decide +kernel
theorem dX12_corrected_62 : decode cX12_corrected 62 = .ok (.aload_n 0, 1) := by decide +kernel
theorem dX12_corrected_63 : decode cX12_corrected 63 = .ok (.iload_n 1, 1) := by decide +kernel
theorem dX12_corrected_64 : decode cX12_corrected 64 = .ok (.iload_n 2, 1) := by decide +kernel
theorem dX12_corrected_65 : decode cX12_corrected 65 = .ok (.iload_n 3, 1) := by decide +kernel
theorem dX12_corrected_66 : decode cX12_corrected 66 = .ok (.aload_n 0, 1) := by decide +kernel
theorem dX12_corrected_67 : decode cX12_corrected 67 = .ok (.getfield 113, 3) := by decide +kernel
theorem dX12_corrected_70 : decode cX12_corrected 70 = .ok (.iload 7, 2) := by decide +kernel
theorem dX12_corrected_72 : decode cX12_corrected 72 = .ok (.iaload, 1) := by decide +kernel
theorem dX12_corrected_73 : decode cX12_corrected 73 = .ok (.aload_n 0, 1) := by decide +kernel
theorem dX12_corrected_74 : decode cX12_corrected 74 = .ok (.getfield 125, 3) := by decide +kernel
theorem dX12_corrected_77 : decode cX12_corrected 77 = .ok (.iload 7, 2) := by decide +kernel
theorem dX12_corrected_79 : decode cX12_corrected 79 = .ok (.iaload, 1) := by decide +kernel
theorem dX12_corrected_80 : decode cX12_corrected 80 = .ok (.invokevirtual 333, 3) := by decide +kernel
theorem dX12_corrected_83 : decode cX12_corrected 83 = .ok (.istore 8, 2) := by decide +kernel
theorem dX12_corrected_85 : decode cX12_corrected 85 = .ok (.iload 8, 2) := by decide +kernel
theorem dX12_corrected_87 : decode cX12_corrected 87 = .ok (.ldc_w 332, 3) := by decide +kernel
theorem dX12_corrected_90 : decode cX12_corrected 90 = .ok (.if_icmp .ne 6, 3) := by decide +kernel
theorem dX12_corrected_93 : decode cX12_corrected 93 = .ok (.goto 21, 3) := by decide +kernel
theorem dX12_corrected_96 : decode cX12_corrected 96 = .ok (.iload 5, 2) := by decide +kernel
theorem dX12_corrected_98 : decode cX12_corrected 98 = .ok (.aload_n 0, 1) := by decide +kernel
theorem dX12_corrected_99 : decode cX12_corrected 99 = .ok (.getfield 131, 3) := by decide +kernel
theorem dX12_corrected_102 : decode cX12_corrected 102 = .ok (.iload 7, 2) := by decide +kernel
theorem dX12_corrected_104 : decode cX12_corrected 104 = .ok (.iaload, 1) := by decide +kernel
theorem dX12_corrected_105 : decode cX12_corrected 105 = .ok (.iload 8, 2) := by decide +kernel
theorem dX12_corrected_107 : decode cX12_corrected 107 = .ok (.isub, 1) := by decide +kernel
theorem dX12_corrected_108 : decode cX12_corrected 108 = .ok (.iadd, 1) := by decide +kernel
theorem dX12_corrected_109 : decode cX12_corrected 109 = .ok (.istore 5, 2) := by decide +kernel
theorem dX12_corrected_111 : decode cX12_corrected 111 = .ok (.iinc 6 1, 3) := by decide +kernel
theorem dX12_corrected_114 : decode cX12_corrected 114 = .ok (.iinc 7 1, 3) := by decide +kernel
theorem dX12_corrected_117 : decode cX12_corrected 117 = .ok (.goto (-108), 3) := by decide +kernel
theorem dX12_corrected_120 : decode cX12_corrected 120 = .ok (.iload 6, 2) := by decide +kernel
theorem dX12_corrected_122 : decode cX12_corrected 122 = .ok (.ifCond .ne 5, 3) := by decide +kernel
theorem dX12_corrected_125 : decode cX12_corrected 125 = .ok (.iconst 0, 1) := by decide +kernel
theorem dX12_corrected_126 : decode cX12_corrected 126 = .ok (.ireturn, 1) := by decide +kernel
theorem dX12_corrected_127 : decode cX12_corrected 127 = .ok (.iload 5, 2) := by decide +kernel
theorem dX12_corrected_129 : decode cX12_corrected 129 = .ok (.iload 6, 2) := by decide +kernel
theorem dX12_corrected_131 : decode cX12_corrected 131 = .ok (.idiv, 1) := by decide +kernel
theorem dX12_corrected_132 : decode cX12_corrected 132 = .ok (.istore 7, 2) := by decide +kernel
theorem dX12_corrected_134 : decode cX12_corrected 134 = .ok (.iload 5, 2) := by decide +kernel
theorem dX12_corrected_136 : decode cX12_corrected 136 = .ok (.iload 6, 2) := by decide +kernel
theorem dX12_corrected_138 : decode cX12_corrected 138 = .ok (.irem, 1) := by decide +kernel
theorem dX12_corrected_139 : decode cX12_corrected 139 = .ok (.ifCond .ge 10, 3) := by decide +kernel
theorem dX12_corrected_142 : decode cX12_corrected 142 = .ok (.iload 7, 2) := by decide +kernel
theorem dX12_corrected_144 : decode cX12_corrected 144 = .ok (.iconst 1, 1) := by decide +kernel
theorem dX12_corrected_145 : decode cX12_corrected 145 = .ok (.isub, 1) := by decide +kernel
theorem dX12_corrected_146 : decode cX12_corrected 146 = .ok (.goto 5, 3) := by decide +kernel
theorem dX12_corrected_149 : decode cX12_corrected 149 = .ok (.iload 7, 2) := by decide +kernel
theorem dX12_corrected_151 : decode cX12_corrected 151 = .ok (.ireturn, 1) := by decide +kernel
theorem dX12_correction_0 : decode cX12_correction 0 = .ok (.aload_n 0, 1) := by decide +kernel
theorem dX12_correction_1 : decode cX12_correction 1 = .ok (.iload_n 1, 1) := by decide +kernel
theorem dX12_correction_2 : decode cX12_correction 2 = .ok (.invokevirtual 292, 3) := by decide +kernel
theorem dX12_correction_5 : decode cX12_correction 5 = .ok (.ifCond .eq 39, 3) := by decide +kernel
theorem dX12_correction_8 : decode cX12_correction 8 = .ok (.aload_n 0, 1) := by decide +kernel
theorem dX12_correction_9 : decode cX12_correction 9 = .ok (.iload_n 2, 1) := by decide +kernel
theorem dX12_correction_10 : decode cX12_correction 10 = .ok (.invokevirtual 298, 3) := by decide +kernel
theorem dX12_correction_13 : decode cX12_correction 13 = .ok (.ifCond .eq 31, 3) := by decide +kernel
theorem dX12_correction_16 : decode cX12_correction 16 = .ok (.iload_n 3, 1) := by decide +kernel
theorem dX12_correction_17 : decode cX12_correction 17 = .ok (.invokestatic 307, 3) := by decide +kernel
theorem dX12_correction_20 : decode cX12_correction 20 = .ok (.ifCond .eq 24, 3) := by decide +kernel
theorem dX12_correction_23 : decode cX12_correction 23 = .ok (.aload_n 0, 1) := by decide +kernel
theorem dX12_correction_24 : decode cX12_correction 24 = .ok (.iload 4, 2) := by decide +kernel
theorem dX12_correction_26 : decode cX12_correction 26 = .ok (.invokevirtual 337, 3) := by decide +kernel
theorem dX12_correction_29 : decode cX12_correction 29 = .ok (.ifCond .eq 15, 3) := by decide +kernel
theorem dX12_correction_32 : decode cX12_correction 32 = .ok (.aload_n 0, 1) := by decide +kernel
theorem dX12_correction_33 : decode cX12_correction 33 = .ok (.iload_n 1, 1) := by decide +kernel
theorem dX12_correction_34 : decode cX12_correction 34 = .ok (.iload_n 2, 1) := by decide +kernel
theorem dX12_correction_35 : decode cX12_correction 35 = .ok (.iload_n 3, 1) := by decide +kernel
theorem dX12_correction_36 : decode cX12_correction 36 = .ok (.iload 4, 2) := by decide +kernel
theorem dX12_correction_38 : decode cX12_correction 38 = .ok (.invokevirtual 340, 3) := by decide +kernel
theorem dX12_correction_41 : decode cX12_correction 41 = .ok (.goto 6, 3) := by decide +kernel
theorem dX12_correction_44 : decode cX12_correction 44 = .ok (.ldc_w 332, 3) := by decide +kernel
theorem dX12_correction_47 : decode cX12_correction 47 = .ok (.ireturn, 1) := by decide +kernel
theorem dX12_isAsked_0 : decode cX12_isAsked 0 = .ok (.iload_n 1, 1) := by decide +kernel
theorem dX12_isAsked_1 : decode cX12_isAsked 1 = .ok (.ifCond .lt 46, 3) := by decide +kernel
theorem dX12_isAsked_4 : decode cX12_isAsked 4 = .ok (.iload_n 1, 1) := by decide +kernel
theorem dX12_isAsked_5 : decode cX12_isAsked 5 = .ok (.aload_n 0, 1) := by decide +kernel
theorem dX12_isAsked_6 : decode cX12_isAsked 6 = .ok (.getfield 289, 3) := by decide +kernel
theorem dX12_isAsked_9 : decode cX12_isAsked 9 = .ok (.if_icmp .ge 38, 3) := by decide +kernel
theorem dX12_isAsked_12 : decode cX12_isAsked 12 = .ok (.iload_n 2, 1) := by decide +kernel
theorem dX12_isAsked_13 : decode cX12_isAsked 13 = .ok (.invokestatic 307, 3) := by decide +kernel
theorem dX12_isAsked_16 : decode cX12_isAsked 16 = .ok (.ifCond .eq 31, 3) := by decide +kernel
theorem dX12_isAsked_19 : decode cX12_isAsked 19 = .ok (.aload_n 0, 1) := by decide +kernel
theorem dX12_isAsked_20 : decode cX12_isAsked 20 = .ok (.iload_n 3, 1) := by decide +kernel
theorem dX12_isAsked_21 : decode cX12_isAsked 21 = .ok (.invokevirtual 298, 3) := by decide +kernel
theorem dX12_isAsked_24 : decode cX12_isAsked 24 = .ok (.ifCond .eq 23, 3) := by decide +kernel
theorem dX12_isAsked_27 : decode cX12_isAsked 27 = .ok (.iload 4, 2) := by decide +kernel
theorem dX12_isAsked_29 : decode cX12_isAsked 29 = .ok (.invokestatic 304, 3) := by decide +kernel
theorem dX12_isAsked_32 : decode cX12_isAsked 32 = .ok (.ifCond .eq 15, 3) := by decide +kernel
theorem dX12_isAsked_35 : decode cX12_isAsked 35 = .ok (.iload 5, 2) := by decide +kernel
theorem dX12_isAsked_37 : decode cX12_isAsked 37 = .ok (.invokestatic 310, 3) := by decide +kernel
theorem dX12_isAsked_40 : decode cX12_isAsked 40 = .ok (.ifCond .eq 7, 3) := by decide +kernel
theorem dX12_isAsked_43 : decode cX12_isAsked 43 = .ok (.iconst 1, 1) := by decide +kernel
theorem dX12_isAsked_44 : decode cX12_isAsked 44 = .ok (.goto 4, 3) := by decide +kernel
theorem dX12_isAsked_47 : decode cX12_isAsked 47 = .ok (.iconst 0, 1) := by decide +kernel
theorem dX12_isAsked_48 : decode cX12_isAsked 48 = .ok (.ireturn, 1) := by decide +kernel
theorem dX12_strengthOf_0 : decode cX12_strengthOf 0 = .ok (.aload_n 0, 1) := by decide +kernel
theorem dX12_strengthOf_1 : decode cX12_strengthOf 1 = .ok (.aload_n 0, 1) := by decide +kernel
theorem dX12_strengthOf_2 : decode cX12_strengthOf 2 = .ok (.getfield 89, 3) := by decide +kernel
theorem dX12_strengthOf_5 : decode cX12_strengthOf 5 = .ok (.iload_n 1, 1) := by decide +kernel
theorem dX12_strengthOf_6 : decode cX12_strengthOf 6 = .ok (.iaload, 1) := by decide +kernel
theorem dX12_strengthOf_7 : decode cX12_strengthOf 7 = .ok (.iload_n 3, 1) := by decide +kernel
theorem dX12_strengthOf_8 : decode cX12_strengthOf 8 = .ok (.iload_n 2, 1) := by decide +kernel
theorem dX12_strengthOf_9 : decode cX12_strengthOf 9 = .ok (.iload 4, 2) := by decide +kernel
theorem dX12_strengthOf_11 : decode cX12_strengthOf 11 = .ok (.iload 5, 2) := by decide +kernel
theorem dX12_strengthOf_13 : decode cX12_strengthOf 13 = .ok (.invokevirtual 333, 3) := by decide +kernel
theorem dX12_strengthOf_16 : decode cX12_strengthOf 16 = .ok (.istore 7, 2) := by decide +kernel
theorem dX12_strengthOf_18 : decode cX12_strengthOf 18 = .ok (.iload 7, 2) := by decide +kernel
theorem dX12_strengthOf_20 : decode cX12_strengthOf 20 = .ok (.ldc_w 332, 3) := by decide +kernel
theorem dX12_strengthOf_23 : decode cX12_strengthOf 23 = .ok (.if_icmp .ne 9, 3) := by decide +kernel
theorem dX12_strengthOf_26 : decode cX12_strengthOf 26 = .ok (.ldc_w 332, 3) := by decide +kernel
theorem dX12_strengthOf_29 : decode cX12_strengthOf 29 = .ok (.goto 27, 3) := by decide +kernel
theorem dX12_strengthOf_32 : decode cX12_strengthOf 32 = .ok (.iload 7, 2) := by decide +kernel
theorem dX12_strengthOf_34 : decode cX12_strengthOf 34 = .ok (.aload_n 0, 1) := by decide +kernel
theorem dX12_strengthOf_35 : decode cX12_strengthOf 35 = .ok (.aload_n 0, 1) := by decide +kernel
theorem dX12_strengthOf_36 : decode cX12_strengthOf 36 = .ok (.getfield 89, 3) := by decide +kernel
theorem dX12_strengthOf_39 : decode cX12_strengthOf 39 = .ok (.iload_n 1, 1) := by decide +kernel
theorem dX12_strengthOf_40 : decode cX12_strengthOf 40 = .ok (.iaload, 1) := by decide +kernel
theorem dX12_strengthOf_41 : decode cX12_strengthOf 41 = .ok (.iload_n 3, 1) := by decide +kernel
theorem dX12_strengthOf_42 : decode cX12_strengthOf 42 = .ok (.iload_n 2, 1) := by decide +kernel
theorem dX12_strengthOf_43 : decode cX12_strengthOf 43 = .ok (.iload 6, 2) := by decide +kernel
theorem dX12_strengthOf_45 : decode cX12_strengthOf 45 = .ok (.invokevirtual 340, 3) := by decide +kernel
theorem dX12_strengthOf_48 : decode cX12_strengthOf 48 = .ok (.iadd, 1) := by decide +kernel
theorem dX12_strengthOf_49 : decode cX12_strengthOf 49 = .ok (.aload_n 0, 1) := by decide +kernel
theorem dX12_strengthOf_50 : decode cX12_strengthOf 50 = .ok (.getfield 92, 3) := by decide +kernel
theorem dX12_strengthOf_53 : decode cX12_strengthOf 53 = .ok (.iload_n 1, 1) := by decide +kernel
theorem dX12_strengthOf_54 : decode cX12_strengthOf 54 = .ok (.iaload, 1) := by decide +kernel
theorem dX12_strengthOf_55 : decode cX12_strengthOf 55 = .ok (.iadd, 1) := by decide +kernel
theorem dX12_strengthOf_56 : decode cX12_strengthOf 56 = .ok (.ireturn, 1) := by decide +kernel
theorem dX12_strength_0 : decode cX12_strength 0 = .ok (.aload_n 0, 1) := by decide +kernel
theorem dX12_strength_1 : decode cX12_strength 1 = .ok (.iload_n 1, 1) := by decide +kernel
theorem dX12_strength_2 : decode cX12_strength 2 = .ok (.iload_n 2, 1) := by decide +kernel
theorem dX12_strength_3 : decode cX12_strength 3 = .ok (.iload_n 3, 1) := by decide +kernel
theorem dX12_strength_4 : decode cX12_strength 4 = .ok (.iload 4, 2) := by decide +kernel
theorem dX12_strength_6 : decode cX12_strength 6 = .ok (.iload 5, 2) := by decide +kernel
theorem dX12_strength_8 : decode cX12_strength 8 = .ok (.invokevirtual 344, 3) := by decide +kernel
theorem dX12_strength_11 : decode cX12_strength 11 = .ok (.ifCond .eq 28, 3) := by decide +kernel
theorem dX12_strength_14 : decode cX12_strength 14 = .ok (.aload_n 0, 1) := by decide +kernel
theorem dX12_strength_15 : decode cX12_strength 15 = .ok (.iload 6, 2) := by decide +kernel
theorem dX12_strength_17 : decode cX12_strength 17 = .ok (.invokevirtual 337, 3) := by decide +kernel
theorem dX12_strength_20 : decode cX12_strength 20 = .ok (.ifCond .eq 19, 3) := by decide +kernel
theorem dX12_strength_23 : decode cX12_strength 23 = .ok (.aload_n 0, 1) := by decide +kernel
theorem dX12_strength_24 : decode cX12_strength 24 = .ok (.iload_n 1, 1) := by decide +kernel
theorem dX12_strength_25 : decode cX12_strength 25 = .ok (.iload_n 2, 1) := by decide +kernel
theorem dX12_strength_26 : decode cX12_strength 26 = .ok (.iload_n 3, 1) := by decide +kernel
theorem dX12_strength_27 : decode cX12_strength 27 = .ok (.iload 4, 2) := by decide +kernel
theorem dX12_strength_29 : decode cX12_strength 29 = .ok (.iload 5, 2) := by decide +kernel
theorem dX12_strength_31 : decode cX12_strength 31 = .ok (.iload 6, 2) := by decide +kernel
theorem dX12_strength_33 : decode cX12_strength 33 = .ok (.invokevirtual 348, 3) := by decide +kernel
theorem dX12_strength_36 : decode cX12_strength 36 = .ok (.goto 6, 3) := by decide +kernel
theorem dX12_strength_39 : decode cX12_strength 39 = .ok (.ldc_w 332, 3) := by decide +kernel
theorem dX12_strength_42 : decode cX12_strength 42 = .ok (.ireturn, 1) := by decide +kernel
theorem dX12_value_0 : decode cX12_value 0 = .ok (.iconst 0, 1) := by decide +kernel
theorem dX12_value_1 : decode cX12_value 1 = .ok (.istore_n 3, 1) := by decide +kernel
theorem dX12_value_2 : decode cX12_value 2 = .ok (.iload_n 1, 1) := by decide +kernel
theorem dX12_value_3 : decode cX12_value 3 = .ok (.istore 4, 2) := by decide +kernel
theorem dX12_value_5 : decode cX12_value 5 = .ok (.iload 4, 2) := by decide +kernel
theorem dX12_value_7 : decode cX12_value 7 = .ok (.iload_n 2, 1) := by decide +kernel
theorem dX12_value_8 : decode cX12_value 8 = .ok (.if_icmp .ge 136, 3) := by decide +kernel
theorem dX12_value_11 : decode cX12_value 11 = .ok (.aload_n 0, 1) := by decide +kernel
theorem dX12_value_12 : decode cX12_value 12 = .ok (.getfield 71, 3) := by decide +kernel
theorem dX12_value_15 : decode cX12_value 15 = .ok (.iload 4, 2) := by decide +kernel
theorem dX12_value_17 : decode cX12_value 17 = .ok (.iaload, 1) := by decide +kernel
theorem dX12_value_18 : decode cX12_value 18 = .ok (.iconst 2, 1) := by decide +kernel
theorem dX12_value_19 : decode cX12_value 19 = .ok (.if_icmp .ge 47, 3) := by decide +kernel
theorem dX12_value_22 : decode cX12_value 22 = .ok (.aload_n 0, 1) := by decide +kernel
theorem dX12_value_23 : decode cX12_value 23 = .ok (.getfield 137, 3) := by decide +kernel
theorem dX12_value_26 : decode cX12_value 26 = .ok (.iload_n 3, 1) := by decide +kernel
theorem dX12_value_27 : decode cX12_value 27 = .ok (.aload_n 0, 1) := by decide +kernel
theorem dX12_value_28 : decode cX12_value 28 = .ok (.getfield 71, 3) := by decide +kernel
theorem dX12_value_31 : decode cX12_value 31 = .ok (.iload 4, 2) := by decide +kernel
theorem dX12_value_33 : decode cX12_value 33 = .ok (.iaload, 1) := by decide +kernel
theorem dX12_value_34 : decode cX12_value 34 = .ok (.ifCond .ne 13, 3) := by decide +kernel
theorem dX12_value_37 : decode cX12_value 37 = .ok (.aload_n 0, 1) := by decide +kernel
theorem dX12_value_38 : decode cX12_value 38 = .ok (.getfield 74, 3) := by decide +kernel
theorem dX12_value_41 : decode cX12_value 41 = .ok (.iload 4, 2) := by decide +kernel
theorem dX12_value_43 : decode cX12_value 43 = .ok (.iaload, 1) := by decide +kernel
theorem dX12_value_44 : decode cX12_value 44 = .ok (.goto 15, 3) := by decide +kernel
theorem dX12_value_47 : decode cX12_value 47 = .ok (.aload_n 0, 1) := by decide +kernel
theorem dX12_value_48 : decode cX12_value 48 = .ok (.getfield 134, 3) := by decide +kernel
theorem dX12_value_51 : decode cX12_value 51 = .ok (.aload_n 0, 1) := by decide +kernel
theorem dX12_value_52 : decode cX12_value 52 = .ok (.getfield 74, 3) := by decide +kernel
theorem dX12_value_55 : decode cX12_value 55 = .ok (.iload 4, 2) := by decide +kernel
theorem dX12_value_57 : decode cX12_value 57 = .ok (.iaload, 1) := by decide +kernel
theorem dX12_value_58 : decode cX12_value 58 = .ok (.iaload, 1) := by decide +kernel
theorem dX12_value_59 : decode cX12_value 59 = .ok (.iastore, 1) := by decide +kernel
theorem dX12_value_60 : decode cX12_value 60 = .ok (.iinc 3 1, 3) := by decide +kernel
theorem dX12_value_63 : decode cX12_value 63 = .ok (.goto 75, 3) := by decide +kernel
theorem dX12_value_66 : decode cX12_value 66 = .ok (.iinc 3 (-1), 3) := by decide +kernel
theorem dX12_value_69 : decode cX12_value 69 = .ok (.aload_n 0, 1) := by decide +kernel
theorem dX12_value_70 : decode cX12_value 70 = .ok (.getfield 137, 3) := by decide +kernel
theorem dX12_value_73 : decode cX12_value 73 = .ok (.iload_n 3, 1) := by decide +kernel
theorem dX12_value_74 : decode cX12_value 74 = .ok (.iconst 1, 1) := by decide +kernel
theorem dX12_value_75 : decode cX12_value 75 = .ok (.isub, 1) := by decide +kernel
theorem dX12_value_76 : decode cX12_value 76 = .ok (.iaload, 1) := by decide +kernel
theorem dX12_value_77 : decode cX12_value 77 = .ok (.istore 5, 2) := by decide +kernel
theorem dX12_value_79 : decode cX12_value 79 = .ok (.aload_n 0, 1) := by decide +kernel
theorem dX12_value_80 : decode cX12_value 80 = .ok (.getfield 137, 3) := by decide +kernel
theorem dX12_value_83 : decode cX12_value 83 = .ok (.iload_n 3, 1) := by decide +kernel
theorem dX12_value_84 : decode cX12_value 84 = .ok (.iaload, 1) := by decide +kernel
theorem dX12_value_85 : decode cX12_value 85 = .ok (.istore 6, 2) := by decide +kernel
theorem dX12_value_87 : decode cX12_value 87 = .ok (.aload_n 0, 1) := by decide +kernel
theorem dX12_value_88 : decode cX12_value 88 = .ok (.getfield 137, 3) := by decide +kernel
theorem dX12_value_91 : decode cX12_value 91 = .ok (.iload_n 3, 1) := by decide +kernel
theorem dX12_value_92 : decode cX12_value 92 = .ok (.iconst 1, 1) := by decide +kernel
theorem dX12_value_93 : decode cX12_value 93 = .ok (.isub, 1) := by decide +kernel
theorem dX12_value_94 : decode cX12_value 94 = .ok (.aload_n 0, 1) := by decide +kernel
theorem dX12_value_95 : decode cX12_value 95 = .ok (.getfield 71, 3) := by decide +kernel
theorem dX12_value_98 : decode cX12_value 98 = .ok (.iload 4, 2) := by decide +kernel
theorem dX12_value_100 : decode cX12_value 100 = .ok (.iaload, 1) := by decide +kernel
theorem dX12_value_101 : decode cX12_value 101 = .ok (.iconst 2, 1) := by decide +kernel
theorem dX12_value_102 : decode cX12_value 102 = .ok (.if_icmp .ne 11, 3) := by decide +kernel
theorem dX12_value_105 : decode cX12_value 105 = .ok (.iload 5, 2) := by decide +kernel
theorem dX12_value_107 : decode cX12_value 107 = .ok (.iload 6, 2) := by decide +kernel
theorem dX12_value_109 : decode cX12_value 109 = .ok (.iadd, 1) := by decide +kernel
theorem dX12_value_110 : decode cX12_value 110 = .ok (.goto 27, 3) := by decide +kernel
theorem dX12_value_113 : decode cX12_value 113 = .ok (.aload_n 0, 1) := by decide +kernel
theorem dX12_value_114 : decode cX12_value 114 = .ok (.getfield 71, 3) := by decide +kernel
theorem dX12_value_117 : decode cX12_value 117 = .ok (.iload 4, 2) := by decide +kernel
theorem dX12_value_119 : decode cX12_value 119 = .ok (.iaload, 1) := by decide +kernel
theorem dX12_value_120 : decode cX12_value 120 = .ok (.iconst 3, 1) := by decide +kernel
theorem dX12_value_121 : decode cX12_value 121 = .ok (.if_icmp .ne 11, 3) := by decide +kernel
theorem dX12_value_124 : decode cX12_value 124 = .ok (.iload 5, 2) := by decide +kernel
theorem dX12_value_126 : decode cX12_value 126 = .ok (.iload 6, 2) := by decide +kernel
theorem dX12_value_128 : decode cX12_value 128 = .ok (.isub, 1) := by decide +kernel
theorem dX12_value_129 : decode cX12_value 129 = .ok (.goto 8, 3) := by decide +kernel
theorem dX12_value_132 : decode cX12_value 132 = .ok (.iload 5, 2) := by decide +kernel
theorem dX12_value_134 : decode cX12_value 134 = .ok (.iload 6, 2) := by decide +kernel
theorem dX12_value_136 : decode cX12_value 136 = .ok (.imul, 1) := by decide +kernel
theorem dX12_value_137 : decode cX12_value 137 = .ok (.iastore, 1) := by decide +kernel
theorem dX12_value_138 : decode cX12_value 138 = .ok (.iinc 4 1, 3) := by decide +kernel
theorem dX12_value_141 : decode cX12_value 141 = .ok (.goto (-136), 3) := by decide +kernel
theorem dX12_value_144 : decode cX12_value 144 = .ok (.aload_n 0, 1) := by decide +kernel
theorem dX12_value_145 : decode cX12_value 145 = .ok (.getfield 137, 3) := by decide +kernel
theorem dX12_value_148 : decode cX12_value 148 = .ok (.iconst 0, 1) := by decide +kernel
theorem dX12_value_149 : decode cX12_value 149 = .ok (.iaload, 1) := by decide +kernel
theorem dX12_value_150 : decode cX12_value 150 = .ok (.ireturn, 1) := by decide +kernel
theorem dX12_holds_0 : decode cX12_holds 0 = .ok (.aload_n 0, 1) := by decide +kernel
theorem dX12_holds_1 : decode cX12_holds 1 = .ok (.getfield 53, 3) := by decide +kernel
theorem dX12_holds_4 : decode cX12_holds 4 = .ok (.bipush 21, 2) := by decide +kernel
theorem dX12_holds_6 : decode cX12_holds 6 = .ok (.aload_n 0, 1) := by decide +kernel
theorem dX12_holds_7 : decode cX12_holds 7 = .ok (.getfield 245, 3) := by decide +kernel
theorem dX12_holds_10 : decode cX12_holds 10 = .ok (.imul, 1) := by decide +kernel
theorem dX12_holds_11 : decode cX12_holds 11 = .ok (.iload_n 1, 1) := by decide +kernel
theorem dX12_holds_12 : decode cX12_holds 12 = .ok (.iadd, 1) := by decide +kernel
theorem dX12_holds_13 : decode cX12_holds 13 = .ok (.iaload, 1) := by decide +kernel
theorem dX12_holds_14 : decode cX12_holds 14 = .ok (.istore_n 2, 1) := by decide +kernel
theorem dX12_holds_15 : decode cX12_holds 15 = .ok (.iload_n 2, 1) := by decide +kernel
theorem dX12_holds_16 : decode cX12_holds 16 = .ok (.aload_n 0, 1) := by decide +kernel
theorem dX12_holds_17 : decode cX12_holds 17 = .ok (.getfield 53, 3) := by decide +kernel
theorem dX12_holds_20 : decode cX12_holds 20 = .ok (.bipush 21, 2) := by decide +kernel
theorem dX12_holds_22 : decode cX12_holds 22 = .ok (.aload_n 0, 1) := by decide +kernel
theorem dX12_holds_23 : decode cX12_holds 23 = .ok (.getfield 245, 3) := by decide +kernel
theorem dX12_holds_26 : decode cX12_holds 26 = .ok (.imul, 1) := by decide +kernel
theorem dX12_holds_27 : decode cX12_holds 27 = .ok (.iload_n 1, 1) := by decide +kernel
theorem dX12_holds_28 : decode cX12_holds 28 = .ok (.iadd, 1) := by decide +kernel
theorem dX12_holds_29 : decode cX12_holds 29 = .ok (.iconst 1, 1) := by decide +kernel
theorem dX12_holds_30 : decode cX12_holds 30 = .ok (.iadd, 1) := by decide +kernel
theorem dX12_holds_31 : decode cX12_holds 31 = .ok (.iaload, 1) := by decide +kernel
theorem dX12_holds_32 : decode cX12_holds 32 = .ok (.if_icmp .ge 151, 3) := by decide +kernel
theorem dX12_holds_35 : decode cX12_holds 35 = .ok (.sipush 200, 3) := by decide +kernel
theorem dX12_holds_38 : decode cX12_holds 38 = .ok (.aload_n 0, 1) := by decide +kernel
theorem dX12_holds_39 : decode cX12_holds 39 = .ok (.getfield 245, 3) := by decide +kernel
theorem dX12_holds_42 : decode cX12_holds 42 = .ok (.imul, 1) := by decide +kernel
theorem dX12_holds_43 : decode cX12_holds 43 = .ok (.iload_n 2, 1) := by decide +kernel
theorem dX12_holds_44 : decode cX12_holds 44 = .ok (.iadd, 1) := by decide +kernel
theorem dX12_holds_45 : decode cX12_holds 45 = .ok (.istore_n 3, 1) := by decide +kernel
theorem dX12_holds_46 : decode cX12_holds 46 = .ok (.aload_n 0, 1) := by decide +kernel
theorem dX12_holds_47 : decode cX12_holds 47 = .ok (.aload_n 0, 1) := by decide +kernel
theorem dX12_holds_48 : decode cX12_holds 48 = .ok (.getfield 62, 3) := by decide +kernel
theorem dX12_holds_51 : decode cX12_holds 51 = .ok (.iload_n 3, 1) := by decide +kernel
theorem dX12_holds_52 : decode cX12_holds 52 = .ok (.iaload, 1) := by decide +kernel
theorem dX12_holds_53 : decode cX12_holds 53 = .ok (.aload_n 0, 1) := by decide +kernel
theorem dX12_holds_54 : decode cX12_holds 54 = .ok (.getfield 65, 3) := by decide +kernel
theorem dX12_holds_57 : decode cX12_holds 57 = .ok (.iload_n 3, 1) := by decide +kernel
theorem dX12_holds_58 : decode cX12_holds 58 = .ok (.iaload, 1) := by decide +kernel
theorem dX12_holds_59 : decode cX12_holds 59 = .ok (.invokevirtual 352, 3) := by decide +kernel
theorem dX12_holds_62 : decode cX12_holds 62 = .ok (.istore 4, 2) := by decide +kernel
theorem dX12_holds_64 : decode cX12_holds 64 = .ok (.aload_n 0, 1) := by decide +kernel
theorem dX12_holds_65 : decode cX12_holds 65 = .ok (.aload_n 0, 1) := by decide +kernel
theorem dX12_holds_66 : decode cX12_holds 66 = .ok (.getfield 65, 3) := by decide +kernel
theorem dX12_holds_69 : decode cX12_holds 69 = .ok (.iload_n 3, 1) := by decide +kernel
theorem dX12_holds_70 : decode cX12_holds 70 = .ok (.iaload, 1) := by decide +kernel
theorem dX12_holds_71 : decode cX12_holds 71 = .ok (.aload_n 0, 1) := by decide +kernel
theorem dX12_holds_72 : decode cX12_holds 72 = .ok (.getfield 68, 3) := by decide +kernel
theorem dX12_holds_75 : decode cX12_holds 75 = .ok (.iload_n 3, 1) := by decide +kernel
theorem dX12_holds_76 : decode cX12_holds 76 = .ok (.iaload, 1) := by decide +kernel
theorem dX12_holds_77 : decode cX12_holds 77 = .ok (.invokevirtual 352, 3) := by decide +kernel
theorem dX12_holds_80 : decode cX12_holds 80 = .ok (.istore 5, 2) := by decide +kernel
theorem dX12_holds_82 : decode cX12_holds 82 = .ok (.aload_n 0, 1) := by decide +kernel
theorem dX12_holds_83 : decode cX12_holds 83 = .ok (.getfield 59, 3) := by decide +kernel
theorem dX12_holds_86 : decode cX12_holds 86 = .ok (.iload_n 3, 1) := by decide +kernel
theorem dX12_holds_87 : decode cX12_holds 87 = .ok (.iaload, 1) := by decide +kernel
theorem dX12_holds_88 : decode cX12_holds 88 = .ok (.ifCond .ne 18, 3) := by decide +kernel
theorem dX12_holds_91 : decode cX12_holds 91 = .ok (.iload 4, 2) := by decide +kernel
theorem dX12_holds_93 : decode cX12_holds 93 = .ok (.iload 5, 2) := by decide +kernel
theorem dX12_holds_95 : decode cX12_holds 95 = .ok (.if_icmp .ne 7, 3) := by decide +kernel
theorem dX12_holds_98 : decode cX12_holds 98 = .ok (.iconst 1, 1) := by decide +kernel
theorem dX12_holds_99 : decode cX12_holds 99 = .ok (.goto 69, 3) := by decide +kernel
theorem dX12_holds_102 : decode cX12_holds 102 = .ok (.iconst 0, 1) := by decide +kernel
theorem dX12_holds_103 : decode cX12_holds 103 = .ok (.goto 65, 3) := by decide +kernel
theorem dX12_holds_106 : decode cX12_holds 106 = .ok (.aload_n 0, 1) := by decide +kernel
theorem dX12_holds_107 : decode cX12_holds 107 = .ok (.getfield 59, 3) := by decide +kernel
theorem dX12_holds_110 : decode cX12_holds 110 = .ok (.iload_n 3, 1) := by decide +kernel
theorem dX12_holds_111 : decode cX12_holds 111 = .ok (.iaload, 1) := by decide +kernel
theorem dX12_holds_112 : decode cX12_holds 112 = .ok (.iconst 1, 1) := by decide +kernel
theorem dX12_holds_113 : decode cX12_holds 113 = .ok (.if_icmp .ne 18, 3) := by decide +kernel
theorem dX12_holds_116 : decode cX12_holds 116 = .ok (.iload 4, 2) := by decide +kernel
theorem dX12_holds_118 : decode cX12_holds 118 = .ok (.iload 5, 2) := by decide +kernel
theorem dX12_holds_120 : decode cX12_holds 120 = .ok (.if_icmp .eq 7, 3) := by decide +kernel
theorem dX12_holds_123 : decode cX12_holds 123 = .ok (.iconst 1, 1) := by decide +kernel
theorem dX12_holds_124 : decode cX12_holds 124 = .ok (.goto 44, 3) := by decide +kernel
theorem dX12_holds_127 : decode cX12_holds 127 = .ok (.iconst 0, 1) := by decide +kernel
theorem dX12_holds_128 : decode cX12_holds 128 = .ok (.goto 40, 3) := by decide +kernel
theorem dX12_holds_131 : decode cX12_holds 131 = .ok (.aload_n 0, 1) := by decide +kernel
theorem dX12_holds_132 : decode cX12_holds 132 = .ok (.getfield 59, 3) := by decide +kernel
theorem dX12_holds_135 : decode cX12_holds 135 = .ok (.iload_n 3, 1) := by decide +kernel
theorem dX12_holds_136 : decode cX12_holds 136 = .ok (.iaload, 1) := by decide +kernel
