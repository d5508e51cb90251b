theorem dX12_read_85 : decode cX12_read 85 = .ok (.aload_n 0, 1) := by decide +kernel
theorem dX12_read_86 : decode cX12_read 86 = .ok (.getfield 56, 3) := by decide +kernel
theorem dX12_read_89 : decode cX12_read 89 = .ok (.aload_n 0, 1) := by decide +kernel
theorem dX12_read_90 : decode cX12_read 90 = .ok (.getfield 248, 3) := by decide +kernel
theorem dX12_read_93 : decode cX12_read 93 = .ok (.iconst 0, 1) := by decide +kernel
theorem dX12_read_94 : decode cX12_read 94 = .ok (.iastore, 1) := by decide +kernel
theorem dX12_read_95 : decode cX12_read 95 = .ok (.aload_n 0, 1) := by decide +kernel
theorem dX12_read_96 : decode cX12_read 96 = .ok (.sipush 500, 3) := by decide +kernel
theorem dX12_read_99 : decode cX12_read 99 = .ok (.aload_n 0, 1) := by decide +kernel
theorem dX12_read_100 : decode cX12_read 100 = .ok (.getfield 248, 3) := by decide +kernel
theorem dX12_read_103 : decode cX12_read 103 = .ok (.imul, 1) := by decide +kernel
theorem dX12_read_104 : decode cX12_read 104 = .ok (.putfield 251, 3) := by decide +kernel
theorem dX12_read_107 : decode cX12_read 107 = .ok (.aload_n 0, 1) := by decide +kernel
theorem dX12_read_108 : decode cX12_read 108 = .ok (.getfield 53, 3) := by decide +kernel
theorem dX12_read_111 : decode cX12_read 111 = .ok (.bipush 21, 2) := by decide +kernel
theorem dX12_read_113 : decode cX12_read 113 = .ok (.aload_n 0, 1) := by decide +kernel
theorem dX12_read_114 : decode cX12_read 114 = .ok (.getfield 248, 3) := by decide +kernel
theorem dX12_read_117 : decode cX12_read 117 = .ok (.imul, 1) := by decide +kernel
theorem dX12_read_118 : decode cX12_read 118 = .ok (.iconst 0, 1) := by decide +kernel
theorem dX12_read_119 : decode cX12_read 119 = .ok (.iastore, 1) := by decide +kernel
theorem dX12_read_120 : decode cX12_read 120 = .ok (.aload_n 0, 1) := by decide +kernel
theorem dX12_read_121 : decode cX12_read 121 = .ok (.getfield 215, 3) := by decide +kernel
theorem dX12_read_124 : decode cX12_read 124 = .ok (.ifCond .ne 18, 3) := by decide +kernel
theorem dX12_read_127 : decode cX12_read 127 = .ok (.aload_n 0, 1) := by decide +kernel
theorem dX12_read_128 : decode cX12_read 128 = .ok (.iconst 0, 1) := by decide +kernel
theorem dX12_read_129 : decode cX12_read 129 = .ok (.invokevirtual 233, 3) := by decide +kernel
theorem dX12_read_132 : decode cX12_read 132 = .ok (.ifCond .ne 10, 3) := by decide +kernel
theorem dX12_read_135 : decode cX12_read 135 = .ok (.aload_n 0, 1) := by decide +kernel
theorem dX12_read_136 : decode cX12_read 136 = .ok (.invokevirtual 254, 3) := by decide +kernel
theorem dX12_read_139 : decode cX12_read 139 = .ok (.goto (-19), 3) := by decide +kernel
theorem dX12_read_142 : decode cX12_read 142 = .ok (.aload_n 0, 1) := by decide +kernel
theorem dX12_read_143 : decode cX12_read 143 = .ok (.aload_n 0, 1) := by decide +kernel
theorem dX12_read_144 : decode cX12_read 144 = .ok (.getfield 215, 3) := by decide +kernel
theorem dX12_read_147 : decode cX12_read 147 = .ok (.ifCond .le 10, 3) := by decide +kernel
theorem dX12_read_150 : decode cX12_read 150 = .ok (.aload_n 0, 1) := by decide +kernel
theorem dX12_read_151 : decode cX12_read 151 = .ok (.getfield 221, 3) := by decide +kernel
theorem dX12_read_154 : decode cX12_read 154 = .ok (.goto 18, 3) := by decide +kernel
theorem dX12_read_157 : decode cX12_read 157 = .ok (.aload_n 0, 1) := by decide +kernel
theorem dX12_read_158 : decode cX12_read 158 = .ok (.getfield 224, 3) := by decide +kernel
theorem dX12_read_161 : decode cX12_read 161 = .ok (.ifCond .le 10, 3) := by decide +kernel
theorem dX12_read_164 : decode cX12_read 164 = .ok (.aload_n 0, 1) := by decide +kernel
theorem dX12_read_165 : decode cX12_read 165 = .ok (.getfield 227, 3) := by decide +kernel
theorem dX12_read_168 : decode cX12_read 168 = .ok (.goto 4, 3) := by decide +kernel
theorem dX12_read_171 : decode cX12_read 171 = .ok (.iconst (-1), 1) := by decide +kernel
theorem dX12_read_172 : decode cX12_read 172 = .ok (.putfield 37, 3) := by decide +kernel
theorem dX12_read_175 : decode cX12_read 175 = .ok (.aload_n 0, 1) := by decide +kernel
theorem dX12_read_176 : decode cX12_read 176 = .ok (.getfield 215, 3) := by decide +kernel
theorem dX12_read_179 : decode cX12_read 179 = .ok (.ifCond .le 8, 3) := by decide +kernel
theorem dX12_read_182 : decode cX12_read 182 = .ok (.aload_n 0, 1) := by decide +kernel
theorem dX12_read_183 : decode cX12_read 183 = .ok (.getfield 215, 3) := by decide +kernel
theorem dX12_read_186 : decode cX12_read 186 = .ok (.ireturn, 1) := by decide +kernel
theorem dX12_read_187 : decode cX12_read 187 = .ok (.aload_n 0, 1) := by decide +kernel
theorem dX12_read_188 : decode cX12_read 188 = .ok (.getfield 224, 3) := by decide +kernel
theorem dX12_read_191 : decode cX12_read 191 = .ok (.ifCond .le 8, 3) := by decide +kernel
theorem dX12_read_194 : decode cX12_read 194 = .ok (.aload_n 0, 1) := by decide +kernel
theorem dX12_read_195 : decode cX12_read 195 = .ok (.getfield 224, 3) := by decide +kernel
theorem dX12_read_198 : decode cX12_read 198 = .ok (.ireturn, 1) := by decide +kernel
theorem dX12_read_199 : decode cX12_read 199 = .ok (.aload_n 0, 1) := by decide +kernel
theorem dX12_read_200 : decode cX12_read 200 = .ok (.aload_n 0, 1) := by decide +kernel
theorem dX12_read_201 : decode cX12_read 201 = .ok (.getfield 248, 3) := by decide +kernel
theorem dX12_read_204 : decode cX12_read 204 = .ok (.putfield 245, 3) := by decide +kernel
theorem dX12_read_207 : decode cX12_read 207 = .ok (.iconst 0, 1) := by decide +kernel
theorem dX12_read_208 : decode cX12_read 208 = .ok (.ireturn, 1) := by decide +kernel
theorem dX12_place_0 : decode cX12_place 0 = .ok (.aload_n 0, 1) := by decide +kernel
theorem dX12_place_1 : decode cX12_place 1 = .ok (.getfield 37, 3) := by decide +kernel
theorem dX12_place_4 : decode cX12_place 4 = .ok (.ireturn, 1) := by decide +kernel
theorem dX12_tellRule_0 : decode cX12_tellRule 0 = .ok (.aload_n 0, 1) := by decide +kernel
theorem dX12_tellRule_1 : decode cX12_tellRule 1 = .ok (.bipush 20, 2) := by decide +kernel
theorem dX12_tellRule_3 : decode cX12_tellRule 3 = .ok (.invokevirtual 233, 3) := by decide +kernel
theorem dX12_tellRule_6 : decode cX12_tellRule 6 = .ok (.ifCond .ne 20, 3) := by decide +kernel
theorem dX12_tellRule_9 : decode cX12_tellRule 9 = .ok (.aload_n 0, 1) := by decide +kernel
theorem dX12_tellRule_10 : decode cX12_tellRule 10 = .ok (.bipush 21, 2) := by decide +kernel
theorem dX12_tellRule_12 : decode cX12_tellRule 12 = .ok (.invokevirtual 233, 3) := by decide +kernel
theorem dX12_tellRule_15 : decode cX12_tellRule 15 = .ok (.ifCond .ne 11, 3) := by decide +kernel
theorem dX12_tellRule_18 : decode cX12_tellRule 18 = .ok (.aload_n 0, 1) := by decide +kernel
theorem dX12_tellRule_19 : decode cX12_tellRule 19 = .ok (.iconst 1, 1) := by decide +kernel
theorem dX12_tellRule_20 : decode cX12_tellRule 20 = .ok (.invokevirtual 230, 3) := by decide +kernel
theorem dX12_tellRule_23 : decode cX12_tellRule 23 = .ok (.goto 22, 3) := by decide +kernel
theorem dX12_tellRule_26 : decode cX12_tellRule 26 = .ok (.aload_n 0, 1) := by decide +kernel
theorem dX12_tellRule_27 : decode cX12_tellRule 27 = .ok (.getfield 40, 3) := by decide +kernel
theorem dX12_tellRule_30 : decode cX12_tellRule 30 = .ok (.aload_n 0, 1) := by decide +kernel
theorem dX12_tellRule_31 : decode cX12_tellRule 31 = .ok (.getfield 248, 3) := by decide +kernel
theorem dX12_tellRule_34 : decode cX12_tellRule 34 = .ok (.iaload, 1) := by decide +kernel
theorem dX12_tellRule_35 : decode cX12_tellRule 35 = .ok (.bipush 20, 2) := by decide +kernel
theorem dX12_tellRule_37 : decode cX12_tellRule 37 = .ok (.if_icmp .ne 8, 3) := by decide +kernel
theorem dX12_tellRule_40 : decode cX12_tellRule 40 = .ok (.aload_n 0, 1) := by decide +kernel
theorem dX12_tellRule_41 : decode cX12_tellRule 41 = .ok (.iconst 2, 1) := by decide +kernel
theorem dX12_tellRule_42 : decode cX12_tellRule 42 = .ok (.invokevirtual 230, 3) := by decide +kernel
theorem dX12_tellRule_45 : decode cX12_tellRule 45 = .ok (.aload_n 0, 1) := by decide +kernel
theorem dX12_tellRule_46 : decode cX12_tellRule 46 = .ok (.getfield 215, 3) := by decide +kernel
theorem dX12_tellRule_49 : decode cX12_tellRule 49 = .ok (.ifCond .le 4, 3) := by decide +kernel
theorem dX12_tellRule_52 : decode cX12_tellRule 52 = .ok (.return_, 1) := by decide +kernel
theorem dX12_tellRule_53 : decode cX12_tellRule 53 = .ok (.bipush 20, 2) := by decide +kernel
theorem dX12_tellRule_55 : decode cX12_tellRule 55 = .ok (.aload_n 0, 1) := by decide +kernel
theorem dX12_tellRule_56 : decode cX12_tellRule 56 = .ok (.getfield 248, 3) := by decide +kernel
theorem dX12_tellRule_59 : decode cX12_tellRule 59 = .ok (.imul, 1) := by decide +kernel
theorem dX12_tellRule_60 : decode cX12_tellRule 60 = .ok (.aload_n 0, 1) := by decide +kernel
theorem dX12_tellRule_61 : decode cX12_tellRule 61 = .ok (.getfield 40, 3) := by decide +kernel
theorem dX12_tellRule_64 : decode cX12_tellRule 64 = .ok (.aload_n 0, 1) := by decide +kernel
theorem dX12_tellRule_65 : decode cX12_tellRule 65 = .ok (.getfield 248, 3) := by decide +kernel
theorem dX12_tellRule_68 : decode cX12_tellRule 68 = .ok (.iaload, 1) := by decide +kernel
theorem dX12_tellRule_69 : decode cX12_tellRule 69 = .ok (.iadd, 1) := by decide +kernel
theorem dX12_tellRule_70 : decode cX12_tellRule 70 = .ok (.istore_n 1, 1) := by decide +kernel
theorem dX12_tellRule_71 : decode cX12_tellRule 71 = .ok (.aload_n 0, 1) := by decide +kernel
theorem dX12_tellRule_72 : decode cX12_tellRule 72 = .ok (.getfield 43, 3) := by decide +kernel
theorem dX12_tellRule_75 : decode cX12_tellRule 75 = .ok (.iload_n 1, 1) := by decide +kernel
theorem dX12_tellRule_76 : decode cX12_tellRule 76 = .ok (.aload_n 0, 1) := by decide +kernel
theorem dX12_tellRule_77 : decode cX12_tellRule 77 = .ok (.bipush 20, 2) := by decide +kernel
theorem dX12_tellRule_79 : decode cX12_tellRule 79 = .ok (.invokevirtual 233, 3) := by decide +kernel
theorem dX12_tellRule_82 : decode cX12_tellRule 82 = .ok (.bastore, 1) := by decide +kernel
theorem dX12_tellRule_83 : decode cX12_tellRule 83 = .ok (.aload_n 0, 1) := by decide +kernel
theorem dX12_tellRule_84 : decode cX12_tellRule 84 = .ok (.invokevirtual 236, 3) := by decide +kernel
theorem dX12_tellRule_87 : decode cX12_tellRule 87 = .ok (.aload_n 0, 1) := by decide +kernel
theorem dX12_tellRule_88 : decode cX12_tellRule 88 = .ok (.bipush 22, 2) := by decide +kernel
theorem dX12_tellRule_90 : decode cX12_tellRule 90 = .ok (.invokevirtual 257, 3) := by decide +kernel
theorem dX12_tellRule_93 : decode cX12_tellRule 93 = .ok (.aload_n 0, 1) := by decide +kernel
theorem dX12_tellRule_94 : decode cX12_tellRule 94 = .ok (.getfield 47, 3) := by decide +kernel
theorem dX12_tellRule_97 : decode cX12_tellRule 97 = .ok (.iload_n 1, 1) := by decide +kernel
theorem dX12_tellRule_98 : decode cX12_tellRule 98 = .ok (.iconst 0, 1) := by decide +kernel
theorem dX12_tellRule_99 : decode cX12_tellRule 99 = .ok (.iastore, 1) := by decide +kernel
theorem dX12_tellRule_100 : decode cX12_tellRule 100 = .ok (.aload_n 0, 1) := by decide +kernel
theorem dX12_tellRule_101 : decode cX12_tellRule 101 = .ok (.getfield 50, 3) := by decide +kernel
theorem dX12_tellRule_104 : decode cX12_tellRule 104 = .ok (.iload_n 1, 1) := by decide +kernel
theorem dX12_tellRule_105 : decode cX12_tellRule 105 = .ok (.iconst (-1), 1) := by decide +kernel
theorem dX12_tellRule_106 : decode cX12_tellRule 106 = .ok (.iastore, 1) := by decide +kernel
theorem dX12_tellRule_107 : decode cX12_tellRule 107 = .ok (.aload_n 0, 1) := by decide +kernel
theorem dX12_tellRule_108 : decode cX12_tellRule 108 = .ok (.bipush 23, 2) := by decide +kernel
theorem dX12_tellRule_110 : decode cX12_tellRule 110 = .ok (.invokevirtual 233, 3) := by decide +kernel
theorem dX12_tellRule_113 : decode cX12_tellRule 113 = .ok (.ifCond .eq 37, 3) := by decide +kernel
theorem dX12_tellRule_116 : decode cX12_tellRule 116 = .ok (.aload_n 0, 1) := by decide +kernel
theorem dX12_tellRule_117 : decode cX12_tellRule 117 = .ok (.invokevirtual 236, 3) := by decide +kernel
theorem dX12_tellRule_120 : decode cX12_tellRule 120 = .ok (.aload_n 0, 1) := by decide +kernel
theorem dX12_tellRule_121 : decode cX12_tellRule 121 = .ok (.getfield 218, 3) := by decide +kernel
theorem dX12_tellRule_124 : decode cX12_tellRule 124 = .ok (.istore_n 2, 1) := by decide +kernel
theorem dX12_tellRule_125 : decode cX12_tellRule 125 = .ok (.aload_n 0, 1) := by decide +kernel
theorem dX12_tellRule_126 : decode cX12_tellRule 126 = .ok (.iconst 2, 1) := by decide +kernel
theorem dX12_tellRule_127 : decode cX12_tellRule 127 = .ok (.invokevirtual 257, 3) := by decide +kernel
theorem dX12_tellRule_130 : decode cX12_tellRule 130 = .ok (.aload_n 0, 1) := by decide +kernel
theorem dX12_tellRule_131 : decode cX12_tellRule 131 = .ok (.getfield 215, 3) := by decide +kernel
theorem dX12_tellRule_134 : decode cX12_tellRule 134 = .ok (.ifCond .le 4, 3) := by decide +kernel
theorem dX12_tellRule_137 : decode cX12_tellRule 137 = .ok (.return_, 1) := by decide +kernel
theorem dX12_tellRule_138 : decode cX12_tellRule 138 = .ok (.aload_n 0, 1) := by decide +kernel
theorem dX12_tellRule_139 : decode cX12_tellRule 139 = .ok (.getfield 47, 3) := by decide +kernel
theorem dX12_tellRule_142 : decode cX12_tellRule 142 = .ok (.iload_n 1, 1) := by decide +kernel
theorem dX12_tellRule_143 : decode cX12_tellRule 143 = .ok (.aload_n 0, 1) := by decide +kernel
theorem dX12_tellRule_144 : decode cX12_tellRule 144 = .ok (.getfield 27, 3) := by decide +kernel
theorem dX12_tellRule_147 : decode cX12_tellRule 147 = .ok (.iload_n 2, 1) := by decide +kernel
theorem dX12_tellRule_148 : decode cX12_tellRule 148 = .ok (.iaload, 1) := by decide +kernel
theorem dX12_tellRule_149 : decode cX12_tellRule 149 = .ok (.iastore, 1) := by decide +kernel
theorem dX12_tellRule_150 : decode cX12_tellRule 150 = .ok (.aload_n 0, 1) := by decide +kernel
theorem dX12_tellRule_151 : decode cX12_tellRule 151 = .ok (.bipush 24, 2) := by decide +kernel
theorem dX12_tellRule_153 : decode cX12_tellRule 153 = .ok (.invokevirtual 233, 3) := by decide +kernel
theorem dX12_tellRule_156 : decode cX12_tellRule 156 = .ok (.ifCond .eq 58, 3) := by decide +kernel
theorem dX12_tellRule_159 : decode cX12_tellRule 159 = .ok (.aload_n 0, 1) := by decide +kernel
theorem dX12_tellRule_160 : decode cX12_tellRule 160 = .ok (.invokevirtual 236, 3) := by decide +kernel
theorem dX12_tellRule_163 : decode cX12_tellRule 163 = .ok (.aload_n 0, 1) := by decide +kernel
theorem dX12_tellRule_164 : decode cX12_tellRule 164 = .ok (.getfield 218, 3) := by decide +kernel
theorem dX12_tellRule_167 : decode cX12_tellRule 167 = .ok (.istore_n 2, 1) := by decide +kernel
theorem dX12_tellRule_168 : decode cX12_tellRule 168 = .ok (.aload_n 0, 1) := by decide +kernel
theorem dX12_tellRule_169 : decode cX12_tellRule 169 = .ok (.iconst 2, 1) := by decide +kernel
theorem dX12_tellRule_170 : decode cX12_tellRule 170 = .ok (.invokevirtual 257, 3) := by decide +kernel
theorem dX12_tellRule_173 : decode cX12_tellRule 173 = .ok (.aload_n 0, 1) := by decide +kernel
theorem dX12_tellRule_174 : decode cX12_tellRule 174 = .ok (.getfield 215, 3) := by decide +kernel
theorem dX12_tellRule_177 : decode cX12_tellRule 177 = .ok (.ifCond .le 4, 3) := by decide +kernel
theorem dX12_tellRule_180 : decode cX12_tellRule 180 = .ok (.return_, 1) := by decide +kernel
theorem dX12_tellRule_181 : decode cX12_tellRule 181 = .ok (.aload_n 0, 1) := by decide +kernel
theorem dX12_tellRule_182 : decode cX12_tellRule 182 = .ok (.getfield 50, 3) := by decide +kernel
theorem dX12_tellRule_185 : decode cX12_tellRule 185 = .ok (.iload_n 1, 1) := by decide +kernel
theorem dX12_tellRule_186 : decode cX12_tellRule 186 = .ok (.aload_n 0, 1) := by decide +kernel
theorem dX12_tellRule_187 : decode cX12_tellRule 187 = .ok (.getfield 27, 3) := by decide +kernel
theorem dX12_tellRule_190 : decode cX12_tellRule 190 = .ok (.iload_n 2, 1) := by decide +kernel
theorem dX12_tellRule_191 : decode cX12_tellRule 191 = .ok (.iaload, 1) := by decide +kernel
theorem dX12_tellRule_192 : decode cX12_tellRule 192 = .ok (.iastore, 1) := by decide +kernel
theorem dX12_tellRule_193 : decode cX12_tellRule 193 = .ok (.aload_n 0, 1) := by decide +kernel
theorem dX12_tellRule_194 : decode cX12_tellRule 194 = .ok (.getfield 50, 3) := by decide +kernel
theorem dX12_tellRule_197 : decode cX12_tellRule 197 = .ok (.iload_n 1, 1) := by decide +kernel
theorem dX12_tellRule_198 : decode cX12_tellRule 198 = .ok (.iaload, 1) := by decide +kernel
theorem dX12_tellRule_199 : decode cX12_tellRule 199 = .ok (.aload_n 0, 1) := by decide +kernel
theorem dX12_tellRule_200 : decode cX12_tellRule 200 = .ok (.getfield 47, 3) := by decide +kernel
theorem dX12_tellRule_203 : decode cX12_tellRule 203 = .ok (.iload_n 1, 1) := by decide +kernel
theorem dX12_tellRule_204 : decode cX12_tellRule 204 = .ok (.iaload, 1) := by decide +kernel
theorem dX12_tellRule_205 : decode cX12_tellRule 205 = .ok (.if_icmp .gt 9, 3) := by decide +kernel
theorem dX12_tellRule_208 : decode cX12_tellRule 208 = .ok (.aload_n 0, 1) := by decide +kernel
theorem dX12_tellRule_209 : decode cX12_tellRule 209 = .ok (.iconst 5, 1) := by decide +kernel
theorem dX12_tellRule_210 : decode cX12_tellRule 210 = .ok (.iload_n 2, 1) := by decide +kernel
theorem dX12_tellRule_211 : decode cX12_tellRule 211 = .ok (.invokevirtual 260, 3) := by decide +kernel
theorem dX12_tellRule_214 : decode cX12_tellRule 214 = .ok (.aload_n 0, 1) := by decide +kernel
theorem dX12_tellRule_215 : decode cX12_tellRule 215 = .ok (.bipush 25, 2) := by decide +kernel
theorem dX12_tellRule_217 : decode cX12_tellRule 217 = .ok (.invokevirtual 233, 3) := by decide +kernel
theorem dX12_tellRule_220 : decode cX12_tellRule 220 = .ok (.ifCond .eq 31, 3) := by decide +kernel
theorem dX12_tellRule_223 : decode cX12_tellRule 223 = .ok (.aload_n 0, 1) := by decide +kernel
theorem dX12_tellRule_224 : decode cX12_tellRule 224 = .ok (.invokevirtual 236, 3) := by decide +kernel
theorem dX12_tellRule_227 : decode cX12_tellRule 227 = .ok (.aload_n 0, 1) := by decide +kernel
theorem dX12_tellRule_228 : decode cX12_tellRule 228 = .ok (.invokevirtual 264, 3) := by decide +kernel
theorem dX12_tellRule_231 : decode cX12_tellRule 231 = .ok (.aload_n 0, 1) := by decide +kernel
theorem dX12_tellRule_232 : decode cX12_tellRule 232 = .ok (.bipush 26, 2) := by decide +kernel
theorem dX12_tellRule_234 : decode cX12_tellRule 234 = .ok (.invokevirtual 233, 3) := by decide +kernel
theorem dX12_tellRule_237 : decode cX12_tellRule 237 = .ok (.ifCond .eq 14, 3) := by decide +kernel
theorem dX12_tellRule_240 : decode cX12_tellRule 240 = .ok (.aload_n 0, 1) := by decide +kernel
theorem dX12_tellRule_241 : decode cX12_tellRule 241 = .ok (.invokevirtual 236, 3) := by decide +kernel
theorem dX12_tellRule_244 : decode cX12_tellRule 244 = .ok (.aload_n 0, 1) := by decide +kernel
theorem dX12_tellRule_245 : decode cX12_tellRule 245 = .ok (.invokevirtual 264, 3) := by decide +kernel
theorem dX12_tellRule_248 : decode cX12_tellRule 248 = .ok (.goto (-17), 3) := by decide +kernel
theorem dX12_tellRule_251 : decode cX12_tellRule 251 = .ok (.aload_n 0, 1) := by decide +kernel
theorem dX12_tellRule_252 : decode cX12_tellRule 252 = .ok (.iconst 4, 1) := by decide +kernel
theorem dX12_tellRule_253 : decode cX12_tellRule 253 = .ok (.invokevirtual 257, 3) := by decide +kernel
theorem dX12_tellRule_256 : decode cX12_tellRule 256 = .ok (.aload_n 0, 1) := by decide +kernel
theorem dX12_tellRule_257 : decode cX12_tellRule 257 = .ok (.getfield 215, 3) := by decide +kernel
theorem dX12_tellRule_260 : decode cX12_tellRule 260 = .ok (.ifCond .le 4, 3) := by decide +kernel
theorem dX12_tellRule_263 : decode cX12_tellRule 263 = .ok (.return_, 1) := by decide +kernel
theorem dX12_tellRule_264 : decode cX12_tellRule 264 = .ok (.aload_n 0, 1) := by decide +kernel
theorem dX12_tellRule_265 : decode cX12_tellRule 265 = .ok (.getfield 40, 3) := by decide +kernel
theorem dX12_tellRule_268 : decode cX12_tellRule 268 = .ok (.aload_n 0, 1) := by decide +kernel
theorem dX12_tellRule_269 : decode cX12_tellRule 269 = .ok (.getfield 248, 3) := by decide +kernel
theorem dX12_tellRule_272 : decode cX12_tellRule 272 = .ok (.dup2, 1) := by decide +kernel
theorem dX12_tellRule_273 : decode cX12_tellRule 273 = .ok (.iaload, 1) := by decide +kernel
theorem dX12_tellRule_274 : decode cX12_tellRule 274 = .ok (.iconst 1, 1) := by decide +kernel
theorem dX12_tellRule_275 : decode cX12_tellRule 275 = .ok (.iadd, 1) := by decide +kernel
theorem dX12_tellRule_276 : decode cX12_tellRule 276 = .ok (.iastore, 1) := by decide +kernel
theorem dX12_tellRule_277 : decode cX12_tellRule 277 = .ok (.aload_n 0, 1) := by decide +kernel
theorem dX12_tellRule_278 : decode cX12_tellRule 278 = .ok (.getfield 53, 3) := by decide +kernel
theorem dX12_tellRule_281 : decode cX12_tellRule 281 = .ok (.bipush 21, 2) := by decide +kernel
theorem dX12_tellRule_283 : decode cX12_tellRule 283 = .ok (.aload_n 0, 1) := by decide +kernel
theorem dX12_tellRule_284 : decode cX12_tellRule 284 = .ok (.getfield 248, 3) := by decide +kernel
theorem dX12_tellRule_287 : decode cX12_tellRule 287 = .ok (.imul, 1) := by decide +kernel
theorem dX12_tellRule_288 : decode cX12_tellRule 288 = .ok (.aload_n 0, 1) := by decide +kernel
theorem dX12_tellRule_289 : decode cX12_tellRule 289 = .ok (.getfield 40, 3) := by decide +kernel
theorem dX12_tellRule_292 : decode cX12_tellRule 292 = .ok (.aload_n 0, 1) := by decide +kernel
theorem dX12_tellRule_293 : decode cX12_tellRule 293 = .ok (.getfield 248, 3) := by decide +kernel
theorem dX12_tellRule_296 : decode cX12_tellRule 296 = .ok (.iaload, 1) := by decide +kernel
theorem dX12_tellRule_297 : decode cX12_tellRule 297 = .ok (.iadd, 1) := by decide +kernel
theorem dX12_tellRule_298 : decode cX12_tellRule 298 = .ok (.aload_n 0, 1) := by decide +kernel
theorem dX12_tellRule_299 : decode cX12_tellRule 299 = .ok (.getfield 56, 3) := by decide +kernel
theorem dX12_tellRule_302 : decode cX12_tellRule 302 = .ok (.aload_n 0, 1) := by decide +kernel
theorem dX12_tellRule_303 : decode cX12_tellRule 303 = .ok (.getfield 248, 3) := by decide +kernel
theorem dX12_tellRule_306 : decode cX12_tellRule 306 = .ok (.iaload, 1) := by decide +kernel
theorem dX12_tellRule_307 : decode cX12_tellRule 307 = .ok (.iastore, 1) := by decide +kernel
theorem dX12_tellRule_308 : decode cX12_tellRule 308 = .ok (.return_, 1) := by decide +kernel
theorem dX12_relation_0 : decode cX12_relation 0 = .ok (.aload_n 0, 1) := by decide +kernel
theorem dX12_relation_1 : decode cX12_relation 1 = .ok (.getfield 251, 3) := by decide +kernel
theorem dX12_relation_4 : decode cX12_relation 4 = .ok (.istore_n 1, 1) := by decide +kernel
theorem dX12_relation_5 : decode cX12_relation 5 = .ok (.aload_n 0, 1) := by decide +kernel
theorem dX12_relation_6 : decode cX12_relation 6 = .ok (.invokevirtual 267, 3) := by decide +kernel
theorem dX12_relation_9 : decode cX12_relation 9 = .ok (.aload_n 0, 1) := by decide +kernel
theorem dX12_relation_10 : decode cX12_relation 10 = .ok (.getfield 215, 3) := by decide +kernel
theorem dX12_relation_13 : decode cX12_relation 13 = .ok (.ifCond .le 7, 3) := by decide +kernel
theorem dX12_relation_16 : decode cX12_relation 16 = .ok (.iconst 0, 1) := by decide +kernel
theorem dX12_relation_17 : decode cX12_relation 17 = .ok (.goto 15, 3) := by decide +kernel
theorem dX12_relation_20 : decode cX12_relation 20 = .ok (.aload_n 0, 1) := by decide +kernel
theorem dX12_relation_21 : decode cX12_relation 21 = .ok (.getfield 20, 3) := by decide +kernel
theorem dX12_relation_24 : decode cX12_relation 24 = .ok (.aload_n 0, 1) := by decide +kernel
theorem dX12_relation_25 : decode cX12_relation 25 = .ok (.getfield 218, 3) := by decide +kernel
theorem dX12_relation_28 : decode cX12_relation 28 = .ok (.iaload, 1) := by decide +kernel
theorem dX12_relation_29 : decode cX12_relation 29 = .ok (.bipush 11, 2) := by decide +kernel
theorem dX12_relation_31 : decode cX12_relation 31 = .ok (.isub, 1) := by decide +kernel
theorem dX12_relation_32 : decode cX12_relation 32 = .ok (.istore_n 2, 1) := by decide +kernel
theorem dX12_relation_33 : decode cX12_relation 33 = .ok (.aload_n 0, 1) := by decide +kernel
theorem dX12_relation_34 : decode cX12_relation 34 = .ok (.getfield 215, 3) := by decide +kernel
theorem dX12_relation_37 : decode cX12_relation 37 = .ok (.ifCond .ne 17, 3) := by decide +kernel
theorem dX12_relation_40 : decode cX12_relation 40 = .ok (.iload_n 2, 1) := by decide +kernel
theorem dX12_relation_41 : decode cX12_relation 41 = .ok (.ifCond .lt 8, 3) := by decide +kernel
theorem dX12_relation_44 : decode cX12_relation 44 = .ok (.iload_n 2, 1) := by decide +kernel
theorem dX12_relation_45 : decode cX12_relation 45 = .ok (.iconst 3, 1) := by decide +kernel
theorem dX12_relation_46 : decode cX12_relation 46 = .ok (.if_icmp .le 8, 3) := by decide +kernel
theorem dX12_relation_49 : decode cX12_relation 49 = .ok (.aload_n 0, 1) := by decide +kernel
theorem dX12_relation_50 : decode cX12_relation 50 = .ok (.iconst 1, 1) := by decide +kernel
theorem dX12_relation_51 : decode cX12_relation 51 = .ok (.invokevirtual 230, 3) := by decide +kernel
theorem dX12_relation_54 : decode cX12_relation 54 = .ok (.aload_n 0, 1) := by decide +kernel
theorem dX12_relation_55 : decode cX12_relation 55 = .ok (.invokevirtual 236, 3) := by decide +kernel
theorem dX12_relation_58 : decode cX12_relation 58 = .ok (.aload_n 0, 1) := by decide +kernel
theorem dX12_relation_59 : decode cX12_relation 59 = .ok (.getfield 251, 3) := by decide +kernel
theorem dX12_relation_62 : decode cX12_relation 62 = .ok (.istore_n 3, 1) := by decide +kernel
theorem dX12_relation_63 : decode cX12_relation 63 = .ok (.aload_n 0, 1) := by decide +kernel
theorem dX12_relation_64 : decode cX12_relation 64 = .ok (.invokevirtual 267, 3) := by decide +kernel
theorem dX12_relation_67 : decode cX12_relation 67 = .ok (.aload_n 0, 1) := by decide +kernel
theorem dX12_relation_68 : decode cX12_relation 68 = .ok (.getfield 215, 3) := by decide +kernel
theorem dX12_relation_71 : decode cX12_relation 71 = .ok (.ifCond .le 4, 3) := by decide +kernel
theorem dX12_relation_74 : decode cX12_relation 74 = .ok (.return_, 1) := by decide +kernel
theorem dX12_relation_75 : decode cX12_relation 75 = .ok (.sipush 200, 3) := by decide +kernel
theorem dX12_relation_78 : decode cX12_relation 78 = .ok (.aload_n 0, 1) := by decide +kernel
theorem dX12_relation_79 : decode cX12_relation 79 = .ok (.getfield 248, 3) := by decide +kernel
theorem dX12_relation_82 : decode cX12_relation 82 = .ok (.imul, 1) := by decide +kernel
theorem dX12_relation_83 : decode cX12_relation 83 = .ok (.aload_n 0, 1) := by decide +kernel
theorem dX12_relation_84 : decode cX12_relation 84 = .ok (.getfield 56, 3) := by decide +kernel
theorem dX12_relation_87 : decode cX12_relation 87 = .ok (.aload_n 0, 1) := by decide +kernel
theorem dX12_relation_88 : decode cX12_relation 88 = .ok (.getfield 248, 3) := by decide +kernel
theorem dX12_relation_91 : decode cX12_relation 91 = .ok (.iaload, 1) := by decide +kernel
theorem dX12_relation_92 : decode cX12_relation 92 = .ok (.iadd, 1) := by decide +kernel
theorem dX12_relation_93 : decode cX12_relation 93 = .ok (.istore 4, 2) := by decide +kernel
theorem dX12_relation_95 : decode cX12_relation 95 = .ok (.aload_n 0, 1) := by decide +kernel
theorem dX12_relation_96 : decode cX12_relation 96 = .ok (.getfield 59, 3) := by decide +kernel
theorem dX12_relation_99 : decode cX12_relation 99 = .ok (.iload 4, 2) := by decide +kernel
theorem dX12_relation_101 : decode cX12_relation 101 = .ok (.iload_n 2, 1) := by decide +kernel
theorem dX12_relation_102 : decode cX12_relation 102 = .ok (.iastore, 1) := by decide +kernel
theorem dX12_relation_103 : decode cX12_relation 103 = .ok (.aload_n 0, 1) := by decide +kernel
theorem dX12_relation_104 : decode cX12_relation 104 = .ok (.getfield 62, 3) := by decide +kernel
theorem dX12_relation_107 : decode cX12_relation 107 = .ok (.iload 4, 2) := by decide +kernel
theorem dX12_relation_109 : decode cX12_relation 109 = .ok (.iload_n 1, 1) := by decide +kernel
theorem dX12_relation_110 : decode cX12_relation 110 = .ok (.iastore, 1) := by decide +kernel
theorem dX12_relation_111 : decode cX12_relation 111 = .ok (.aload_n 0, 1) := by decide +kernel
theorem dX12_relation_112 : decode cX12_relation 112 = .ok (.getfield 65, 3) := by decide +kernel
theorem dX12_relation_115 : decode cX12_relation 115 = .ok (.iload 4, 2) := by decide +kernel
theorem dX12_relation_117 : decode cX12_relation 117 = .ok (.iload_n 3, 1) := by decide +kernel
theorem dX12_relation_118 : decode cX12_relation 118 = .ok (.iastore, 1) := by decide +kernel
theorem dX12_relation_119 : decode cX12_relation 119 = .ok (.aload_n 0, 1) := by decide +kernel
theorem dX12_relation_120 : decode cX12_relation 120 = .ok (.getfield 68, 3) := by decide +kernel
theorem dX12_relation_123 : decode cX12_relation 123 = .ok (.iload 4, 2) := by decide +kernel
theorem dX12_relation_125 : decode cX12_relation 125 = .ok (.aload_n 0, 1) := by decide +kernel
theorem dX12_relation_126 : decode cX12_relation 126 = .ok (.getfield 251, 3) := by decide +kernel
theorem dX12_relation_129 : decode cX12_relation 129 = .ok (.iastore, 1) := by decide +kernel
theorem dX12_relation_130 : decode cX12_relation 130 = .ok (.aload_n 0, 1) := by decide +kernel
theorem dX12_relation_131 : decode cX12_relation 131 = .ok (.getfield 56, 3) := by decide +kernel
theorem dX12_relation_134 : decode cX12_relation 134 = .ok (.aload_n 0, 1) := by decide +kernel
theorem dX12_relation_135 : decode cX12_relation 135 = .ok (.getfield 248, 3) := by decide +kernel
theorem dX12_relation_138 : decode cX12_relation 138 = .ok (.dup2, 1) := by decide +kernel
theorem dX12_relation_139 : decode cX12_relation 139 = .ok (.iaload, 1) := by decide +kernel
theorem dX12_relation_140 : decode cX12_relation 140 = .ok (.iconst 1, 1) := by decide +kernel
theorem dX12_relation_141 : decode cX12_relation 141 = .ok (.iadd, 1) := by decide +kernel
theorem dX12_relation_142 : decode cX12_relation 142 = .ok (.iastore, 1) := by decide +kernel
theorem dX12_relation_143 : decode cX12_relation 143 = .ok (.return_, 1) := by decide +kernel
theorem dX12_emit_0 : decode cX12_emit 0 = .ok (.aload_n 0, 1) := by decide +kernel
theorem dX12_emit_1 : decode cX12_emit 1 = .ok (.getfield 71, 3) := by decide +kernel
theorem dX12_emit_4 : decode cX12_emit 4 = .ok (.aload_n 0, 1) := by decide +kernel
theorem dX12_emit_5 : decode cX12_emit 5 = .ok (.getfield 251, 3) := by decide +kernel
theorem dX12_emit_8 : decode cX12_emit 8 = .ok (.iload_n 1, 1) := by decide +kernel
theorem dX12_emit_9 : decode cX12_emit 9 = .ok (.iastore, 1) := by decide +kernel
theorem dX12_emit_10 : decode cX12_emit 10 = .ok (.aload_n 0, 1) := by decide +kernel
theorem dX12_emit_11 : decode cX12_emit 11 = .ok (.getfield 74, 3) := by decide +kernel
theorem dX12_emit_14 : decode cX12_emit 14 = .ok (.aload_n 0, 1) := by decide +kernel
theorem dX12_emit_15 : decode cX12_emit 15 = .ok (.getfield 251, 3) := by decide +kernel
theorem dX12_emit_18 : decode cX12_emit 18 = .ok (.iload_n 2, 1) := by decide +kernel
theorem dX12_emit_19 : decode cX12_emit 19 = .ok (.iastore, 1) := by decide +kernel
theorem dX12_emit_20 : decode cX12_emit 20 = .ok (.aload_n 0, 1) := by decide +kernel
theorem dX12_emit_21 : decode cX12_emit 21 = .ok (.dup, 1) := by decide +kernel
theorem dX12_emit_22 : decode cX12_emit 22 = .ok (.getfield 251, 3) := by decide +kernel
theorem dX12_emit_25 : decode cX12_emit 25 = .ok (.iconst 1, 1) := by decide +kernel
theorem dX12_emit_26 : decode cX12_emit 26 = .ok (.iadd, 1) := by decide +kernel
theorem dX12_emit_27 : decode cX12_emit 27 = .ok (.putfield 251, 3) := by decide +kernel
theorem dX12_emit_30 : decode cX12_emit 30 = .ok (.return_, 1) := by decide +kernel
theorem dX12_comesOut_0 : decode cX12_comesOut 0 = .ok (.aload_n 0, 1) := by decide +kernel
theorem dX12_comesOut_1 : decode cX12_comesOut 1 = .ok (.getfield 270, 3) := by decide +kernel
theorem dX12_comesOut_4 : decode cX12_comesOut 4 = .ok (.ifCond .le 88, 3) := by decide +kernel
theorem dX12_comesOut_7 : decode cX12_comesOut 7 = .ok (.aload_n 0, 1) := by decide +kernel
theorem dX12_comesOut_8 : decode cX12_comesOut 8 = .ok (.getfield 77, 3) := by decide +kernel
theorem dX12_comesOut_11 : decode cX12_comesOut 11 = .ok (.aload_n 0, 1) := by decide +kernel
theorem dX12_comesOut_12 : decode cX12_comesOut 12 = .ok (.getfield 270, 3) := by decide +kernel
theorem dX12_comesOut_15 : decode cX12_comesOut 15 = .ok (.iconst 1, 1) := by decide +kernel
theorem dX12_comesOut_16 : decode cX12_comesOut 16 = .ok (.isub, 1) := by decide +kernel
theorem dX12_comesOut_17 : decode cX12_comesOut 17 = .ok (.iaload, 1) := by decide +kernel
theorem dX12_comesOut_18 : decode cX12_comesOut 18 = .ok (.bipush 6, 2) := by decide +kernel
theorem dX12_comesOut_20 : decode cX12_comesOut 20 = .ok (.if_icmp .eq 72, 3) := by decide +kernel
theorem dX12_comesOut_23 : decode cX12_comesOut 23 = .ok (.iload_n 1, 1) := by decide +kernel
theorem dX12_comesOut_24 : decode cX12_comesOut 24 = .ok (.ifCond .eq 19, 3) := by decide +kernel
theorem dX12_comesOut_27 : decode cX12_comesOut 27 = .ok (.aload_n 0, 1) := by decide +kernel
theorem dX12_comesOut_28 : decode cX12_comesOut 28 = .ok (.getfield 77, 3) := by decide +kernel
theorem dX12_comesOut_31 : decode cX12_comesOut 31 = .ok (.aload_n 0, 1) := by decide +kernel
theorem dX12_comesOut_32 : decode cX12_comesOut 32 = .ok (.getfield 270, 3) := by decide +kernel
theorem dX12_comesOut_35 : decode cX12_comesOut 35 = .ok (.iconst 1, 1) := by decide +kernel
theorem dX12_comesOut_36 : decode cX12_comesOut 36 = .ok (.isub, 1) := by decide +kernel
theorem dX12_comesOut_37 : decode cX12_comesOut 37 = .ok (.iaload, 1) := by decide +kernel
theorem dX12_comesOut_38 : decode cX12_comesOut 38 = .ok (.bipush 10, 2) := by decide +kernel
theorem dX12_comesOut_40 : decode cX12_comesOut 40 = .ok (.if_icmp .ne 52, 3) := by decide +kernel
theorem dX12_comesOut_43 : decode cX12_comesOut 43 = .ok (.aload_n 0, 1) := by decide +kernel
theorem dX12_comesOut_44 : decode cX12_comesOut 44 = .ok (.dup, 1) := by decide +kernel
theorem dX12_comesOut_45 : decode cX12_comesOut 45 = .ok (.getfield 270, 3) := by decide +kernel
theorem dX12_comesOut_48 : decode cX12_comesOut 48 = .ok (.iconst 1, 1) := by decide +kernel
theorem dX12_comesOut_49 : decode cX12_comesOut 49 = .ok (.isub, 1) := by decide +kernel
theorem dX12_comesOut_50 : decode cX12_comesOut 50 = .ok (.putfield 270, 3) := by decide +kernel
theorem dX12_comesOut_53 : decode cX12_comesOut 53 = .ok (.aload_n 0, 1) := by decide +kernel
theorem dX12_comesOut_54 : decode cX12_comesOut 54 = .ok (.getfield 77, 3) := by decide +kernel
theorem dX12_comesOut_57 : decode cX12_comesOut 57 = .ok (.aload_n 0, 1) := by decide +kernel
theorem dX12_comesOut_58 : decode cX12_comesOut 58 = .ok (.getfield 270, 3) := by decide +kernel
theorem dX12_comesOut_61 : decode cX12_comesOut 61 = .ok (.iaload, 1) := by decide +kernel
theorem dX12_comesOut_62 : decode cX12_comesOut 62 = .ok (.istore_n 2, 1) := by decide +kernel
theorem dX12_comesOut_63 : decode cX12_comesOut 63 = .ok (.aload_n 0, 1) := by decide +kernel
theorem dX12_comesOut_64 : decode cX12_comesOut 64 = .ok (.iload_n 2, 1) := by decide +kernel
theorem dX12_comesOut_65 : decode cX12_comesOut 65 = .ok (.bipush 8, 2) := by decide +kernel
theorem dX12_comesOut_67 : decode cX12_comesOut 67 = .ok (.if_icmp .ne 7, 3) := by decide +kernel
theorem dX12_comesOut_70 : decode cX12_comesOut 70 = .ok (.iconst 2, 1) := by decide +kernel
theorem dX12_comesOut_71 : decode cX12_comesOut 71 = .ok (.goto 14, 3) := by decide +kernel
theorem dX12_comesOut_74 : decode cX12_comesOut 74 = .ok (.iload_n 2, 1) := by decide +kernel
theorem dX12_comesOut_75 : decode cX12_comesOut 75 = .ok (.bipush 9, 2) := by decide +kernel
theorem dX12_comesOut_77 : decode cX12_comesOut 77 = .ok (.if_icmp .ne 7, 3) := by decide +kernel
theorem dX12_comesOut_80 : decode cX12_comesOut 80 = .ok (.iconst 3, 1) := by decide +kernel
theorem dX12_comesOut_81 : decode cX12_comesOut 81 = .ok (.goto 4, 3) := by decide +kernel
theorem dX12_comesOut_84 : decode cX12_comesOut 84 = .ok (.iconst 4, 1) := by decide +kernel
theorem dX12_comesOut_85 : decode cX12_comesOut 85 = .ok (.iconst 0, 1) := by decide +kernel
theorem dX12_comesOut_86 : decode cX12_comesOut 86 = .ok (.invokevirtual 273, 3) := by decide +kernel
theorem dX12_comesOut_89 : decode cX12_comesOut 89 = .ok (.goto (-89), 3) := by decide +kernel
theorem dX12_comesOut_92 : decode cX12_comesOut 92 = .ok (.return_, 1) := by decide +kernel
theorem dX12_expression_0 : decode cX12_expression 0 = .ok (.aload_n 0, 1) := by decide +kernel
theorem dX12_expression_1 : decode cX12_expression 1 = .ok (.iconst 0, 1) := by decide +kernel
theorem dX12_expression_2 : decode cX12_expression 2 = .ok (.putfield 270, 3) := by decide +kernel
theorem dX12_expression_5 : decode cX12_expression 5 = .ok (.aload_n 0, 1) := by decide +kernel
theorem dX12_expression_6 : decode cX12_expression 6 = .ok (.getfield 242, 3) := by decide +kernel
theorem dX12_expression_9 : decode cX12_expression 9 = .ok (.istore_n 1, 1) := by decide +kernel
theorem dX12_expression_10 : decode cX12_expression 10 = .ok (.iconst 1, 1) := by decide +kernel
theorem dX12_expression_11 : decode cX12_expression 11 = .ok (.istore_n 2, 1) := by decide +kernel
theorem dX12_expression_12 : decode cX12_expression 12 = .ok (.iload_n 2, 1) := by decide +kernel
theorem dX12_expression_13 : decode cX12_expression 13 = .ok (.ifCond .eq 347, 3) := by decide +kernel
theorem dX12_expression_16 : decode cX12_expression 16 = .ok (.aload_n 0, 1) := by decide +kernel
theorem dX12_expression_17 : decode cX12_expression 17 = .ok (.getfield 215, 3) := by decide +kernel
theorem dX12_expression_20 : decode cX12_expression 20 = .ok (.ifCond .ne 340, 3) := by decide +kernel
theorem dX12_expression_23 : decode cX12_expression 23 = .ok (.aload_n 0, 1) := by decide +kernel
theorem dX12_expression_24 : decode cX12_expression 24 = .ok (.bipush 6, 2) := by decide +kernel
theorem dX12_expression_26 : decode cX12_expression 26 = .ok (.invokevirtual 233, 3) := by decide +kernel
theorem dX12_expression_29 : decode cX12_expression 29 = .ok (.ifCond .eq 63, 3) := by decide +kernel
theorem dX12_expression_32 : decode cX12_expression 32 = .ok (.aload_n 0, 1) := by decide +kernel
theorem dX12_expression_33 : decode cX12_expression 33 = .ok (.getfield 242, 3) := by decide +kernel
theorem dX12_expression_36 : decode cX12_expression 36 = .ok (.bipush 6, 2) := by decide +kernel
theorem dX12_expression_38 : decode cX12_expression 38 = .ok (.if_icmp .ne 8, 3) := by decide +kernel
theorem dX12_expression_41 : decode cX12_expression 41 = .ok (.aload_n 0, 1) := by decide +kernel
theorem dX12_expression_42 : decode cX12_expression 42 = .ok (.iconst 2, 1) := by decide +kernel
theorem dX12_expression_43 : decode cX12_expression 43 = .ok (.invokevirtual 230, 3) := by decide +kernel
theorem dX12_expression_46 : decode cX12_expression 46 = .ok (.aload_n 0, 1) := by decide +kernel
theorem dX12_expression_47 : decode cX12_expression 47 = .ok (.getfield 215, 3) := by decide +kernel
theorem dX12_expression_50 : decode cX12_expression 50 = .ok (.ifCond .le 4, 3) := by decide +kernel
theorem dX12_expression_53 : decode cX12_expression 53 = .ok (.return_, 1) := by decide +kernel
theorem dX12_expression_54 : decode cX12_expression 54 = .ok (.aload_n 0, 1) := by decide +kernel
theorem dX12_expression_55 : decode cX12_expression 55 = .ok (.dup, 1) := by decide +kernel
theorem dX12_expression_56 : decode cX12_expression 56 = .ok (.getfield 242, 3) := by decide +kernel
theorem dX12_expression_59 : decode cX12_expression 59 = .ok (.iconst 1, 1) := by decide +kernel
theorem dX12_expression_60 : decode cX12_expression 60 = .ok (.iadd, 1) := by decide +kernel
theorem dX12_expression_61 : decode cX12_expression 61 = .ok (.putfield 242, 3) := by decide +kernel
theorem dX12_expression_64 : decode cX12_expression 64 = .ok (.aload_n 0, 1) := by decide +kernel
theorem dX12_expression_65 : decode cX12_expression 65 = .ok (.invokevirtual 236, 3) := by decide +kernel
theorem dX12_expression_68 : decode cX12_expression 68 = .ok (.aload_n 0, 1) := by decide +kernel
theorem dX12_expression_69 : decode cX12_expression 69 = .ok (.getfield 77, 3) := by decide +kernel
theorem dX12_expression_72 : decode cX12_expression 72 = .ok (.aload_n 0, 1) := by decide +kernel
theorem dX12_expression_73 : decode cX12_expression 73 = .ok (.getfield 270, 3) := by decide +kernel
theorem dX12_expression_76 : decode cX12_expression 76 = .ok (.bipush 6, 2) := by decide +kernel
theorem dX12_expression_78 : decode cX12_expression 78 = .ok (.iastore, 1) := by decide +kernel
theorem dX12_expression_79 : decode cX12_expression 79 = .ok (.aload_n 0, 1) := by decide +kernel
theorem dX12_expression_80 : decode cX12_expression 80 = .ok (.dup, 1) := by decide +kernel
theorem dX12_expression_81 : decode cX12_expression 81 = .ok (.getfield 270, 3) := by decide +kernel
theorem dX12_expression_84 : decode cX12_expression 84 = .ok (.iconst 1, 1) := by decide +kernel
theorem dX12_expression_85 : decode cX12_expression 85 = .ok (.iadd, 1) := by decide +kernel
theorem dX12_expression_86 : decode cX12_expression 86 = .ok (.putfield 270, 3) := by decide +kernel
theorem dX12_expression_89 : decode cX12_expression 89 = .ok (.goto (-77), 3) := by decide +kernel
theorem dX12_expression_92 : decode cX12_expression 92 = .ok (.aload_n 0, 1) := by decide +kernel
theorem dX12_expression_93 : decode cX12_expression 93 = .ok (.getfield 215, 3) := by decide +kernel
theorem dX12_expression_96 : decode cX12_expression 96 = .ok (.ifCond .ne 35, 3) := by decide +kernel
theorem dX12_expression_99 : decode cX12_expression 99 = .ok (.aload_n 0, 1) := by decide +kernel
theorem dX12_expression_100 : decode cX12_expression 100 = .ok (.getfield 20, 3) := by decide +kernel
theorem dX12_expression_103 : decode cX12_expression 103 = .ok (.aload_n 0, 1) := by decide +kernel
theorem dX12_expression_104 : decode cX12_expression 104 = .ok (.getfield 218, 3) := by decide +kernel
theorem dX12_expression_107 : decode cX12_expression 107 = .ok (.iaload, 1) := by decide +kernel
theorem dX12_expression_108 : decode cX12_expression 108 = .ok (.bipush 27, 2) := by decide +kernel
theorem dX12_expression_110 : decode cX12_expression 110 = .ok (.if_icmp .lt 21, 3) := by decide +kernel
theorem dX12_expression_113 : decode cX12_expression 113 = .ok (.aload_n 0, 1) := by decide +kernel
theorem dX12_expression_114 : decode cX12_expression 114 = .ok (.getfield 20, 3) := by decide +kernel
theorem dX12_expression_117 : decode cX12_expression 117 = .ok (.aload_n 0, 1) := by decide +kernel
theorem dX12_expression_118 : decode cX12_expression 118 = .ok (.getfield 218, 3) := by decide +kernel
theorem dX12_expression_121 : decode cX12_expression 121 = .ok (.iaload, 1) := by decide +kernel
theorem dX12_expression_122 : decode cX12_expression 122 = .ok (.bipush 34, 2) := by decide +kernel
theorem dX12_expression_124 : decode cX12_expression 124 = .ok (.if_icmp .gt 7, 3) := by decide +kernel
theorem dX12_expression_127 : decode cX12_expression 127 = .ok (.iconst 1, 1) := by decide +kernel
theorem dX12_expression_128 : decode cX12_expression 128 = .ok (.goto 4, 3) := by decide +kernel
theorem dX12_expression_131 : decode cX12_expression 131 = .ok (.iconst 0, 1) := by decide +kernel
theorem dX12_expression_132 : decode cX12_expression 132 = .ok (.istore_n 3, 1) := by decide +kernel
theorem dX12_expression_133 : decode cX12_expression 133 = .ok (.aload_n 0, 1) := by decide +kernel
theorem dX12_expression_134 : decode cX12_expression 134 = .ok (.iconst 2, 1) := by decide +kernel
theorem dX12_expression_135 : decode cX12_expression 135 = .ok (.invokevirtual 233, 3) := by decide +kernel
theorem dX12_expression_138 : decode cX12_expression 138 = .ok (.ifCond .ne 12, 3) := by decide +kernel
theorem dX12_expression_141 : decode cX12_expression 141 = .ok (.iload_n 3, 1) := by decide +kernel
theorem dX12_expression_142 : decode cX12_expression 142 = .ok (.ifCond .ne 8, 3) := by decide +kernel
theorem dX12_expression_145 : decode cX12_expression 145 = .ok (.aload_n 0, 1) := by decide +kernel
theorem dX12_expression_146 : decode cX12_expression 146 = .ok (.iconst 1, 1) := by decide +kernel
theorem dX12_expression_147 : decode cX12_expression 147 = .ok (.invokevirtual 230, 3) := by decide +kernel
theorem dX12_expression_150 : decode cX12_expression 150 = .ok (.aload_n 0, 1) := by decide +kernel
theorem dX12_expression_151 : decode cX12_expression 151 = .ok (.getfield 215, 3) := by decide +kernel
theorem dX12_expression_154 : decode cX12_expression 154 = .ok (.ifCond .le 4, 3) := by decide +kernel
theorem dX12_expression_157 : decode cX12_expression 157 = .ok (.return_, 1) := by decide +kernel
theorem dX12_expression_158 : decode cX12_expression 158 = .ok (.iload_n 3, 1) := by decide +kernel
theorem dX12_expression_159 : decode cX12_expression 159 = .ok (.ifCond .eq 23, 3) := by decide +kernel
theorem dX12_expression_162 : decode cX12_expression 162 = .ok (.aload_n 0, 1) := by decide +kernel
theorem dX12_expression_163 : decode cX12_expression 163 = .ok (.iconst 1, 1) := by decide +kernel
theorem dX12_expression_164 : decode cX12_expression 164 = .ok (.aload_n 0, 1) := by decide +kernel
theorem dX12_expression_165 : decode cX12_expression 165 = .ok (.getfield 20, 3) := by decide +kernel
theorem dX12_expression_168 : decode cX12_expression 168 = .ok (.aload_n 0, 1) := by decide +kernel
theorem dX12_expression_169 : decode cX12_expression 169 = .ok (.getfield 218, 3) := by decide +kernel
theorem dX12_expression_172 : decode cX12_expression 172 = .ok (.iaload, 1) := by decide +kernel
theorem dX12_expression_173 : decode cX12_expression 173 = .ok (.bipush 27, 2) := by decide +kernel
theorem dX12_expression_175 : decode cX12_expression 175 = .ok (.isub, 1) := by decide +kernel
theorem dX12_expression_176 : decode cX12_expression 176 = .ok (.invokevirtual 273, 3) := by decide +kernel
theorem dX12_expression_179 : decode cX12_expression 179 = .ok (.goto 17, 3) := by decide +kernel
theorem dX12_expression_182 : decode cX12_expression 182 = .ok (.aload_n 0, 1) := by decide +kernel
theorem dX12_expression_183 : decode cX12_expression 183 = .ok (.iconst 0, 1) := by decide +kernel
theorem dX12_expression_184 : decode cX12_expression 184 = .ok (.aload_n 0, 1) := by decide +kernel
theorem dX12_expression_185 : decode cX12_expression 185 = .ok (.getfield 27, 3) := by decide +kernel
theorem dX12_expression_188 : decode cX12_expression 188 = .ok (.aload_n 0, 1) := by decide +kernel
theorem dX12_expression_189 : decode cX12_expression 189 = .ok (.getfield 218, 3) := by decide +kernel
theorem dX12_expression_192 : decode cX12_expression 192 = .ok (.iaload, 1) := by decide +kernel
theorem dX12_expression_193 : decode cX12_expression 193 = .ok (.invokevirtual 273, 3) := by decide +kernel
theorem dX12_expression_196 : decode cX12_expression 196 = .ok (.aload_n 0, 1) := by decide +kernel
theorem dX12_expression_197 : decode cX12_expression 197 = .ok (.invokevirtual 236, 3) := by decide +kernel
theorem dX12_expression_200 : decode cX12_expression 200 = .ok (.aload_n 0, 1) := by decide +kernel
theorem dX12_expression_201 : decode cX12_expression 201 = .ok (.bipush 7, 2) := by decide +kernel
theorem dX12_expression_203 : decode cX12_expression 203 = .ok (.invokevirtual 233, 3) := by decide +kernel
theorem dX12_expression_206 : decode cX12_expression 206 = .ok (.ifCond .eq 43, 3) := by decide +kernel
theorem dX12_expression_209 : decode cX12_expression 209 = .ok (.aload_n 0, 1) := by decide +kernel
theorem dX12_expression_210 : decode cX12_expression 210 = .ok (.getfield 242, 3) := by decide +kernel
theorem dX12_expression_213 : decode cX12_expression 213 = .ok (.iload_n 1, 1) := by decide +kernel
theorem dX12_expression_214 : decode cX12_expression 214 = .ok (.if_icmp .le 35, 3) := by decide +kernel
theorem dX12_expression_217 : decode cX12_expression 217 = .ok (.aload_n 0, 1) := by decide +kernel
theorem dX12_expression_218 : decode cX12_expression 218 = .ok (.iconst 0, 1) := by decide +kernel
theorem dX12_expression_219 : decode cX12_expression 219 = .ok (.invokevirtual 276, 3) := by decide +kernel
theorem dX12_expression_222 : decode cX12_expression 222 = .ok (.aload_n 0, 1) := by decide +kernel
theorem dX12_expression_223 : decode cX12_expression 223 = .ok (.dup, 1) := by decide +kernel
theorem dX12_expression_224 : decode cX12_expression 224 = .ok (.getfield 270, 3) := by decide +kernel
theorem dX12_expression_227 : decode cX12_expression 227 = .ok (.iconst 1, 1) := by decide +kernel
theorem dX12_expression_228 : decode cX12_expression 228 = .ok (.isub, 1) := by decide +kernel
theorem dX12_expression_229 : decode cX12_expression 229 = .ok (.putfield 270, 3) := by decide +kernel
theorem dX12_expression_232 : decode cX12_expression 232 = .ok (.aload_n 0, 1) := by decide +kernel
theorem dX12_expression_233 : decode cX12_expression 233 = .ok (.dup, 1) := by decide +kernel
theorem dX12_expression_234 : decode cX12_expression 234 = .ok (.getfield 242, 3) := by decide +kernel
theorem dX12_expression_237 : decode cX12_expression 237 = .ok (.iconst 1, 1) := by decide +kernel
theorem dX12_expression_238 : decode cX12_expression 238 = .ok (.isub, 1) := by decide +kernel
theorem dX12_expression_239 : decode cX12_expression 239 = .ok (.putfield 242, 3) := by decide +kernel
theorem dX12_expression_242 : decode cX12_expression 242 = .ok (.aload_n 0, 1) := by decide +kernel
theorem dX12_expression_243 : decode cX12_expression 243 = .ok (.invokevirtual 236, 3) := by decide +kernel
theorem dX12_expression_246 : decode cX12_expression 246 = .ok (.goto (-46), 3) := by decide +kernel
theorem dX12_expression_249 : decode cX12_expression 249 = .ok (.aload_n 0, 1) := by decide +kernel
theorem dX12_expression_250 : decode cX12_expression 250 = .ok (.bipush 8, 2) := by decide +kernel
theorem dX12_expression_252 : decode cX12_expression 252 = .ok (.invokevirtual 233, 3) := by decide +kernel
theorem dX12_expression_255 : decode cX12_expression 255 = .ok (.ifCond .ne 21, 3) := by decide +kernel
theorem dX12_expression_258 : decode cX12_expression 258 = .ok (.aload_n 0, 1) := by decide +kernel
theorem dX12_expression_259 : decode cX12_expression 259 = .ok (.bipush 9, 2) := by decide +kernel
theorem dX12_expression_261 : decode cX12_expression 261 = .ok (.invokevirtual 233, 3) := by decide +kernel
theorem dX12_expression_264 : decode cX12_expression 264 = .ok (.ifCond .ne 12, 3) := by decide +kernel
theorem dX12_expression_267 : decode cX12_expression 267 = .ok (.aload_n 0, 1) := by decide +kernel
theorem dX12_expression_268 : decode cX12_expression 268 = .ok (.bipush 10, 2) := by decide +kernel
theorem dX12_expression_270 : decode cX12_expression 270 = .ok (.invokevirtual 233, 3) := by decide +kernel
theorem dX12_expression_273 : decode cX12_expression 273 = .ok (.ifCond .eq 7, 3) := by decide +kernel
theorem dX12_expression_276 : decode cX12_expression 276 = .ok (.iconst 1, 1) := by decide +kernel
theorem dX12_expression_277 : decode cX12_expression 277 = .ok (.goto 4, 3) := by decide +kernel
theorem dX12_expression_280 : decode cX12_expression 280 = .ok (.iconst 0, 1) := by decide +kernel
theorem dX12_expression_281 : decode cX12_expression 281 = .ok (.istore_n 2, 1) := by decide +kernel
theorem dX12_expression_282 : decode cX12_expression 282 = .ok (.iload_n 2, 1) := by decide +kernel
theorem dX12_expression_283 : decode cX12_expression 283 = .ok (.ifCond .ne 22, 3) := by decide +kernel
theorem dX12_expression_286 : decode cX12_expression 286 = .ok (.aload_n 0, 1) := by decide +kernel
theorem dX12_expression_287 : decode cX12_expression 287 = .ok (.getfield 242, 3) := by decide +kernel
theorem dX12_expression_290 : decode cX12_expression 290 = .ok (.iload_n 1, 1) := by decide +kernel
theorem dX12_expression_291 : decode cX12_expression 291 = .ok (.if_icmp .le 8, 3) := by decide +kernel
theorem dX12_expression_294 : decode cX12_expression 294 = .ok (.aload_n 0, 1) := by decide +kernel
theorem dX12_expression_295 : decode cX12_expression 295 = .ok (.iconst 1, 1) := by decide +kernel
theorem dX12_expression_296 : decode cX12_expression 296 = .ok (.invokevirtual 230, 3) := by decide +kernel
theorem dX12_expression_299 : decode cX12_expression 299 = .ok (.aload_n 0, 1) := by decide +kernel
theorem dX12_expression_300 : decode cX12_expression 300 = .ok (.iconst 0, 1) := by decide +kernel
theorem dX12_expression_301 : decode cX12_expression 301 = .ok (.invokevirtual 276, 3) := by decide +kernel
theorem dX12_expression_304 : decode cX12_expression 304 = .ok (.return_, 1) := by decide +kernel
theorem dX12_expression_305 : decode cX12_expression 305 = .ok (.aload_n 0, 1) := by decide +kernel
theorem dX12_expression_306 : decode cX12_expression 306 = .ok (.getfield 20, 3) := by decide +kernel
theorem dX12_expression_309 : decode cX12_expression 309 = .ok (.aload_n 0, 1) := by decide +kernel
theorem dX12_expression_310 : decode cX12_expression 310 = .ok (.getfield 218, 3) := by decide +kernel
theorem dX12_expression_313 : decode cX12_expression 313 = .ok (.iaload, 1) := by decide +kernel
theorem dX12_expression_314 : decode cX12_expression 314 = .ok (.istore 4, 2) := by decide +kernel
theorem dX12_expression_316 : decode cX12_expression 316 = .ok (.aload_n 0, 1) := by decide +kernel
theorem dX12_expression_317 : decode cX12_expression 317 = .ok (.iload 4, 2) := by decide +kernel
theorem dX12_expression_319 : decode cX12_expression 319 = .ok (.bipush 10, 2) := by decide +kernel
theorem dX12_expression_321 : decode cX12_expression 321 = .ok (.if_icmp .ne 7, 3) := by decide +kernel
theorem dX12_expression_324 : decode cX12_expression 324 = .ok (.iconst 1, 1) := by decide +kernel
theorem dX12_expression_325 : decode cX12_expression 325 = .ok (.goto 4, 3) := by decide +kernel
theorem dX12_expression_328 : decode cX12_expression 328 = .ok (.iconst 0, 1) := by decide +kernel
theorem dX12_expression_329 : decode cX12_expression 329 = .ok (.invokevirtual 276, 3) := by decide +kernel
theorem dX12_expression_332 : decode cX12_expression 332 = .ok (.aload_n 0, 1) := by decide +kernel
theorem dX12_expression_333 : decode cX12_expression 333 = .ok (.getfield 77, 3) := by decide +kernel
theorem dX12_expression_336 : decode cX12_expression 336 = .ok (.aload_n 0, 1) := by decide +kernel
theorem dX12_expression_337 : decode cX12_expression 337 = .ok (.getfield 270, 3) := by decide +kernel
theorem dX12_expression_340 : decode cX12_expression 340 = .ok (.iload 4, 2) := by decide +kernel
theorem dX12_expression_342 : decode cX12_expression 342 = .ok (.iastore, 1) := by decide +kernel
theorem dX12_expression_343 : decode cX12_expression 343 = .ok (.aload_n 0, 1) := by decide +kernel
theorem dX12_expression_344 : decode cX12_expression 344 = .ok (.dup, 1) := by decide +kernel
theorem dX12_expression_345 : decode cX12_expression 345 = .ok (.getfield 270, 3) := by decide +kernel
theorem dX12_expression_348 : decode cX12_expression 348 = .ok (.iconst 1, 1) := by decide +kernel
theorem dX12_expression_349 : decode cX12_expression 349 = .ok (.iadd, 1) := by decide +kernel
theorem dX12_expression_350 : decode cX12_expression 350 = .ok (.putfield 270, 3) := by decide +kernel
theorem dX12_expression_353 : decode cX12_expression 353 = .ok (.aload_n 0, 1) := by decide +kernel
theorem dX12_expression_354 : decode cX12_expression 354 = .ok (.invokevirtual 236, 3) := by decide +kernel
theorem dX12_expression_357 : decode cX12_expression 357 = .ok (.goto (-345), 3) := by decide +kernel
theorem dX12_expression_360 : decode cX12_expression 360 = .ok (.return_, 1) := by decide +kernel
theorem dX12_ground_0 : decode cX12_ground 0 = .ok (.iload_n 1, 1) := by decide +kernel
theorem dX12_ground_1 : decode cX12_ground 1 = .ok (.ifCond .lt 30, 3) := by decide +kernel
theorem dX12_ground_4 : decode cX12_ground 4 = .ok (.iload_n 1, 1) := by decide +kernel
theorem dX12_ground_5 : decode cX12_ground 5 = .ok (.bipush 23, 2) := by decide +kernel
theorem dX12_ground_7 : decode cX12_ground 7 = .ok (.if_icmp .gt 24, 3) := by decide +kernel
theorem dX12_ground_10 : decode cX12_ground 10 = .ok (.iload_n 2, 1) := by decide +kernel
theorem dX12_ground_11 : decode cX12_ground 11 = .ok (.ifCond .lt 20, 3) := by decide +kernel
theorem dX12_ground_14 : decode cX12_ground 14 = .ok (.iload_n 2, 1) := by decide +kernel
theorem dX12_ground_15 : decode cX12_ground 15 = .ok (.bipush 6, 2) := by decide +kernel
theorem dX12_ground_17 : decode cX12_ground 17 = .ok (.if_icmp .gt 14, 3) := by decide +kernel
theorem dX12_ground_20 : decode cX12_ground 20 = .ok (.iload_n 3, 1) := by decide +kernel
theorem dX12_ground_21 : decode cX12_ground 21 = .ok (.ifCond .lt 10, 3) := by decide +kernel
theorem dX12_ground_24 : decode cX12_ground 24 = .ok (.iload_n 3, 1) := by decide +kernel
theorem dX12_ground_25 : decode cX12_ground 25 = .ok (.sipush 10000, 3) := by decide +kernel
theorem dX12_ground_28 : decode cX12_ground 28 = .ok (.if_icmp .le 5, 3) := by decide +kernel
theorem dX12_ground_31 : decode cX12_ground 31 = .ok (.iconst (-1), 1) := by decide +kernel
theorem dX12_ground_32 : decode cX12_ground 32 = .ok (.ireturn, 1) := by decide +kernel
theorem dX12_ground_33 : decode cX12_ground 33 = .ok (.iload_n 3, 1) := by decide +kernel
theorem dX12_ground_34 : decode cX12_ground 34 = .ok (.ifCond .le 7, 3) := by decide +kernel
theorem dX12_ground_37 : decode cX12_ground 37 = .ok (.iconst 1, 1) := by decide +kernel
theorem dX12_ground_38 : decode cX12_ground 38 = .ok (.goto 4, 3) := by decide +kernel
theorem dX12_ground_41 : decode cX12_ground 41 = .ok (.iconst 0, 1) := by decide +kernel
theorem dX12_ground_42 : decode cX12_ground 42 = .ok (.istore 4, 2) := by decide +kernel
theorem dX12_ground_44 : decode cX12_ground 44 = .ok (.iload 4, 2) := by decide +kernel
theorem dX12_ground_46 : decode cX12_ground 46 = .ok (.ifCond .eq 15, 3) := by decide +kernel
theorem dX12_ground_49 : decode cX12_ground 49 = .ok (.aload_n 0, 1) := by decide +kernel
theorem dX12_ground_50 : decode cX12_ground 50 = .ok (.getfield 280, 3) := by decide +kernel
theorem dX12_ground_53 : decode cX12_ground 53 = .ok (.bipush 8, 2) := by decide +kernel
theorem dX12_ground_55 : decode cX12_ground 55 = .ok (.if_icmp .ne 16, 3) := by decide +kernel
theorem dX12_ground_58 : decode cX12_ground 58 = .ok (.goto 11, 3) := by decide +kernel
theorem dX12_ground_61 : decode cX12_ground 61 = .ok (.aload_n 0, 1) := by decide +kernel
theorem dX12_ground_62 : decode cX12_ground 62 = .ok (.getfield 283, 3) := by decide +kernel
theorem dX12_ground_65 : decode cX12_ground 65 = .ok (.iconst 4, 1) := by decide +kernel
theorem dX12_ground_66 : decode cX12_ground 66 = .ok (.if_icmp .ne 5, 3) := by decide +kernel
theorem dX12_ground_69 : decode cX12_ground 69 = .ok (.iconst (-1), 1) := by decide +kernel
theorem dX12_ground_70 : decode cX12_ground 70 = .ok (.ireturn, 1) := by decide +kernel
theorem dX12_ground_71 : decode cX12_ground 71 = .ok (.iload 4, 2) := by decide +kernel
theorem dX12_ground_73 : decode cX12_ground 73 = .ok (.ifCond .eq 10, 3) := by decide +kernel
theorem dX12_ground_76 : decode cX12_ground 76 = .ok (.aload_n 0, 1) := by decide +kernel
theorem dX12_ground_77 : decode cX12_ground 77 = .ok (.getfield 280, 3) := by decide +kernel
theorem dX12_ground_80 : decode cX12_ground 80 = .ok (.goto 10, 3) := by decide +kernel
theorem dX12_ground_83 : decode cX12_ground 83 = .ok (.bipush 8, 2) := by decide +kernel
theorem dX12_ground_85 : decode cX12_ground 85 = .ok (.aload_n 0, 1) := by decide +kernel
theorem dX12_ground_86 : decode cX12_ground 86 = .ok (.getfield 283, 3) := by decide +kernel
theorem dX12_ground_89 : decode cX12_ground 89 = .ok (.iadd, 1) := by decide +kernel
theorem dX12_ground_90 : decode cX12_ground 90 = .ok (.istore 5, 2) := by decide +kernel
theorem dX12_ground_92 : decode cX12_ground 92 = .ok (.aload_n 0, 1) := by decide +kernel
theorem dX12_ground_93 : decode cX12_ground 93 = .ok (.getfield 80, 3) := by decide +kernel
theorem dX12_ground_96 : decode cX12_ground 96 = .ok (.iload 5, 2) := by decide +kernel
theorem dX12_ground_98 : decode cX12_ground 98 = .ok (.iload_n 1, 1) := by decide +kernel
theorem dX12_ground_99 : decode cX12_ground 99 = .ok (.iastore, 1) := by decide +kernel
theorem dX12_ground_100 : decode cX12_ground 100 = .ok (.aload_n 0, 1) := by decide +kernel
theorem dX12_ground_101 : decode cX12_ground 101 = .ok (.getfield 83, 3) := by decide +kernel
theorem dX12_ground_104 : decode cX12_ground 104 = .ok (.iload 5, 2) := by decide +kernel
theorem dX12_ground_106 : decode cX12_ground 106 = .ok (.iload_n 2, 1) := by decide +kernel
theorem dX12_ground_107 : decode cX12_ground 107 = .ok (.iastore, 1) := by decide +kernel
theorem dX12_ground_108 : decode cX12_ground 108 = .ok (.iload 4, 2) := by decide +kernel
theorem dX12_ground_110 : decode cX12_ground 110 = .ok (.ifCond .eq 30, 3) := by decide +kernel
theorem dX12_ground_113 : decode cX12_ground 113 = .ok (.aload_n 0, 1) := by decide +kernel
theorem dX12_ground_114 : decode cX12_ground 114 = .ok (.getfield 86, 3) := by decide +kernel
theorem dX12_ground_117 : decode cX12_ground 117 = .ok (.aload_n 0, 1) := by decide +kernel
theorem dX12_ground_118 : decode cX12_ground 118 = .ok (.getfield 280, 3) := by decide +kernel
theorem dX12_ground_121 : decode cX12_ground 121 = .ok (.iload_n 3, 1) := by decide +kernel
theorem dX12_ground_122 : decode cX12_ground 122 = .ok (.iastore, 1) := by decide +kernel
theorem dX12_ground_123 : decode cX12_ground 123 = .ok (.aload_n 0, 1) := by decide +kernel
theorem dX12_ground_124 : decode cX12_ground 124 = .ok (.dup, 1) := by decide +kernel
theorem dX12_ground_125 : decode cX12_ground 125 = .ok (.getfield 280, 3) := by decide +kernel
theorem dX12_ground_128 : decode cX12_ground 128 = .ok (.iconst 1, 1) := by decide +kernel
theorem dX12_ground_129 : decode cX12_ground 129 = .ok (.iadd, 1) := by decide +kernel
theorem dX12_ground_130 : decode cX12_ground 130 = .ok (.putfield 280, 3) := by decide +kernel
theorem dX12_ground_133 : decode cX12_ground 133 = .ok (.aload_n 0, 1) := by decide +kernel
theorem dX12_ground_134 : decode cX12_ground 134 = .ok (.getfield 280, 3) := by decide +kernel
theorem dX12_ground_137 : decode cX12_ground 137 = .ok (.iconst 1, 1) := by decide +kernel
theorem dX12_ground_138 : decode cX12_ground 138 = .ok (.isub, 1) := by decide +kernel
theorem dX12_ground_139 : decode cX12_ground 139 = .ok (.ireturn, 1) := by decide +kernel
theorem dX12_ground_140 : decode cX12_ground 140 = .ok (.aload_n 0, 1) := by decide +kernel
theorem dX12_ground_141 : decode cX12_ground 141 = .ok (.dup, 1) := by decide +kernel
theorem dX12_ground_142 : decode cX12_ground 142 = .ok (.getfield 283, 3) := by decide +kernel
theorem dX12_ground_145 : decode cX12_ground 145 = .ok (.iconst 1, 1) := by decide +kernel
theorem dX12_ground_146 : decode cX12_ground 146 = .ok (.iadd, 1) := by decide +kernel
theorem dX12_ground_147 : decode cX12_ground 147 = .ok (.putfield 283, 3) := by decide +kernel
theorem dX12_ground_150 : decode cX12_ground 150 = .ok (.aload_n 0, 1) := by decide +kernel
theorem dX12_ground_151 : decode cX12_ground 151 = .ok (.getfield 283, 3) := by decide +kernel
theorem dX12_ground_154 : decode cX12_ground 154 = .ok (.iconst 1, 1) := by decide +kernel
theorem dX12_ground_155 : decode cX12_ground 155 = .ok (.isub, 1) := by decide +kernel
theorem dX12_ground_156 : decode cX12_ground 156 = .ok (.ireturn, 1) := by decide +kernel
theorem dX12_isLand_0 : decode cX12_isLand 0 = .ok (.iload_n 1, 1) := by decide +kernel
theorem dX12_isLand_1 : decode cX12_isLand 1 = .ok (.ifCond .lt 15, 3) := by decide +kernel
theorem dX12_isLand_4 : decode cX12_isLand 4 = .ok (.iload_n 1, 1) := by decide +kernel
theorem dX12_isLand_5 : decode cX12_isLand 5 = .ok (.aload_n 0, 1) := by decide +kernel
theorem dX12_isLand_6 : decode cX12_isLand 6 = .ok (.getfield 280, 3) := by decide +kernel
theorem dX12_isLand_9 : decode cX12_isLand 9 = .ok (.if_icmp .ge 7, 3) := by decide +kernel
theorem dX12_isLand_12 : decode cX12_isLand 12 = .ok (.iconst 1, 1) := by decide +kernel
theorem dX12_isLand_13 : decode cX12_isLand 13 = .ok (.goto 4, 3) := by decide +kernel
theorem dX12_isLand_16 : decode cX12_isLand 16 = .ok (.iconst 0, 1) := by decide +kernel
theorem dX12_isLand_17 : decode cX12_isLand 17 = .ok (.ireturn, 1) := by decide +kernel
theorem dX12_isSite_0 : decode cX12_isSite 0 = .ok (.iload_n 1, 1) := by decide +kernel
theorem dX12_isSite_1 : decode cX12_isSite 1 = .ok (.ifCond .lt 15, 3) := by decide +kernel
theorem dX12_isSite_4 : decode cX12_isSite 4 = .ok (.iload_n 1, 1) := by decide +kernel
theorem dX12_isSite_5 : decode cX12_isSite 5 = .ok (.aload_n 0, 1) := by decide +kernel
theorem dX12_isSite_6 : decode cX12_isSite 6 = .ok (.getfield 283, 3) := by decide +kernel
theorem dX12_isSite_9 : decode cX12_isSite 9 = .ok (.if_icmp .ge 7, 3) := by decide +kernel
theorem dX12_isSite_12 : decode cX12_isSite 12 = .ok (.iconst 1, 1) := by decide +kernel
theorem dX12_isSite_13 : decode cX12_isSite 13 = .ok (.goto 4, 3) := by decide +kernel
theorem dX12_isSite_16 : decode cX12_isSite 16 = .ok (.iconst 0, 1) := by decide +kernel
theorem dX12_isSite_17 : decode cX12_isSite 17 = .ok (.ireturn, 1) := by decide +kernel
theorem dX12_isBand_0 : decode cX12_isBand 0 = .ok (.iload_n 0, 1) := by decide +kernel
theorem dX12_isBand_1 : decode cX12_isBand 1 = .ok (.ifCond .lt 13, 3) := by decide +kernel
theorem dX12_isBand_4 : decode cX12_isBand 4 = .ok (.iload_n 0, 1) := by decide +kernel
theorem dX12_isBand_5 : decode cX12_isBand 5 = .ok (.bipush 6, 2) := by decide +kernel
theorem dX12_isBand_7 : decode cX12_isBand 7 = .ok (.if_icmp .ge 7, 3) := by decide +kernel
theorem dX12_isBand_10 : decode cX12_isBand 10 = .ok (.iconst 1, 1) := by decide +kernel
theorem dX12_isBand_11 : decode cX12_isBand 11 = .ok (.goto 4, 3) := by decide +kernel
theorem dX12_isBand_14 : decode cX12_isBand 14 = .ok (.iconst 0, 1) := by decide +kernel
theorem dX12_isBand_15 : decode cX12_isBand 15 = .ok (.ireturn, 1) := by decide +kernel
theorem dX12_isHour_0 : decode cX12_isHour 0 = .ok (.iload_n 0, 1) := by decide +kernel
theorem dX12_isHour_1 : decode cX12_isHour 1 = .ok (.ifCond .lt 13, 3) := by decide +kernel
theorem dX12_isHour_4 : decode cX12_isHour 4 = .ok (.iload_n 0, 1) := by decide +kernel
theorem dX12_isHour_5 : decode cX12_isHour 5 = .ok (.bipush 24, 2) := by decide +kernel
theorem dX12_isHour_7 : decode cX12_isHour 7 = .ok (.if_icmp .ge 7, 3) := by decide +kernel
theorem dX12_isHour_10 : decode cX12_isHour 10 = .ok (.iconst 1, 1) := by decide +kernel
theorem dX12_isHour_11 : decode cX12_isHour 11 = .ok (.goto 4, 3) := by decide +kernel
theorem dX12_isHour_14 : decode cX12_isHour 14 = .ok (.iconst 0, 1) := by decide +kernel
theorem dX12_isHour_15 : decode cX12_isHour 15 = .ok (.ireturn, 1) := by decide +kernel
theorem dX12_isDay_0 : decode cX12_isDay 0 = .ok (.iload_n 0, 1) := by decide +kernel
theorem dX12_isDay_1 : decode cX12_isDay 1 = .ok (.ifCond .lt 14, 3) := by decide +kernel
theorem dX12_isDay_4 : decode cX12_isDay 4 = .ok (.iload_n 0, 1) := by decide +kernel
theorem dX12_isDay_5 : decode cX12_isDay 5 = .ok (.sipush 3600, 3) := by decide +kernel
theorem dX12_isDay_8 : decode cX12_isDay 8 = .ok (.if_icmp .ge 7, 3) := by decide +kernel
theorem dX12_isDay_11 : decode cX12_isDay 11 = .ok (.iconst 1, 1) := by decide +kernel
theorem dX12_isDay_12 : decode cX12_isDay 12 = .ok (.goto 4, 3) := by decide +kernel
theorem dX12_isDay_15 : decode cX12_isDay 15 = .ok (.iconst 0, 1) := by decide +kernel
theorem dX12_isDay_16 : decode cX12_isDay 16 = .ok (.ireturn, 1) := by decide +kernel
theorem dX12_isKnown_0 : decode cX12_isKnown 0 = .ok (.iload_n 1, 1) := by decide +kernel
theorem dX12_isKnown_1 : decode cX12_isKnown 1 = .ok (.ifCond .lt 15, 3) := by decide +kernel
theorem dX12_isKnown_4 : decode cX12_isKnown 4 = .ok (.iload_n 1, 1) := by decide +kernel
theorem dX12_isKnown_5 : decode cX12_isKnown 5 = .ok (.aload_n 0, 1) := by decide +kernel
theorem dX12_isKnown_6 : decode cX12_isKnown 6 = .ok (.getfield 286, 3) := by decide +kernel
theorem dX12_isKnown_9 : decode cX12_isKnown 9 = .ok (.if_icmp .gt 7, 3) := by decide +kernel
theorem dX12_isKnown_12 : decode cX12_isKnown 12 = .ok (.iconst 1, 1) := by decide +kernel
theorem dX12_isKnown_13 : decode cX12_isKnown 13 = .ok (.goto 4, 3) := by decide +kernel
theorem dX12_isKnown_16 : decode cX12_isKnown 16 = .ok (.iconst 0, 1) := by decide +kernel
theorem dX12_isKnown_17 : decode cX12_isKnown 17 = .ok (.ireturn, 1) := by decide +kernel
theorem dX12_mast_0 : decode cX12_mast 0 = .ok (.aload_n 0, 1) := by decide +kernel
theorem dX12_mast_1 : decode cX12_mast 1 = .ok (.getfield 289, 3) := by decide +kernel
theorem dX12_mast_4 : decode cX12_mast 4 = .ok (.bipush 6, 2) := by decide +kernel
theorem dX12_mast_6 : decode cX12_mast 6 = .ok (.if_icmp .eq 22, 3) := by decide +kernel
theorem dX12_mast_9 : decode cX12_mast 9 = .ok (.aload_n 0, 1) := by decide +kernel
theorem dX12_mast_10 : decode cX12_mast 10 = .ok (.iload_n 1, 1) := by decide +kernel
theorem dX12_mast_11 : decode cX12_mast 11 = .ok (.invokevirtual 292, 3) := by decide +kernel
theorem dX12_mast_14 : decode cX12_mast 14 = .ok (.ifCond .eq 14, 3) := by decide +kernel
theorem dX12_mast_17 : decode cX12_mast 17 = .ok (.iload_n 2, 1) := by decide +kernel
theorem dX12_mast_18 : decode cX12_mast 18 = .ok (.iconst 1, 1) := by decide +kernel
theorem dX12_mast_19 : decode cX12_mast 19 = .ok (.if_icmp .lt 9, 3) := by decide +kernel
theorem dX12_mast_22 : decode cX12_mast 22 = .ok (.iload_n 2, 1) := by decide +kernel
theorem dX12_mast_23 : decode cX12_mast 23 = .ok (.bipush 9, 2) := by decide +kernel
theorem dX12_mast_25 : decode cX12_mast 25 = .ok (.if_icmp .le 5, 3) := by decide +kernel
theorem dX12_mast_28 : decode cX12_mast 28 = .ok (.iconst (-1), 1) := by decide +kernel
theorem dX12_mast_29 : decode cX12_mast 29 = .ok (.ireturn, 1) := by decide +kernel
theorem dX12_mast_30 : decode cX12_mast 30 = .ok (.aload_n 0, 1) := by decide +kernel
theorem dX12_mast_31 : decode cX12_mast 31 = .ok (.getfield 89, 3) := by decide +kernel
theorem dX12_mast_34 : decode cX12_mast 34 = .ok (.aload_n 0, 1) := by decide +kernel
theorem dX12_mast_35 : decode cX12_mast 35 = .ok (.getfield 289, 3) := by decide +kernel
theorem dX12_mast_38 : decode cX12_mast 38 = .ok (.iload_n 1, 1) := by decide +kernel
theorem dX12_mast_39 : decode cX12_mast 39 = .ok (.iastore, 1) := by decide +kernel
theorem dX12_mast_40 : decode cX12_mast 40 = .ok (.aload_n 0, 1) := by decide +kernel
theorem dX12_mast_41 : decode cX12_mast 41 = .ok (.getfield 92, 3) := by decide +kernel
theorem dX12_mast_44 : decode cX12_mast 44 = .ok (.aload_n 0, 1) := by decide +kernel
theorem dX12_mast_45 : decode cX12_mast 45 = .ok (.getfield 289, 3) := by decide +kernel
theorem dX12_mast_48 : decode cX12_mast 48 = .ok (.iload_n 2, 1) := by decide +kernel
theorem dX12_mast_49 : decode cX12_mast 49 = .ok (.iastore, 1) := by decide +kernel
theorem dX12_mast_50 : decode cX12_mast 50 = .ok (.aload_n 0, 1) := by decide +kernel
theorem dX12_mast_51 : decode cX12_mast 51 = .ok (.dup, 1) := by decide +kernel
theorem dX12_mast_52 : decode cX12_mast 52 = .ok (.getfield 289, 3) := by decide +kernel
theorem dX12_mast_55 : decode cX12_mast 55 = .ok (.iconst 1, 1) := by decide +kernel
theorem dX12_mast_56 : decode cX12_mast 56 = .ok (.iadd, 1) := by decide +kernel
theorem dX12_mast_57 : decode cX12_mast 57 = .ok (.putfield 289, 3) := by decide +kernel
theorem dX12_mast_60 : decode cX12_mast 60 = .ok (.aload_n 0, 1) := by decide +kernel
theorem dX12_mast_61 : decode cX12_mast 61 = .ok (.getfield 289, 3) := by decide +kernel
theorem dX12_mast_64 : decode cX12_mast 64 = .ok (.iconst 1, 1) := by decide +kernel
theorem dX12_mast_65 : decode cX12_mast 65 = .ok (.isub, 1) := by decide +kernel
theorem dX12_mast_66 : decode cX12_mast 66 = .ok (.ireturn, 1) := by decide +kernel
theorem dX12_programme_0 : decode cX12_programme 0 = .ok (.aload_n 0, 1) := by decide +kernel
theorem dX12_programme_1 : decode cX12_programme 1 = .ok (.getfield 295, 3) := by decide +kernel
theorem dX12_programme_4 : decode cX12_programme 4 = .ok (.bipush 10, 2) := by decide +kernel
theorem dX12_programme_6 : decode cX12_programme 6 = .ok (.if_icmp .eq 26, 3) := by decide +kernel
theorem dX12_programme_9 : decode cX12_programme 9 = .ok (.aload_n 0, 1) := by decide +kernel
theorem dX12_programme_10 : decode cX12_programme 10 = .ok (.iload_n 1, 1) := by decide +kernel
theorem dX12_programme_11 : decode cX12_programme 11 = .ok (.invokevirtual 298, 3) := by decide +kernel
theorem dX12_programme_14 : decode cX12_programme 14 = .ok (.ifCond .eq 18, 3) := by decide +kernel
theorem dX12_programme_17 : decode cX12_programme 17 = .ok (.iload_n 2, 1) := by decide +kernel
theorem dX12_programme_18 : decode cX12_programme 18 = .ok (.ifCond .lt 14, 3) := by decide +kernel
theorem dX12_programme_21 : decode cX12_programme 21 = .ok (.iload_n 2, 1) := by decide +kernel
theorem dX12_programme_22 : decode cX12_programme 22 = .ok (.iload_n 3, 1) := by decide +kernel
theorem dX12_programme_23 : decode cX12_programme 23 = .ok (.if_icmp .ge 9, 3) := by decide +kernel
theorem dX12_programme_26 : decode cX12_programme 26 = .ok (.iload_n 3, 1) := by decide +kernel
theorem dX12_programme_27 : decode cX12_programme 27 = .ok (.bipush 24, 2) := by decide +kernel
theorem dX12_programme_29 : decode cX12_programme 29 = .ok (.if_icmp .le 5, 3) := by decide +kernel
theorem dX12_programme_32 : decode cX12_programme 32 = .ok (.iconst (-1), 1) := by decide +kernel
theorem dX12_programme_33 : decode cX12_programme 33 = .ok (.ireturn, 1) := by decide +kernel
theorem dX12_programme_34 : decode cX12_programme 34 = .ok (.aload_n 0, 1) := by decide +kernel
theorem dX12_programme_35 : decode cX12_programme 35 = .ok (.getfield 95, 3) := by decide +kernel
theorem dX12_programme_38 : decode cX12_programme 38 = .ok (.aload_n 0, 1) := by decide +kernel
theorem dX12_programme_39 : decode cX12_programme 39 = .ok (.getfield 295, 3) := by decide +kernel
theorem dX12_programme_42 : decode cX12_programme 42 = .ok (.iload_n 1, 1) := by decide +kernel
theorem dX12_programme_43 : decode cX12_programme 43 = .ok (.iastore, 1) := by decide +kernel
theorem dX12_programme_44 : decode cX12_programme 44 = .ok (.aload_n 0, 1) := by decide +kernel
theorem dX12_programme_45 : decode cX12_programme 45 = .ok (.getfield 98, 3) := by decide +kernel
theorem dX12_programme_48 : decode cX12_programme 48 = .ok (.aload_n 0, 1) := by decide +kernel
theorem dX12_programme_49 : decode cX12_programme 49 = .ok (.getfield 295, 3) := by decide +kernel
theorem dX12_programme_52 : decode cX12_programme 52 = .ok (.iload_n 2, 1) := by decide +kernel
theorem dX12_programme_53 : decode cX12_programme 53 = .ok (.iastore, 1) := by decide +kernel
theorem dX12_programme_54 : decode cX12_programme 54 = .ok (.aload_n 0, 1) := by decide +kernel
theorem dX12_programme_55 : decode cX12_programme 55 = .ok (.getfield 101, 3) := by decide +kernel
theorem dX12_programme_58 : decode cX12_programme 58 = .ok (.aload_n 0, 1) := by decide +kernel
theorem dX12_programme_59 : decode cX12_programme 59 = .ok (.getfield 295, 3) := by decide +kernel
theorem dX12_programme_62 : decode cX12_programme 62 = .ok (.iload_n 3, 1) := by decide +kernel
theorem dX12_programme_63 : decode cX12_programme 63 = .ok (.iastore, 1) := by decide +kernel
theorem dX12_programme_64 : decode cX12_programme 64 = .ok (.aload_n 0, 1) := by decide +kernel
theorem dX12_programme_65 : decode cX12_programme 65 = .ok (.dup, 1) := by decide +kernel
theorem dX12_programme_66 : decode cX12_programme 66 = .ok (.getfield 295, 3) := by decide +kernel
theorem dX12_programme_69 : decode cX12_programme 69 = .ok (.iconst 1, 1) := by decide +kernel
theorem dX12_programme_70 : decode cX12_programme 70 = .ok (.iadd, 1) := by decide +kernel
theorem dX12_programme_71 : decode cX12_programme 71 = .ok (.putfield 295, 3) := by decide +kernel
theorem dX12_programme_74 : decode cX12_programme 74 = .ok (.aload_n 0, 1) := by decide +kernel
theorem dX12_programme_75 : decode cX12_programme 75 = .ok (.getfield 295, 3) := by decide +kernel
theorem dX12_programme_78 : decode cX12_programme 78 = .ok (.iconst 1, 1) := by decide +kernel
theorem dX12_programme_79 : decode cX12_programme 79 = .ok (.isub, 1) := by decide +kernel
theorem dX12_programme_80 : decode cX12_programme 80 = .ok (.ireturn, 1) := by decide +kernel
theorem dX12_sheet_0 : decode cX12_sheet 0 = .ok (.iload_n 1, 1) := by decide +kernel
theorem dX12_sheet_1 : decode cX12_sheet 1 = .ok (.ifCond .lt 20, 3) := by decide +kernel
theorem dX12_sheet_4 : decode cX12_sheet 4 = .ok (.iload_n 1, 1) := by decide +kernel
theorem dX12_sheet_5 : decode cX12_sheet 5 = .ok (.iconst 3, 1) := by decide +kernel
theorem dX12_sheet_6 : decode cX12_sheet 6 = .ok (.if_icmp .gt 15, 3) := by decide +kernel
theorem dX12_sheet_9 : decode cX12_sheet 9 = .ok (.iload_n 2, 1) := by decide +kernel
theorem dX12_sheet_10 : decode cX12_sheet 10 = .ok (.iconst (-1), 1) := by decide +kernel
theorem dX12_sheet_11 : decode cX12_sheet 11 = .ok (.if_icmp .lt 10, 3) := by decide +kernel
theorem dX12_sheet_14 : decode cX12_sheet 14 = .ok (.iload_n 2, 1) := by decide +kernel
theorem dX12_sheet_15 : decode cX12_sheet 15 = .ok (.sipush 270, 3) := by decide +kernel
theorem dX12_sheet_18 : decode cX12_sheet 18 = .ok (.if_icmp .le 5, 3) := by decide +kernel
theorem dX12_sheet_21 : decode cX12_sheet 21 = .ok (.iconst 0, 1) := by decide +kernel
theorem dX12_sheet_22 : decode cX12_sheet 22 = .ok (.ireturn, 1) := by decide +kernel
theorem dX12_sheet_23 : decode cX12_sheet 23 = .ok (.aload_n 0, 1) := by decide +kernel
theorem dX12_sheet_24 : decode cX12_sheet 24 = .ok (.getfield 104, 3) := by decide +kernel
theorem dX12_sheet_27 : decode cX12_sheet 27 = .ok (.iload_n 1, 1) := by decide +kernel
theorem dX12_sheet_28 : decode cX12_sheet 28 = .ok (.iload_n 2, 1) := by decide +kernel
theorem dX12_sheet_29 : decode cX12_sheet 29 = .ok (.iastore, 1) := by decide +kernel
theorem dX12_sheet_30 : decode cX12_sheet 30 = .ok (.iconst 0, 1) := by decide +kernel
theorem dX12_sheet_31 : decode cX12_sheet 31 = .ok (.istore_n 3, 1) := by decide +kernel
theorem dX12_sheet_32 : decode cX12_sheet 32 = .ok (.iload_n 3, 1) := by decide +kernel
theorem dX12_sheet_33 : decode cX12_sheet 33 = .ok (.sipush 270, 3) := by decide +kernel
theorem dX12_sheet_36 : decode cX12_sheet 36 = .ok (.if_icmp .ge 22, 3) := by decide +kernel
theorem dX12_sheet_39 : decode cX12_sheet 39 = .ok (.aload_n 0, 1) := by decide +kernel
theorem dX12_sheet_40 : decode cX12_sheet 40 = .ok (.getfield 107, 3) := by decide +kernel
theorem dX12_sheet_43 : decode cX12_sheet 43 = .ok (.sipush 270, 3) := by decide +kernel
theorem dX12_sheet_46 : decode cX12_sheet 46 = .ok (.iload_n 1, 1) := by decide +kernel
theorem dX12_sheet_47 : decode cX12_sheet 47 = .ok (.imul, 1) := by decide +kernel
theorem dX12_sheet_48 : decode cX12_sheet 48 = .ok (.iload_n 3, 1) := by decide +kernel
theorem dX12_sheet_49 : decode cX12_sheet 49 = .ok (.iadd, 1) := by decide +kernel
theorem dX12_sheet_50 : decode cX12_sheet 50 = .ok (.iconst 0, 1) := by decide +kernel
theorem dX12_sheet_51 : decode cX12_sheet 51 = .ok (.iastore, 1) := by decide +kernel
theorem dX12_sheet_52 : decode cX12_sheet 52 = .ok (.iinc 3 1, 3) := by decide +kernel
theorem dX12_sheet_55 : decode cX12_sheet 55 = .ok (.goto (-23), 3) := by decide +kernel
theorem dX12_sheet_58 : decode cX12_sheet 58 = .ok (.iconst 1, 1) := by decide +kernel
theorem dX12_sheet_59 : decode cX12_sheet 59 = .ok (.ireturn, 1) := by decide +kernel
theorem dX12_cell_0 : decode cX12_cell 0 = .ok (.iload_n 1, 1) := by decide +kernel
theorem dX12_cell_1 : decode cX12_cell 1 = .ok (.ifCond .lt 34, 3) := by decide +kernel
theorem dX12_cell_4 : decode cX12_cell 4 = .ok (.iload_n 1, 1) := by decide +kernel
theorem dX12_cell_5 : decode cX12_cell 5 = .ok (.iconst 3, 1) := by decide +kernel
theorem dX12_cell_6 : decode cX12_cell 6 = .ok (.if_icmp .gt 29, 3) := by decide +kernel
theorem dX12_cell_9 : decode cX12_cell 9 = .ok (.iload_n 2, 1) := by decide +kernel
theorem dX12_cell_10 : decode cX12_cell 10 = .ok (.ifCond .lt 25, 3) := by decide +kernel
theorem dX12_cell_13 : decode cX12_cell 13 = .ok (.iload_n 2, 1) := by decide +kernel
theorem dX12_cell_14 : decode cX12_cell 14 = .ok (.aload_n 0, 1) := by decide +kernel
theorem dX12_cell_15 : decode cX12_cell 15 = .ok (.getfield 104, 3) := by decide +kernel
theorem dX12_cell_18 : decode cX12_cell 18 = .ok (.iload_n 1, 1) := by decide +kernel
theorem dX12_cell_19 : decode cX12_cell 19 = .ok (.iaload, 1) := by decide +kernel
theorem dX12_cell_20 : decode cX12_cell 20 = .ok (.if_icmp .ge 15, 3) := by decide +kernel
theorem dX12_cell_23 : decode cX12_cell 23 = .ok (.iload_n 3, 1) := by decide +kernel
theorem dX12_cell_24 : decode cX12_cell 24 = .ok (.bipush (-99), 2) := by decide +kernel
theorem dX12_cell_26 : decode cX12_cell 26 = .ok (.if_icmp .lt 9, 3) := by decide +kernel
theorem dX12_cell_29 : decode cX12_cell 29 = .ok (.iload_n 3, 1) := by decide +kernel
theorem dX12_cell_30 : decode cX12_cell 30 = .ok (.bipush 99, 2) := by decide +kernel
theorem dX12_cell_32 : decode cX12_cell 32 = .ok (.if_icmp .le 5, 3) := by decide +kernel
theorem dX12_cell_35 : decode cX12_cell 35 = .ok (.iconst 0, 1) := by decide +kernel
theorem dX12_cell_36 : decode cX12_cell 36 = .ok (.ireturn, 1) := by decide +kernel
theorem dX12_cell_37 : decode cX12_cell 37 = .ok (.aload_n 0, 1) := by decide +kernel
theorem dX12_cell_38 : decode cX12_cell 38 = .ok (.getfield 107, 3) := by decide +kernel
theorem dX12_cell_41 : decode cX12_cell 41 = .ok (.sipush 270, 3) := by decide +kernel
theorem dX12_cell_44 : decode cX12_cell 44 = .ok (.iload_n 1, 1) := by decide +kernel
theorem dX12_cell_45 : decode cX12_cell 45 = .ok (.imul, 1) := by decide +kernel
theorem dX12_cell_46 : decode cX12_cell 46 = .ok (.iload_n 2, 1) := by decide +kernel
theorem dX12_cell_47 : decode cX12_cell 47 = .ok (.iadd, 1) := by decide +kernel
theorem dX12_cell_48 : decode cX12_cell 48 = .ok (.iload_n 3, 1) := by decide +kernel
theorem dX12_cell_49 : decode cX12_cell 49 = .ok (.iastore, 1) := by decide +kernel
theorem dX12_cell_50 : decode cX12_cell 50 = .ok (.iconst 1, 1) := by decide +kernel
theorem dX12_cell_51 : decode cX12_cell 51 = .ok (.ireturn, 1) := by decide +kernel
theorem dX12_clock_0 : decode cX12_clock 0 = .ok (.iload_n 1, 1) := by decide +kernel
theorem dX12_clock_1 : decode cX12_clock 1 = .ok (.aload_n 0, 1) := by decide +kernel
theorem dX12_clock_2 : decode cX12_clock 2 = .ok (.getfield 301, 3) := by decide +kernel
theorem dX12_clock_5 : decode cX12_clock 5 = .ok (.if_icmp .lt 10, 3) := by decide +kernel
theorem dX12_clock_8 : decode cX12_clock 8 = .ok (.iload_n 1, 1) := by decide +kernel
theorem dX12_clock_9 : decode cX12_clock 9 = .ok (.invokestatic 304, 3) := by decide +kernel
theorem dX12_clock_12 : decode cX12_clock 12 = .ok (.ifCond .ne 5, 3) := by decide +kernel
theorem dX12_clock_15 : decode cX12_clock 15 = .ok (.iconst 0, 1) := by decide +kernel
theorem dX12_clock_16 : decode cX12_clock 16 = .ok (.ireturn, 1) := by decide +kernel
theorem dX12_clock_17 : decode cX12_clock 17 = .ok (.aload_n 0, 1) := by decide +kernel
theorem dX12_clock_18 : decode cX12_clock 18 = .ok (.iload_n 1, 1) := by decide +kernel
theorem dX12_clock_19 : decode cX12_clock 19 = .ok (.putfield 301, 3) := by decide +kernel
theorem dX12_clock_22 : decode cX12_clock 22 = .ok (.iconst 1, 1) := by decide +kernel
theorem dX12_clock_23 : decode cX12_clock 23 = .ok (.ireturn, 1) := by decide +kernel
theorem dX12_report_0 : decode cX12_report 0 = .ok (.aload_n 0, 1) := by decide +kernel
theorem dX12_report_1 : decode cX12_report 1 = .ok (.getfield 286, 3) := by decide +kernel
theorem dX12_report_4 : decode cX12_report 4 = .ok (.sipush 300, 3) := by decide +kernel
theorem dX12_report_7 : decode cX12_report 7 = .ok (.if_icmp .eq 48, 3) := by decide +kernel
theorem dX12_report_10 : decode cX12_report 10 = .ok (.aload_n 0, 1) := by decide +kernel
theorem dX12_report_11 : decode cX12_report 11 = .ok (.iload_n 1, 1) := by decide +kernel
theorem dX12_report_12 : decode cX12_report 12 = .ok (.invokevirtual 292, 3) := by decide +kernel
theorem dX12_report_15 : decode cX12_report 15 = .ok (.ifCond .eq 40, 3) := by decide +kernel
theorem dX12_report_18 : decode cX12_report 18 = .ok (.aload_n 0, 1) := by decide +kernel
theorem dX12_report_19 : decode cX12_report 19 = .ok (.iload_n 2, 1) := by decide +kernel
theorem dX12_report_20 : decode cX12_report 20 = .ok (.invokevirtual 298, 3) := by decide +kernel
theorem dX12_report_23 : decode cX12_report 23 = .ok (.ifCond .eq 32, 3) := by decide +kernel
theorem dX12_report_26 : decode cX12_report 26 = .ok (.iload_n 3, 1) := by decide +kernel
theorem dX12_report_27 : decode cX12_report 27 = .ok (.invokestatic 307, 3) := by decide +kernel
theorem dX12_report_30 : decode cX12_report 30 = .ok (.ifCond .eq 25, 3) := by decide +kernel
theorem dX12_report_33 : decode cX12_report 33 = .ok (.iload 4, 2) := by decide +kernel
theorem dX12_report_35 : decode cX12_report 35 = .ok (.invokestatic 310, 3) := by decide +kernel
theorem dX12_report_38 : decode cX12_report 38 = .ok (.ifCond .eq 17, 3) := by decide +kernel
theorem dX12_report_41 : decode cX12_report 41 = .ok (.iload 5, 2) := by decide +kernel
theorem dX12_report_43 : decode cX12_report 43 = .ok (.bipush (-99), 2) := by decide +kernel
theorem dX12_report_45 : decode cX12_report 45 = .ok (.if_icmp .lt 10, 3) := by decide +kernel
theorem dX12_report_48 : decode cX12_report 48 = .ok (.iload 5, 2) := by decide +kernel
theorem dX12_report_50 : decode cX12_report 50 = .ok (.bipush 99, 2) := by decide +kernel
theorem dX12_report_52 : decode cX12_report 52 = .ok (.if_icmp .le 5, 3) := by decide +kernel
theorem dX12_report_55 : decode cX12_report 55 = .ok (.iconst (-1), 1) := by decide +kernel
theorem dX12_report_56 : decode cX12_report 56 = .ok (.ireturn, 1) := by decide +kernel
theorem dX12_report_57 : decode cX12_report 57 = .ok (.aload_n 0, 1) := by decide +kernel
theorem dX12_report_58 : decode cX12_report 58 = .ok (.getfield 110, 3) := by decide +kernel
theorem dX12_report_61 : decode cX12_report 61 = .ok (.aload_n 0, 1) := by decide +kernel
theorem dX12_report_62 : decode cX12_report 62 = .ok (.getfield 286, 3) := by decide +kernel
theorem dX12_report_65 : decode cX12_report 65 = .ok (.iconst 0, 1) := by decide +kernel
theorem dX12_report_66 : decode cX12_report 66 = .ok (.bastore, 1) := by decide +kernel
theorem dX12_report_67 : decode cX12_report 67 = .ok (.aload_n 0, 1) := by decide +kernel
theorem dX12_report_68 : decode cX12_report 68 = .ok (.getfield 113, 3) := by decide +kernel
theorem dX12_report_71 : decode cX12_report 71 = .ok (.aload_n 0, 1) := by decide +kernel
theorem dX12_report_72 : decode cX12_report 72 = .ok (.getfield 286, 3) := by decide +kernel
