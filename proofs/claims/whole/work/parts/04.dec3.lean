theorem dX12_readOne_86 : decode cX12_readOne 86 = .ok (.ifCond .ne 8, 3) := by decide +kernel
theorem dX12_readOne_89 : decode cX12_readOne 89 = .ok (.iload 4, 2) := by decide +kernel
theorem dX12_readOne_91 : decode cX12_readOne 91 = .ok (.ifCond .eq 20, 3) := by decide +kernel
theorem dX12_readOne_94 : decode cX12_readOne 94 = .ok (.aload_n 0, 1) := by decide +kernel
theorem dX12_readOne_95 : decode cX12_readOne 95 = .ok (.iload_n 3, 1) := by decide +kernel
theorem dX12_readOne_96 : decode cX12_readOne 96 = .ok (.ifCond .eq 8, 3) := by decide +kernel
theorem dX12_readOne_99 : decode cX12_readOne 99 = .ok (.bipush 20, 2) := by decide +kernel
theorem dX12_readOne_101 : decode cX12_readOne 101 = .ok (.goto 5, 3) := by decide +kernel
theorem dX12_readOne_104 : decode cX12_readOne 104 = .ok (.bipush 23, 2) := by decide +kernel
theorem dX12_readOne_106 : decode cX12_readOne 106 = .ok (.invokevirtual 457, 3) := by decide +kernel
theorem dX12_readOne_109 : decode cX12_readOne 109 = .ok (.iconst 1, 1) := by decide +kernel
theorem dX12_readOne_110 : decode cX12_readOne 110 = .ok (.ireturn, 1) := by decide +kernel
theorem dX12_readOne_111 : decode cX12_readOne 111 = .ok (.aload_n 0, 1) := by decide +kernel
theorem dX12_readOne_112 : decode cX12_readOne 112 = .ok (.invokevirtual 444, 3) := by decide +kernel
theorem dX12_readOne_115 : decode cX12_readOne 115 = .ok (.sipush 1200, 3) := by decide +kernel
theorem dX12_readOne_118 : decode cX12_readOne 118 = .ok (.aload_n 0, 1) := by decide +kernel
theorem dX12_readOne_119 : decode cX12_readOne 119 = .ok (.getfield 426, 3) := by decide +kernel
theorem dX12_readOne_122 : decode cX12_readOne 122 = .ok (.iadd, 1) := by decide +kernel
theorem dX12_readOne_123 : decode cX12_readOne 123 = .ok (.istore 5, 2) := by decide +kernel
theorem dX12_readOne_125 : decode cX12_readOne 125 = .ok (.iload_n 2, 1) := by decide +kernel
theorem dX12_readOne_126 : decode cX12_readOne 126 = .ok (.invokestatic 460, 3) := by decide +kernel
theorem dX12_readOne_129 : decode cX12_readOne 129 = .ok (.ifCond .eq 80, 3) := by decide +kernel
theorem dX12_readOne_132 : decode cX12_readOne 132 = .ok (.aload_n 0, 1) := by decide +kernel
theorem dX12_readOne_133 : decode cX12_readOne 133 = .ok (.bipush 60, 2) := by decide +kernel
theorem dX12_readOne_135 : decode cX12_readOne 135 = .ok (.invokevirtual 451, 3) := by decide +kernel
theorem dX12_readOne_138 : decode cX12_readOne 138 = .ok (.ifCond .ne 27, 3) := by decide +kernel
theorem dX12_readOne_141 : decode cX12_readOne 141 = .ok (.aload_n 0, 1) := by decide +kernel
theorem dX12_readOne_142 : decode cX12_readOne 142 = .ok (.bipush 61, 2) := by decide +kernel
theorem dX12_readOne_144 : decode cX12_readOne 144 = .ok (.invokevirtual 451, 3) := by decide +kernel
theorem dX12_readOne_147 : decode cX12_readOne 147 = .ok (.ifCond .ne 18, 3) := by decide +kernel
theorem dX12_readOne_150 : decode cX12_readOne 150 = .ok (.aload_n 0, 1) := by decide +kernel
theorem dX12_readOne_151 : decode cX12_readOne 151 = .ok (.bipush 62, 2) := by decide +kernel
theorem dX12_readOne_153 : decode cX12_readOne 153 = .ok (.invokevirtual 451, 3) := by decide +kernel
theorem dX12_readOne_156 : decode cX12_readOne 156 = .ok (.ifCond .ne 9, 3) := by decide +kernel
theorem dX12_readOne_159 : decode cX12_readOne 159 = .ok (.aload_n 0, 1) := by decide +kernel
theorem dX12_readOne_160 : decode cX12_readOne 160 = .ok (.iconst 1, 1) := by decide +kernel
theorem dX12_readOne_161 : decode cX12_readOne 161 = .ok (.invokevirtual 409, 3) := by decide +kernel
theorem dX12_readOne_164 : decode cX12_readOne 164 = .ok (.ireturn, 1) := by decide +kernel
theorem dX12_readOne_165 : decode cX12_readOne 165 = .ok (.aload_n 0, 1) := by decide +kernel
theorem dX12_readOne_166 : decode cX12_readOne 166 = .ok (.getfield 163, 3) := by decide +kernel
theorem dX12_readOne_169 : decode cX12_readOne 169 = .ok (.iload 5, 2) := by decide +kernel
theorem dX12_readOne_171 : decode cX12_readOne 171 = .ok (.aload_n 0, 1) := by decide +kernel
theorem dX12_readOne_172 : decode cX12_readOne 172 = .ok (.getfield 391, 3) := by decide +kernel
theorem dX12_readOne_175 : decode cX12_readOne 175 = .ok (.iastore, 1) := by decide +kernel
theorem dX12_readOne_176 : decode cX12_readOne 176 = .ok (.aload_n 0, 1) := by decide +kernel
theorem dX12_readOne_177 : decode cX12_readOne 177 = .ok (.invokevirtual 444, 3) := by decide +kernel
theorem dX12_readOne_180 : decode cX12_readOne 180 = .ok (.aload_n 0, 1) := by decide +kernel
theorem dX12_readOne_181 : decode cX12_readOne 181 = .ok (.getfield 385, 3) := by decide +kernel
theorem dX12_readOne_184 : decode cX12_readOne 184 = .ok (.iconst 3, 1) := by decide +kernel
theorem dX12_readOne_185 : decode cX12_readOne 185 = .ok (.if_icmp .eq 9, 3) := by decide +kernel
theorem dX12_readOne_188 : decode cX12_readOne 188 = .ok (.aload_n 0, 1) := by decide +kernel
theorem dX12_readOne_189 : decode cX12_readOne 189 = .ok (.iconst 1, 1) := by decide +kernel
theorem dX12_readOne_190 : decode cX12_readOne 190 = .ok (.invokevirtual 409, 3) := by decide +kernel
theorem dX12_readOne_193 : decode cX12_readOne 193 = .ok (.ireturn, 1) := by decide +kernel
theorem dX12_readOne_194 : decode cX12_readOne 194 = .ok (.aload_n 0, 1) := by decide +kernel
theorem dX12_readOne_195 : decode cX12_readOne 195 = .ok (.getfield 166, 3) := by decide +kernel
theorem dX12_readOne_198 : decode cX12_readOne 198 = .ok (.iload 5, 2) := by decide +kernel
theorem dX12_readOne_200 : decode cX12_readOne 200 = .ok (.aload_n 0, 1) := by decide +kernel
theorem dX12_readOne_201 : decode cX12_readOne 201 = .ok (.getfield 397, 3) := by decide +kernel
theorem dX12_readOne_204 : decode cX12_readOne 204 = .ok (.iastore, 1) := by decide +kernel
theorem dX12_readOne_205 : decode cX12_readOne 205 = .ok (.aload_n 0, 1) := by decide +kernel
theorem dX12_readOne_206 : decode cX12_readOne 206 = .ok (.invokevirtual 444, 3) := by decide +kernel
theorem dX12_readOne_209 : decode cX12_readOne 209 = .ok (.aload_n 0, 1) := by decide +kernel
theorem dX12_readOne_210 : decode cX12_readOne 210 = .ok (.iload_n 2, 1) := by decide +kernel
theorem dX12_readOne_211 : decode cX12_readOne 211 = .ok (.invokevirtual 432, 3) := by decide +kernel
theorem dX12_readOne_214 : decode cX12_readOne 214 = .ok (.aload_n 0, 1) := by decide +kernel
theorem dX12_readOne_215 : decode cX12_readOne 215 = .ok (.invokevirtual 463, 3) := by decide +kernel
theorem dX12_readOne_218 : decode cX12_readOne 218 = .ok (.iconst 1, 1) := by decide +kernel
theorem dX12_readOne_219 : decode cX12_readOne 219 = .ok (.ireturn, 1) := by decide +kernel
theorem dX12_readCond_0 : decode cX12_readCond 0 = .ok (.aload_n 0, 1) := by decide +kernel
theorem dX12_readCond_1 : decode cX12_readCond 1 = .ok (.getfield 154, 3) := by decide +kernel
theorem dX12_readCond_4 : decode cX12_readCond 4 = .ok (.bipush 60, 2) := by decide +kernel
theorem dX12_readCond_6 : decode cX12_readCond 6 = .ok (.iload_n 1, 1) := by decide +kernel
theorem dX12_readCond_7 : decode cX12_readCond 7 = .ok (.iadd, 1) := by decide +kernel
theorem dX12_readCond_8 : decode cX12_readCond 8 = .ok (.aload_n 0, 1) := by decide +kernel
theorem dX12_readCond_9 : decode cX12_readCond 9 = .ok (.getfield 426, 3) := by decide +kernel
theorem dX12_readCond_12 : decode cX12_readCond 12 = .ok (.iastore, 1) := by decide +kernel
theorem dX12_readCond_13 : decode cX12_readCond 13 = .ok (.aload_n 0, 1) := by decide +kernel
theorem dX12_readCond_14 : decode cX12_readCond 14 = .ok (.iconst 0, 1) := by decide +kernel
theorem dX12_readCond_15 : decode cX12_readCond 15 = .ok (.putfield 429, 3) := by decide +kernel
theorem dX12_readCond_18 : decode cX12_readCond 18 = .ok (.aload_n 0, 1) := by decide +kernel
theorem dX12_readCond_19 : decode cX12_readCond 19 = .ok (.iconst 0, 1) := by decide +kernel
theorem dX12_readCond_20 : decode cX12_readCond 20 = .ok (.putfield 438, 3) := by decide +kernel
theorem dX12_readCond_23 : decode cX12_readCond 23 = .ok (.aload_n 0, 1) := by decide +kernel
theorem dX12_readCond_24 : decode cX12_readCond 24 = .ok (.iconst 0, 1) := by decide +kernel
theorem dX12_readCond_25 : decode cX12_readCond 25 = .ok (.putfield 441, 3) := by decide +kernel
theorem dX12_readCond_28 : decode cX12_readCond 28 = .ok (.aload_n 0, 1) := by decide +kernel
theorem dX12_readCond_29 : decode cX12_readCond 29 = .ok (.iconst 0, 1) := by decide +kernel
theorem dX12_readCond_30 : decode cX12_readCond 30 = .ok (.putfield 466, 3) := by decide +kernel
theorem dX12_readCond_33 : decode cX12_readCond 33 = .ok (.aload_n 0, 1) := by decide +kernel
theorem dX12_readCond_34 : decode cX12_readCond 34 = .ok (.getfield 466, 3) := by decide +kernel
theorem dX12_readCond_37 : decode cX12_readCond 37 = .ok (.ifCond .ne 38, 3) := by decide +kernel
theorem dX12_readCond_40 : decode cX12_readCond 40 = .ok (.aload_n 0, 1) := by decide +kernel
theorem dX12_readCond_41 : decode cX12_readCond 41 = .ok (.getfield 426, 3) := by decide +kernel
theorem dX12_readCond_44 : decode cX12_readCond 44 = .ok (.istore_n 3, 1) := by decide +kernel
theorem dX12_readCond_45 : decode cX12_readCond 45 = .ok (.aload_n 0, 1) := by decide +kernel
theorem dX12_readCond_46 : decode cX12_readCond 46 = .ok (.iload_n 2, 1) := by decide +kernel
theorem dX12_readCond_47 : decode cX12_readCond 47 = .ok (.invokevirtual 470, 3) := by decide +kernel
theorem dX12_readCond_50 : decode cX12_readCond 50 = .ok (.ifCond .ne 5, 3) := by decide +kernel
theorem dX12_readCond_53 : decode cX12_readCond 53 = .ok (.iconst 0, 1) := by decide +kernel
theorem dX12_readCond_54 : decode cX12_readCond 54 = .ok (.ireturn, 1) := by decide +kernel
theorem dX12_readCond_55 : decode cX12_readCond 55 = .ok (.aload_n 0, 1) := by decide +kernel
theorem dX12_readCond_56 : decode cX12_readCond 56 = .ok (.aload_n 0, 1) := by decide +kernel
theorem dX12_readCond_57 : decode cX12_readCond 57 = .ok (.getfield 426, 3) := by decide +kernel
theorem dX12_readCond_60 : decode cX12_readCond 60 = .ok (.iload_n 3, 1) := by decide +kernel
theorem dX12_readCond_61 : decode cX12_readCond 61 = .ok (.if_icmp .le 7, 3) := by decide +kernel
theorem dX12_readCond_64 : decode cX12_readCond 64 = .ok (.iconst 1, 1) := by decide +kernel
theorem dX12_readCond_65 : decode cX12_readCond 65 = .ok (.goto 4, 3) := by decide +kernel
theorem dX12_readCond_68 : decode cX12_readCond 68 = .ok (.iconst 0, 1) := by decide +kernel
theorem dX12_readCond_69 : decode cX12_readCond 69 = .ok (.putfield 466, 3) := by decide +kernel
theorem dX12_readCond_72 : decode cX12_readCond 72 = .ok (.goto (-39), 3) := by decide +kernel
theorem dX12_readCond_75 : decode cX12_readCond 75 = .ok (.aload_n 0, 1) := by decide +kernel
theorem dX12_readCond_76 : decode cX12_readCond 76 = .ok (.bipush 97, 2) := by decide +kernel
theorem dX12_readCond_78 : decode cX12_readCond 78 = .ok (.bipush 110, 2) := by decide +kernel
theorem dX12_readCond_80 : decode cX12_readCond 80 = .ok (.bipush 100, 2) := by decide +kernel
theorem dX12_readCond_82 : decode cX12_readCond 82 = .ok (.iconst 0, 1) := by decide +kernel
theorem dX12_readCond_83 : decode cX12_readCond 83 = .ok (.iconst 0, 1) := by decide +kernel
theorem dX12_readCond_84 : decode cX12_readCond 84 = .ok (.iconst 0, 1) := by decide +kernel
theorem dX12_readCond_85 : decode cX12_readCond 85 = .ok (.invokestatic 412, 3) := by decide +kernel
theorem dX12_readCond_88 : decode cX12_readCond 88 = .ok (.invokevirtual 416, 3) := by decide +kernel
theorem dX12_readCond_91 : decode cX12_readCond 91 = .ok (.ifCond .eq 47, 3) := by decide +kernel
theorem dX12_readCond_94 : decode cX12_readCond 94 = .ok (.aload_n 0, 1) := by decide +kernel
theorem dX12_readCond_95 : decode cX12_readCond 95 = .ok (.getfield 429, 3) := by decide +kernel
theorem dX12_readCond_98 : decode cX12_readCond 98 = .ok (.ifCond .le 26, 3) := by decide +kernel
theorem dX12_readCond_101 : decode cX12_readCond 101 = .ok (.aload_n 0, 1) := by decide +kernel
theorem dX12_readCond_102 : decode cX12_readCond 102 = .ok (.getfield 178, 3) := by decide +kernel
theorem dX12_readCond_105 : decode cX12_readCond 105 = .ok (.aload_n 0, 1) := by decide +kernel
theorem dX12_readCond_106 : decode cX12_readCond 106 = .ok (.getfield 429, 3) := by decide +kernel
theorem dX12_readCond_109 : decode cX12_readCond 109 = .ok (.iconst 1, 1) := by decide +kernel
theorem dX12_readCond_110 : decode cX12_readCond 110 = .ok (.isub, 1) := by decide +kernel
theorem dX12_readCond_111 : decode cX12_readCond 111 = .ok (.iaload, 1) := by decide +kernel
theorem dX12_readCond_112 : decode cX12_readCond 112 = .ok (.bipush 21, 2) := by decide +kernel
theorem dX12_readCond_114 : decode cX12_readCond 114 = .ok (.if_icmp .ne 10, 3) := by decide +kernel
theorem dX12_readCond_117 : decode cX12_readCond 117 = .ok (.aload_n 0, 1) := by decide +kernel
theorem dX12_readCond_118 : decode cX12_readCond 118 = .ok (.invokevirtual 435, 3) := by decide +kernel
theorem dX12_readCond_121 : decode cX12_readCond 121 = .ok (.goto (-27), 3) := by decide +kernel
theorem dX12_readCond_124 : decode cX12_readCond 124 = .ok (.aload_n 0, 1) := by decide +kernel
theorem dX12_readCond_125 : decode cX12_readCond 125 = .ok (.bipush 21, 2) := by decide +kernel
theorem dX12_readCond_127 : decode cX12_readCond 127 = .ok (.invokevirtual 457, 3) := by decide +kernel
theorem dX12_readCond_130 : decode cX12_readCond 130 = .ok (.aload_n 0, 1) := by decide +kernel
theorem dX12_readCond_131 : decode cX12_readCond 131 = .ok (.iconst 0, 1) := by decide +kernel
theorem dX12_readCond_132 : decode cX12_readCond 132 = .ok (.putfield 466, 3) := by decide +kernel
theorem dX12_readCond_135 : decode cX12_readCond 135 = .ok (.goto (-102), 3) := by decide +kernel
theorem dX12_readCond_138 : decode cX12_readCond 138 = .ok (.aload_n 0, 1) := by decide +kernel
theorem dX12_readCond_139 : decode cX12_readCond 139 = .ok (.bipush 111, 2) := by decide +kernel
theorem dX12_readCond_141 : decode cX12_readCond 141 = .ok (.bipush 114, 2) := by decide +kernel
theorem dX12_readCond_143 : decode cX12_readCond 143 = .ok (.iconst 0, 1) := by decide +kernel
theorem dX12_readCond_144 : decode cX12_readCond 144 = .ok (.iconst 0, 1) := by decide +kernel
theorem dX12_readCond_145 : decode cX12_readCond 145 = .ok (.iconst 0, 1) := by decide +kernel
theorem dX12_readCond_146 : decode cX12_readCond 146 = .ok (.iconst 0, 1) := by decide +kernel
theorem dX12_readCond_147 : decode cX12_readCond 147 = .ok (.invokestatic 412, 3) := by decide +kernel
theorem dX12_readCond_150 : decode cX12_readCond 150 = .ok (.invokevirtual 416, 3) := by decide +kernel
theorem dX12_readCond_153 : decode cX12_readCond 153 = .ok (.ifCond .eq 63, 3) := by decide +kernel
theorem dX12_readCond_156 : decode cX12_readCond 156 = .ok (.aload_n 0, 1) := by decide +kernel
theorem dX12_readCond_157 : decode cX12_readCond 157 = .ok (.getfield 429, 3) := by decide +kernel
theorem dX12_readCond_160 : decode cX12_readCond 160 = .ok (.ifCond .le 42, 3) := by decide +kernel
theorem dX12_readCond_163 : decode cX12_readCond 163 = .ok (.aload_n 0, 1) := by decide +kernel
theorem dX12_readCond_164 : decode cX12_readCond 164 = .ok (.getfield 178, 3) := by decide +kernel
theorem dX12_readCond_167 : decode cX12_readCond 167 = .ok (.aload_n 0, 1) := by decide +kernel
theorem dX12_readCond_168 : decode cX12_readCond 168 = .ok (.getfield 429, 3) := by decide +kernel
theorem dX12_readCond_171 : decode cX12_readCond 171 = .ok (.iconst 1, 1) := by decide +kernel
theorem dX12_readCond_172 : decode cX12_readCond 172 = .ok (.isub, 1) := by decide +kernel
theorem dX12_readCond_173 : decode cX12_readCond 173 = .ok (.iaload, 1) := by decide +kernel
theorem dX12_readCond_174 : decode cX12_readCond 174 = .ok (.bipush 21, 2) := by decide +kernel
theorem dX12_readCond_176 : decode cX12_readCond 176 = .ok (.if_icmp .eq 19, 3) := by decide +kernel
theorem dX12_readCond_179 : decode cX12_readCond 179 = .ok (.aload_n 0, 1) := by decide +kernel
theorem dX12_readCond_180 : decode cX12_readCond 180 = .ok (.getfield 178, 3) := by decide +kernel
theorem dX12_readCond_183 : decode cX12_readCond 183 = .ok (.aload_n 0, 1) := by decide +kernel
theorem dX12_readCond_184 : decode cX12_readCond 184 = .ok (.getfield 429, 3) := by decide +kernel
theorem dX12_readCond_187 : decode cX12_readCond 187 = .ok (.iconst 1, 1) := by decide +kernel
theorem dX12_readCond_188 : decode cX12_readCond 188 = .ok (.isub, 1) := by decide +kernel
theorem dX12_readCond_189 : decode cX12_readCond 189 = .ok (.iaload, 1) := by decide +kernel
theorem dX12_readCond_190 : decode cX12_readCond 190 = .ok (.bipush 22, 2) := by decide +kernel
theorem dX12_readCond_192 : decode cX12_readCond 192 = .ok (.if_icmp .ne 10, 3) := by decide +kernel
theorem dX12_readCond_195 : decode cX12_readCond 195 = .ok (.aload_n 0, 1) := by decide +kernel
theorem dX12_readCond_196 : decode cX12_readCond 196 = .ok (.invokevirtual 435, 3) := by decide +kernel
theorem dX12_readCond_199 : decode cX12_readCond 199 = .ok (.goto (-43), 3) := by decide +kernel
theorem dX12_readCond_202 : decode cX12_readCond 202 = .ok (.aload_n 0, 1) := by decide +kernel
theorem dX12_readCond_203 : decode cX12_readCond 203 = .ok (.bipush 22, 2) := by decide +kernel
theorem dX12_readCond_205 : decode cX12_readCond 205 = .ok (.invokevirtual 457, 3) := by decide +kernel
theorem dX12_readCond_208 : decode cX12_readCond 208 = .ok (.aload_n 0, 1) := by decide +kernel
theorem dX12_readCond_209 : decode cX12_readCond 209 = .ok (.iconst 0, 1) := by decide +kernel
theorem dX12_readCond_210 : decode cX12_readCond 210 = .ok (.putfield 466, 3) := by decide +kernel
theorem dX12_readCond_213 : decode cX12_readCond 213 = .ok (.goto (-180), 3) := by decide +kernel
theorem dX12_readCond_216 : decode cX12_readCond 216 = .ok (.aload_n 0, 1) := by decide +kernel
theorem dX12_readCond_217 : decode cX12_readCond 217 = .ok (.bipush 41, 2) := by decide +kernel
theorem dX12_readCond_219 : decode cX12_readCond 219 = .ok (.invokevirtual 451, 3) := by decide +kernel
theorem dX12_readCond_222 : decode cX12_readCond 222 = .ok (.ifCond .eq 74, 3) := by decide +kernel
theorem dX12_readCond_225 : decode cX12_readCond 225 = .ok (.aload_n 0, 1) := by decide +kernel
theorem dX12_readCond_226 : decode cX12_readCond 226 = .ok (.getfield 441, 3) := by decide +kernel
theorem dX12_readCond_229 : decode cX12_readCond 229 = .ok (.ifCond .le 67, 3) := by decide +kernel
theorem dX12_readCond_232 : decode cX12_readCond 232 = .ok (.aload_n 0, 1) := by decide +kernel
theorem dX12_readCond_233 : decode cX12_readCond 233 = .ok (.getfield 178, 3) := by decide +kernel
theorem dX12_readCond_236 : decode cX12_readCond 236 = .ok (.aload_n 0, 1) := by decide +kernel
theorem dX12_readCond_237 : decode cX12_readCond 237 = .ok (.getfield 429, 3) := by decide +kernel
theorem dX12_readCond_240 : decode cX12_readCond 240 = .ok (.iconst 1, 1) := by decide +kernel
theorem dX12_readCond_241 : decode cX12_readCond 241 = .ok (.isub, 1) := by decide +kernel
theorem dX12_readCond_242 : decode cX12_readCond 242 = .ok (.iaload, 1) := by decide +kernel
theorem dX12_readCond_243 : decode cX12_readCond 243 = .ok (.bipush 23, 2) := by decide +kernel
theorem dX12_readCond_245 : decode cX12_readCond 245 = .ok (.if_icmp .eq 10, 3) := by decide +kernel
theorem dX12_readCond_248 : decode cX12_readCond 248 = .ok (.aload_n 0, 1) := by decide +kernel
theorem dX12_readCond_249 : decode cX12_readCond 249 = .ok (.invokevirtual 435, 3) := by decide +kernel
theorem dX12_readCond_252 : decode cX12_readCond 252 = .ok (.goto (-20), 3) := by decide +kernel
theorem dX12_readCond_255 : decode cX12_readCond 255 = .ok (.aload_n 0, 1) := by decide +kernel
theorem dX12_readCond_256 : decode cX12_readCond 256 = .ok (.dup, 1) := by decide +kernel
theorem dX12_readCond_257 : decode cX12_readCond 257 = .ok (.getfield 429, 3) := by decide +kernel
theorem dX12_readCond_260 : decode cX12_readCond 260 = .ok (.iconst 1, 1) := by decide +kernel
theorem dX12_readCond_261 : decode cX12_readCond 261 = .ok (.isub, 1) := by decide +kernel
theorem dX12_readCond_262 : decode cX12_readCond 262 = .ok (.putfield 429, 3) := by decide +kernel
theorem dX12_readCond_265 : decode cX12_readCond 265 = .ok (.aload_n 0, 1) := by decide +kernel
theorem dX12_readCond_266 : decode cX12_readCond 266 = .ok (.dup, 1) := by decide +kernel
theorem dX12_readCond_267 : decode cX12_readCond 267 = .ok (.getfield 438, 3) := by decide +kernel
theorem dX12_readCond_270 : decode cX12_readCond 270 = .ok (.iconst 1, 1) := by decide +kernel
theorem dX12_readCond_271 : decode cX12_readCond 271 = .ok (.isub, 1) := by decide +kernel
theorem dX12_readCond_272 : decode cX12_readCond 272 = .ok (.putfield 438, 3) := by decide +kernel
theorem dX12_readCond_275 : decode cX12_readCond 275 = .ok (.aload_n 0, 1) := by decide +kernel
theorem dX12_readCond_276 : decode cX12_readCond 276 = .ok (.dup, 1) := by decide +kernel
theorem dX12_readCond_277 : decode cX12_readCond 277 = .ok (.getfield 441, 3) := by decide +kernel
theorem dX12_readCond_280 : decode cX12_readCond 280 = .ok (.iconst 1, 1) := by decide +kernel
theorem dX12_readCond_281 : decode cX12_readCond 281 = .ok (.isub, 1) := by decide +kernel
theorem dX12_readCond_282 : decode cX12_readCond 282 = .ok (.putfield 441, 3) := by decide +kernel
theorem dX12_readCond_285 : decode cX12_readCond 285 = .ok (.aload_n 0, 1) := by decide +kernel
theorem dX12_readCond_286 : decode cX12_readCond 286 = .ok (.invokevirtual 444, 3) := by decide +kernel
theorem dX12_readCond_289 : decode cX12_readCond 289 = .ok (.aload_n 0, 1) := by decide +kernel
theorem dX12_readCond_290 : decode cX12_readCond 290 = .ok (.invokevirtual 463, 3) := by decide +kernel
theorem dX12_readCond_293 : decode cX12_readCond 293 = .ok (.goto (-260), 3) := by decide +kernel
theorem dX12_readCond_296 : decode cX12_readCond 296 = .ok (.aload_n 0, 1) := by decide +kernel
theorem dX12_readCond_297 : decode cX12_readCond 297 = .ok (.bipush 59, 2) := by decide +kernel
theorem dX12_readCond_299 : decode cX12_readCond 299 = .ok (.invokevirtual 451, 3) := by decide +kernel
theorem dX12_readCond_302 : decode cX12_readCond 302 = .ok (.ifCond .eq 39, 3) := by decide +kernel
theorem dX12_readCond_305 : decode cX12_readCond 305 = .ok (.aload_n 0, 1) := by decide +kernel
theorem dX12_readCond_306 : decode cX12_readCond 306 = .ok (.getfield 441, 3) := by decide +kernel
theorem dX12_readCond_309 : decode cX12_readCond 309 = .ok (.ifCond .ne 32, 3) := by decide +kernel
theorem dX12_readCond_312 : decode cX12_readCond 312 = .ok (.aload_n 0, 1) := by decide +kernel
theorem dX12_readCond_313 : decode cX12_readCond 313 = .ok (.getfield 429, 3) := by decide +kernel
theorem dX12_readCond_316 : decode cX12_readCond 316 = .ok (.ifCond .le 10, 3) := by decide +kernel
theorem dX12_readCond_319 : decode cX12_readCond 319 = .ok (.aload_n 0, 1) := by decide +kernel
theorem dX12_readCond_320 : decode cX12_readCond 320 = .ok (.invokevirtual 435, 3) := by decide +kernel
theorem dX12_readCond_323 : decode cX12_readCond 323 = .ok (.goto (-11), 3) := by decide +kernel
theorem dX12_readCond_326 : decode cX12_readCond 326 = .ok (.aload_n 0, 1) := by decide +kernel
theorem dX12_readCond_327 : decode cX12_readCond 327 = .ok (.getfield 157, 3) := by decide +kernel
theorem dX12_readCond_330 : decode cX12_readCond 330 = .ok (.bipush 60, 2) := by decide +kernel
theorem dX12_readCond_332 : decode cX12_readCond 332 = .ok (.iload_n 1, 1) := by decide +kernel
theorem dX12_readCond_333 : decode cX12_readCond 333 = .ok (.iadd, 1) := by decide +kernel
theorem dX12_readCond_334 : decode cX12_readCond 334 = .ok (.aload_n 0, 1) := by decide +kernel
theorem dX12_readCond_335 : decode cX12_readCond 335 = .ok (.getfield 426, 3) := by decide +kernel
theorem dX12_readCond_338 : decode cX12_readCond 338 = .ok (.iastore, 1) := by decide +kernel
theorem dX12_readCond_339 : decode cX12_readCond 339 = .ok (.iconst 1, 1) := by decide +kernel
theorem dX12_readCond_340 : decode cX12_readCond 340 = .ok (.ireturn, 1) := by decide +kernel
theorem dX12_readCond_341 : decode cX12_readCond 341 = .ok (.aload_n 0, 1) := by decide +kernel
theorem dX12_readCond_342 : decode cX12_readCond 342 = .ok (.iconst 1, 1) := by decide +kernel
theorem dX12_readCond_343 : decode cX12_readCond 343 = .ok (.invokevirtual 409, 3) := by decide +kernel
theorem dX12_readCond_346 : decode cX12_readCond 346 = .ok (.ireturn, 1) := by decide +kernel
theorem dX12_readIf_0 : decode cX12_readIf 0 = .ok (.aload_n 0, 1) := by decide +kernel
theorem dX12_readIf_1 : decode cX12_readIf 1 = .ok (.bipush 105, 2) := by decide +kernel
theorem dX12_readIf_3 : decode cX12_readIf 3 = .ok (.bipush 102, 2) := by decide +kernel
theorem dX12_readIf_5 : decode cX12_readIf 5 = .ok (.iconst 0, 1) := by decide +kernel
theorem dX12_readIf_6 : decode cX12_readIf 6 = .ok (.iconst 0, 1) := by decide +kernel
theorem dX12_readIf_7 : decode cX12_readIf 7 = .ok (.iconst 0, 1) := by decide +kernel
theorem dX12_readIf_8 : decode cX12_readIf 8 = .ok (.iconst 0, 1) := by decide +kernel
theorem dX12_readIf_9 : decode cX12_readIf 9 = .ok (.invokestatic 412, 3) := by decide +kernel
theorem dX12_readIf_12 : decode cX12_readIf 12 = .ok (.invokevirtual 416, 3) := by decide +kernel
theorem dX12_readIf_15 : decode cX12_readIf 15 = .ok (.ifCond .ne 9, 3) := by decide +kernel
theorem dX12_readIf_18 : decode cX12_readIf 18 = .ok (.aload_n 0, 1) := by decide +kernel
theorem dX12_readIf_19 : decode cX12_readIf 19 = .ok (.iconst 1, 1) := by decide +kernel
theorem dX12_readIf_20 : decode cX12_readIf 20 = .ok (.invokevirtual 409, 3) := by decide +kernel
theorem dX12_readIf_23 : decode cX12_readIf 23 = .ok (.ireturn, 1) := by decide +kernel
theorem dX12_readIf_24 : decode cX12_readIf 24 = .ok (.aload_n 0, 1) := by decide +kernel
theorem dX12_readIf_25 : decode cX12_readIf 25 = .ok (.invokevirtual 444, 3) := by decide +kernel
theorem dX12_readIf_28 : decode cX12_readIf 28 = .ok (.aload_n 0, 1) := by decide +kernel
theorem dX12_readIf_29 : decode cX12_readIf 29 = .ok (.iload_n 1, 1) := by decide +kernel
theorem dX12_readIf_30 : decode cX12_readIf 30 = .ok (.iload_n 1, 1) := by decide +kernel
theorem dX12_readIf_31 : decode cX12_readIf 31 = .ok (.bipush 8, 2) := by decide +kernel
theorem dX12_readIf_33 : decode cX12_readIf 33 = .ok (.if_icmp .ge 7, 3) := by decide +kernel
theorem dX12_readIf_36 : decode cX12_readIf 36 = .ok (.iconst 1, 1) := by decide +kernel
theorem dX12_readIf_37 : decode cX12_readIf 37 = .ok (.goto 4, 3) := by decide +kernel
theorem dX12_readIf_40 : decode cX12_readIf 40 = .ok (.iconst 0, 1) := by decide +kernel
theorem dX12_readIf_41 : decode cX12_readIf 41 = .ok (.invokevirtual 474, 3) := by decide +kernel
theorem dX12_readIf_44 : decode cX12_readIf 44 = .ok (.ireturn, 1) := by decide +kernel
theorem dX12_readTell_0 : decode cX12_readTell 0 = .ok (.aload_n 0, 1) := by decide +kernel
theorem dX12_readTell_1 : decode cX12_readTell 1 = .ok (.getfield 145, 3) := by decide +kernel
theorem dX12_readTell_4 : decode cX12_readTell 4 = .ok (.bipush 6, 2) := by decide +kernel
theorem dX12_readTell_6 : decode cX12_readTell 6 = .ok (.iaload, 1) := by decide +kernel
theorem dX12_readTell_7 : decode cX12_readTell 7 = .ok (.bipush 8, 2) := by decide +kernel
theorem dX12_readTell_9 : decode cX12_readTell 9 = .ok (.if_icmp .ne 9, 3) := by decide +kernel
theorem dX12_readTell_12 : decode cX12_readTell 12 = .ok (.aload_n 0, 1) := by decide +kernel
theorem dX12_readTell_13 : decode cX12_readTell 13 = .ok (.iconst 3, 1) := by decide +kernel
theorem dX12_readTell_14 : decode cX12_readTell 14 = .ok (.invokevirtual 409, 3) := by decide +kernel
theorem dX12_readTell_17 : decode cX12_readTell 17 = .ok (.ireturn, 1) := by decide +kernel
theorem dX12_readTell_18 : decode cX12_readTell 18 = .ok (.aload_n 0, 1) := by decide +kernel
theorem dX12_readTell_19 : decode cX12_readTell 19 = .ok (.getfield 145, 3) := by decide +kernel
theorem dX12_readTell_22 : decode cX12_readTell 22 = .ok (.bipush 6, 2) := by decide +kernel
theorem dX12_readTell_24 : decode cX12_readTell 24 = .ok (.iaload, 1) := by decide +kernel
theorem dX12_readTell_25 : decode cX12_readTell 25 = .ok (.istore_n 1, 1) := by decide +kernel
theorem dX12_readTell_26 : decode cX12_readTell 26 = .ok (.aload_n 0, 1) := by decide +kernel
theorem dX12_readTell_27 : decode cX12_readTell 27 = .ok (.getfield 148, 3) := by decide +kernel
theorem dX12_readTell_30 : decode cX12_readTell 30 = .ok (.bipush 48, 2) := by decide +kernel
theorem dX12_readTell_32 : decode cX12_readTell 32 = .ok (.iload_n 1, 1) := by decide +kernel
theorem dX12_readTell_33 : decode cX12_readTell 33 = .ok (.iadd, 1) := by decide +kernel
theorem dX12_readTell_34 : decode cX12_readTell 34 = .ok (.bipush 30, 2) := by decide +kernel
theorem dX12_readTell_36 : decode cX12_readTell 36 = .ok (.iastore, 1) := by decide +kernel
theorem dX12_readTell_37 : decode cX12_readTell 37 = .ok (.aload_n 0, 1) := by decide +kernel
theorem dX12_readTell_38 : decode cX12_readTell 38 = .ok (.invokevirtual 444, 3) := by decide +kernel
theorem dX12_readTell_41 : decode cX12_readTell 41 = .ok (.aload_n 0, 1) := by decide +kernel
theorem dX12_readTell_42 : decode cX12_readTell 42 = .ok (.bipush 119, 2) := by decide +kernel
theorem dX12_readTell_44 : decode cX12_readTell 44 = .ok (.bipush 105, 2) := by decide +kernel
theorem dX12_readTell_46 : decode cX12_readTell 46 = .ok (.bipush 116, 2) := by decide +kernel
theorem dX12_readTell_48 : decode cX12_readTell 48 = .ok (.bipush 104, 2) := by decide +kernel
theorem dX12_readTell_50 : decode cX12_readTell 50 = .ok (.bipush 105, 2) := by decide +kernel
theorem dX12_readTell_52 : decode cX12_readTell 52 = .ok (.bipush 110, 2) := by decide +kernel
theorem dX12_readTell_54 : decode cX12_readTell 54 = .ok (.invokestatic 412, 3) := by decide +kernel
theorem dX12_readTell_57 : decode cX12_readTell 57 = .ok (.invokevirtual 416, 3) := by decide +kernel
theorem dX12_readTell_60 : decode cX12_readTell 60 = .ok (.ifCond .eq 37, 3) := by decide +kernel
theorem dX12_readTell_63 : decode cX12_readTell 63 = .ok (.aload_n 0, 1) := by decide +kernel
theorem dX12_readTell_64 : decode cX12_readTell 64 = .ok (.invokevirtual 444, 3) := by decide +kernel
theorem dX12_readTell_67 : decode cX12_readTell 67 = .ok (.aload_n 0, 1) := by decide +kernel
theorem dX12_readTell_68 : decode cX12_readTell 68 = .ok (.iconst 0, 1) := by decide +kernel
theorem dX12_readTell_69 : decode cX12_readTell 69 = .ok (.sipush 999, 3) := by decide +kernel
theorem dX12_readTell_72 : decode cX12_readTell 72 = .ok (.invokevirtual 478, 3) := by decide +kernel
theorem dX12_readTell_75 : decode cX12_readTell 75 = .ok (.ifCond .ne 5, 3) := by decide +kernel
theorem dX12_readTell_78 : decode cX12_readTell 78 = .ok (.iconst 0, 1) := by decide +kernel
theorem dX12_readTell_79 : decode cX12_readTell 79 = .ok (.ireturn, 1) := by decide +kernel
theorem dX12_readTell_80 : decode cX12_readTell 80 = .ok (.aload_n 0, 1) := by decide +kernel
theorem dX12_readTell_81 : decode cX12_readTell 81 = .ok (.getfield 148, 3) := by decide +kernel
theorem dX12_readTell_84 : decode cX12_readTell 84 = .ok (.bipush 48, 2) := by decide +kernel
theorem dX12_readTell_86 : decode cX12_readTell 86 = .ok (.iload_n 1, 1) := by decide +kernel
theorem dX12_readTell_87 : decode cX12_readTell 87 = .ok (.iadd, 1) := by decide +kernel
theorem dX12_readTell_88 : decode cX12_readTell 88 = .ok (.aload_n 0, 1) := by decide +kernel
theorem dX12_readTell_89 : decode cX12_readTell 89 = .ok (.getfield 397, 3) := by decide +kernel
theorem dX12_readTell_92 : decode cX12_readTell 92 = .ok (.iastore, 1) := by decide +kernel
theorem dX12_readTell_93 : decode cX12_readTell 93 = .ok (.aload_n 0, 1) := by decide +kernel
theorem dX12_readTell_94 : decode cX12_readTell 94 = .ok (.invokevirtual 444, 3) := by decide +kernel
theorem dX12_readTell_97 : decode cX12_readTell 97 = .ok (.aload_n 0, 1) := by decide +kernel
theorem dX12_readTell_98 : decode cX12_readTell 98 = .ok (.getfield 145, 3) := by decide +kernel
theorem dX12_readTell_101 : decode cX12_readTell 101 = .ok (.bipush 6, 2) := by decide +kernel
theorem dX12_readTell_103 : decode cX12_readTell 103 = .ok (.dup2, 1) := by decide +kernel
theorem dX12_readTell_104 : decode cX12_readTell 104 = .ok (.iaload, 1) := by decide +kernel
theorem dX12_readTell_105 : decode cX12_readTell 105 = .ok (.iconst 1, 1) := by decide +kernel
theorem dX12_readTell_106 : decode cX12_readTell 106 = .ok (.iadd, 1) := by decide +kernel
theorem dX12_readTell_107 : decode cX12_readTell 107 = .ok (.iastore, 1) := by decide +kernel
theorem dX12_readTell_108 : decode cX12_readTell 108 = .ok (.aload_n 0, 1) := by decide +kernel
theorem dX12_readTell_109 : decode cX12_readTell 109 = .ok (.iload_n 1, 1) := by decide +kernel
theorem dX12_readTell_110 : decode cX12_readTell 110 = .ok (.invokevirtual 481, 3) := by decide +kernel
theorem dX12_readTell_113 : decode cX12_readTell 113 = .ok (.ireturn, 1) := by decide +kernel
theorem dX12_numberAtHand_0 : decode cX12_numberAtHand 0 = .ok (.aload_n 0, 1) := by decide +kernel
theorem dX12_numberAtHand_1 : decode cX12_numberAtHand 1 = .ok (.bipush 107, 2) := by decide +kernel
theorem dX12_numberAtHand_3 : decode cX12_numberAtHand 3 = .ok (.bipush 105, 2) := by decide +kernel
theorem dX12_numberAtHand_5 : decode cX12_numberAtHand 5 = .ok (.bipush 110, 2) := by decide +kernel
theorem dX12_numberAtHand_7 : decode cX12_numberAtHand 7 = .ok (.iconst 0, 1) := by decide +kernel
theorem dX12_numberAtHand_8 : decode cX12_numberAtHand 8 = .ok (.iconst 0, 1) := by decide +kernel
theorem dX12_numberAtHand_9 : decode cX12_numberAtHand 9 = .ok (.iconst 0, 1) := by decide +kernel
theorem dX12_numberAtHand_10 : decode cX12_numberAtHand 10 = .ok (.invokestatic 412, 3) := by decide +kernel
theorem dX12_numberAtHand_13 : decode cX12_numberAtHand 13 = .ok (.invokevirtual 416, 3) := by decide +kernel
theorem dX12_numberAtHand_16 : decode cX12_numberAtHand 16 = .ok (.ifCond .eq 5, 3) := by decide +kernel
theorem dX12_numberAtHand_19 : decode cX12_numberAtHand 19 = .ok (.iconst 0, 1) := by decide +kernel
theorem dX12_numberAtHand_20 : decode cX12_numberAtHand 20 = .ok (.ireturn, 1) := by decide +kernel
theorem dX12_numberAtHand_21 : decode cX12_numberAtHand 21 = .ok (.aload_n 0, 1) := by decide +kernel
theorem dX12_numberAtHand_22 : decode cX12_numberAtHand 22 = .ok (.bipush 121, 2) := by decide +kernel
theorem dX12_numberAtHand_24 : decode cX12_numberAtHand 24 = .ok (.bipush 101, 2) := by decide +kernel
theorem dX12_numberAtHand_26 : decode cX12_numberAtHand 26 = .ok (.bipush 97, 2) := by decide +kernel
theorem dX12_numberAtHand_28 : decode cX12_numberAtHand 28 = .ok (.bipush 114, 2) := by decide +kernel
theorem dX12_numberAtHand_30 : decode cX12_numberAtHand 30 = .ok (.iconst 0, 1) := by decide +kernel
theorem dX12_numberAtHand_31 : decode cX12_numberAtHand 31 = .ok (.iconst 0, 1) := by decide +kernel
theorem dX12_numberAtHand_32 : decode cX12_numberAtHand 32 = .ok (.invokestatic 412, 3) := by decide +kernel
theorem dX12_numberAtHand_35 : decode cX12_numberAtHand 35 = .ok (.invokevirtual 416, 3) := by decide +kernel
theorem dX12_numberAtHand_38 : decode cX12_numberAtHand 38 = .ok (.ifCond .eq 5, 3) := by decide +kernel
theorem dX12_numberAtHand_41 : decode cX12_numberAtHand 41 = .ok (.iconst 1, 1) := by decide +kernel
theorem dX12_numberAtHand_42 : decode cX12_numberAtHand 42 = .ok (.ireturn, 1) := by decide +kernel
theorem dX12_numberAtHand_43 : decode cX12_numberAtHand 43 = .ok (.aload_n 0, 1) := by decide +kernel
theorem dX12_numberAtHand_44 : decode cX12_numberAtHand 44 = .ok (.bipush 111, 2) := by decide +kernel
theorem dX12_numberAtHand_46 : decode cX12_numberAtHand 46 = .ok (.bipush 108, 2) := by decide +kernel
theorem dX12_numberAtHand_48 : decode cX12_numberAtHand 48 = .ok (.bipush 100, 2) := by decide +kernel
theorem dX12_numberAtHand_50 : decode cX12_numberAtHand 50 = .ok (.iconst 0, 1) := by decide +kernel
theorem dX12_numberAtHand_51 : decode cX12_numberAtHand 51 = .ok (.iconst 0, 1) := by decide +kernel
theorem dX12_numberAtHand_52 : decode cX12_numberAtHand 52 = .ok (.iconst 0, 1) := by decide +kernel
theorem dX12_numberAtHand_53 : decode cX12_numberAtHand 53 = .ok (.invokestatic 412, 3) := by decide +kernel
theorem dX12_numberAtHand_56 : decode cX12_numberAtHand 56 = .ok (.invokevirtual 416, 3) := by decide +kernel
theorem dX12_numberAtHand_59 : decode cX12_numberAtHand 59 = .ok (.ifCond .eq 5, 3) := by decide +kernel
theorem dX12_numberAtHand_62 : decode cX12_numberAtHand 62 = .ok (.iconst 2, 1) := by decide +kernel
theorem dX12_numberAtHand_63 : decode cX12_numberAtHand 63 = .ok (.ireturn, 1) := by decide +kernel
theorem dX12_numberAtHand_64 : decode cX12_numberAtHand 64 = .ok (.aload_n 0, 1) := by decide +kernel
theorem dX12_numberAtHand_65 : decode cX12_numberAtHand 65 = .ok (.bipush 108, 2) := by decide +kernel
theorem dX12_numberAtHand_67 : decode cX12_numberAtHand 67 = .ok (.bipush 105, 2) := by decide +kernel
theorem dX12_numberAtHand_69 : decode cX12_numberAtHand 69 = .ok (.bipush 110, 2) := by decide +kernel
theorem dX12_numberAtHand_71 : decode cX12_numberAtHand 71 = .ok (.bipush 107, 2) := by decide +kernel
theorem dX12_numberAtHand_73 : decode cX12_numberAtHand 73 = .ok (.iconst 0, 1) := by decide +kernel
theorem dX12_numberAtHand_74 : decode cX12_numberAtHand 74 = .ok (.iconst 0, 1) := by decide +kernel
theorem dX12_numberAtHand_75 : decode cX12_numberAtHand 75 = .ok (.invokestatic 412, 3) := by decide +kernel
theorem dX12_numberAtHand_78 : decode cX12_numberAtHand 78 = .ok (.invokevirtual 416, 3) := by decide +kernel
theorem dX12_numberAtHand_81 : decode cX12_numberAtHand 81 = .ok (.ifCond .eq 5, 3) := by decide +kernel
theorem dX12_numberAtHand_84 : decode cX12_numberAtHand 84 = .ok (.iconst 3, 1) := by decide +kernel
theorem dX12_numberAtHand_85 : decode cX12_numberAtHand 85 = .ok (.ireturn, 1) := by decide +kernel
theorem dX12_numberAtHand_86 : decode cX12_numberAtHand 86 = .ok (.aload_n 0, 1) := by decide +kernel
theorem dX12_numberAtHand_87 : decode cX12_numberAtHand 87 = .ok (.bipush 113, 2) := by decide +kernel
theorem dX12_numberAtHand_89 : decode cX12_numberAtHand 89 = .ok (.bipush 117, 2) := by decide +kernel
theorem dX12_numberAtHand_91 : decode cX12_numberAtHand 91 = .ok (.bipush 111, 2) := by decide +kernel
theorem dX12_numberAtHand_93 : decode cX12_numberAtHand 93 = .ok (.bipush 114, 2) := by decide +kernel
theorem dX12_numberAtHand_95 : decode cX12_numberAtHand 95 = .ok (.bipush 117, 2) := by decide +kernel
theorem dX12_numberAtHand_97 : decode cX12_numberAtHand 97 = .ok (.bipush 109, 2) := by decide +kernel
theorem dX12_numberAtHand_99 : decode cX12_numberAtHand 99 = .ok (.invokestatic 412, 3) := by decide +kernel
theorem dX12_numberAtHand_102 : decode cX12_numberAtHand 102 = .ok (.invokevirtual 416, 3) := by decide +kernel
theorem dX12_numberAtHand_105 : decode cX12_numberAtHand 105 = .ok (.ifCond .eq 7, 3) := by decide +kernel
theorem dX12_numberAtHand_108 : decode cX12_numberAtHand 108 = .ok (.iconst 4, 1) := by decide +kernel
theorem dX12_numberAtHand_109 : decode cX12_numberAtHand 109 = .ok (.goto 4, 3) := by decide +kernel
theorem dX12_numberAtHand_112 : decode cX12_numberAtHand 112 = .ok (.iconst (-1), 1) := by decide +kernel
theorem dX12_numberAtHand_113 : decode cX12_numberAtHand 113 = .ok (.ireturn, 1) := by decide +kernel
theorem dX12_readRule_0 : decode cX12_readRule 0 = .ok (.aload_n 0, 1) := by decide +kernel
theorem dX12_readRule_1 : decode cX12_readRule 1 = .ok (.bipush 116, 2) := by decide +kernel
theorem dX12_readRule_3 : decode cX12_readRule 3 = .ok (.bipush 101, 2) := by decide +kernel
theorem dX12_readRule_5 : decode cX12_readRule 5 = .ok (.bipush 108, 2) := by decide +kernel
theorem dX12_readRule_7 : decode cX12_readRule 7 = .ok (.bipush 108, 2) := by decide +kernel
theorem dX12_readRule_9 : decode cX12_readRule 9 = .ok (.iconst 0, 1) := by decide +kernel
theorem dX12_readRule_10 : decode cX12_readRule 10 = .ok (.iconst 0, 1) := by decide +kernel
theorem dX12_readRule_11 : decode cX12_readRule 11 = .ok (.invokestatic 412, 3) := by decide +kernel
theorem dX12_readRule_14 : decode cX12_readRule 14 = .ok (.invokevirtual 416, 3) := by decide +kernel
theorem dX12_readRule_17 : decode cX12_readRule 17 = .ok (.ifCond .eq 8, 3) := by decide +kernel
theorem dX12_readRule_20 : decode cX12_readRule 20 = .ok (.aload_n 0, 1) := by decide +kernel
theorem dX12_readRule_21 : decode cX12_readRule 21 = .ok (.invokevirtual 484, 3) := by decide +kernel
theorem dX12_readRule_24 : decode cX12_readRule 24 = .ok (.ireturn, 1) := by decide +kernel
theorem dX12_readRule_25 : decode cX12_readRule 25 = .ok (.aload_n 0, 1) := by decide +kernel
theorem dX12_readRule_26 : decode cX12_readRule 26 = .ok (.bipush 115, 2) := by decide +kernel
theorem dX12_readRule_28 : decode cX12_readRule 28 = .ok (.bipush 105, 2) := by decide +kernel
theorem dX12_readRule_30 : decode cX12_readRule 30 = .ok (.bipush 116, 2) := by decide +kernel
theorem dX12_readRule_32 : decode cX12_readRule 32 = .ok (.iconst 0, 1) := by decide +kernel
theorem dX12_readRule_33 : decode cX12_readRule 33 = .ok (.iconst 0, 1) := by decide +kernel
theorem dX12_readRule_34 : decode cX12_readRule 34 = .ok (.iconst 0, 1) := by decide +kernel
theorem dX12_readRule_35 : decode cX12_readRule 35 = .ok (.invokestatic 412, 3) := by decide +kernel
theorem dX12_readRule_38 : decode cX12_readRule 38 = .ok (.invokevirtual 416, 3) := by decide +kernel
theorem dX12_readRule_41 : decode cX12_readRule 41 = .ok (.istore_n 1, 1) := by decide +kernel
theorem dX12_readRule_42 : decode cX12_readRule 42 = .ok (.aload_n 0, 1) := by decide +kernel
theorem dX12_readRule_43 : decode cX12_readRule 43 = .ok (.bipush 109, 2) := by decide +kernel
theorem dX12_readRule_45 : decode cX12_readRule 45 = .ok (.bipush 97, 2) := by decide +kernel
theorem dX12_readRule_47 : decode cX12_readRule 47 = .ok (.bipush 121, 2) := by decide +kernel
theorem dX12_readRule_49 : decode cX12_readRule 49 = .ok (.iconst 0, 1) := by decide +kernel
theorem dX12_readRule_50 : decode cX12_readRule 50 = .ok (.iconst 0, 1) := by decide +kernel
theorem dX12_readRule_51 : decode cX12_readRule 51 = .ok (.iconst 0, 1) := by decide +kernel
theorem dX12_readRule_52 : decode cX12_readRule 52 = .ok (.invokestatic 412, 3) := by decide +kernel
theorem dX12_readRule_55 : decode cX12_readRule 55 = .ok (.invokevirtual 416, 3) := by decide +kernel
theorem dX12_readRule_58 : decode cX12_readRule 58 = .ok (.istore_n 2, 1) := by decide +kernel
theorem dX12_readRule_59 : decode cX12_readRule 59 = .ok (.aload_n 0, 1) := by decide +kernel
theorem dX12_readRule_60 : decode cX12_readRule 60 = .ok (.invokevirtual 488, 3) := by decide +kernel
theorem dX12_readRule_63 : decode cX12_readRule 63 = .ok (.istore_n 3, 1) := by decide +kernel
theorem dX12_readRule_64 : decode cX12_readRule 64 = .ok (.iload_n 1, 1) := by decide +kernel
theorem dX12_readRule_65 : decode cX12_readRule 65 = .ok (.ifCond .ne 18, 3) := by decide +kernel
theorem dX12_readRule_68 : decode cX12_readRule 68 = .ok (.iload_n 2, 1) := by decide +kernel
theorem dX12_readRule_69 : decode cX12_readRule 69 = .ok (.ifCond .ne 14, 3) := by decide +kernel
theorem dX12_readRule_72 : decode cX12_readRule 72 = .ok (.iload_n 3, 1) := by decide +kernel
theorem dX12_readRule_73 : decode cX12_readRule 73 = .ok (.iconst (-1), 1) := by decide +kernel
theorem dX12_readRule_74 : decode cX12_readRule 74 = .ok (.if_icmp .ne 9, 3) := by decide +kernel
theorem dX12_readRule_77 : decode cX12_readRule 77 = .ok (.aload_n 0, 1) := by decide +kernel
theorem dX12_readRule_78 : decode cX12_readRule 78 = .ok (.iconst 1, 1) := by decide +kernel
theorem dX12_readRule_79 : decode cX12_readRule 79 = .ok (.invokevirtual 409, 3) := by decide +kernel
theorem dX12_readRule_82 : decode cX12_readRule 82 = .ok (.ireturn, 1) := by decide +kernel
theorem dX12_readRule_83 : decode cX12_readRule 83 = .ok (.iload_n 1, 1) := by decide +kernel
theorem dX12_readRule_84 : decode cX12_readRule 84 = .ok (.ifCond .eq 8, 3) := by decide +kernel
theorem dX12_readRule_87 : decode cX12_readRule 87 = .ok (.bipush 8, 2) := by decide +kernel
theorem dX12_readRule_89 : decode cX12_readRule 89 = .ok (.goto 13, 3) := by decide +kernel
theorem dX12_readRule_92 : decode cX12_readRule 92 = .ok (.iload_n 2, 1) := by decide +kernel
theorem dX12_readRule_93 : decode cX12_readRule 93 = .ok (.ifCond .eq 8, 3) := by decide +kernel
theorem dX12_readRule_96 : decode cX12_readRule 96 = .ok (.bipush 9, 2) := by decide +kernel
theorem dX12_readRule_98 : decode cX12_readRule 98 = .ok (.goto 4, 3) := by decide +kernel
theorem dX12_readRule_101 : decode cX12_readRule 101 = .ok (.iload_n 3, 1) := by decide +kernel
theorem dX12_readRule_102 : decode cX12_readRule 102 = .ok (.istore 4, 2) := by decide +kernel
theorem dX12_readRule_104 : decode cX12_readRule 104 = .ok (.aload_n 0, 1) := by decide +kernel
theorem dX12_readRule_105 : decode cX12_readRule 105 = .ok (.getfield 491, 3) := by decide +kernel
theorem dX12_readRule_108 : decode cX12_readRule 108 = .ok (.iload 4, 2) := by decide +kernel
theorem dX12_readRule_110 : decode cX12_readRule 110 = .ok (.ishr, 1) := by decide +kernel
theorem dX12_readRule_111 : decode cX12_readRule 111 = .ok (.iconst 1, 1) := by decide +kernel
theorem dX12_readRule_112 : decode cX12_readRule 112 = .ok (.iand, 1) := by decide +kernel
theorem dX12_readRule_113 : decode cX12_readRule 113 = .ok (.iconst 1, 1) := by decide +kernel
theorem dX12_readRule_114 : decode cX12_readRule 114 = .ok (.if_icmp .ne 9, 3) := by decide +kernel
theorem dX12_readRule_117 : decode cX12_readRule 117 = .ok (.aload_n 0, 1) := by decide +kernel
theorem dX12_readRule_118 : decode cX12_readRule 118 = .ok (.iconst 3, 1) := by decide +kernel
theorem dX12_readRule_119 : decode cX12_readRule 119 = .ok (.invokevirtual 409, 3) := by decide +kernel
theorem dX12_readRule_122 : decode cX12_readRule 122 = .ok (.ireturn, 1) := by decide +kernel
theorem dX12_readRule_123 : decode cX12_readRule 123 = .ok (.aload_n 0, 1) := by decide +kernel
theorem dX12_readRule_124 : decode cX12_readRule 124 = .ok (.dup, 1) := by decide +kernel
theorem dX12_readRule_125 : decode cX12_readRule 125 = .ok (.getfield 491, 3) := by decide +kernel
theorem dX12_readRule_128 : decode cX12_readRule 128 = .ok (.iconst 1, 1) := by decide +kernel
theorem dX12_readRule_129 : decode cX12_readRule 129 = .ok (.iload 4, 2) := by decide +kernel
theorem dX12_readRule_131 : decode cX12_readRule 131 = .ok (.ishl, 1) := by decide +kernel
theorem dX12_readRule_132 : decode cX12_readRule 132 = .ok (.ior, 1) := by decide +kernel
theorem dX12_readRule_133 : decode cX12_readRule 133 = .ok (.putfield 491, 3) := by decide +kernel
theorem dX12_readRule_136 : decode cX12_readRule 136 = .ok (.aload_n 0, 1) := by decide +kernel
theorem dX12_readRule_137 : decode cX12_readRule 137 = .ok (.invokevirtual 444, 3) := by decide +kernel
theorem dX12_readRule_140 : decode cX12_readRule 140 = .ok (.iload_n 1, 1) := by decide +kernel
theorem dX12_readRule_141 : decode cX12_readRule 141 = .ok (.ifCond .ne 7, 3) := by decide +kernel
theorem dX12_readRule_144 : decode cX12_readRule 144 = .ok (.iload_n 2, 1) := by decide +kernel
theorem dX12_readRule_145 : decode cX12_readRule 145 = .ok (.ifCond .eq 10, 3) := by decide +kernel
theorem dX12_readRule_148 : decode cX12_readRule 148 = .ok (.aload_n 0, 1) := by decide +kernel
theorem dX12_readRule_149 : decode cX12_readRule 149 = .ok (.iload 4, 2) := by decide +kernel
theorem dX12_readRule_151 : decode cX12_readRule 151 = .ok (.invokevirtual 481, 3) := by decide +kernel
theorem dX12_readRule_154 : decode cX12_readRule 154 = .ok (.ireturn, 1) := by decide +kernel
theorem dX12_readRule_155 : decode cX12_readRule 155 = .ok (.aload_n 0, 1) := by decide +kernel
theorem dX12_readRule_156 : decode cX12_readRule 156 = .ok (.aload_n 0, 1) := by decide +kernel
theorem dX12_readRule_157 : decode cX12_readRule 157 = .ok (.getfield 172, 3) := by decide +kernel
theorem dX12_readRule_160 : decode cX12_readRule 160 = .ok (.iload_n 3, 1) := by decide +kernel
theorem dX12_readRule_161 : decode cX12_readRule 161 = .ok (.iaload, 1) := by decide +kernel
theorem dX12_readRule_162 : decode cX12_readRule 162 = .ok (.aload_n 0, 1) := by decide +kernel
theorem dX12_readRule_163 : decode cX12_readRule 163 = .ok (.getfield 175, 3) := by decide +kernel
theorem dX12_readRule_166 : decode cX12_readRule 166 = .ok (.iload_n 3, 1) := by decide +kernel
theorem dX12_readRule_167 : decode cX12_readRule 167 = .ok (.iaload, 1) := by decide +kernel
theorem dX12_readRule_168 : decode cX12_readRule 168 = .ok (.invokevirtual 478, 3) := by decide +kernel
theorem dX12_readRule_171 : decode cX12_readRule 171 = .ok (.ifCond .ne 5, 3) := by decide +kernel
theorem dX12_readRule_174 : decode cX12_readRule 174 = .ok (.iconst 0, 1) := by decide +kernel
theorem dX12_readRule_175 : decode cX12_readRule 175 = .ok (.ireturn, 1) := by decide +kernel
theorem dX12_readRule_176 : decode cX12_readRule 176 = .ok (.aload_n 0, 1) := by decide +kernel
theorem dX12_readRule_177 : decode cX12_readRule 177 = .ok (.getfield 151, 3) := by decide +kernel
theorem dX12_readRule_180 : decode cX12_readRule 180 = .ok (.bipush 30, 2) := by decide +kernel
theorem dX12_readRule_182 : decode cX12_readRule 182 = .ok (.iload_n 3, 1) := by decide +kernel
theorem dX12_readRule_183 : decode cX12_readRule 183 = .ok (.iadd, 1) := by decide +kernel
theorem dX12_readRule_184 : decode cX12_readRule 184 = .ok (.aload_n 0, 1) := by decide +kernel
theorem dX12_readRule_185 : decode cX12_readRule 185 = .ok (.getfield 397, 3) := by decide +kernel
theorem dX12_readRule_188 : decode cX12_readRule 188 = .ok (.iastore, 1) := by decide +kernel
theorem dX12_readRule_189 : decode cX12_readRule 189 = .ok (.aload_n 0, 1) := by decide +kernel
theorem dX12_readRule_190 : decode cX12_readRule 190 = .ok (.invokevirtual 444, 3) := by decide +kernel
theorem dX12_readRule_193 : decode cX12_readRule 193 = .ok (.aload_n 0, 1) := by decide +kernel
theorem dX12_readRule_194 : decode cX12_readRule 194 = .ok (.getfield 385, 3) := by decide +kernel
theorem dX12_readRule_197 : decode cX12_readRule 197 = .ok (.iconst 4, 1) := by decide +kernel
theorem dX12_readRule_198 : decode cX12_readRule 198 = .ok (.if_icmp .ne 12, 3) := by decide +kernel
theorem dX12_readRule_201 : decode cX12_readRule 201 = .ok (.aload_n 0, 1) := by decide +kernel
theorem dX12_readRule_202 : decode cX12_readRule 202 = .ok (.getfield 391, 3) := by decide +kernel
theorem dX12_readRule_205 : decode cX12_readRule 205 = .ok (.bipush 59, 2) := by decide +kernel
theorem dX12_readRule_207 : decode cX12_readRule 207 = .ok (.if_icmp .eq 11, 3) := by decide +kernel
theorem dX12_readRule_210 : decode cX12_readRule 210 = .ok (.aload_n 0, 1) := by decide +kernel
theorem dX12_readRule_211 : decode cX12_readRule 211 = .ok (.iconst 1, 1) := by decide +kernel
theorem dX12_readRule_212 : decode cX12_readRule 212 = .ok (.invokevirtual 409, 3) := by decide +kernel
theorem dX12_readRule_215 : decode cX12_readRule 215 = .ok (.ifCond .eq 7, 3) := by decide +kernel
theorem dX12_readRule_218 : decode cX12_readRule 218 = .ok (.iconst 1, 1) := by decide +kernel
theorem dX12_readRule_219 : decode cX12_readRule 219 = .ok (.goto 4, 3) := by decide +kernel
theorem dX12_readRule_222 : decode cX12_readRule 222 = .ok (.iconst 0, 1) := by decide +kernel
theorem dX12_readRule_223 : decode cX12_readRule 223 = .ok (.ireturn, 1) := by decide +kernel
theorem dX12_law_0 : decode cX12_law 0 = .ok (.aload_n 0, 1) := by decide +kernel
theorem dX12_law_1 : decode cX12_law 1 = .ok (.iconst 0, 1) := by decide +kernel
theorem dX12_law_2 : decode cX12_law 2 = .ok (.putfield 244, 3) := by decide +kernel
theorem dX12_law_5 : decode cX12_law 5 = .ok (.aload_n 0, 1) := by decide +kernel
theorem dX12_law_6 : decode cX12_law 6 = .ok (.aload_n 0, 1) := by decide +kernel
theorem dX12_law_7 : decode cX12_law 7 = .ok (.getfield 247, 3) := by decide +kernel
theorem dX12_law_10 : decode cX12_law 10 = .ok (.putfield 376, 3) := by decide +kernel
theorem dX12_law_13 : decode cX12_law 13 = .ok (.aload_n 0, 1) := by decide +kernel
theorem dX12_law_14 : decode cX12_law 14 = .ok (.iconst 0, 1) := by decide +kernel
theorem dX12_law_15 : decode cX12_law 15 = .ok (.putfield 247, 3) := by decide +kernel
theorem dX12_law_18 : decode cX12_law 18 = .ok (.aload_n 0, 1) := by decide +kernel
theorem dX12_law_19 : decode cX12_law 19 = .ok (.getfield 494, 3) := by decide +kernel
theorem dX12_law_22 : decode cX12_law 22 = .ok (.bipush 6, 2) := by decide +kernel
theorem dX12_law_24 : decode cX12_law 24 = .ok (.if_icmp .eq 10, 3) := by decide +kernel
theorem dX12_law_27 : decode cX12_law 27 = .ok (.iload_n 1, 1) := by decide +kernel
theorem dX12_law_28 : decode cX12_law 28 = .ok (.invokestatic 279, 3) := by decide +kernel
theorem dX12_law_31 : decode cX12_law 31 = .ok (.ifCond .ne 7, 3) := by decide +kernel
theorem dX12_law_34 : decode cX12_law 34 = .ok (.sipush (-1000), 3) := by decide +kernel
theorem dX12_law_37 : decode cX12_law 37 = .ok (.ireturn, 1) := by decide +kernel
theorem dX12_law_38 : decode cX12_law 38 = .ok (.aload_n 0, 1) := by decide +kernel
theorem dX12_law_39 : decode cX12_law 39 = .ok (.iconst 0, 1) := by decide +kernel
theorem dX12_law_40 : decode cX12_law 40 = .ok (.putfield 403, 3) := by decide +kernel
theorem dX12_law_43 : decode cX12_law 43 = .ok (.aload_n 0, 1) := by decide +kernel
theorem dX12_law_44 : decode cX12_law 44 = .ok (.iconst 0, 1) := by decide +kernel
theorem dX12_law_45 : decode cX12_law 45 = .ok (.putfield 491, 3) := by decide +kernel
theorem dX12_law_48 : decode cX12_law 48 = .ok (.aload_n 0, 1) := by decide +kernel
theorem dX12_law_49 : decode cX12_law 49 = .ok (.iconst 0, 1) := by decide +kernel
theorem dX12_law_50 : decode cX12_law 50 = .ok (.putfield 454, 3) := by decide +kernel
theorem dX12_law_53 : decode cX12_law 53 = .ok (.aload_n 0, 1) := by decide +kernel
theorem dX12_law_54 : decode cX12_law 54 = .ok (.iconst 0, 1) := by decide +kernel
theorem dX12_law_55 : decode cX12_law 55 = .ok (.putfield 426, 3) := by decide +kernel
theorem dX12_law_58 : decode cX12_law 58 = .ok (.aload_n 0, 1) := by decide +kernel
theorem dX12_law_59 : decode cX12_law 59 = .ok (.getfield 145, 3) := by decide +kernel
theorem dX12_law_62 : decode cX12_law 62 = .ok (.bipush 6, 2) := by decide +kernel
theorem dX12_law_64 : decode cX12_law 64 = .ok (.iconst 0, 1) := by decide +kernel
theorem dX12_law_65 : decode cX12_law 65 = .ok (.iastore, 1) := by decide +kernel
theorem dX12_law_66 : decode cX12_law 66 = .ok (.iconst 0, 1) := by decide +kernel
theorem dX12_law_67 : decode cX12_law 67 = .ok (.istore_n 2, 1) := by decide +kernel
theorem dX12_law_68 : decode cX12_law 68 = .ok (.iload_n 2, 1) := by decide +kernel
theorem dX12_law_69 : decode cX12_law 69 = .ok (.bipush 10, 2) := by decide +kernel
theorem dX12_law_71 : decode cX12_law 71 = .ok (.if_icmp .ge 19, 3) := by decide +kernel
theorem dX12_law_74 : decode cX12_law 74 = .ok (.aload_n 0, 1) := by decide +kernel
theorem dX12_law_75 : decode cX12_law 75 = .ok (.getfield 154, 3) := by decide +kernel
theorem dX12_law_78 : decode cX12_law 78 = .ok (.bipush 60, 2) := by decide +kernel
theorem dX12_law_80 : decode cX12_law 80 = .ok (.iload_n 2, 1) := by decide +kernel
theorem dX12_law_81 : decode cX12_law 81 = .ok (.iadd, 1) := by decide +kernel
theorem dX12_law_82 : decode cX12_law 82 = .ok (.iconst (-1), 1) := by decide +kernel
theorem dX12_law_83 : decode cX12_law 83 = .ok (.iastore, 1) := by decide +kernel
theorem dX12_law_84 : decode cX12_law 84 = .ok (.iinc 2 1, 3) := by decide +kernel
theorem dX12_law_87 : decode cX12_law 87 = .ok (.goto (-19), 3) := by decide +kernel
theorem dX12_law_90 : decode cX12_law 90 = .ok (.iconst 0, 1) := by decide +kernel
theorem dX12_law_91 : decode cX12_law 91 = .ok (.istore_n 2, 1) := by decide +kernel
theorem dX12_law_92 : decode cX12_law 92 = .ok (.iload_n 2, 1) := by decide +kernel
theorem dX12_law_93 : decode cX12_law 93 = .ok (.iconst 5, 1) := by decide +kernel
theorem dX12_law_94 : decode cX12_law 94 = .ok (.if_icmp .ge 24, 3) := by decide +kernel
theorem dX12_law_97 : decode cX12_law 97 = .ok (.aload_n 0, 1) := by decide +kernel
theorem dX12_law_98 : decode cX12_law 98 = .ok (.getfield 151, 3) := by decide +kernel
theorem dX12_law_101 : decode cX12_law 101 = .ok (.bipush 30, 2) := by decide +kernel
theorem dX12_law_103 : decode cX12_law 103 = .ok (.iload_n 2, 1) := by decide +kernel
theorem dX12_law_104 : decode cX12_law 104 = .ok (.iadd, 1) := by decide +kernel
theorem dX12_law_105 : decode cX12_law 105 = .ok (.aload_n 0, 1) := by decide +kernel
theorem dX12_law_106 : decode cX12_law 106 = .ok (.getfield 169, 3) := by decide +kernel
theorem dX12_law_109 : decode cX12_law 109 = .ok (.iload_n 2, 1) := by decide +kernel
theorem dX12_law_110 : decode cX12_law 110 = .ok (.iaload, 1) := by decide +kernel
theorem dX12_law_111 : decode cX12_law 111 = .ok (.iastore, 1) := by decide +kernel
theorem dX12_law_112 : decode cX12_law 112 = .ok (.iinc 2 1, 3) := by decide +kernel
theorem dX12_law_115 : decode cX12_law 115 = .ok (.goto (-23), 3) := by decide +kernel
theorem dX12_law_118 : decode cX12_law 118 = .ok (.iconst 0, 1) := by decide +kernel
theorem dX12_law_119 : decode cX12_law 119 = .ok (.istore_n 2, 1) := by decide +kernel
theorem dX12_law_120 : decode cX12_law 120 = .ok (.aload_n 0, 1) := by decide +kernel
theorem dX12_law_121 : decode cX12_law 121 = .ok (.iconst 0, 1) := by decide +kernel
theorem dX12_law_122 : decode cX12_law 122 = .ok (.putfield 379, 3) := by decide +kernel
theorem dX12_law_125 : decode cX12_law 125 = .ok (.aload_n 0, 1) := by decide +kernel
theorem dX12_law_126 : decode cX12_law 126 = .ok (.invokevirtual 444, 3) := by decide +kernel
theorem dX12_law_129 : decode cX12_law 129 = .ok (.aload_n 0, 1) := by decide +kernel
theorem dX12_law_130 : decode cX12_law 130 = .ok (.getfield 385, 3) := by decide +kernel
theorem dX12_law_133 : decode cX12_law 133 = .ok (.ifCond .eq 27, 3) := by decide +kernel
theorem dX12_law_136 : decode cX12_law 136 = .ok (.aload_n 0, 1) := by decide +kernel
theorem dX12_law_137 : decode cX12_law 137 = .ok (.invokevirtual 497, 3) := by decide +kernel
theorem dX12_law_140 : decode cX12_law 140 = .ok (.ifCond .ne 10, 3) := by decide +kernel
theorem dX12_law_143 : decode cX12_law 143 = .ok (.iconst (-1), 1) := by decide +kernel
theorem dX12_law_144 : decode cX12_law 144 = .ok (.aload_n 0, 1) := by decide +kernel
theorem dX12_law_145 : decode cX12_law 145 = .ok (.getfield 406, 3) := by decide +kernel
theorem dX12_law_148 : decode cX12_law 148 = .ok (.isub, 1) := by decide +kernel
theorem dX12_law_149 : decode cX12_law 149 = .ok (.ireturn, 1) := by decide +kernel
theorem dX12_law_150 : decode cX12_law 150 = .ok (.iinc 2 1, 3) := by decide +kernel
theorem dX12_law_153 : decode cX12_law 153 = .ok (.aload_n 0, 1) := by decide +kernel
theorem dX12_law_154 : decode cX12_law 154 = .ok (.invokevirtual 444, 3) := by decide +kernel
theorem dX12_law_157 : decode cX12_law 157 = .ok (.goto (-28), 3) := by decide +kernel
theorem dX12_law_160 : decode cX12_law 160 = .ok (.aload_n 0, 1) := by decide +kernel
theorem dX12_law_161 : decode cX12_law 161 = .ok (.getfield 494, 3) := by decide +kernel
theorem dX12_law_164 : decode cX12_law 164 = .ok (.istore_n 3, 1) := by decide +kernel
theorem dX12_law_165 : decode cX12_law 165 = .ok (.aload_n 0, 1) := by decide +kernel
theorem dX12_law_166 : decode cX12_law 166 = .ok (.getfield 139, 3) := by decide +kernel
theorem dX12_law_169 : decode cX12_law 169 = .ok (.iload_n 3, 1) := by decide +kernel
theorem dX12_law_170 : decode cX12_law 170 = .ok (.iload_n 1, 1) := by decide +kernel
theorem dX12_law_171 : decode cX12_law 171 = .ok (.iastore, 1) := by decide +kernel
theorem dX12_law_172 : decode cX12_law 172 = .ok (.aload_n 0, 1) := by decide +kernel
theorem dX12_law_173 : decode cX12_law 173 = .ok (.getfield 142, 3) := by decide +kernel
theorem dX12_law_176 : decode cX12_law 176 = .ok (.iload_n 3, 1) := by decide +kernel
theorem dX12_law_177 : decode cX12_law 177 = .ok (.aload_n 0, 1) := by decide +kernel
theorem dX12_law_178 : decode cX12_law 178 = .ok (.getfield 258, 3) := by decide +kernel
theorem dX12_law_181 : decode cX12_law 181 = .ok (.iastore, 1) := by decide +kernel
theorem dX12_law_182 : decode cX12_law 182 = .ok (.aload_n 0, 1) := by decide +kernel
theorem dX12_law_183 : decode cX12_law 183 = .ok (.getfield 145, 3) := by decide +kernel
theorem dX12_law_186 : decode cX12_law 186 = .ok (.iload_n 3, 1) := by decide +kernel
theorem dX12_law_187 : decode cX12_law 187 = .ok (.aload_n 0, 1) := by decide +kernel
theorem dX12_law_188 : decode cX12_law 188 = .ok (.getfield 145, 3) := by decide +kernel
theorem dX12_law_191 : decode cX12_law 191 = .ok (.bipush 6, 2) := by decide +kernel
theorem dX12_law_193 : decode cX12_law 193 = .ok (.iaload, 1) := by decide +kernel
theorem dX12_law_194 : decode cX12_law 194 = .ok (.iastore, 1) := by decide +kernel
theorem dX12_law_195 : decode cX12_law 195 = .ok (.iconst 0, 1) := by decide +kernel
theorem dX12_law_196 : decode cX12_law 196 = .ok (.istore 4, 2) := by decide +kernel
theorem dX12_law_198 : decode cX12_law 198 = .ok (.iload 4, 2) := by decide +kernel
theorem dX12_law_200 : decode cX12_law 200 = .ok (.bipush 8, 2) := by decide +kernel
theorem dX12_law_202 : decode cX12_law 202 = .ok (.if_icmp .ge 31, 3) := by decide +kernel
theorem dX12_law_205 : decode cX12_law 205 = .ok (.aload_n 0, 1) := by decide +kernel
theorem dX12_law_206 : decode cX12_law 206 = .ok (.getfield 148, 3) := by decide +kernel
theorem dX12_law_209 : decode cX12_law 209 = .ok (.bipush 8, 2) := by decide +kernel
theorem dX12_law_211 : decode cX12_law 211 = .ok (.iload_n 3, 1) := by decide +kernel
theorem dX12_law_212 : decode cX12_law 212 = .ok (.imul, 1) := by decide +kernel
theorem dX12_law_213 : decode cX12_law 213 = .ok (.iload 4, 2) := by decide +kernel
theorem dX12_law_215 : decode cX12_law 215 = .ok (.iadd, 1) := by decide +kernel
theorem dX12_law_216 : decode cX12_law 216 = .ok (.aload_n 0, 1) := by decide +kernel
theorem dX12_law_217 : decode cX12_law 217 = .ok (.getfield 148, 3) := by decide +kernel
theorem dX12_law_220 : decode cX12_law 220 = .ok (.bipush 48, 2) := by decide +kernel
theorem dX12_law_222 : decode cX12_law 222 = .ok (.iload 4, 2) := by decide +kernel
theorem dX12_law_224 : decode cX12_law 224 = .ok (.iadd, 1) := by decide +kernel
theorem dX12_law_225 : decode cX12_law 225 = .ok (.iaload, 1) := by decide +kernel
theorem dX12_law_226 : decode cX12_law 226 = .ok (.iastore, 1) := by decide +kernel
theorem dX12_law_227 : decode cX12_law 227 = .ok (.iinc 4 1, 3) := by decide +kernel
theorem dX12_law_230 : decode cX12_law 230 = .ok (.goto (-32), 3) := by decide +kernel
theorem dX12_law_233 : decode cX12_law 233 = .ok (.iconst 0, 1) := by decide +kernel
theorem dX12_law_234 : decode cX12_law 234 = .ok (.istore 4, 2) := by decide +kernel
theorem dX12_law_236 : decode cX12_law 236 = .ok (.iload 4, 2) := by decide +kernel
theorem dX12_law_238 : decode cX12_law 238 = .ok (.iconst 5, 1) := by decide +kernel
theorem dX12_law_239 : decode cX12_law 239 = .ok (.if_icmp .ge 30, 3) := by decide +kernel
theorem dX12_law_242 : decode cX12_law 242 = .ok (.aload_n 0, 1) := by decide +kernel
theorem dX12_law_243 : decode cX12_law 243 = .ok (.getfield 151, 3) := by decide +kernel
theorem dX12_law_246 : decode cX12_law 246 = .ok (.iconst 5, 1) := by decide +kernel
theorem dX12_law_247 : decode cX12_law 247 = .ok (.iload_n 3, 1) := by decide +kernel
theorem dX12_law_248 : decode cX12_law 248 = .ok (.imul, 1) := by decide +kernel
theorem dX12_law_249 : decode cX12_law 249 = .ok (.iload 4, 2) := by decide +kernel
theorem dX12_law_251 : decode cX12_law 251 = .ok (.iadd, 1) := by decide +kernel
theorem dX12_law_252 : decode cX12_law 252 = .ok (.aload_n 0, 1) := by decide +kernel
theorem dX12_law_253 : decode cX12_law 253 = .ok (.getfield 151, 3) := by decide +kernel
theorem dX12_law_256 : decode cX12_law 256 = .ok (.bipush 30, 2) := by decide +kernel
theorem dX12_law_258 : decode cX12_law 258 = .ok (.iload 4, 2) := by decide +kernel
theorem dX12_law_260 : decode cX12_law 260 = .ok (.iadd, 1) := by decide +kernel
theorem dX12_law_261 : decode cX12_law 261 = .ok (.iaload, 1) := by decide +kernel
theorem dX12_law_262 : decode cX12_law 262 = .ok (.iastore, 1) := by decide +kernel
theorem dX12_law_263 : decode cX12_law 263 = .ok (.iinc 4 1, 3) := by decide +kernel
theorem dX12_law_266 : decode cX12_law 266 = .ok (.goto (-30), 3) := by decide +kernel
theorem dX12_law_269 : decode cX12_law 269 = .ok (.iconst 0, 1) := by decide +kernel
theorem dX12_law_270 : decode cX12_law 270 = .ok (.istore 4, 2) := by decide +kernel
theorem dX12_law_272 : decode cX12_law 272 = .ok (.iload 4, 2) := by decide +kernel
theorem dX12_law_274 : decode cX12_law 274 = .ok (.bipush 10, 2) := by decide +kernel
theorem dX12_law_276 : decode cX12_law 276 = .ok (.if_icmp .ge 53, 3) := by decide +kernel
theorem dX12_law_279 : decode cX12_law 279 = .ok (.aload_n 0, 1) := by decide +kernel
theorem dX12_law_280 : decode cX12_law 280 = .ok (.getfield 154, 3) := by decide +kernel
theorem dX12_law_283 : decode cX12_law 283 = .ok (.bipush 10, 2) := by decide +kernel
theorem dX12_law_285 : decode cX12_law 285 = .ok (.iload_n 3, 1) := by decide +kernel
theorem dX12_law_286 : decode cX12_law 286 = .ok (.imul, 1) := by decide +kernel
theorem dX12_law_287 : decode cX12_law 287 = .ok (.iload 4, 2) := by decide +kernel
theorem dX12_law_289 : decode cX12_law 289 = .ok (.iadd, 1) := by decide +kernel
theorem dX12_law_290 : decode cX12_law 290 = .ok (.aload_n 0, 1) := by decide +kernel
theorem dX12_law_291 : decode cX12_law 291 = .ok (.getfield 154, 3) := by decide +kernel
theorem dX12_law_294 : decode cX12_law 294 = .ok (.bipush 60, 2) := by decide +kernel
theorem dX12_law_296 : decode cX12_law 296 = .ok (.iload 4, 2) := by decide +kernel
theorem dX12_law_298 : decode cX12_law 298 = .ok (.iadd, 1) := by decide +kernel
theorem dX12_law_299 : decode cX12_law 299 = .ok (.iaload, 1) := by decide +kernel
theorem dX12_law_300 : decode cX12_law 300 = .ok (.iastore, 1) := by decide +kernel
theorem dX12_law_301 : decode cX12_law 301 = .ok (.aload_n 0, 1) := by decide +kernel
theorem dX12_law_302 : decode cX12_law 302 = .ok (.getfield 157, 3) := by decide +kernel
theorem dX12_law_305 : decode cX12_law 305 = .ok (.bipush 10, 2) := by decide +kernel
theorem dX12_law_307 : decode cX12_law 307 = .ok (.iload_n 3, 1) := by decide +kernel
theorem dX12_law_308 : decode cX12_law 308 = .ok (.imul, 1) := by decide +kernel
theorem dX12_law_309 : decode cX12_law 309 = .ok (.iload 4, 2) := by decide +kernel
theorem dX12_law_311 : decode cX12_law 311 = .ok (.iadd, 1) := by decide +kernel
theorem dX12_law_312 : decode cX12_law 312 = .ok (.aload_n 0, 1) := by decide +kernel
theorem dX12_law_313 : decode cX12_law 313 = .ok (.getfield 157, 3) := by decide +kernel
theorem dX12_law_316 : decode cX12_law 316 = .ok (.bipush 60, 2) := by decide +kernel
theorem dX12_law_318 : decode cX12_law 318 = .ok (.iload 4, 2) := by decide +kernel
theorem dX12_law_320 : decode cX12_law 320 = .ok (.iadd, 1) := by decide +kernel
theorem dX12_law_321 : decode cX12_law 321 = .ok (.iaload, 1) := by decide +kernel
theorem dX12_law_322 : decode cX12_law 322 = .ok (.iastore, 1) := by decide +kernel
theorem dX12_law_323 : decode cX12_law 323 = .ok (.iinc 4 1, 3) := by decide +kernel
theorem dX12_law_326 : decode cX12_law 326 = .ok (.goto (-54), 3) := by decide +kernel
theorem dX12_law_329 : decode cX12_law 329 = .ok (.iconst 0, 1) := by decide +kernel
theorem dX12_law_330 : decode cX12_law 330 = .ok (.istore 4, 2) := by decide +kernel
theorem dX12_law_332 : decode cX12_law 332 = .ok (.iload 4, 2) := by decide +kernel
theorem dX12_law_334 : decode cX12_law 334 = .ok (.aload_n 0, 1) := by decide +kernel
theorem dX12_law_335 : decode cX12_law 335 = .ok (.getfield 426, 3) := by decide +kernel
theorem dX12_law_338 : decode cX12_law 338 = .ok (.if_icmp .ge 81, 3) := by decide +kernel
theorem dX12_law_341 : decode cX12_law 341 = .ok (.aload_n 0, 1) := by decide +kernel
theorem dX12_law_342 : decode cX12_law 342 = .ok (.getfield 160, 3) := by decide +kernel
theorem dX12_law_345 : decode cX12_law 345 = .ok (.sipush 200, 3) := by decide +kernel
theorem dX12_law_348 : decode cX12_law 348 = .ok (.iload_n 3, 1) := by decide +kernel
theorem dX12_law_349 : decode cX12_law 349 = .ok (.imul, 1) := by decide +kernel
theorem dX12_law_350 : decode cX12_law 350 = .ok (.iload 4, 2) := by decide +kernel
theorem dX12_law_352 : decode cX12_law 352 = .ok (.iadd, 1) := by decide +kernel
theorem dX12_law_353 : decode cX12_law 353 = .ok (.aload_n 0, 1) := by decide +kernel
theorem dX12_law_354 : decode cX12_law 354 = .ok (.getfield 160, 3) := by decide +kernel
theorem dX12_law_357 : decode cX12_law 357 = .ok (.sipush 1200, 3) := by decide +kernel
theorem dX12_law_360 : decode cX12_law 360 = .ok (.iload 4, 2) := by decide +kernel
theorem dX12_law_362 : decode cX12_law 362 = .ok (.iadd, 1) := by decide +kernel
theorem dX12_law_363 : decode cX12_law 363 = .ok (.iaload, 1) := by decide +kernel
theorem dX12_law_364 : decode cX12_law 364 = .ok (.iastore, 1) := by decide +kernel
theorem dX12_law_365 : decode cX12_law 365 = .ok (.aload_n 0, 1) := by decide +kernel
theorem dX12_law_366 : decode cX12_law 366 = .ok (.getfield 163, 3) := by decide +kernel
theorem dX12_law_369 : decode cX12_law 369 = .ok (.sipush 200, 3) := by decide +kernel
theorem dX12_law_372 : decode cX12_law 372 = .ok (.iload_n 3, 1) := by decide +kernel
theorem dX12_law_373 : decode cX12_law 373 = .ok (.imul, 1) := by decide +kernel
theorem dX12_law_374 : decode cX12_law 374 = .ok (.iload 4, 2) := by decide +kernel
theorem dX12_law_376 : decode cX12_law 376 = .ok (.iadd, 1) := by decide +kernel
theorem dX12_law_377 : decode cX12_law 377 = .ok (.aload_n 0, 1) := by decide +kernel
theorem dX12_law_378 : decode cX12_law 378 = .ok (.getfield 163, 3) := by decide +kernel
theorem dX12_law_381 : decode cX12_law 381 = .ok (.sipush 1200, 3) := by decide +kernel
theorem dX12_law_384 : decode cX12_law 384 = .ok (.iload 4, 2) := by decide +kernel
theorem dX12_law_386 : decode cX12_law 386 = .ok (.iadd, 1) := by decide +kernel
theorem dX12_law_387 : decode cX12_law 387 = .ok (.iaload, 1) := by decide +kernel
theorem dX12_law_388 : decode cX12_law 388 = .ok (.iastore, 1) := by decide +kernel
theorem dX12_law_389 : decode cX12_law 389 = .ok (.aload_n 0, 1) := by decide +kernel
theorem dX12_law_390 : decode cX12_law 390 = .ok (.getfield 166, 3) := by decide +kernel
theorem dX12_law_393 : decode cX12_law 393 = .ok (.sipush 200, 3) := by decide +kernel
theorem dX12_law_396 : decode cX12_law 396 = .ok (.iload_n 3, 1) := by decide +kernel
theorem dX12_law_397 : decode cX12_law 397 = .ok (.imul, 1) := by decide +kernel
theorem dX12_law_398 : decode cX12_law 398 = .ok (.iload 4, 2) := by decide +kernel
theorem dX12_law_400 : decode cX12_law 400 = .ok (.iadd, 1) := by decide +kernel
theorem dX12_law_401 : decode cX12_law 401 = .ok (.aload_n 0, 1) := by decide +kernel
theorem dX12_law_402 : decode cX12_law 402 = .ok (.getfield 166, 3) := by decide +kernel
theorem dX12_law_405 : decode cX12_law 405 = .ok (.sipush 1200, 3) := by decide +kernel
theorem dX12_law_408 : decode cX12_law 408 = .ok (.iload 4, 2) := by decide +kernel
theorem dX12_law_410 : decode cX12_law 410 = .ok (.iadd, 1) := by decide +kernel
theorem dX12_law_411 : decode cX12_law 411 = .ok (.iaload, 1) := by decide +kernel
theorem dX12_law_412 : decode cX12_law 412 = .ok (.iastore, 1) := by decide +kernel
theorem dX12_law_413 : decode cX12_law 413 = .ok (.iinc 4 1, 3) := by decide +kernel
theorem dX12_law_416 : decode cX12_law 416 = .ok (.goto (-84), 3) := by decide +kernel
theorem dX12_law_419 : decode cX12_law 419 = .ok (.aload_n 0, 1) := by decide +kernel
theorem dX12_law_420 : decode cX12_law 420 = .ok (.dup, 1) := by decide +kernel
theorem dX12_law_421 : decode cX12_law 421 = .ok (.getfield 494, 3) := by decide +kernel
theorem dX12_law_424 : decode cX12_law 424 = .ok (.iconst 1, 1) := by decide +kernel
theorem dX12_law_425 : decode cX12_law 425 = .ok (.iadd, 1) := by decide +kernel
theorem dX12_law_426 : decode cX12_law 426 = .ok (.putfield 494, 3) := by decide +kernel
theorem dX12_law_429 : decode cX12_law 429 = .ok (.iload_n 2, 1) := by decide +kernel
theorem dX12_law_430 : decode cX12_law 430 = .ok (.ireturn, 1) := by decide +kernel
theorem dX12_fault_0 : decode cX12_fault 0 = .ok (.aload_n 0, 1) := by decide +kernel
theorem dX12_fault_1 : decode cX12_fault 1 = .ok (.iconst 0, 1) := by decide +kernel
theorem dX12_fault_2 : decode cX12_fault 2 = .ok (.putfield 244, 3) := by decide +kernel
theorem dX12_fault_5 : decode cX12_fault 5 = .ok (.aload_n 0, 1) := by decide +kernel
theorem dX12_fault_6 : decode cX12_fault 6 = .ok (.getfield 403, 3) := by decide +kernel
theorem dX12_fault_9 : decode cX12_fault 9 = .ok (.ireturn, 1) := by decide +kernel
theorem dX12_lawFor_0 : decode cX12_lawFor 0 = .ok (.iconst (-1), 1) := by decide +kernel
theorem dX12_lawFor_1 : decode cX12_lawFor 1 = .ok (.istore_n 3, 1) := by decide +kernel
theorem dX12_lawFor_2 : decode cX12_lawFor 2 = .ok (.iconst 0, 1) := by decide +kernel
theorem dX12_lawFor_3 : decode cX12_lawFor 3 = .ok (.istore 4, 2) := by decide +kernel
theorem dX12_lawFor_5 : decode cX12_lawFor 5 = .ok (.iload 4, 2) := by decide +kernel
theorem dX12_lawFor_7 : decode cX12_lawFor 7 = .ok (.aload_n 0, 1) := by decide +kernel
theorem dX12_lawFor_8 : decode cX12_lawFor 8 = .ok (.getfield 494, 3) := by decide +kernel
theorem dX12_lawFor_11 : decode cX12_lawFor 11 = .ok (.if_icmp .ge 55, 3) := by decide +kernel
theorem dX12_lawFor_14 : decode cX12_lawFor 14 = .ok (.aload_n 0, 1) := by decide +kernel
theorem dX12_lawFor_15 : decode cX12_lawFor 15 = .ok (.getfield 142, 3) := by decide +kernel
theorem dX12_lawFor_18 : decode cX12_lawFor 18 = .ok (.iload 4, 2) := by decide +kernel
theorem dX12_lawFor_20 : decode cX12_lawFor 20 = .ok (.iaload, 1) := by decide +kernel
theorem dX12_lawFor_21 : decode cX12_lawFor 21 = .ok (.iload_n 2, 1) := by decide +kernel
theorem dX12_lawFor_22 : decode cX12_lawFor 22 = .ok (.if_icmp .gt 38, 3) := by decide +kernel
theorem dX12_lawFor_25 : decode cX12_lawFor 25 = .ok (.aload_n 0, 1) := by decide +kernel
theorem dX12_lawFor_26 : decode cX12_lawFor 26 = .ok (.getfield 139, 3) := by decide +kernel
theorem dX12_lawFor_29 : decode cX12_lawFor 29 = .ok (.iload 4, 2) := by decide +kernel
theorem dX12_lawFor_31 : decode cX12_lawFor 31 = .ok (.iaload, 1) := by decide +kernel
theorem dX12_lawFor_32 : decode cX12_lawFor 32 = .ok (.iload_n 1, 1) := by decide +kernel
theorem dX12_lawFor_33 : decode cX12_lawFor 33 = .ok (.if_icmp .gt 27, 3) := by decide +kernel
theorem dX12_lawFor_36 : decode cX12_lawFor 36 = .ok (.iload_n 3, 1) := by decide +kernel
theorem dX12_lawFor_37 : decode cX12_lawFor 37 = .ok (.iconst (-1), 1) := by decide +kernel
theorem dX12_lawFor_38 : decode cX12_lawFor 38 = .ok (.if_icmp .eq 19, 3) := by decide +kernel
theorem dX12_lawFor_41 : decode cX12_lawFor 41 = .ok (.aload_n 0, 1) := by decide +kernel
theorem dX12_lawFor_42 : decode cX12_lawFor 42 = .ok (.getfield 139, 3) := by decide +kernel
theorem dX12_lawFor_45 : decode cX12_lawFor 45 = .ok (.iload 4, 2) := by decide +kernel
theorem dX12_lawFor_47 : decode cX12_lawFor 47 = .ok (.iaload, 1) := by decide +kernel
theorem dX12_lawFor_48 : decode cX12_lawFor 48 = .ok (.aload_n 0, 1) := by decide +kernel
theorem dX12_lawFor_49 : decode cX12_lawFor 49 = .ok (.getfield 139, 3) := by decide +kernel
theorem dX12_lawFor_52 : decode cX12_lawFor 52 = .ok (.iload_n 3, 1) := by decide +kernel
theorem dX12_lawFor_53 : decode cX12_lawFor 53 = .ok (.iaload, 1) := by decide +kernel
theorem dX12_lawFor_54 : decode cX12_lawFor 54 = .ok (.if_icmp .lt 6, 3) := by decide +kernel
theorem dX12_lawFor_57 : decode cX12_lawFor 57 = .ok (.iload 4, 2) := by decide +kernel
theorem dX12_lawFor_59 : decode cX12_lawFor 59 = .ok (.istore_n 3, 1) := by decide +kernel
theorem dX12_lawFor_60 : decode cX12_lawFor 60 = .ok (.iinc 4 1, 3) := by decide +kernel
theorem dX12_lawFor_63 : decode cX12_lawFor 63 = .ok (.goto (-58), 3) := by decide +kernel
theorem dX12_lawFor_66 : decode cX12_lawFor 66 = .ok (.iload_n 3, 1) := by decide +kernel
theorem dX12_lawFor_67 : decode cX12_lawFor 67 = .ok (.ireturn, 1) := by decide +kernel
theorem dX12_numberOf_0 : decode cX12_numberOf 0 = .ok (.iload_n 1, 1) := by decide +kernel
theorem dX12_numberOf_1 : decode cX12_numberOf 1 = .ok (.iconst (-1), 1) := by decide +kernel
theorem dX12_numberOf_2 : decode cX12_numberOf 2 = .ok (.if_icmp .ne 12, 3) := by decide +kernel
theorem dX12_numberOf_5 : decode cX12_numberOf 5 = .ok (.aload_n 0, 1) := by decide +kernel
theorem dX12_numberOf_6 : decode cX12_numberOf 6 = .ok (.getfield 169, 3) := by decide +kernel
theorem dX12_numberOf_9 : decode cX12_numberOf 9 = .ok (.iload_n 2, 1) := by decide +kernel
theorem dX12_numberOf_10 : decode cX12_numberOf 10 = .ok (.iaload, 1) := by decide +kernel
theorem dX12_numberOf_11 : decode cX12_numberOf 11 = .ok (.goto 13, 3) := by decide +kernel
theorem dX12_numberOf_14 : decode cX12_numberOf 14 = .ok (.aload_n 0, 1) := by decide +kernel
theorem dX12_numberOf_15 : decode cX12_numberOf 15 = .ok (.getfield 151, 3) := by decide +kernel
theorem dX12_numberOf_18 : decode cX12_numberOf 18 = .ok (.iconst 5, 1) := by decide +kernel
theorem dX12_numberOf_19 : decode cX12_numberOf 19 = .ok (.iload_n 1, 1) := by decide +kernel
theorem dX12_numberOf_20 : decode cX12_numberOf 20 = .ok (.imul, 1) := by decide +kernel
theorem dX12_numberOf_21 : decode cX12_numberOf 21 = .ok (.iload_n 2, 1) := by decide +kernel
theorem dX12_numberOf_22 : decode cX12_numberOf 22 = .ok (.iadd, 1) := by decide +kernel
theorem dX12_numberOf_23 : decode cX12_numberOf 23 = .ok (.iaload, 1) := by decide +kernel
theorem dX12_numberOf_24 : decode cX12_numberOf 24 = .ok (.ireturn, 1) := by decide +kernel
theorem dX12_holdsPiece_0 : decode cX12_holdsPiece 0 = .ok (.aload_n 0, 1) := by decide +kernel
theorem dX12_holdsPiece_1 : decode cX12_holdsPiece 1 = .ok (.getfield 181, 3) := by decide +kernel
theorem dX12_holdsPiece_4 : decode cX12_holdsPiece 4 = .ok (.aload_n 0, 1) := by decide +kernel
theorem dX12_holdsPiece_5 : decode cX12_holdsPiece 5 = .ok (.getfield 160, 3) := by decide +kernel
theorem dX12_holdsPiece_8 : decode cX12_holdsPiece 8 = .ok (.iload_n 1, 1) := by decide +kernel
theorem dX12_holdsPiece_9 : decode cX12_holdsPiece 9 = .ok (.iaload, 1) := by decide +kernel
theorem dX12_holdsPiece_10 : decode cX12_holdsPiece 10 = .ok (.iaload, 1) := by decide +kernel
theorem dX12_holdsPiece_11 : decode cX12_holdsPiece 11 = .ok (.istore_n 2, 1) := by decide +kernel
theorem dX12_holdsPiece_12 : decode cX12_holdsPiece 12 = .ok (.aload_n 0, 1) := by decide +kernel
theorem dX12_holdsPiece_13 : decode cX12_holdsPiece 13 = .ok (.getfield 160, 3) := by decide +kernel
theorem dX12_holdsPiece_16 : decode cX12_holdsPiece 16 = .ok (.iload_n 1, 1) := by decide +kernel
theorem dX12_holdsPiece_17 : decode cX12_holdsPiece 17 = .ok (.iaload, 1) := by decide +kernel
theorem dX12_holdsPiece_18 : decode cX12_holdsPiece 18 = .ok (.invokestatic 460, 3) := by decide +kernel
theorem dX12_holdsPiece_21 : decode cX12_holdsPiece 21 = .ok (.ifCond .ne 13, 3) := by decide +kernel
theorem dX12_holdsPiece_24 : decode cX12_holdsPiece 24 = .ok (.iload_n 2, 1) := by decide +kernel
theorem dX12_holdsPiece_25 : decode cX12_holdsPiece 25 = .ok (.ifCond .le 7, 3) := by decide +kernel
theorem dX12_holdsPiece_28 : decode cX12_holdsPiece 28 = .ok (.iconst 1, 1) := by decide +kernel
theorem dX12_holdsPiece_29 : decode cX12_holdsPiece 29 = .ok (.goto 4, 3) := by decide +kernel
theorem dX12_holdsPiece_32 : decode cX12_holdsPiece 32 = .ok (.iconst 0, 1) := by decide +kernel
theorem dX12_holdsPiece_33 : decode cX12_holdsPiece 33 = .ok (.ireturn, 1) := by decide +kernel
theorem dX12_holdsPiece_34 : decode cX12_holdsPiece 34 = .ok (.aload_n 0, 1) := by decide +kernel
theorem dX12_holdsPiece_35 : decode cX12_holdsPiece 35 = .ok (.getfield 163, 3) := by decide +kernel
theorem dX12_holdsPiece_38 : decode cX12_holdsPiece 38 = .ok (.iload_n 1, 1) := by decide +kernel
theorem dX12_holdsPiece_39 : decode cX12_holdsPiece 39 = .ok (.iaload, 1) := by decide +kernel
theorem dX12_holdsPiece_40 : decode cX12_holdsPiece 40 = .ok (.bipush 60, 2) := by decide +kernel
theorem dX12_holdsPiece_42 : decode cX12_holdsPiece 42 = .ok (.if_icmp .ne 21, 3) := by decide +kernel
theorem dX12_holdsPiece_45 : decode cX12_holdsPiece 45 = .ok (.iload_n 2, 1) := by decide +kernel
theorem dX12_holdsPiece_46 : decode cX12_holdsPiece 46 = .ok (.aload_n 0, 1) := by decide +kernel
theorem dX12_holdsPiece_47 : decode cX12_holdsPiece 47 = .ok (.getfield 166, 3) := by decide +kernel
theorem dX12_holdsPiece_50 : decode cX12_holdsPiece 50 = .ok (.iload_n 1, 1) := by decide +kernel
theorem dX12_holdsPiece_51 : decode cX12_holdsPiece 51 = .ok (.iaload, 1) := by decide +kernel
theorem dX12_holdsPiece_52 : decode cX12_holdsPiece 52 = .ok (.if_icmp .ge 7, 3) := by decide +kernel
theorem dX12_holdsPiece_55 : decode cX12_holdsPiece 55 = .ok (.iconst 1, 1) := by decide +kernel
theorem dX12_holdsPiece_56 : decode cX12_holdsPiece 56 = .ok (.goto 51, 3) := by decide +kernel
theorem dX12_holdsPiece_59 : decode cX12_holdsPiece 59 = .ok (.iconst 0, 1) := by decide +kernel
theorem dX12_holdsPiece_60 : decode cX12_holdsPiece 60 = .ok (.goto 47, 3) := by decide +kernel
theorem dX12_holdsPiece_63 : decode cX12_holdsPiece 63 = .ok (.aload_n 0, 1) := by decide +kernel
theorem dX12_holdsPiece_64 : decode cX12_holdsPiece 64 = .ok (.getfield 163, 3) := by decide +kernel
theorem dX12_holdsPiece_67 : decode cX12_holdsPiece 67 = .ok (.iload_n 1, 1) := by decide +kernel
theorem dX12_holdsPiece_68 : decode cX12_holdsPiece 68 = .ok (.iaload, 1) := by decide +kernel
theorem dX12_holdsPiece_69 : decode cX12_holdsPiece 69 = .ok (.bipush 61, 2) := by decide +kernel
theorem dX12_holdsPiece_71 : decode cX12_holdsPiece 71 = .ok (.if_icmp .ne 21, 3) := by decide +kernel
theorem dX12_holdsPiece_74 : decode cX12_holdsPiece 74 = .ok (.iload_n 2, 1) := by decide +kernel
theorem dX12_holdsPiece_75 : decode cX12_holdsPiece 75 = .ok (.aload_n 0, 1) := by decide +kernel
theorem dX12_holdsPiece_76 : decode cX12_holdsPiece 76 = .ok (.getfield 166, 3) := by decide +kernel
theorem dX12_holdsPiece_79 : decode cX12_holdsPiece 79 = .ok (.iload_n 1, 1) := by decide +kernel
theorem dX12_holdsPiece_80 : decode cX12_holdsPiece 80 = .ok (.iaload, 1) := by decide +kernel
theorem dX12_holdsPiece_81 : decode cX12_holdsPiece 81 = .ok (.if_icmp .ne 7, 3) := by decide +kernel
theorem dX12_holdsPiece_84 : decode cX12_holdsPiece 84 = .ok (.iconst 1, 1) := by decide +kernel
theorem dX12_holdsPiece_85 : decode cX12_holdsPiece 85 = .ok (.goto 22, 3) := by decide +kernel
theorem dX12_holdsPiece_88 : decode cX12_holdsPiece 88 = .ok (.iconst 0, 1) := by decide +kernel
theorem dX12_holdsPiece_89 : decode cX12_holdsPiece 89 = .ok (.goto 18, 3) := by decide +kernel
theorem dX12_holdsPiece_92 : decode cX12_holdsPiece 92 = .ok (.iload_n 2, 1) := by decide +kernel
theorem dX12_holdsPiece_93 : decode cX12_holdsPiece 93 = .ok (.aload_n 0, 1) := by decide +kernel
theorem dX12_holdsPiece_94 : decode cX12_holdsPiece 94 = .ok (.getfield 166, 3) := by decide +kernel
theorem dX12_holdsPiece_97 : decode cX12_holdsPiece 97 = .ok (.iload_n 1, 1) := by decide +kernel
theorem dX12_holdsPiece_98 : decode cX12_holdsPiece 98 = .ok (.iaload, 1) := by decide +kernel
theorem dX12_holdsPiece_99 : decode cX12_holdsPiece 99 = .ok (.if_icmp .le 7, 3) := by decide +kernel
theorem dX12_holdsPiece_102 : decode cX12_holdsPiece 102 = .ok (.iconst 1, 1) := by decide +kernel
theorem dX12_holdsPiece_103 : decode cX12_holdsPiece 103 = .ok (.goto 4, 3) := by decide +kernel
theorem dX12_holdsPiece_106 : decode cX12_holdsPiece 106 = .ok (.iconst 0, 1) := by decide +kernel
theorem dX12_holdsPiece_107 : decode cX12_holdsPiece 107 = .ok (.ireturn, 1) := by decide +kernel
theorem dX12_holds_0 : decode cX12_holds 0 = .ok (.iload_n 1, 1) := by decide +kernel
theorem dX12_holds_1 : decode cX12_holds 1 = .ok (.iconst (-1), 1) := by decide +kernel
theorem dX12_holds_2 : decode cX12_holds 2 = .ok (.if_icmp .eq 18, 3) := by decide +kernel
theorem dX12_holds_5 : decode cX12_holds 5 = .ok (.aload_n 0, 1) := by decide +kernel
theorem dX12_holds_6 : decode cX12_holds 6 = .ok (.getfield 154, 3) := by decide +kernel
theorem dX12_holds_9 : decode cX12_holds 9 = .ok (.bipush 10, 2) := by decide +kernel
theorem dX12_holds_11 : decode cX12_holds 11 = .ok (.iload_n 1, 1) := by decide +kernel
theorem dX12_holds_12 : decode cX12_holds 12 = .ok (.imul, 1) := by decide +kernel
theorem dX12_holds_13 : decode cX12_holds 13 = .ok (.iload_n 2, 1) := by decide +kernel
theorem dX12_holds_14 : decode cX12_holds 14 = .ok (.iadd, 1) := by decide +kernel
theorem dX12_holds_15 : decode cX12_holds 15 = .ok (.iaload, 1) := by decide +kernel
theorem dX12_holds_16 : decode cX12_holds 16 = .ok (.iconst (-1), 1) := by decide +kernel
theorem dX12_holds_17 : decode cX12_holds 17 = .ok (.if_icmp .ne 5, 3) := by decide +kernel
theorem dX12_holds_20 : decode cX12_holds 20 = .ok (.iconst 0, 1) := by decide +kernel
theorem dX12_holds_21 : decode cX12_holds 21 = .ok (.ireturn, 1) := by decide +kernel
theorem dX12_holds_22 : decode cX12_holds 22 = .ok (.iconst 0, 1) := by decide +kernel
theorem dX12_holds_23 : decode cX12_holds 23 = .ok (.istore_n 3, 1) := by decide +kernel
theorem dX12_holds_24 : decode cX12_holds 24 = .ok (.sipush 200, 3) := by decide +kernel
theorem dX12_holds_27 : decode cX12_holds 27 = .ok (.iload_n 1, 1) := by decide +kernel
theorem dX12_holds_28 : decode cX12_holds 28 = .ok (.imul, 1) := by decide +kernel
theorem dX12_holds_29 : decode cX12_holds 29 = .ok (.aload_n 0, 1) := by decide +kernel
theorem dX12_holds_30 : decode cX12_holds 30 = .ok (.getfield 154, 3) := by decide +kernel
theorem dX12_holds_33 : decode cX12_holds 33 = .ok (.bipush 10, 2) := by decide +kernel
theorem dX12_holds_35 : decode cX12_holds 35 = .ok (.iload_n 1, 1) := by decide +kernel
theorem dX12_holds_36 : decode cX12_holds 36 = .ok (.imul, 1) := by decide +kernel
theorem dX12_holds_37 : decode cX12_holds 37 = .ok (.iload_n 2, 1) := by decide +kernel
theorem dX12_holds_38 : decode cX12_holds 38 = .ok (.iadd, 1) := by decide +kernel
theorem dX12_holds_39 : decode cX12_holds 39 = .ok (.iaload, 1) := by decide +kernel
theorem dX12_holds_40 : decode cX12_holds 40 = .ok (.iadd, 1) := by decide +kernel
theorem dX12_holds_41 : decode cX12_holds 41 = .ok (.istore 4, 2) := by decide +kernel
theorem dX12_holds_43 : decode cX12_holds 43 = .ok (.iload 4, 2) := by decide +kernel
theorem dX12_holds_45 : decode cX12_holds 45 = .ok (.sipush 200, 3) := by decide +kernel
theorem dX12_holds_48 : decode cX12_holds 48 = .ok (.iload_n 1, 1) := by decide +kernel
theorem dX12_holds_49 : decode cX12_holds 49 = .ok (.imul, 1) := by decide +kernel
theorem dX12_holds_50 : decode cX12_holds 50 = .ok (.aload_n 0, 1) := by decide +kernel
theorem dX12_holds_51 : decode cX12_holds 51 = .ok (.getfield 157, 3) := by decide +kernel
theorem dX12_holds_54 : decode cX12_holds 54 = .ok (.bipush 10, 2) := by decide +kernel
theorem dX12_holds_56 : decode cX12_holds 56 = .ok (.iload_n 1, 1) := by decide +kernel
theorem dX12_holds_57 : decode cX12_holds 57 = .ok (.imul, 1) := by decide +kernel
theorem dX12_holds_58 : decode cX12_holds 58 = .ok (.iload_n 2, 1) := by decide +kernel
theorem dX12_holds_59 : decode cX12_holds 59 = .ok (.iadd, 1) := by decide +kernel
theorem dX12_holds_60 : decode cX12_holds 60 = .ok (.iaload, 1) := by decide +kernel
theorem dX12_holds_61 : decode cX12_holds 61 = .ok (.iadd, 1) := by decide +kernel
theorem dX12_holds_62 : decode cX12_holds 62 = .ok (.if_icmp .ge 155, 3) := by decide +kernel
theorem dX12_holds_65 : decode cX12_holds 65 = .ok (.aload_n 0, 1) := by decide +kernel
theorem dX12_holds_66 : decode cX12_holds 66 = .ok (.getfield 160, 3) := by decide +kernel
theorem dX12_holds_69 : decode cX12_holds 69 = .ok (.iload 4, 2) := by decide +kernel
theorem dX12_holds_71 : decode cX12_holds 71 = .ok (.iaload, 1) := by decide +kernel
theorem dX12_holds_72 : decode cX12_holds 72 = .ok (.istore 5, 2) := by decide +kernel
theorem dX12_holds_74 : decode cX12_holds 74 = .ok (.iload 5, 2) := by decide +kernel
theorem dX12_holds_76 : decode cX12_holds 76 = .ok (.bipush 20, 2) := by decide +kernel
theorem dX12_holds_78 : decode cX12_holds 78 = .ok (.if_icmp .ne 30, 3) := by decide +kernel
theorem dX12_holds_81 : decode cX12_holds 81 = .ok (.aload_n 0, 1) := by decide +kernel
theorem dX12_holds_82 : decode cX12_holds 82 = .ok (.getfield 184, 3) := by decide +kernel
theorem dX12_holds_85 : decode cX12_holds 85 = .ok (.iload_n 3, 1) := by decide +kernel
theorem dX12_holds_86 : decode cX12_holds 86 = .ok (.iconst 1, 1) := by decide +kernel
theorem dX12_holds_87 : decode cX12_holds 87 = .ok (.isub, 1) := by decide +kernel
theorem dX12_holds_88 : decode cX12_holds 88 = .ok (.aload_n 0, 1) := by decide +kernel
theorem dX12_holds_89 : decode cX12_holds 89 = .ok (.getfield 184, 3) := by decide +kernel
theorem dX12_holds_92 : decode cX12_holds 92 = .ok (.iload_n 3, 1) := by decide +kernel
theorem dX12_holds_93 : decode cX12_holds 93 = .ok (.iconst 1, 1) := by decide +kernel
theorem dX12_holds_94 : decode cX12_holds 94 = .ok (.isub, 1) := by decide +kernel
theorem dX12_holds_95 : decode cX12_holds 95 = .ok (.baload, 1) := by decide +kernel
theorem dX12_holds_96 : decode cX12_holds 96 = .ok (.ifCond .ne 7, 3) := by decide +kernel
theorem dX12_holds_99 : decode cX12_holds 99 = .ok (.iconst 1, 1) := by decide +kernel
theorem dX12_holds_100 : decode cX12_holds 100 = .ok (.goto 4, 3) := by decide +kernel
theorem dX12_holds_103 : decode cX12_holds 103 = .ok (.iconst 0, 1) := by decide +kernel
theorem dX12_holds_104 : decode cX12_holds 104 = .ok (.bastore, 1) := by decide +kernel
theorem dX12_holds_105 : decode cX12_holds 105 = .ok (.goto 106, 3) := by decide +kernel
theorem dX12_holds_108 : decode cX12_holds 108 = .ok (.iload 5, 2) := by decide +kernel
theorem dX12_holds_110 : decode cX12_holds 110 = .ok (.bipush 21, 2) := by decide +kernel
theorem dX12_holds_112 : decode cX12_holds 112 = .ok (.if_icmp .eq 10, 3) := by decide +kernel
theorem dX12_holds_115 : decode cX12_holds 115 = .ok (.iload 5, 2) := by decide +kernel
theorem dX12_holds_117 : decode cX12_holds 117 = .ok (.bipush 22, 2) := by decide +kernel
theorem dX12_holds_119 : decode cX12_holds 119 = .ok (.if_icmp .ne 77, 3) := by decide +kernel
theorem dX12_holds_122 : decode cX12_holds 122 = .ok (.iinc 3 (-1), 3) := by decide +kernel
theorem dX12_holds_125 : decode cX12_holds 125 = .ok (.aload_n 0, 1) := by decide +kernel
theorem dX12_holds_126 : decode cX12_holds 126 = .ok (.getfield 184, 3) := by decide +kernel
theorem dX12_holds_129 : decode cX12_holds 129 = .ok (.iload_n 3, 1) := by decide +kernel
theorem dX12_holds_130 : decode cX12_holds 130 = .ok (.iconst 1, 1) := by decide +kernel
theorem dX12_holds_131 : decode cX12_holds 131 = .ok (.isub, 1) := by decide +kernel
theorem dX12_holds_132 : decode cX12_holds 132 = .ok (.iload 5, 2) := by decide +kernel
theorem dX12_holds_134 : decode cX12_holds 134 = .ok (.bipush 21, 2) := by decide +kernel
theorem dX12_holds_136 : decode cX12_holds 136 = .ok (.if_icmp .ne 31, 3) := by decide +kernel
theorem dX12_holds_139 : decode cX12_holds 139 = .ok (.aload_n 0, 1) := by decide +kernel
theorem dX12_holds_140 : decode cX12_holds 140 = .ok (.getfield 184, 3) := by decide +kernel
theorem dX12_holds_143 : decode cX12_holds 143 = .ok (.iload_n 3, 1) := by decide +kernel
theorem dX12_holds_144 : decode cX12_holds 144 = .ok (.iconst 1, 1) := by decide +kernel
theorem dX12_holds_145 : decode cX12_holds 145 = .ok (.isub, 1) := by decide +kernel
theorem dX12_holds_146 : decode cX12_holds 146 = .ok (.baload, 1) := by decide +kernel
theorem dX12_holds_147 : decode cX12_holds 147 = .ok (.ifCond .eq 16, 3) := by decide +kernel
theorem dX12_holds_150 : decode cX12_holds 150 = .ok (.aload_n 0, 1) := by decide +kernel
theorem dX12_holds_151 : decode cX12_holds 151 = .ok (.getfield 184, 3) := by decide +kernel
theorem dX12_holds_154 : decode cX12_holds 154 = .ok (.iload_n 3, 1) := by decide +kernel
theorem dX12_holds_155 : decode cX12_holds 155 = .ok (.baload, 1) := by decide +kernel
theorem dX12_holds_156 : decode cX12_holds 156 = .ok (.ifCond .eq 7, 3) := by decide +kernel
theorem dX12_holds_159 : decode cX12_holds 159 = .ok (.iconst 1, 1) := by decide +kernel
theorem dX12_holds_160 : decode cX12_holds 160 = .ok (.goto 32, 3) := by decide +kernel
theorem dX12_holds_163 : decode cX12_holds 163 = .ok (.iconst 0, 1) := by decide +kernel
theorem dX12_holds_164 : decode cX12_holds 164 = .ok (.goto 28, 3) := by decide +kernel
theorem dX12_holds_167 : decode cX12_holds 167 = .ok (.aload_n 0, 1) := by decide +kernel
theorem dX12_holds_168 : decode cX12_holds 168 = .ok (.getfield 184, 3) := by decide +kernel
theorem dX12_holds_171 : decode cX12_holds 171 = .ok (.iload_n 3, 1) := by decide +kernel
theorem dX12_holds_172 : decode cX12_holds 172 = .ok (.iconst 1, 1) := by decide +kernel
theorem dX12_holds_173 : decode cX12_holds 173 = .ok (.isub, 1) := by decide +kernel
theorem dX12_holds_174 : decode cX12_holds 174 = .ok (.baload, 1) := by decide +kernel
theorem dX12_holds_175 : decode cX12_holds 175 = .ok (.ifCond .ne 12, 3) := by decide +kernel
theorem dX12_holds_178 : decode cX12_holds 178 = .ok (.aload_n 0, 1) := by decide +kernel
theorem dX12_holds_179 : decode cX12_holds 179 = .ok (.getfield 184, 3) := by decide +kernel
theorem dX12_holds_182 : decode cX12_holds 182 = .ok (.iload_n 3, 1) := by decide +kernel
theorem dX12_holds_183 : decode cX12_holds 183 = .ok (.baload, 1) := by decide +kernel
theorem dX12_holds_184 : decode cX12_holds 184 = .ok (.ifCond .eq 7, 3) := by decide +kernel
theorem dX12_holds_187 : decode cX12_holds 187 = .ok (.iconst 1, 1) := by decide +kernel
theorem dX12_holds_188 : decode cX12_holds 188 = .ok (.goto 4, 3) := by decide +kernel
theorem dX12_holds_191 : decode cX12_holds 191 = .ok (.iconst 0, 1) := by decide +kernel
theorem dX12_holds_192 : decode cX12_holds 192 = .ok (.bastore, 1) := by decide +kernel
theorem dX12_holds_193 : decode cX12_holds 193 = .ok (.goto 18, 3) := by decide +kernel
theorem dX12_holds_196 : decode cX12_holds 196 = .ok (.aload_n 0, 1) := by decide +kernel
theorem dX12_holds_197 : decode cX12_holds 197 = .ok (.getfield 184, 3) := by decide +kernel
theorem dX12_holds_200 : decode cX12_holds 200 = .ok (.iload_n 3, 1) := by decide +kernel
theorem dX12_holds_201 : decode cX12_holds 201 = .ok (.aload_n 0, 1) := by decide +kernel
theorem dX12_holds_202 : decode cX12_holds 202 = .ok (.iload 4, 2) := by decide +kernel
theorem dX12_holds_204 : decode cX12_holds 204 = .ok (.invokevirtual 500, 3) := by decide +kernel
theorem dX12_holds_207 : decode cX12_holds 207 = .ok (.bastore, 1) := by decide +kernel
theorem dX12_holds_208 : decode cX12_holds 208 = .ok (.iinc 3 1, 3) := by decide +kernel
theorem dX12_holds_211 : decode cX12_holds 211 = .ok (.iinc 4 1, 3) := by decide +kernel
theorem dX12_holds_214 : decode cX12_holds 214 = .ok (.goto (-171), 3) := by decide +kernel
theorem dX12_holds_217 : decode cX12_holds 217 = .ok (.aload_n 0, 1) := by decide +kernel
theorem dX12_holds_218 : decode cX12_holds 218 = .ok (.getfield 184, 3) := by decide +kernel
theorem dX12_holds_221 : decode cX12_holds 221 = .ok (.iconst 0, 1) := by decide +kernel
theorem dX12_holds_222 : decode cX12_holds 222 = .ok (.baload, 1) := by decide +kernel
theorem dX12_holds_223 : decode cX12_holds 223 = .ok (.ireturn, 1) := by decide +kernel
theorem dX12_gather_0 : decode cX12_gather 0 = .ok (.aload_n 0, 1) := by decide +kernel
theorem dX12_gather_1 : decode cX12_gather 1 = .ok (.iload 4, 2) := by decide +kernel
theorem dX12_gather_3 : decode cX12_gather 3 = .ok (.iload 5, 2) := by decide +kernel
theorem dX12_gather_5 : decode cX12_gather 5 = .ok (.invokevirtual 349, 3) := by decide +kernel
theorem dX12_gather_8 : decode cX12_gather 8 = .ok (.aload_n 0, 1) := by decide +kernel
theorem dX12_gather_9 : decode cX12_gather 9 = .ok (.iload_n 2, 1) := by decide +kernel
theorem dX12_gather_10 : decode cX12_gather 10 = .ok (.iload 4, 2) := by decide +kernel
theorem dX12_gather_12 : decode cX12_gather 12 = .ok (.iload 5, 2) := by decide +kernel
theorem dX12_gather_14 : decode cX12_gather 14 = .ok (.invokevirtual 372, 3) := by decide +kernel
theorem dX12_gather_17 : decode cX12_gather 17 = .ok (.aload_n 0, 1) := by decide +kernel
theorem dX12_gather_18 : decode cX12_gather 18 = .ok (.getfield 181, 3) := by decide +kernel
theorem dX12_gather_21 : decode cX12_gather 21 = .ok (.bipush 9, 2) := by decide +kernel
theorem dX12_gather_23 : decode cX12_gather 23 = .ok (.iconst 0, 1) := by decide +kernel
theorem dX12_gather_24 : decode cX12_gather 24 = .ok (.iastore, 1) := by decide +kernel
theorem dX12_gather_25 : decode cX12_gather 25 = .ok (.aload_n 0, 1) := by decide +kernel
theorem dX12_gather_26 : decode cX12_gather 26 = .ok (.getfield 181, 3) := by decide +kernel
theorem dX12_gather_29 : decode cX12_gather 29 = .ok (.bipush 10, 2) := by decide +kernel
theorem dX12_gather_31 : decode cX12_gather 31 = .ok (.iconst 0, 1) := by decide +kernel
theorem dX12_gather_32 : decode cX12_gather 32 = .ok (.iastore, 1) := by decide +kernel
theorem dX12_gather_33 : decode cX12_gather 33 = .ok (.iconst 0, 1) := by decide +kernel
theorem dX12_gather_34 : decode cX12_gather 34 = .ok (.istore 6, 2) := by decide +kernel
theorem dX12_gather_36 : decode cX12_gather 36 = .ok (.iload 6, 2) := by decide +kernel
theorem dX12_gather_38 : decode cX12_gather 38 = .ok (.aload_n 0, 1) := by decide +kernel
theorem dX12_gather_39 : decode cX12_gather 39 = .ok (.getfield 313, 3) := by decide +kernel
theorem dX12_gather_42 : decode cX12_gather 42 = .ok (.if_icmp .ge 152, 3) := by decide +kernel
theorem dX12_gather_45 : decode cX12_gather 45 = .ok (.aload_n 0, 1) := by decide +kernel
theorem dX12_gather_46 : decode cX12_gather 46 = .ok (.getfield 90, 3) := by decide +kernel
theorem dX12_gather_49 : decode cX12_gather 49 = .ok (.iload 6, 2) := by decide +kernel
theorem dX12_gather_51 : decode cX12_gather 51 = .ok (.iaload, 1) := by decide +kernel
theorem dX12_gather_52 : decode cX12_gather 52 = .ok (.iload 5, 2) := by decide +kernel
theorem dX12_gather_54 : decode cX12_gather 54 = .ok (.if_icmp .gt 134, 3) := by decide +kernel
theorem dX12_gather_57 : decode cX12_gather 57 = .ok (.aload_n 0, 1) := by decide +kernel
theorem dX12_gather_58 : decode cX12_gather 58 = .ok (.getfield 81, 3) := by decide +kernel
theorem dX12_gather_61 : decode cX12_gather 61 = .ok (.iload 6, 2) := by decide +kernel
theorem dX12_gather_63 : decode cX12_gather 63 = .ok (.iaload, 1) := by decide +kernel
theorem dX12_gather_64 : decode cX12_gather 64 = .ok (.iload 4, 2) := by decide +kernel
theorem dX12_gather_66 : decode cX12_gather 66 = .ok (.if_icmp .gt 122, 3) := by decide +kernel
theorem dX12_gather_69 : decode cX12_gather 69 = .ok (.aload_n 0, 1) := by decide +kernel
theorem dX12_gather_70 : decode cX12_gather 70 = .ok (.getfield 81, 3) := by decide +kernel
theorem dX12_gather_73 : decode cX12_gather 73 = .ok (.iload 6, 2) := by decide +kernel
theorem dX12_gather_75 : decode cX12_gather 75 = .ok (.iaload, 1) := by decide +kernel
theorem dX12_gather_76 : decode cX12_gather 76 = .ok (.iload 4, 2) := by decide +kernel
theorem dX12_gather_78 : decode cX12_gather 78 = .ok (.aload_n 0, 1) := by decide +kernel
theorem dX12_gather_79 : decode cX12_gather 79 = .ok (.iload_n 1, 1) := by decide +kernel
theorem dX12_gather_80 : decode cX12_gather 80 = .ok (.iconst 1, 1) := by decide +kernel
theorem dX12_gather_81 : decode cX12_gather 81 = .ok (.invokevirtual 503, 3) := by decide +kernel
theorem dX12_gather_84 : decode cX12_gather 84 = .ok (.isub, 1) := by decide +kernel
theorem dX12_gather_85 : decode cX12_gather 85 = .ok (.if_icmp .le 103, 3) := by decide +kernel
theorem dX12_gather_88 : decode cX12_gather 88 = .ok (.aload_n 0, 1) := by decide +kernel
theorem dX12_gather_89 : decode cX12_gather 89 = .ok (.getfield 136, 3) := by decide +kernel
theorem dX12_gather_92 : decode cX12_gather 92 = .ok (.aload_n 0, 1) := by decide +kernel
theorem dX12_gather_93 : decode cX12_gather 93 = .ok (.getfield 75, 3) := by decide +kernel
theorem dX12_gather_96 : decode cX12_gather 96 = .ok (.iload 6, 2) := by decide +kernel
theorem dX12_gather_98 : decode cX12_gather 98 = .ok (.iaload, 1) := by decide +kernel
theorem dX12_gather_99 : decode cX12_gather 99 = .ok (.iaload, 1) := by decide +kernel
theorem dX12_gather_100 : decode cX12_gather 100 = .ok (.aload_n 0, 1) := by decide +kernel
theorem dX12_gather_101 : decode cX12_gather 101 = .ok (.iload_n 1, 1) := by decide +kernel
theorem dX12_gather_102 : decode cX12_gather 102 = .ok (.iconst 0, 1) := by decide +kernel
theorem dX12_gather_103 : decode cX12_gather 103 = .ok (.invokevirtual 503, 3) := by decide +kernel
theorem dX12_gather_106 : decode cX12_gather 106 = .ok (.if_icmp .gt 82, 3) := by decide +kernel
theorem dX12_gather_109 : decode cX12_gather 109 = .ok (.aload_n 0, 1) := by decide +kernel
theorem dX12_gather_110 : decode cX12_gather 110 = .ok (.getfield 121, 3) := by decide +kernel
theorem dX12_gather_113 : decode cX12_gather 113 = .ok (.aload_n 0, 1) := by decide +kernel
theorem dX12_gather_114 : decode cX12_gather 114 = .ok (.getfield 72, 3) := by decide +kernel
theorem dX12_gather_117 : decode cX12_gather 117 = .ok (.iload 6, 2) := by decide +kernel
theorem dX12_gather_119 : decode cX12_gather 119 = .ok (.iaload, 1) := by decide +kernel
theorem dX12_gather_120 : decode cX12_gather 120 = .ok (.iaload, 1) := by decide +kernel
theorem dX12_gather_121 : decode cX12_gather 121 = .ok (.aload_n 0, 1) := by decide +kernel
theorem dX12_gather_122 : decode cX12_gather 122 = .ok (.getfield 121, 3) := by decide +kernel
theorem dX12_gather_125 : decode cX12_gather 125 = .ok (.iload_n 3, 1) := by decide +kernel
theorem dX12_gather_126 : decode cX12_gather 126 = .ok (.iaload, 1) := by decide +kernel
theorem dX12_gather_127 : decode cX12_gather 127 = .ok (.if_icmp .eq 6, 3) := by decide +kernel
theorem dX12_gather_130 : decode cX12_gather 130 = .ok (.goto 58, 3) := by decide +kernel
theorem dX12_gather_133 : decode cX12_gather 133 = .ok (.aload_n 0, 1) := by decide +kernel
theorem dX12_gather_134 : decode cX12_gather 134 = .ok (.iload 6, 2) := by decide +kernel
theorem dX12_gather_136 : decode cX12_gather 136 = .ok (.iload 5, 2) := by decide +kernel
theorem dX12_gather_138 : decode cX12_gather 138 = .ok (.invokevirtual 506, 3) := by decide +kernel
theorem dX12_gather_141 : decode cX12_gather 141 = .ok (.istore 7, 2) := by decide +kernel
theorem dX12_gather_143 : decode cX12_gather 143 = .ok (.iload 7, 2) := by decide +kernel
theorem dX12_gather_145 : decode cX12_gather 145 = .ok (.iconst (-1), 1) := by decide +kernel
theorem dX12_gather_146 : decode cX12_gather 146 = .ok (.if_icmp .eq 13, 3) := by decide +kernel
theorem dX12_gather_149 : decode cX12_gather 149 = .ok (.iload 7, 2) := by decide +kernel
theorem dX12_gather_151 : decode cX12_gather 151 = .ok (.iload 4, 2) := by decide +kernel
theorem dX12_gather_153 : decode cX12_gather 153 = .ok (.if_icmp .gt 6, 3) := by decide +kernel
theorem dX12_gather_156 : decode cX12_gather 156 = .ok (.goto 32, 3) := by decide +kernel
theorem dX12_gather_159 : decode cX12_gather 159 = .ok (.aload_n 0, 1) := by decide +kernel
theorem dX12_gather_160 : decode cX12_gather 160 = .ok (.getfield 181, 3) := by decide +kernel
theorem dX12_gather_163 : decode cX12_gather 163 = .ok (.bipush 9, 2) := by decide +kernel
theorem dX12_gather_165 : decode cX12_gather 165 = .ok (.dup2, 1) := by decide +kernel
theorem dX12_gather_166 : decode cX12_gather 166 = .ok (.iaload, 1) := by decide +kernel
theorem dX12_gather_167 : decode cX12_gather 167 = .ok (.aload_n 0, 1) := by decide +kernel
theorem dX12_gather_168 : decode cX12_gather 168 = .ok (.iload 6, 2) := by decide +kernel
theorem dX12_gather_170 : decode cX12_gather 170 = .ok (.iload 5, 2) := by decide +kernel
theorem dX12_gather_172 : decode cX12_gather 172 = .ok (.invokevirtual 509, 3) := by decide +kernel
theorem dX12_gather_175 : decode cX12_gather 175 = .ok (.iadd, 1) := by decide +kernel
theorem dX12_gather_176 : decode cX12_gather 176 = .ok (.iastore, 1) := by decide +kernel
theorem dX12_gather_177 : decode cX12_gather 177 = .ok (.aload_n 0, 1) := by decide +kernel
theorem dX12_gather_178 : decode cX12_gather 178 = .ok (.getfield 181, 3) := by decide +kernel
theorem dX12_gather_181 : decode cX12_gather 181 = .ok (.bipush 10, 2) := by decide +kernel
theorem dX12_gather_183 : decode cX12_gather 183 = .ok (.dup2, 1) := by decide +kernel
theorem dX12_gather_184 : decode cX12_gather 184 = .ok (.iaload, 1) := by decide +kernel
theorem dX12_gather_185 : decode cX12_gather 185 = .ok (.iconst 1, 1) := by decide +kernel
theorem dX12_gather_186 : decode cX12_gather 186 = .ok (.iadd, 1) := by decide +kernel
theorem dX12_gather_187 : decode cX12_gather 187 = .ok (.iastore, 1) := by decide +kernel
theorem dX12_gather_188 : decode cX12_gather 188 = .ok (.iinc 6 1, 3) := by decide +kernel
theorem dX12_gather_191 : decode cX12_gather 191 = .ok (.goto (-155), 3) := by decide +kernel
theorem dX12_gather_194 : decode cX12_gather 194 = .ok (.return_, 1) := by decide +kernel
theorem dX12_judge_0 : decode cX12_judge 0 = .ok (.aload_n 0, 1) := by decide +kernel
theorem dX12_judge_1 : decode cX12_judge 1 = .ok (.getfield 81, 3) := by decide +kernel
theorem dX12_judge_4 : decode cX12_judge 4 = .ok (.iload_n 1, 1) := by decide +kernel
theorem dX12_judge_5 : decode cX12_judge 5 = .ok (.iaload, 1) := by decide +kernel
theorem dX12_judge_6 : decode cX12_judge 6 = .ok (.istore_n 3, 1) := by decide +kernel
theorem dX12_judge_7 : decode cX12_judge 7 = .ok (.aload_n 0, 1) := by decide +kernel
theorem dX12_judge_8 : decode cX12_judge 8 = .ok (.iload_n 3, 1) := by decide +kernel
theorem dX12_judge_9 : decode cX12_judge 9 = .ok (.iload_n 2, 1) := by decide +kernel
theorem dX12_judge_10 : decode cX12_judge 10 = .ok (.invokevirtual 512, 3) := by decide +kernel
theorem dX12_judge_13 : decode cX12_judge 13 = .ok (.istore 4, 2) := by decide +kernel
theorem dX12_judge_15 : decode cX12_judge 15 = .ok (.iconst 0, 1) := by decide +kernel
theorem dX12_judge_16 : decode cX12_judge 16 = .ok (.istore 5, 2) := by decide +kernel
theorem dX12_judge_18 : decode cX12_judge 18 = .ok (.iload 5, 2) := by decide +kernel
theorem dX12_judge_20 : decode cX12_judge 20 = .ok (.iconst 4, 1) := by decide +kernel
theorem dX12_judge_21 : decode cX12_judge 21 = .ok (.if_icmp .ge 32, 3) := by decide +kernel
theorem dX12_judge_24 : decode cX12_judge 24 = .ok (.aload_n 0, 1) := by decide +kernel
theorem dX12_judge_25 : decode cX12_judge 25 = .ok (.getfield 181, 3) := by decide +kernel
theorem dX12_judge_28 : decode cX12_judge 28 = .ok (.iload 5, 2) := by decide +kernel
theorem dX12_judge_30 : decode cX12_judge 30 = .ok (.aload_n 0, 1) := by decide +kernel
theorem dX12_judge_31 : decode cX12_judge 31 = .ok (.getfield 78, 3) := by decide +kernel
theorem dX12_judge_34 : decode cX12_judge 34 = .ok (.iload_n 1, 1) := by decide +kernel
theorem dX12_judge_35 : decode cX12_judge 35 = .ok (.iaload, 1) := by decide +kernel
theorem dX12_judge_36 : decode cX12_judge 36 = .ok (.iload 5, 2) := by decide +kernel
theorem dX12_judge_38 : decode cX12_judge 38 = .ok (.if_icmp .ne 7, 3) := by decide +kernel
theorem dX12_judge_41 : decode cX12_judge 41 = .ok (.iconst 1, 1) := by decide +kernel
theorem dX12_judge_42 : decode cX12_judge 42 = .ok (.goto 4, 3) := by decide +kernel
theorem dX12_judge_45 : decode cX12_judge 45 = .ok (.iconst 0, 1) := by decide +kernel
theorem dX12_judge_46 : decode cX12_judge 46 = .ok (.iastore, 1) := by decide +kernel
theorem dX12_judge_47 : decode cX12_judge 47 = .ok (.iinc 5 1, 3) := by decide +kernel
theorem dX12_judge_50 : decode cX12_judge 50 = .ok (.goto (-32), 3) := by decide +kernel
theorem dX12_judge_53 : decode cX12_judge 53 = .ok (.aload_n 0, 1) := by decide +kernel
theorem dX12_judge_54 : decode cX12_judge 54 = .ok (.getfield 181, 3) := by decide +kernel
theorem dX12_judge_57 : decode cX12_judge 57 = .ok (.iconst 4, 1) := by decide +kernel
theorem dX12_judge_58 : decode cX12_judge 58 = .ok (.aload_n 0, 1) := by decide +kernel
theorem dX12_judge_59 : decode cX12_judge 59 = .ok (.getfield 102, 3) := by decide +kernel
theorem dX12_judge_62 : decode cX12_judge 62 = .ok (.iload_n 1, 1) := by decide +kernel
theorem dX12_judge_63 : decode cX12_judge 63 = .ok (.baload, 1) := by decide +kernel
theorem dX12_judge_64 : decode cX12_judge 64 = .ok (.ifCond .eq 7, 3) := by decide +kernel
theorem dX12_judge_67 : decode cX12_judge 67 = .ok (.iconst 1, 1) := by decide +kernel
theorem dX12_judge_68 : decode cX12_judge 68 = .ok (.goto 4, 3) := by decide +kernel
theorem dX12_judge_71 : decode cX12_judge 71 = .ok (.iconst 0, 1) := by decide +kernel
theorem dX12_judge_72 : decode cX12_judge 72 = .ok (.iastore, 1) := by decide +kernel
theorem dX12_judge_73 : decode cX12_judge 73 = .ok (.aload_n 0, 1) := by decide +kernel
theorem dX12_judge_74 : decode cX12_judge 74 = .ok (.iload 4, 2) := by decide +kernel
theorem dX12_judge_76 : decode cX12_judge 76 = .ok (.aload_n 0, 1) := by decide +kernel
theorem dX12_judge_77 : decode cX12_judge 77 = .ok (.getfield 75, 3) := by decide +kernel
theorem dX12_judge_80 : decode cX12_judge 80 = .ok (.iload_n 1, 1) := by decide +kernel
theorem dX12_judge_81 : decode cX12_judge 81 = .ok (.iaload, 1) := by decide +kernel
theorem dX12_judge_82 : decode cX12_judge 82 = .ok (.aload_n 0, 1) := by decide +kernel
theorem dX12_judge_83 : decode cX12_judge 83 = .ok (.getfield 72, 3) := by decide +kernel
theorem dX12_judge_86 : decode cX12_judge 86 = .ok (.iload_n 1, 1) := by decide +kernel
theorem dX12_judge_87 : decode cX12_judge 87 = .ok (.iaload, 1) := by decide +kernel
theorem dX12_judge_88 : decode cX12_judge 88 = .ok (.iload_n 3, 1) := by decide +kernel
theorem dX12_judge_89 : decode cX12_judge 89 = .ok (.iload_n 2, 1) := by decide +kernel
theorem dX12_judge_90 : decode cX12_judge 90 = .ok (.invokevirtual 515, 3) := by decide +kernel
theorem dX12_judge_93 : decode cX12_judge 93 = .ok (.aload_n 0, 1) := by decide +kernel
theorem dX12_judge_94 : decode cX12_judge 94 = .ok (.getfield 181, 3) := by decide +kernel
theorem dX12_judge_97 : decode cX12_judge 97 = .ok (.iconst 5, 1) := by decide +kernel
theorem dX12_judge_98 : decode cX12_judge 98 = .ok (.aload_n 0, 1) := by decide +kernel
theorem dX12_judge_99 : decode cX12_judge 99 = .ok (.getfield 13, 3) := by decide +kernel
theorem dX12_judge_102 : decode cX12_judge 102 = .ok (.aload_n 0, 1) := by decide +kernel
theorem dX12_judge_103 : decode cX12_judge 103 = .ok (.getfield 72, 3) := by decide +kernel
theorem dX12_judge_106 : decode cX12_judge 106 = .ok (.iload_n 1, 1) := by decide +kernel
theorem dX12_judge_107 : decode cX12_judge 107 = .ok (.iaload, 1) := by decide +kernel
theorem dX12_judge_108 : decode cX12_judge 108 = .ok (.iaload, 1) := by decide +kernel
theorem dX12_judge_109 : decode cX12_judge 109 = .ok (.ifCond .ne 42, 3) := by decide +kernel
theorem dX12_judge_112 : decode cX12_judge 112 = .ok (.aload_n 0, 1) := by decide +kernel
theorem dX12_judge_113 : decode cX12_judge 113 = .ok (.getfield 136, 3) := by decide +kernel
theorem dX12_judge_116 : decode cX12_judge 116 = .ok (.aload_n 0, 1) := by decide +kernel
theorem dX12_judge_117 : decode cX12_judge 117 = .ok (.getfield 72, 3) := by decide +kernel
theorem dX12_judge_120 : decode cX12_judge 120 = .ok (.iload_n 1, 1) := by decide +kernel
theorem dX12_judge_121 : decode cX12_judge 121 = .ok (.iaload, 1) := by decide +kernel
theorem dX12_judge_122 : decode cX12_judge 122 = .ok (.iaload, 1) := by decide +kernel
theorem dX12_judge_123 : decode cX12_judge 123 = .ok (.ifCond .le 28, 3) := by decide +kernel
theorem dX12_judge_126 : decode cX12_judge 126 = .ok (.aload_n 0, 1) := by decide +kernel
theorem dX12_judge_127 : decode cX12_judge 127 = .ok (.getfield 136, 3) := by decide +kernel
theorem dX12_judge_130 : decode cX12_judge 130 = .ok (.aload_n 0, 1) := by decide +kernel
theorem dX12_judge_131 : decode cX12_judge 131 = .ok (.getfield 72, 3) := by decide +kernel
theorem dX12_judge_134 : decode cX12_judge 134 = .ok (.iload_n 1, 1) := by decide +kernel
theorem dX12_judge_135 : decode cX12_judge 135 = .ok (.iaload, 1) := by decide +kernel
theorem dX12_judge_136 : decode cX12_judge 136 = .ok (.iaload, 1) := by decide +kernel
theorem dX12_judge_137 : decode cX12_judge 137 = .ok (.aload_n 0, 1) := by decide +kernel
theorem dX12_judge_138 : decode cX12_judge 138 = .ok (.iload 4, 2) := by decide +kernel
theorem dX12_judge_140 : decode cX12_judge 140 = .ok (.iconst 0, 1) := by decide +kernel
theorem dX12_judge_141 : decode cX12_judge 141 = .ok (.invokevirtual 503, 3) := by decide +kernel
theorem dX12_judge_144 : decode cX12_judge 144 = .ok (.if_icmp .gt 7, 3) := by decide +kernel
theorem dX12_judge_147 : decode cX12_judge 147 = .ok (.iconst 1, 1) := by decide +kernel
theorem dX12_judge_148 : decode cX12_judge 148 = .ok (.goto 4, 3) := by decide +kernel
theorem dX12_judge_151 : decode cX12_judge 151 = .ok (.iconst 0, 1) := by decide +kernel
theorem dX12_judge_152 : decode cX12_judge 152 = .ok (.iastore, 1) := by decide +kernel
theorem dX12_judge_153 : decode cX12_judge 153 = .ok (.aload_n 0, 1) := by decide +kernel
theorem dX12_judge_154 : decode cX12_judge 154 = .ok (.getfield 181, 3) := by decide +kernel
theorem dX12_judge_157 : decode cX12_judge 157 = .ok (.bipush 7, 2) := by decide +kernel
theorem dX12_judge_159 : decode cX12_judge 159 = .ok (.aload_n 0, 1) := by decide +kernel
theorem dX12_judge_160 : decode cX12_judge 160 = .ok (.iload_n 1, 1) := by decide +kernel
theorem dX12_judge_161 : decode cX12_judge 161 = .ok (.iload_n 2, 1) := by decide +kernel
theorem dX12_judge_162 : decode cX12_judge 162 = .ok (.invokevirtual 509, 3) := by decide +kernel
theorem dX12_judge_165 : decode cX12_judge 165 = .ok (.iastore, 1) := by decide +kernel
theorem dX12_judge_166 : decode cX12_judge 166 = .ok (.aload_n 0, 1) := by decide +kernel
theorem dX12_judge_167 : decode cX12_judge 167 = .ok (.getfield 181, 3) := by decide +kernel
theorem dX12_judge_170 : decode cX12_judge 170 = .ok (.bipush 8, 2) := by decide +kernel
theorem dX12_judge_172 : decode cX12_judge 172 = .ok (.aload_n 0, 1) := by decide +kernel
theorem dX12_judge_173 : decode cX12_judge 173 = .ok (.iload_n 1, 1) := by decide +kernel
theorem dX12_judge_174 : decode cX12_judge 174 = .ok (.iload_n 2, 1) := by decide +kernel
theorem dX12_judge_175 : decode cX12_judge 175 = .ok (.invokevirtual 519, 3) := by decide +kernel
theorem dX12_judge_178 : decode cX12_judge 178 = .ok (.iastore, 1) := by decide +kernel
theorem dX12_judge_179 : decode cX12_judge 179 = .ok (.aload_n 0, 1) := by decide +kernel
theorem dX12_judge_180 : decode cX12_judge 180 = .ok (.iconst (-1), 1) := by decide +kernel
theorem dX12_judge_181 : decode cX12_judge 181 = .ok (.putfield 522, 3) := by decide +kernel
theorem dX12_judge_184 : decode cX12_judge 184 = .ok (.aload_n 0, 1) := by decide +kernel
theorem dX12_judge_185 : decode cX12_judge 185 = .ok (.iconst (-1), 1) := by decide +kernel
theorem dX12_judge_186 : decode cX12_judge 186 = .ok (.putfield 525, 3) := by decide +kernel
theorem dX12_judge_189 : decode cX12_judge 189 = .ok (.aload_n 0, 1) := by decide +kernel
theorem dX12_judge_190 : decode cX12_judge 190 = .ok (.iload_n 1, 1) := by decide +kernel
theorem dX12_judge_191 : decode cX12_judge 191 = .ok (.iload_n 2, 1) := by decide +kernel
theorem dX12_judge_192 : decode cX12_judge 192 = .ok (.invokevirtual 506, 3) := by decide +kernel
theorem dX12_judge_195 : decode cX12_judge 195 = .ok (.istore 5, 2) := by decide +kernel
theorem dX12_judge_197 : decode cX12_judge 197 = .ok (.iconst 0, 1) := by decide +kernel
theorem dX12_judge_198 : decode cX12_judge 198 = .ok (.istore 6, 2) := by decide +kernel
theorem dX12_judge_200 : decode cX12_judge 200 = .ok (.iload 4, 2) := by decide +kernel
theorem dX12_judge_202 : decode cX12_judge 202 = .ok (.iconst (-1), 1) := by decide +kernel
theorem dX12_judge_203 : decode cX12_judge 203 = .ok (.if_icmp .eq 97, 3) := by decide +kernel
theorem dX12_judge_206 : decode cX12_judge 206 = .ok (.iload 6, 2) := by decide +kernel
theorem dX12_judge_208 : decode cX12_judge 208 = .ok (.aload_n 0, 1) := by decide +kernel
theorem dX12_judge_209 : decode cX12_judge 209 = .ok (.getfield 145, 3) := by decide +kernel
theorem dX12_judge_212 : decode cX12_judge 212 = .ok (.iload 4, 2) := by decide +kernel
theorem dX12_judge_214 : decode cX12_judge 214 = .ok (.iaload, 1) := by decide +kernel
theorem dX12_judge_215 : decode cX12_judge 215 = .ok (.if_icmp .ge 85, 3) := by decide +kernel
theorem dX12_judge_218 : decode cX12_judge 218 = .ok (.aload_n 0, 1) := by decide +kernel
theorem dX12_judge_219 : decode cX12_judge 219 = .ok (.getfield 522, 3) := by decide +kernel
theorem dX12_judge_222 : decode cX12_judge 222 = .ok (.iconst (-1), 1) := by decide +kernel
theorem dX12_judge_223 : decode cX12_judge 223 = .ok (.if_icmp .ne 77, 3) := by decide +kernel
theorem dX12_judge_226 : decode cX12_judge 226 = .ok (.iload_n 3, 1) := by decide +kernel
theorem dX12_judge_227 : decode cX12_judge 227 = .ok (.aload_n 0, 1) := by decide +kernel
theorem dX12_judge_228 : decode cX12_judge 228 = .ok (.getfield 148, 3) := by decide +kernel
theorem dX12_judge_231 : decode cX12_judge 231 = .ok (.bipush 8, 2) := by decide +kernel
theorem dX12_judge_233 : decode cX12_judge 233 = .ok (.iload 4, 2) := by decide +kernel
theorem dX12_judge_235 : decode cX12_judge 235 = .ok (.imul, 1) := by decide +kernel
theorem dX12_judge_236 : decode cX12_judge 236 = .ok (.iload 6, 2) := by decide +kernel
theorem dX12_judge_238 : decode cX12_judge 238 = .ok (.iadd, 1) := by decide +kernel
theorem dX12_judge_239 : decode cX12_judge 239 = .ok (.iaload, 1) := by decide +kernel
theorem dX12_judge_240 : decode cX12_judge 240 = .ok (.iadd, 1) := by decide +kernel
theorem dX12_judge_241 : decode cX12_judge 241 = .ok (.istore 7, 2) := by decide +kernel
theorem dX12_judge_243 : decode cX12_judge 243 = .ok (.aload_n 0, 1) := by decide +kernel
theorem dX12_judge_244 : decode cX12_judge 244 = .ok (.getfield 181, 3) := by decide +kernel
theorem dX12_judge_247 : decode cX12_judge 247 = .ok (.bipush 6, 2) := by decide +kernel
theorem dX12_judge_249 : decode cX12_judge 249 = .ok (.iload 5, 2) := by decide +kernel
theorem dX12_judge_251 : decode cX12_judge 251 = .ok (.iconst (-1), 1) := by decide +kernel
theorem dX12_judge_252 : decode cX12_judge 252 = .ok (.if_icmp .eq 14, 3) := by decide +kernel
theorem dX12_judge_255 : decode cX12_judge 255 = .ok (.iload 5, 2) := by decide +kernel
theorem dX12_judge_257 : decode cX12_judge 257 = .ok (.iload 7, 2) := by decide +kernel
theorem dX12_judge_259 : decode cX12_judge 259 = .ok (.if_icmp .gt 7, 3) := by decide +kernel
theorem dX12_judge_262 : decode cX12_judge 262 = .ok (.iconst 1, 1) := by decide +kernel
theorem dX12_judge_263 : decode cX12_judge 263 = .ok (.goto 4, 3) := by decide +kernel
theorem dX12_judge_266 : decode cX12_judge 266 = .ok (.iconst 0, 1) := by decide +kernel
theorem dX12_judge_267 : decode cX12_judge 267 = .ok (.iastore, 1) := by decide +kernel
theorem dX12_judge_268 : decode cX12_judge 268 = .ok (.aload_n 0, 1) := by decide +kernel
theorem dX12_judge_269 : decode cX12_judge 269 = .ok (.iload 4, 2) := by decide +kernel
theorem dX12_judge_271 : decode cX12_judge 271 = .ok (.iload 6, 2) := by decide +kernel
theorem dX12_judge_273 : decode cX12_judge 273 = .ok (.invokevirtual 528, 3) := by decide +kernel
theorem dX12_judge_276 : decode cX12_judge 276 = .ok (.ifCond .ne 6, 3) := by decide +kernel
theorem dX12_judge_279 : decode cX12_judge 279 = .ok (.goto 15, 3) := by decide +kernel
theorem dX12_judge_282 : decode cX12_judge 282 = .ok (.aload_n 0, 1) := by decide +kernel
theorem dX12_judge_283 : decode cX12_judge 283 = .ok (.iload 6, 2) := by decide +kernel
theorem dX12_judge_285 : decode cX12_judge 285 = .ok (.putfield 522, 3) := by decide +kernel
theorem dX12_judge_288 : decode cX12_judge 288 = .ok (.aload_n 0, 1) := by decide +kernel
theorem dX12_judge_289 : decode cX12_judge 289 = .ok (.iload 7, 2) := by decide +kernel
theorem dX12_judge_291 : decode cX12_judge 291 = .ok (.putfield 525, 3) := by decide +kernel
theorem dX12_judge_294 : decode cX12_judge 294 = .ok (.iinc 6 1, 3) := by decide +kernel
theorem dX12_judge_297 : decode cX12_judge 297 = .ok (.goto (-97), 3) := by decide +kernel
theorem dX12_judge_300 : decode cX12_judge 300 = .ok (.return_, 1) := by decide +kernel
theorem dX12_stateOf_0 : decode cX12_stateOf 0 = .ok (.aload_n 0, 1) := by decide +kernel
theorem dX12_stateOf_1 : decode cX12_stateOf 1 = .ok (.getfield 522, 3) := by decide +kernel
theorem dX12_stateOf_4 : decode cX12_stateOf 4 = .ok (.iconst (-1), 1) := by decide +kernel
theorem dX12_stateOf_5 : decode cX12_stateOf 5 = .ok (.if_icmp .ne 5, 3) := by decide +kernel
theorem dX12_stateOf_8 : decode cX12_stateOf 8 = .ok (.iconst 0, 1) := by decide +kernel
theorem dX12_stateOf_9 : decode cX12_stateOf 9 = .ok (.ireturn, 1) := by decide +kernel
theorem dX12_stateOf_10 : decode cX12_stateOf 10 = .ok (.aload_n 0, 1) := by decide +kernel
theorem dX12_stateOf_11 : decode cX12_stateOf 11 = .ok (.iload_n 1, 1) := by decide +kernel
theorem dX12_stateOf_12 : decode cX12_stateOf 12 = .ok (.iload_n 2, 1) := by decide +kernel
theorem dX12_stateOf_13 : decode cX12_stateOf 13 = .ok (.invokevirtual 531, 3) := by decide +kernel
theorem dX12_stateOf_16 : decode cX12_stateOf 16 = .ok (.istore_n 3, 1) := by decide +kernel
theorem dX12_stateOf_17 : decode cX12_stateOf 17 = .ok (.iload_n 3, 1) := by decide +kernel
theorem dX12_stateOf_18 : decode cX12_stateOf 18 = .ok (.iconst (-1), 1) := by decide +kernel
theorem dX12_stateOf_19 : decode cX12_stateOf 19 = .ok (.if_icmp .eq 17, 3) := by decide +kernel
theorem dX12_stateOf_22 : decode cX12_stateOf 22 = .ok (.iload_n 3, 1) := by decide +kernel
theorem dX12_stateOf_23 : decode cX12_stateOf 23 = .ok (.aload_n 0, 1) := by decide +kernel
theorem dX12_stateOf_24 : decode cX12_stateOf 24 = .ok (.getfield 525, 3) := by decide +kernel
theorem dX12_stateOf_27 : decode cX12_stateOf 27 = .ok (.if_icmp .gt 7, 3) := by decide +kernel
theorem dX12_stateOf_30 : decode cX12_stateOf 30 = .ok (.iconst 1, 1) := by decide +kernel
theorem dX12_stateOf_31 : decode cX12_stateOf 31 = .ok (.goto 4, 3) := by decide +kernel
theorem dX12_stateOf_34 : decode cX12_stateOf 34 = .ok (.iconst 2, 1) := by decide +kernel
theorem dX12_stateOf_35 : decode cX12_stateOf 35 = .ok (.ireturn, 1) := by decide +kernel
theorem dX12_stateOf_36 : decode cX12_stateOf 36 = .ok (.iload_n 2, 1) := by decide +kernel
theorem dX12_stateOf_37 : decode cX12_stateOf 37 = .ok (.aload_n 0, 1) := by decide +kernel
theorem dX12_stateOf_38 : decode cX12_stateOf 38 = .ok (.getfield 525, 3) := by decide +kernel
theorem dX12_stateOf_41 : decode cX12_stateOf 41 = .ok (.if_icmp .gt 7, 3) := by decide +kernel
theorem dX12_stateOf_44 : decode cX12_stateOf 44 = .ok (.iconst 3, 1) := by decide +kernel
theorem dX12_stateOf_45 : decode cX12_stateOf 45 = .ok (.goto 4, 3) := by decide +kernel
theorem dX12_stateOf_48 : decode cX12_stateOf 48 = .ok (.iconst 4, 1) := by decide +kernel
theorem dX12_stateOf_49 : decode cX12_stateOf 49 = .ok (.ireturn, 1) := by decide +kernel
theorem dX12_judged_0 : decode cX12_judged 0 = .ok (.aload_n 0, 1) := by decide +kernel
theorem dX12_judged_1 : decode cX12_judged 1 = .ok (.iload_n 1, 1) := by decide +kernel
theorem dX12_judged_2 : decode cX12_judged 2 = .ok (.iload_n 2, 1) := by decide +kernel
theorem dX12_judged_3 : decode cX12_judged 3 = .ok (.invokevirtual 534, 3) := by decide +kernel
theorem dX12_judged_6 : decode cX12_judged 6 = .ok (.ifCond .eq 13, 3) := by decide +kernel
theorem dX12_judged_9 : decode cX12_judged 9 = .ok (.iload_n 3, 1) := by decide +kernel
theorem dX12_judged_10 : decode cX12_judged 10 = .ok (.ifCond .lt 9, 3) := by decide +kernel
theorem dX12_judged_13 : decode cX12_judged 13 = .ok (.iload_n 3, 1) := by decide +kernel
theorem dX12_judged_14 : decode cX12_judged 14 = .ok (.bipush 8, 2) := by decide +kernel
theorem dX12_judged_16 : decode cX12_judged 16 = .ok (.if_icmp .le 8, 3) := by decide +kernel
theorem dX12_judged_19 : decode cX12_judged 19 = .ok (.aload_n 0, 1) := by decide +kernel
theorem dX12_judged_20 : decode cX12_judged 20 = .ok (.invokevirtual 368, 3) := by decide +kernel
theorem dX12_judged_23 : decode cX12_judged 23 = .ok (.ireturn, 1) := by decide +kernel
theorem dX12_judged_24 : decode cX12_judged 24 = .ok (.aload_n 0, 1) := by decide +kernel
theorem dX12_judged_25 : decode cX12_judged 25 = .ok (.iconst 0, 1) := by decide +kernel
theorem dX12_judged_26 : decode cX12_judged 26 = .ok (.putfield 244, 3) := by decide +kernel
theorem dX12_judged_29 : decode cX12_judged 29 = .ok (.aload_n 0, 1) := by decide +kernel
theorem dX12_judged_30 : decode cX12_judged 30 = .ok (.iload_n 1, 1) := by decide +kernel
theorem dX12_judged_31 : decode cX12_judged 31 = .ok (.iload_n 2, 1) := by decide +kernel
theorem dX12_judged_32 : decode cX12_judged 32 = .ok (.invokevirtual 537, 3) := by decide +kernel
theorem dX12_judged_35 : decode cX12_judged 35 = .ok (.iload_n 3, 1) := by decide +kernel
theorem dX12_judged_36 : decode cX12_judged 36 = .ok (.tableswitch 101 0 7 #[48, 55, 60, 65, 72, 79, 86, 93], 48) := by decide +kernel
theorem dX12_judged_84 : decode cX12_judged 84 = .ok (.aload_n 0, 1) := by decide +kernel
theorem dX12_judged_85 : decode cX12_judged 85 = .ok (.iload_n 1, 1) := by decide +kernel
theorem dX12_judged_86 : decode cX12_judged 86 = .ok (.iload_n 2, 1) := by decide +kernel
theorem dX12_judged_87 : decode cX12_judged 87 = .ok (.invokevirtual 540, 3) := by decide +kernel
theorem dX12_judged_90 : decode cX12_judged 90 = .ok (.ireturn, 1) := by decide +kernel
theorem dX12_judged_91 : decode cX12_judged 91 = .ok (.aload_n 0, 1) := by decide +kernel
theorem dX12_judged_92 : decode cX12_judged 92 = .ok (.getfield 522, 3) := by decide +kernel
theorem dX12_judged_95 : decode cX12_judged 95 = .ok (.ireturn, 1) := by decide +kernel
theorem dX12_judged_96 : decode cX12_judged 96 = .ok (.aload_n 0, 1) := by decide +kernel
theorem dX12_judged_97 : decode cX12_judged 97 = .ok (.getfield 525, 3) := by decide +kernel
theorem dX12_judged_100 : decode cX12_judged 100 = .ok (.ireturn, 1) := by decide +kernel
theorem dX12_judged_101 : decode cX12_judged 101 = .ok (.aload_n 0, 1) := by decide +kernel
theorem dX12_judged_102 : decode cX12_judged 102 = .ok (.iload_n 1, 1) := by decide +kernel
theorem dX12_judged_103 : decode cX12_judged 103 = .ok (.iload_n 2, 1) := by decide +kernel
theorem dX12_judged_104 : decode cX12_judged 104 = .ok (.invokevirtual 509, 3) := by decide +kernel
theorem dX12_judged_107 : decode cX12_judged 107 = .ok (.ireturn, 1) := by decide +kernel
theorem dX12_judged_108 : decode cX12_judged 108 = .ok (.aload_n 0, 1) := by decide +kernel
theorem dX12_judged_109 : decode cX12_judged 109 = .ok (.iload_n 1, 1) := by decide +kernel
theorem dX12_judged_110 : decode cX12_judged 110 = .ok (.iload_n 2, 1) := by decide +kernel
theorem dX12_judged_111 : decode cX12_judged 111 = .ok (.invokevirtual 519, 3) := by decide +kernel
theorem dX12_judged_114 : decode cX12_judged 114 = .ok (.ireturn, 1) := by decide +kernel
theorem dX12_judged_115 : decode cX12_judged 115 = .ok (.aload_n 0, 1) := by decide +kernel
theorem dX12_judged_116 : decode cX12_judged 116 = .ok (.iload_n 1, 1) := by decide +kernel
theorem dX12_judged_117 : decode cX12_judged 117 = .ok (.iload_n 2, 1) := by decide +kernel
theorem dX12_judged_118 : decode cX12_judged 118 = .ok (.invokevirtual 506, 3) := by decide +kernel
theorem dX12_judged_121 : decode cX12_judged 121 = .ok (.ireturn, 1) := by decide +kernel
theorem dX12_judged_122 : decode cX12_judged 122 = .ok (.aload_n 0, 1) := by decide +kernel
theorem dX12_judged_123 : decode cX12_judged 123 = .ok (.iload_n 1, 1) := by decide +kernel
theorem dX12_judged_124 : decode cX12_judged 124 = .ok (.iload_n 2, 1) := by decide +kernel
theorem dX12_judged_125 : decode cX12_judged 125 = .ok (.invokevirtual 531, 3) := by decide +kernel
theorem dX12_judged_128 : decode cX12_judged 128 = .ok (.ireturn, 1) := by decide +kernel
theorem dX12_judged_129 : decode cX12_judged 129 = .ok (.aload_n 0, 1) := by decide +kernel
theorem dX12_judged_130 : decode cX12_judged 130 = .ok (.getfield 181, 3) := by decide +kernel
theorem dX12_judged_133 : decode cX12_judged 133 = .ok (.bipush 9, 2) := by decide +kernel
theorem dX12_judged_135 : decode cX12_judged 135 = .ok (.iaload, 1) := by decide +kernel
theorem dX12_judged_136 : decode cX12_judged 136 = .ok (.ireturn, 1) := by decide +kernel
theorem dX12_judged_137 : decode cX12_judged 137 = .ok (.aload_n 0, 1) := by decide +kernel
theorem dX12_judged_138 : decode cX12_judged 138 = .ok (.getfield 181, 3) := by decide +kernel
theorem dX12_judged_141 : decode cX12_judged 141 = .ok (.bipush 10, 2) := by decide +kernel
theorem dX12_judged_143 : decode cX12_judged 143 = .ok (.iaload, 1) := by decide +kernel
theorem dX12_judged_144 : decode cX12_judged 144 = .ok (.ireturn, 1) := by decide +kernel
theorem dX12_isMember_0 : decode cX12_isMember 0 = .ok (.iconst 0, 1) := by decide +kernel
theorem dX12_isMember_1 : decode cX12_isMember 1 = .ok (.istore_n 2, 1) := by decide +kernel
theorem dX12_isMember_2 : decode cX12_isMember 2 = .ok (.iload_n 2, 1) := by decide +kernel
theorem dX12_isMember_3 : decode cX12_isMember 3 = .ok (.aload_n 0, 1) := by decide +kernel
theorem dX12_isMember_4 : decode cX12_isMember 4 = .ok (.getfield 543, 3) := by decide +kernel
theorem dX12_isMember_7 : decode cX12_isMember 7 = .ok (.if_icmp .ge 21, 3) := by decide +kernel
theorem dX12_isMember_10 : decode cX12_isMember 10 = .ok (.aload_n 0, 1) := by decide +kernel
theorem dX12_isMember_11 : decode cX12_isMember 11 = .ok (.getfield 187, 3) := by decide +kernel
theorem dX12_isMember_14 : decode cX12_isMember 14 = .ok (.iload_n 2, 1) := by decide +kernel
theorem dX12_isMember_15 : decode cX12_isMember 15 = .ok (.iaload, 1) := by decide +kernel
theorem dX12_isMember_16 : decode cX12_isMember 16 = .ok (.iload_n 1, 1) := by decide +kernel
theorem dX12_isMember_17 : decode cX12_isMember 17 = .ok (.if_icmp .ne 5, 3) := by decide +kernel
theorem dX12_isMember_20 : decode cX12_isMember 20 = .ok (.iconst 1, 1) := by decide +kernel
theorem dX12_isMember_21 : decode cX12_isMember 21 = .ok (.ireturn, 1) := by decide +kernel
theorem dX12_isMember_22 : decode cX12_isMember 22 = .ok (.iinc 2 1, 3) := by decide +kernel
theorem dX12_isMember_25 : decode cX12_isMember 25 = .ok (.goto (-23), 3) := by decide +kernel
theorem dX12_isMember_28 : decode cX12_isMember 28 = .ok (.iconst 0, 1) := by decide +kernel
theorem dX12_isMember_29 : decode cX12_isMember 29 = .ok (.ireturn, 1) := by decide +kernel
theorem dX12_member_0 : decode cX12_member 0 = .ok (.aload_n 0, 1) := by decide +kernel
theorem dX12_member_1 : decode cX12_member 1 = .ok (.iconst 0, 1) := by decide +kernel
theorem dX12_member_2 : decode cX12_member 2 = .ok (.putfield 244, 3) := by decide +kernel
theorem dX12_member_5 : decode cX12_member 5 = .ok (.aload_n 0, 1) := by decide +kernel
theorem dX12_member_6 : decode cX12_member 6 = .ok (.iload_n 1, 1) := by decide +kernel
theorem dX12_member_7 : decode cX12_member 7 = .ok (.invokevirtual 299, 3) := by decide +kernel
theorem dX12_member_10 : decode cX12_member 10 = .ok (.ifCond .eq 20, 3) := by decide +kernel
theorem dX12_member_13 : decode cX12_member 13 = .ok (.aload_n 0, 1) := by decide +kernel
theorem dX12_member_14 : decode cX12_member 14 = .ok (.iload_n 1, 1) := by decide +kernel
theorem dX12_member_15 : decode cX12_member 15 = .ok (.invokevirtual 546, 3) := by decide +kernel
theorem dX12_member_18 : decode cX12_member 18 = .ok (.ifCond .ne 12, 3) := by decide +kernel
theorem dX12_member_21 : decode cX12_member 21 = .ok (.aload_n 0, 1) := by decide +kernel
theorem dX12_member_22 : decode cX12_member 22 = .ok (.getfield 543, 3) := by decide +kernel
theorem dX12_member_25 : decode cX12_member 25 = .ok (.bipush 12, 2) := by decide +kernel
theorem dX12_member_27 : decode cX12_member 27 = .ok (.if_icmp .ne 5, 3) := by decide +kernel
theorem dX12_member_30 : decode cX12_member 30 = .ok (.iconst (-1), 1) := by decide +kernel
theorem dX12_member_31 : decode cX12_member 31 = .ok (.ireturn, 1) := by decide +kernel
theorem dX12_member_32 : decode cX12_member 32 = .ok (.aload_n 0, 1) := by decide +kernel
theorem dX12_member_33 : decode cX12_member 33 = .ok (.getfield 187, 3) := by decide +kernel
theorem dX12_member_36 : decode cX12_member 36 = .ok (.aload_n 0, 1) := by decide +kernel
theorem dX12_member_37 : decode cX12_member 37 = .ok (.getfield 543, 3) := by decide +kernel
theorem dX12_member_40 : decode cX12_member 40 = .ok (.iload_n 1, 1) := by decide +kernel
theorem dX12_member_41 : decode cX12_member 41 = .ok (.iastore, 1) := by decide +kernel
theorem dX12_member_42 : decode cX12_member 42 = .ok (.aload_n 0, 1) := by decide +kernel
theorem dX12_member_43 : decode cX12_member 43 = .ok (.dup, 1) := by decide +kernel
theorem dX12_member_44 : decode cX12_member 44 = .ok (.getfield 543, 3) := by decide +kernel
theorem dX12_member_47 : decode cX12_member 47 = .ok (.iconst 1, 1) := by decide +kernel
theorem dX12_member_48 : decode cX12_member 48 = .ok (.iadd, 1) := by decide +kernel
theorem dX12_member_49 : decode cX12_member 49 = .ok (.putfield 543, 3) := by decide +kernel
theorem dX12_member_52 : decode cX12_member 52 = .ok (.aload_n 0, 1) := by decide +kernel
theorem dX12_member_53 : decode cX12_member 53 = .ok (.getfield 543, 3) := by decide +kernel
theorem dX12_member_56 : decode cX12_member 56 = .ok (.ireturn, 1) := by decide +kernel
theorem dX12_matter_0 : decode cX12_matter 0 = .ok (.aload_n 0, 1) := by decide +kernel
theorem dX12_matter_1 : decode cX12_matter 1 = .ok (.iconst 0, 1) := by decide +kernel
theorem dX12_matter_2 : decode cX12_matter 2 = .ok (.putfield 244, 3) := by decide +kernel
theorem dX12_matter_5 : decode cX12_matter 5 = .ok (.aload_n 0, 1) := by decide +kernel
theorem dX12_matter_6 : decode cX12_matter 6 = .ok (.getfield 549, 3) := by decide +kernel
theorem dX12_matter_9 : decode cX12_matter 9 = .ok (.bipush 60, 2) := by decide +kernel
theorem dX12_matter_11 : decode cX12_matter 11 = .ok (.if_icmp .eq 18, 3) := by decide +kernel
theorem dX12_matter_14 : decode cX12_matter 14 = .ok (.aload_n 0, 1) := by decide +kernel
theorem dX12_matter_15 : decode cX12_matter 15 = .ok (.iload_n 1, 1) := by decide +kernel
theorem dX12_matter_16 : decode cX12_matter 16 = .ok (.invokevirtual 276, 3) := by decide +kernel
theorem dX12_matter_19 : decode cX12_matter 19 = .ok (.ifCond .eq 10, 3) := by decide +kernel
theorem dX12_matter_22 : decode cX12_matter 22 = .ok (.iload_n 2, 1) := by decide +kernel
theorem dX12_matter_23 : decode cX12_matter 23 = .ok (.invokestatic 279, 3) := by decide +kernel
theorem dX12_matter_26 : decode cX12_matter 26 = .ok (.ifCond .ne 5, 3) := by decide +kernel
theorem dX12_matter_29 : decode cX12_matter 29 = .ok (.iconst (-1), 1) := by decide +kernel
theorem dX12_matter_30 : decode cX12_matter 30 = .ok (.ireturn, 1) := by decide +kernel
theorem dX12_matter_31 : decode cX12_matter 31 = .ok (.aload_n 0, 1) := by decide +kernel
theorem dX12_matter_32 : decode cX12_matter 32 = .ok (.getfield 190, 3) := by decide +kernel
theorem dX12_matter_35 : decode cX12_matter 35 = .ok (.aload_n 0, 1) := by decide +kernel
theorem dX12_matter_36 : decode cX12_matter 36 = .ok (.getfield 549, 3) := by decide +kernel
theorem dX12_matter_39 : decode cX12_matter 39 = .ok (.iload_n 1, 1) := by decide +kernel
theorem dX12_matter_40 : decode cX12_matter 40 = .ok (.iastore, 1) := by decide +kernel
theorem dX12_matter_41 : decode cX12_matter 41 = .ok (.aload_n 0, 1) := by decide +kernel
theorem dX12_matter_42 : decode cX12_matter 42 = .ok (.getfield 193, 3) := by decide +kernel
theorem dX12_matter_45 : decode cX12_matter 45 = .ok (.aload_n 0, 1) := by decide +kernel
theorem dX12_matter_46 : decode cX12_matter 46 = .ok (.getfield 549, 3) := by decide +kernel
theorem dX12_matter_49 : decode cX12_matter 49 = .ok (.iload_n 2, 1) := by decide +kernel
theorem dX12_matter_50 : decode cX12_matter 50 = .ok (.iastore, 1) := by decide +kernel
theorem dX12_matter_51 : decode cX12_matter 51 = .ok (.aload_n 0, 1) := by decide +kernel
theorem dX12_matter_52 : decode cX12_matter 52 = .ok (.dup, 1) := by decide +kernel
theorem dX12_matter_53 : decode cX12_matter 53 = .ok (.getfield 549, 3) := by decide +kernel
theorem dX12_matter_56 : decode cX12_matter 56 = .ok (.iconst 1, 1) := by decide +kernel
theorem dX12_matter_57 : decode cX12_matter 57 = .ok (.iadd, 1) := by decide +kernel
theorem dX12_matter_58 : decode cX12_matter 58 = .ok (.putfield 549, 3) := by decide +kernel
theorem dX12_matter_61 : decode cX12_matter 61 = .ok (.aload_n 0, 1) := by decide +kernel
theorem dX12_matter_62 : decode cX12_matter 62 = .ok (.getfield 549, 3) := by decide +kernel
theorem dX12_matter_65 : decode cX12_matter 65 = .ok (.iconst 1, 1) := by decide +kernel
theorem dX12_matter_66 : decode cX12_matter 66 = .ok (.isub, 1) := by decide +kernel
theorem dX12_matter_67 : decode cX12_matter 67 = .ok (.ireturn, 1) := by decide +kernel
theorem dX12_isMatter_0 : decode cX12_isMatter 0 = .ok (.iload_n 1, 1) := by decide +kernel
theorem dX12_isMatter_1 : decode cX12_isMatter 1 = .ok (.ifCond .lt 15, 3) := by decide +kernel
theorem dX12_isMatter_4 : decode cX12_isMatter 4 = .ok (.iload_n 1, 1) := by decide +kernel
theorem dX12_isMatter_5 : decode cX12_isMatter 5 = .ok (.aload_n 0, 1) := by decide +kernel
theorem dX12_isMatter_6 : decode cX12_isMatter 6 = .ok (.getfield 549, 3) := by decide +kernel
theorem dX12_isMatter_9 : decode cX12_isMatter 9 = .ok (.if_icmp .ge 7, 3) := by decide +kernel
theorem dX12_isMatter_12 : decode cX12_isMatter 12 = .ok (.iconst 1, 1) := by decide +kernel
theorem dX12_isMatter_13 : decode cX12_isMatter 13 = .ok (.goto 4, 3) := by decide +kernel
theorem dX12_isMatter_16 : decode cX12_isMatter 16 = .ok (.iconst 0, 1) := by decide +kernel
theorem dX12_isMatter_17 : decode cX12_isMatter 17 = .ok (.ireturn, 1) := by decide +kernel
theorem dX12_shareOf_0 : decode cX12_shareOf 0 = .ok (.iload_n 1, 1) := by decide +kernel
theorem dX12_shareOf_1 : decode cX12_shareOf 1 = .ok (.iload_n 2, 1) := by decide +kernel
theorem dX12_shareOf_2 : decode cX12_shareOf 2 = .ok (.if_icmp .ne 9, 3) := by decide +kernel
theorem dX12_shareOf_5 : decode cX12_shareOf 5 = .ok (.sipush 10000, 3) := by decide +kernel
theorem dX12_shareOf_8 : decode cX12_shareOf 8 = .ok (.goto 14, 3) := by decide +kernel
theorem dX12_shareOf_11 : decode cX12_shareOf 11 = .ok (.aload_n 0, 1) := by decide +kernel
theorem dX12_shareOf_12 : decode cX12_shareOf 12 = .ok (.iload_n 1, 1) := by decide +kernel
theorem dX12_shareOf_13 : decode cX12_shareOf 13 = .ok (.iload_n 2, 1) := by decide +kernel
theorem dX12_shareOf_14 : decode cX12_shareOf 14 = .ok (.invokevirtual 353, 3) := by decide +kernel
theorem dX12_shareOf_17 : decode cX12_shareOf 17 = .ok (.ldc2_w 338, 3) := by decide +kernel
theorem dX12_shareOf_20 : decode cX12_shareOf 20 = .ok (.ldiv, 1) := by decide +kernel
theorem dX12_shareOf_21 : decode cX12_shareOf 21 = .ok (.l2i, 1) := by decide +kernel
theorem dX12_shareOf_22 : decode cX12_shareOf 22 = .ok (.ireturn, 1) := by decide +kernel
theorem dX12_sitsOf_0 : decode cX12_sitsOf 0 = .ok (.aload_n 0, 1) := by decide +kernel
theorem dX12_sitsOf_1 : decode cX12_sitsOf 1 = .ok (.getfield 190, 3) := by decide +kernel
theorem dX12_sitsOf_4 : decode cX12_sitsOf 4 = .ok (.iload_n 1, 1) := by decide +kernel
theorem dX12_sitsOf_5 : decode cX12_sitsOf 5 = .ok (.iaload, 1) := by decide +kernel
theorem dX12_sitsOf_6 : decode cX12_sitsOf 6 = .ok (.istore 4, 2) := by decide +kernel
theorem dX12_sitsOf_8 : decode cX12_sitsOf 8 = .ok (.aload_n 0, 1) := by decide +kernel
theorem dX12_sitsOf_9 : decode cX12_sitsOf 9 = .ok (.getfield 193, 3) := by decide +kernel
theorem dX12_sitsOf_12 : decode cX12_sitsOf 12 = .ok (.iload_n 1, 1) := by decide +kernel
theorem dX12_sitsOf_13 : decode cX12_sitsOf 13 = .ok (.iaload, 1) := by decide +kernel
theorem dX12_sitsOf_14 : decode cX12_sitsOf 14 = .ok (.istore 5, 2) := by decide +kernel
theorem dX12_sitsOf_16 : decode cX12_sitsOf 16 = .ok (.aload_n 0, 1) := by decide +kernel
theorem dX12_sitsOf_17 : decode cX12_sitsOf 17 = .ok (.iload 5, 2) := by decide +kernel
theorem dX12_sitsOf_19 : decode cX12_sitsOf 19 = .ok (.iload_n 3, 1) := by decide +kernel
theorem dX12_sitsOf_20 : decode cX12_sitsOf 20 = .ok (.invokevirtual 512, 3) := by decide +kernel
theorem dX12_sitsOf_23 : decode cX12_sitsOf 23 = .ok (.istore 6, 2) := by decide +kernel
theorem dX12_sitsOf_25 : decode cX12_sitsOf 25 = .ok (.aload_n 0, 1) := by decide +kernel
theorem dX12_sitsOf_26 : decode cX12_sitsOf 26 = .ok (.iload 6, 2) := by decide +kernel
theorem dX12_sitsOf_28 : decode cX12_sitsOf 28 = .ok (.iload_n 2, 1) := by decide +kernel
theorem dX12_sitsOf_29 : decode cX12_sitsOf 29 = .ok (.iload 4, 2) := by decide +kernel
theorem dX12_sitsOf_31 : decode cX12_sitsOf 31 = .ok (.iload 5, 2) := by decide +kernel
theorem dX12_sitsOf_33 : decode cX12_sitsOf 33 = .ok (.iload_n 3, 1) := by decide +kernel
theorem dX12_sitsOf_34 : decode cX12_sitsOf 34 = .ok (.invokevirtual 515, 3) := by decide +kernel
theorem dX12_sitsOf_37 : decode cX12_sitsOf 37 = .ok (.aload_n 0, 1) := by decide +kernel
theorem dX12_sitsOf_38 : decode cX12_sitsOf 38 = .ok (.iload 6, 2) := by decide +kernel
theorem dX12_sitsOf_40 : decode cX12_sitsOf 40 = .ok (.iconst 0, 1) := by decide +kernel
theorem dX12_sitsOf_41 : decode cX12_sitsOf 41 = .ok (.invokevirtual 503, 3) := by decide +kernel
theorem dX12_sitsOf_44 : decode cX12_sitsOf 44 = .ok (.istore 7, 2) := by decide +kernel
theorem dX12_sitsOf_46 : decode cX12_sitsOf 46 = .ok (.aload_n 0, 1) := by decide +kernel
theorem dX12_sitsOf_47 : decode cX12_sitsOf 47 = .ok (.getfield 121, 3) := by decide +kernel
theorem dX12_sitsOf_50 : decode cX12_sitsOf 50 = .ok (.iload 4, 2) := by decide +kernel
theorem dX12_sitsOf_52 : decode cX12_sitsOf 52 = .ok (.iaload, 1) := by decide +kernel
theorem dX12_sitsOf_53 : decode cX12_sitsOf 53 = .ok (.istore 8, 2) := by decide +kernel
theorem dX12_sitsOf_55 : decode cX12_sitsOf 55 = .ok (.aload_n 0, 1) := by decide +kernel
theorem dX12_sitsOf_56 : decode cX12_sitsOf 56 = .ok (.getfield 181, 3) := by decide +kernel
theorem dX12_sitsOf_59 : decode cX12_sitsOf 59 = .ok (.iconst 5, 1) := by decide +kernel
theorem dX12_sitsOf_60 : decode cX12_sitsOf 60 = .ok (.aload_n 0, 1) := by decide +kernel
theorem dX12_sitsOf_61 : decode cX12_sitsOf 61 = .ok (.getfield 13, 3) := by decide +kernel
theorem dX12_sitsOf_64 : decode cX12_sitsOf 64 = .ok (.iload 4, 2) := by decide +kernel
theorem dX12_sitsOf_66 : decode cX12_sitsOf 66 = .ok (.iaload, 1) := by decide +kernel
theorem dX12_sitsOf_67 : decode cX12_sitsOf 67 = .ok (.ifCond .ne 15, 3) := by decide +kernel
theorem dX12_sitsOf_70 : decode cX12_sitsOf 70 = .ok (.aload_n 0, 1) := by decide +kernel
theorem dX12_sitsOf_71 : decode cX12_sitsOf 71 = .ok (.getfield 136, 3) := by decide +kernel
theorem dX12_sitsOf_74 : decode cX12_sitsOf 74 = .ok (.iload 4, 2) := by decide +kernel
theorem dX12_sitsOf_76 : decode cX12_sitsOf 76 = .ok (.iaload, 1) := by decide +kernel
theorem dX12_sitsOf_77 : decode cX12_sitsOf 77 = .ok (.iload 7, 2) := by decide +kernel
theorem dX12_sitsOf_79 : decode cX12_sitsOf 79 = .ok (.if_icmp .le 25, 3) := by decide +kernel
theorem dX12_sitsOf_82 : decode cX12_sitsOf 82 = .ok (.aload_n 0, 1) := by decide +kernel
theorem dX12_sitsOf_83 : decode cX12_sitsOf 83 = .ok (.getfield 13, 3) := by decide +kernel
theorem dX12_sitsOf_86 : decode cX12_sitsOf 86 = .ok (.iload 8, 2) := by decide +kernel
theorem dX12_sitsOf_88 : decode cX12_sitsOf 88 = .ok (.iaload, 1) := by decide +kernel
theorem dX12_sitsOf_89 : decode cX12_sitsOf 89 = .ok (.ifCond .ne 19, 3) := by decide +kernel
theorem dX12_sitsOf_92 : decode cX12_sitsOf 92 = .ok (.aload_n 0, 1) := by decide +kernel
theorem dX12_sitsOf_93 : decode cX12_sitsOf 93 = .ok (.getfield 136, 3) := by decide +kernel
theorem dX12_sitsOf_96 : decode cX12_sitsOf 96 = .ok (.iload 8, 2) := by decide +kernel
theorem dX12_sitsOf_98 : decode cX12_sitsOf 98 = .ok (.iaload, 1) := by decide +kernel
theorem dX12_sitsOf_99 : decode cX12_sitsOf 99 = .ok (.iload 7, 2) := by decide +kernel
theorem dX12_sitsOf_101 : decode cX12_sitsOf 101 = .ok (.if_icmp .gt 7, 3) := by decide +kernel
theorem dX12_sitsOf_104 : decode cX12_sitsOf 104 = .ok (.iconst 1, 1) := by decide +kernel
theorem dX12_sitsOf_105 : decode cX12_sitsOf 105 = .ok (.goto 4, 3) := by decide +kernel
theorem dX12_sitsOf_108 : decode cX12_sitsOf 108 = .ok (.iconst 0, 1) := by decide +kernel
theorem dX12_sitsOf_109 : decode cX12_sitsOf 109 = .ok (.iastore, 1) := by decide +kernel
theorem dX12_sitsOf_110 : decode cX12_sitsOf 110 = .ok (.aload_n 0, 1) := by decide +kernel
theorem dX12_sitsOf_111 : decode cX12_sitsOf 111 = .ok (.getfield 181, 3) := by decide +kernel
theorem dX12_sitsOf_114 : decode cX12_sitsOf 114 = .ok (.bipush 11, 2) := by decide +kernel
theorem dX12_sitsOf_116 : decode cX12_sitsOf 116 = .ok (.iconst 0, 1) := by decide +kernel
theorem dX12_sitsOf_117 : decode cX12_sitsOf 117 = .ok (.iastore, 1) := by decide +kernel
theorem dX12_sitsOf_118 : decode cX12_sitsOf 118 = .ok (.iconst 0, 1) := by decide +kernel
theorem dX12_sitsOf_119 : decode cX12_sitsOf 119 = .ok (.istore 9, 2) := by decide +kernel
theorem dX12_sitsOf_121 : decode cX12_sitsOf 121 = .ok (.iload 9, 2) := by decide +kernel
theorem dX12_sitsOf_123 : decode cX12_sitsOf 123 = .ok (.aload_n 0, 1) := by decide +kernel
theorem dX12_sitsOf_124 : decode cX12_sitsOf 124 = .ok (.getfield 305, 3) := by decide +kernel
theorem dX12_sitsOf_127 : decode cX12_sitsOf 127 = .ok (.if_icmp .ge 103, 3) := by decide +kernel
theorem dX12_sitsOf_130 : decode cX12_sitsOf 130 = .ok (.aload_n 0, 1) := by decide +kernel
theorem dX12_sitsOf_131 : decode cX12_sitsOf 131 = .ok (.getfield 57, 3) := by decide +kernel
theorem dX12_sitsOf_134 : decode cX12_sitsOf 134 = .ok (.iload 9, 2) := by decide +kernel
theorem dX12_sitsOf_136 : decode cX12_sitsOf 136 = .ok (.iaload, 1) := by decide +kernel
theorem dX12_sitsOf_137 : decode cX12_sitsOf 137 = .ok (.iload_n 2, 1) := by decide +kernel
theorem dX12_sitsOf_138 : decode cX12_sitsOf 138 = .ok (.if_icmp .ne 86, 3) := by decide +kernel
theorem dX12_sitsOf_141 : decode cX12_sitsOf 141 = .ok (.aload_n 0, 1) := by decide +kernel
theorem dX12_sitsOf_142 : decode cX12_sitsOf 142 = .ok (.getfield 69, 3) := by decide +kernel
theorem dX12_sitsOf_145 : decode cX12_sitsOf 145 = .ok (.iload 9, 2) := by decide +kernel
theorem dX12_sitsOf_147 : decode cX12_sitsOf 147 = .ok (.iaload, 1) := by decide +kernel
theorem dX12_sitsOf_148 : decode cX12_sitsOf 148 = .ok (.iload_n 3, 1) := by decide +kernel
theorem dX12_sitsOf_149 : decode cX12_sitsOf 149 = .ok (.if_icmp .gt 75, 3) := by decide +kernel
theorem dX12_sitsOf_152 : decode cX12_sitsOf 152 = .ok (.aload_n 0, 1) := by decide +kernel
theorem dX12_sitsOf_153 : decode cX12_sitsOf 153 = .ok (.getfield 63, 3) := by decide +kernel
theorem dX12_sitsOf_156 : decode cX12_sitsOf 156 = .ok (.iload 9, 2) := by decide +kernel
theorem dX12_sitsOf_158 : decode cX12_sitsOf 158 = .ok (.iaload, 1) := by decide +kernel
theorem dX12_sitsOf_159 : decode cX12_sitsOf 159 = .ok (.iload 5, 2) := by decide +kernel
theorem dX12_sitsOf_161 : decode cX12_sitsOf 161 = .ok (.if_icmp .gt 63, 3) := by decide +kernel
theorem dX12_sitsOf_164 : decode cX12_sitsOf 164 = .ok (.aload_n 0, 1) := by decide +kernel
theorem dX12_sitsOf_165 : decode cX12_sitsOf 165 = .ok (.getfield 121, 3) := by decide +kernel
theorem dX12_sitsOf_168 : decode cX12_sitsOf 168 = .ok (.aload_n 0, 1) := by decide +kernel
theorem dX12_sitsOf_169 : decode cX12_sitsOf 169 = .ok (.getfield 60, 3) := by decide +kernel
theorem dX12_sitsOf_172 : decode cX12_sitsOf 172 = .ok (.iload 9, 2) := by decide +kernel
theorem dX12_sitsOf_174 : decode cX12_sitsOf 174 = .ok (.iaload, 1) := by decide +kernel
theorem dX12_sitsOf_175 : decode cX12_sitsOf 175 = .ok (.iaload, 1) := by decide +kernel
theorem dX12_sitsOf_176 : decode cX12_sitsOf 176 = .ok (.iload 8, 2) := by decide +kernel
theorem dX12_sitsOf_178 : decode cX12_sitsOf 178 = .ok (.if_icmp .eq 6, 3) := by decide +kernel
theorem dX12_sitsOf_181 : decode cX12_sitsOf 181 = .ok (.goto 43, 3) := by decide +kernel
theorem dX12_sitsOf_184 : decode cX12_sitsOf 184 = .ok (.aload_n 0, 1) := by decide +kernel
theorem dX12_sitsOf_185 : decode cX12_sitsOf 185 = .ok (.getfield 66, 3) := by decide +kernel
theorem dX12_sitsOf_188 : decode cX12_sitsOf 188 = .ok (.iload 9, 2) := by decide +kernel
theorem dX12_sitsOf_190 : decode cX12_sitsOf 190 = .ok (.iaload, 1) := by decide +kernel
theorem dX12_sitsOf_191 : decode cX12_sitsOf 191 = .ok (.iload 5, 2) := by decide +kernel
theorem dX12_sitsOf_193 : decode cX12_sitsOf 193 = .ok (.if_icmp .ge 23, 3) := by decide +kernel
theorem dX12_sitsOf_196 : decode cX12_sitsOf 196 = .ok (.iload 5, 2) := by decide +kernel
theorem dX12_sitsOf_198 : decode cX12_sitsOf 198 = .ok (.aload_n 0, 1) := by decide +kernel
theorem dX12_sitsOf_199 : decode cX12_sitsOf 199 = .ok (.getfield 66, 3) := by decide +kernel
theorem dX12_sitsOf_202 : decode cX12_sitsOf 202 = .ok (.iload 9, 2) := by decide +kernel
theorem dX12_sitsOf_204 : decode cX12_sitsOf 204 = .ok (.iaload, 1) := by decide +kernel
theorem dX12_sitsOf_205 : decode cX12_sitsOf 205 = .ok (.isub, 1) := by decide +kernel
theorem dX12_sitsOf_206 : decode cX12_sitsOf 206 = .ok (.aload_n 0, 1) := by decide +kernel
theorem dX12_sitsOf_207 : decode cX12_sitsOf 207 = .ok (.iload 6, 2) := by decide +kernel
theorem dX12_sitsOf_209 : decode cX12_sitsOf 209 = .ok (.iconst 2, 1) := by decide +kernel
theorem dX12_sitsOf_210 : decode cX12_sitsOf 210 = .ok (.invokevirtual 503, 3) := by decide +kernel
theorem dX12_sitsOf_213 : decode cX12_sitsOf 213 = .ok (.if_icmp .gt 11, 3) := by decide +kernel
theorem dX12_sitsOf_216 : decode cX12_sitsOf 216 = .ok (.aload_n 0, 1) := by decide +kernel
theorem dX12_sitsOf_217 : decode cX12_sitsOf 217 = .ok (.getfield 181, 3) := by decide +kernel
theorem dX12_sitsOf_220 : decode cX12_sitsOf 220 = .ok (.bipush 11, 2) := by decide +kernel
theorem dX12_sitsOf_222 : decode cX12_sitsOf 222 = .ok (.iconst 1, 1) := by decide +kernel
theorem dX12_sitsOf_223 : decode cX12_sitsOf 223 = .ok (.iastore, 1) := by decide +kernel
theorem dX12_sitsOf_224 : decode cX12_sitsOf 224 = .ok (.iinc 9 1, 3) := by decide +kernel
theorem dX12_sitsOf_227 : decode cX12_sitsOf 227 = .ok (.goto (-106), 3) := by decide +kernel
theorem dX12_sitsOf_230 : decode cX12_sitsOf 230 = .ok (.aload_n 0, 1) := by decide +kernel
theorem dX12_sitsOf_231 : decode cX12_sitsOf 231 = .ok (.getfield 181, 3) := by decide +kernel
theorem dX12_sitsOf_234 : decode cX12_sitsOf 234 = .ok (.bipush 12, 2) := by decide +kernel
theorem dX12_sitsOf_236 : decode cX12_sitsOf 236 = .ok (.aload_n 0, 1) := by decide +kernel
theorem dX12_sitsOf_237 : decode cX12_sitsOf 237 = .ok (.iload_n 2, 1) := by decide +kernel
theorem dX12_sitsOf_238 : decode cX12_sitsOf 238 = .ok (.iload 4, 2) := by decide +kernel
theorem dX12_sitsOf_240 : decode cX12_sitsOf 240 = .ok (.invokevirtual 552, 3) := by decide +kernel
theorem dX12_sitsOf_243 : decode cX12_sitsOf 243 = .ok (.iastore, 1) := by decide +kernel
theorem dX12_sitsOf_244 : decode cX12_sitsOf 244 = .ok (.aload_n 0, 1) := by decide +kernel
theorem dX12_sitsOf_245 : decode cX12_sitsOf 245 = .ok (.getfield 181, 3) := by decide +kernel
theorem dX12_sitsOf_248 : decode cX12_sitsOf 248 = .ok (.bipush 13, 2) := by decide +kernel
theorem dX12_sitsOf_250 : decode cX12_sitsOf 250 = .ok (.iconst 0, 1) := by decide +kernel
theorem dX12_sitsOf_251 : decode cX12_sitsOf 251 = .ok (.iastore, 1) := by decide +kernel
theorem dX12_sitsOf_252 : decode cX12_sitsOf 252 = .ok (.iconst 0, 1) := by decide +kernel
theorem dX12_sitsOf_253 : decode cX12_sitsOf 253 = .ok (.istore 9, 2) := by decide +kernel
theorem dX12_sitsOf_255 : decode cX12_sitsOf 255 = .ok (.iload 9, 2) := by decide +kernel
theorem dX12_sitsOf_257 : decode cX12_sitsOf 257 = .ok (.aload_n 0, 1) := by decide +kernel
theorem dX12_sitsOf_258 : decode cX12_sitsOf 258 = .ok (.getfield 273, 3) := by decide +kernel
theorem dX12_sitsOf_261 : decode cX12_sitsOf 261 = .ok (.if_icmp .ge 70, 3) := by decide +kernel
theorem dX12_sitsOf_264 : decode cX12_sitsOf 264 = .ok (.aload_n 0, 1) := by decide +kernel
theorem dX12_sitsOf_265 : decode cX12_sitsOf 265 = .ok (.getfield 13, 3) := by decide +kernel
theorem dX12_sitsOf_268 : decode cX12_sitsOf 268 = .ok (.iload 9, 2) := by decide +kernel
theorem dX12_sitsOf_270 : decode cX12_sitsOf 270 = .ok (.iaload, 1) := by decide +kernel
theorem dX12_sitsOf_271 : decode cX12_sitsOf 271 = .ok (.ifCond .ne 54, 3) := by decide +kernel
theorem dX12_sitsOf_274 : decode cX12_sitsOf 274 = .ok (.iload 9, 2) := by decide +kernel
theorem dX12_sitsOf_276 : decode cX12_sitsOf 276 = .ok (.iload_n 2, 1) := by decide +kernel
theorem dX12_sitsOf_277 : decode cX12_sitsOf 277 = .ok (.if_icmp .eq 48, 3) := by decide +kernel
theorem dX12_sitsOf_280 : decode cX12_sitsOf 280 = .ok (.aload_n 0, 1) := by decide +kernel
theorem dX12_sitsOf_281 : decode cX12_sitsOf 281 = .ok (.getfield 136, 3) := by decide +kernel
theorem dX12_sitsOf_284 : decode cX12_sitsOf 284 = .ok (.iload 9, 2) := by decide +kernel
theorem dX12_sitsOf_286 : decode cX12_sitsOf 286 = .ok (.iaload, 1) := by decide +kernel
theorem dX12_sitsOf_287 : decode cX12_sitsOf 287 = .ok (.iload 7, 2) := by decide +kernel
theorem dX12_sitsOf_289 : decode cX12_sitsOf 289 = .ok (.if_icmp .gt 36, 3) := by decide +kernel
theorem dX12_sitsOf_292 : decode cX12_sitsOf 292 = .ok (.aload_n 0, 1) := by decide +kernel
theorem dX12_sitsOf_293 : decode cX12_sitsOf 293 = .ok (.iload 9, 2) := by decide +kernel
theorem dX12_sitsOf_295 : decode cX12_sitsOf 295 = .ok (.iload 4, 2) := by decide +kernel
theorem dX12_sitsOf_297 : decode cX12_sitsOf 297 = .ok (.invokevirtual 552, 3) := by decide +kernel
theorem dX12_sitsOf_300 : decode cX12_sitsOf 300 = .ok (.aload_n 0, 1) := by decide +kernel
theorem dX12_sitsOf_301 : decode cX12_sitsOf 301 = .ok (.getfield 181, 3) := by decide +kernel
theorem dX12_sitsOf_304 : decode cX12_sitsOf 304 = .ok (.bipush 13, 2) := by decide +kernel
theorem dX12_sitsOf_306 : decode cX12_sitsOf 306 = .ok (.iaload, 1) := by decide +kernel
theorem dX12_sitsOf_307 : decode cX12_sitsOf 307 = .ok (.if_icmp .le 18, 3) := by decide +kernel
theorem dX12_sitsOf_310 : decode cX12_sitsOf 310 = .ok (.aload_n 0, 1) := by decide +kernel
theorem dX12_sitsOf_311 : decode cX12_sitsOf 311 = .ok (.getfield 181, 3) := by decide +kernel
theorem dX12_sitsOf_314 : decode cX12_sitsOf 314 = .ok (.bipush 13, 2) := by decide +kernel
theorem dX12_sitsOf_316 : decode cX12_sitsOf 316 = .ok (.aload_n 0, 1) := by decide +kernel
theorem dX12_sitsOf_317 : decode cX12_sitsOf 317 = .ok (.iload 9, 2) := by decide +kernel
theorem dX12_sitsOf_319 : decode cX12_sitsOf 319 = .ok (.iload 4, 2) := by decide +kernel
theorem dX12_sitsOf_321 : decode cX12_sitsOf 321 = .ok (.invokevirtual 552, 3) := by decide +kernel
theorem dX12_sitsOf_324 : decode cX12_sitsOf 324 = .ok (.iastore, 1) := by decide +kernel
theorem dX12_sitsOf_325 : decode cX12_sitsOf 325 = .ok (.iinc 9 1, 3) := by decide +kernel
theorem dX12_sitsOf_328 : decode cX12_sitsOf 328 = .ok (.goto (-73), 3) := by decide +kernel
theorem dX12_sitsOf_331 : decode cX12_sitsOf 331 = .ok (.aload_n 0, 1) := by decide +kernel
theorem dX12_sitsOf_332 : decode cX12_sitsOf 332 = .ok (.iload 6, 2) := by decide +kernel
theorem dX12_sitsOf_334 : decode cX12_sitsOf 334 = .ok (.bipush 8, 2) := by decide +kernel
theorem dX12_sitsOf_336 : decode cX12_sitsOf 336 = .ok (.invokevirtual 528, 3) := by decide +kernel
theorem dX12_sitsOf_339 : decode cX12_sitsOf 339 = .ok (.ifCond .eq 7, 3) := by decide +kernel
theorem dX12_sitsOf_342 : decode cX12_sitsOf 342 = .ok (.iconst 2, 1) := by decide +kernel
theorem dX12_sitsOf_343 : decode cX12_sitsOf 343 = .ok (.goto 19, 3) := by decide +kernel
theorem dX12_sitsOf_346 : decode cX12_sitsOf 346 = .ok (.aload_n 0, 1) := by decide +kernel
theorem dX12_sitsOf_347 : decode cX12_sitsOf 347 = .ok (.iload 6, 2) := by decide +kernel
theorem dX12_sitsOf_349 : decode cX12_sitsOf 349 = .ok (.bipush 9, 2) := by decide +kernel
theorem dX12_sitsOf_351 : decode cX12_sitsOf 351 = .ok (.invokevirtual 528, 3) := by decide +kernel
theorem dX12_sitsOf_354 : decode cX12_sitsOf 354 = .ok (.ifCond .eq 7, 3) := by decide +kernel
theorem dX12_sitsOf_357 : decode cX12_sitsOf 357 = .ok (.iconst 1, 1) := by decide +kernel
theorem dX12_sitsOf_358 : decode cX12_sitsOf 358 = .ok (.goto 4, 3) := by decide +kernel
theorem dX12_sitsOf_361 : decode cX12_sitsOf 361 = .ok (.iconst 0, 1) := by decide +kernel
theorem dX12_sitsOf_362 : decode cX12_sitsOf 362 = .ok (.ireturn, 1) := by decide +kernel
theorem dX12_sits_0 : decode cX12_sits 0 = .ok (.aload_n 0, 1) := by decide +kernel
theorem dX12_sits_1 : decode cX12_sits 1 = .ok (.iconst 0, 1) := by decide +kernel
theorem dX12_sits_2 : decode cX12_sits 2 = .ok (.putfield 244, 3) := by decide +kernel
theorem dX12_sits_5 : decode cX12_sits 5 = .ok (.aload_n 0, 1) := by decide +kernel
theorem dX12_sits_6 : decode cX12_sits 6 = .ok (.iload_n 1, 1) := by decide +kernel
theorem dX12_sits_7 : decode cX12_sits 7 = .ok (.invokevirtual 555, 3) := by decide +kernel
theorem dX12_sits_10 : decode cX12_sits 10 = .ok (.ifCond .eq 21, 3) := by decide +kernel
theorem dX12_sits_13 : decode cX12_sits 13 = .ok (.aload_n 0, 1) := by decide +kernel
theorem dX12_sits_14 : decode cX12_sits 14 = .ok (.iload_n 2, 1) := by decide +kernel
theorem dX12_sits_15 : decode cX12_sits 15 = .ok (.invokevirtual 299, 3) := by decide +kernel
theorem dX12_sits_18 : decode cX12_sits 18 = .ok (.ifCond .eq 13, 3) := by decide +kernel
theorem dX12_sits_21 : decode cX12_sits 21 = .ok (.aload_n 0, 1) := by decide +kernel
theorem dX12_sits_22 : decode cX12_sits 22 = .ok (.iload_n 1, 1) := by decide +kernel
theorem dX12_sits_23 : decode cX12_sits 23 = .ok (.iload_n 2, 1) := by decide +kernel
theorem dX12_sits_24 : decode cX12_sits 24 = .ok (.iload_n 3, 1) := by decide +kernel
theorem dX12_sits_25 : decode cX12_sits 25 = .ok (.invokevirtual 558, 3) := by decide +kernel
theorem dX12_sits_28 : decode cX12_sits 28 = .ok (.goto 4, 3) := by decide +kernel
theorem dX12_sits_31 : decode cX12_sits 31 = .ok (.iconst (-1), 1) := by decide +kernel
theorem dX12_sits_32 : decode cX12_sits 32 = .ok (.ireturn, 1) := by decide +kernel
theorem dX12_quorum_0 : decode cX12_quorum 0 = .ok (.aload_n 0, 1) := by decide +kernel
theorem dX12_quorum_1 : decode cX12_quorum 1 = .ok (.iconst 0, 1) := by decide +kernel
theorem dX12_quorum_2 : decode cX12_quorum 2 = .ok (.putfield 244, 3) := by decide +kernel
theorem dX12_quorum_5 : decode cX12_quorum 5 = .ok (.aload_n 0, 1) := by decide +kernel
theorem dX12_quorum_6 : decode cX12_quorum 6 = .ok (.iload_n 1, 1) := by decide +kernel
theorem dX12_quorum_7 : decode cX12_quorum 7 = .ok (.invokevirtual 555, 3) := by decide +kernel
theorem dX12_quorum_10 : decode cX12_quorum 10 = .ok (.ifCond .ne 6, 3) := by decide +kernel
theorem dX12_quorum_13 : decode cX12_quorum 13 = .ok (.bipush (-100), 2) := by decide +kernel
theorem dX12_quorum_15 : decode cX12_quorum 15 = .ok (.ireturn, 1) := by decide +kernel
theorem dX12_quorum_16 : decode cX12_quorum 16 = .ok (.iconst 0, 1) := by decide +kernel
theorem dX12_quorum_17 : decode cX12_quorum 17 = .ok (.istore_n 3, 1) := by decide +kernel
theorem dX12_quorum_18 : decode cX12_quorum 18 = .ok (.iconst 0, 1) := by decide +kernel
theorem dX12_quorum_19 : decode cX12_quorum 19 = .ok (.istore 4, 2) := by decide +kernel
theorem dX12_quorum_21 : decode cX12_quorum 21 = .ok (.iload 4, 2) := by decide +kernel
theorem dX12_quorum_23 : decode cX12_quorum 23 = .ok (.aload_n 0, 1) := by decide +kernel
theorem dX12_quorum_24 : decode cX12_quorum 24 = .ok (.getfield 543, 3) := by decide +kernel
theorem dX12_quorum_27 : decode cX12_quorum 27 = .ok (.if_icmp .ge 29, 3) := by decide +kernel
theorem dX12_quorum_30 : decode cX12_quorum 30 = .ok (.aload_n 0, 1) := by decide +kernel
theorem dX12_quorum_31 : decode cX12_quorum 31 = .ok (.iload_n 1, 1) := by decide +kernel
theorem dX12_quorum_32 : decode cX12_quorum 32 = .ok (.aload_n 0, 1) := by decide +kernel
theorem dX12_quorum_33 : decode cX12_quorum 33 = .ok (.getfield 187, 3) := by decide +kernel
theorem dX12_quorum_36 : decode cX12_quorum 36 = .ok (.iload 4, 2) := by decide +kernel
theorem dX12_quorum_38 : decode cX12_quorum 38 = .ok (.iaload, 1) := by decide +kernel
theorem dX12_quorum_39 : decode cX12_quorum 39 = .ok (.iload_n 2, 1) := by decide +kernel
theorem dX12_quorum_40 : decode cX12_quorum 40 = .ok (.invokevirtual 558, 3) := by decide +kernel
theorem dX12_quorum_43 : decode cX12_quorum 43 = .ok (.iconst 2, 1) := by decide +kernel
theorem dX12_quorum_44 : decode cX12_quorum 44 = .ok (.if_icmp .ge 6, 3) := by decide +kernel
theorem dX12_quorum_47 : decode cX12_quorum 47 = .ok (.iinc 3 1, 3) := by decide +kernel
theorem dX12_quorum_50 : decode cX12_quorum 50 = .ok (.iinc 4 1, 3) := by decide +kernel
theorem dX12_quorum_53 : decode cX12_quorum 53 = .ok (.goto (-32), 3) := by decide +kernel
theorem dX12_quorum_56 : decode cX12_quorum 56 = .ok (.iload_n 3, 1) := by decide +kernel
theorem dX12_quorum_57 : decode cX12_quorum 57 = .ok (.aload_n 0, 1) := by decide +kernel
theorem dX12_quorum_58 : decode cX12_quorum 58 = .ok (.aload_n 0, 1) := by decide +kernel
theorem dX12_quorum_59 : decode cX12_quorum 59 = .ok (.aload_n 0, 1) := by decide +kernel
theorem dX12_quorum_60 : decode cX12_quorum 60 = .ok (.getfield 193, 3) := by decide +kernel
theorem dX12_quorum_63 : decode cX12_quorum 63 = .ok (.iload_n 1, 1) := by decide +kernel
theorem dX12_quorum_64 : decode cX12_quorum 64 = .ok (.iaload, 1) := by decide +kernel
theorem dX12_quorum_65 : decode cX12_quorum 65 = .ok (.iload_n 2, 1) := by decide +kernel
theorem dX12_quorum_66 : decode cX12_quorum 66 = .ok (.invokevirtual 512, 3) := by decide +kernel
theorem dX12_quorum_69 : decode cX12_quorum 69 = .ok (.iconst 4, 1) := by decide +kernel
theorem dX12_quorum_70 : decode cX12_quorum 70 = .ok (.invokevirtual 503, 3) := by decide +kernel
theorem dX12_quorum_73 : decode cX12_quorum 73 = .ok (.isub, 1) := by decide +kernel
theorem dX12_quorum_74 : decode cX12_quorum 74 = .ok (.ireturn, 1) := by decide +kernel
theorem dX12_entry_0 : decode cX12_entry 0 = .ok (.aload_n 0, 1) := by decide +kernel
theorem dX12_entry_1 : decode cX12_entry 1 = .ok (.iconst 0, 1) := by decide +kernel
theorem dX12_entry_2 : decode cX12_entry 2 = .ok (.putfield 244, 3) := by decide +kernel
theorem dX12_entry_5 : decode cX12_entry 5 = .ok (.aload_n 0, 1) := by decide +kernel
theorem dX12_entry_6 : decode cX12_entry 6 = .ok (.invokevirtual 269, 3) := by decide +kernel
theorem dX12_entry_9 : decode cX12_entry 9 = .ok (.lstore 4, 2) := by decide +kernel
theorem dX12_entry_11 : decode cX12_entry 11 = .ok (.aload_n 0, 1) := by decide +kernel
theorem dX12_entry_12 : decode cX12_entry 12 = .ok (.getfield 562, 3) := by decide +kernel
theorem dX12_entry_15 : decode cX12_entry 15 = .ok (.bipush 100, 2) := by decide +kernel
theorem dX12_entry_17 : decode cX12_entry 17 = .ok (.if_icmp .eq 36, 3) := by decide +kernel
theorem dX12_entry_20 : decode cX12_entry 20 = .ok (.aload_n 0, 1) := by decide +kernel
theorem dX12_entry_21 : decode cX12_entry 21 = .ok (.iload_n 1, 1) := by decide +kernel
theorem dX12_entry_22 : decode cX12_entry 22 = .ok (.invokevirtual 276, 3) := by decide +kernel
theorem dX12_entry_25 : decode cX12_entry 25 = .ok (.ifCond .eq 28, 3) := by decide +kernel
theorem dX12_entry_28 : decode cX12_entry 28 = .ok (.lload 4, 2) := by decide +kernel
theorem dX12_entry_30 : decode cX12_entry 30 = .ok (.lconst 0, 1) := by decide +kernel
theorem dX12_entry_31 : decode cX12_entry 31 = .ok (.lcmp, 1) := by decide +kernel
theorem dX12_entry_32 : decode cX12_entry 32 = .ok (.ifCond .eq 21, 3) := by decide +kernel
theorem dX12_entry_35 : decode cX12_entry 35 = .ok (.iload_n 2, 1) := by decide +kernel
theorem dX12_entry_36 : decode cX12_entry 36 = .ok (.invokestatic 279, 3) := by decide +kernel
theorem dX12_entry_39 : decode cX12_entry 39 = .ok (.ifCond .eq 14, 3) := by decide +kernel
theorem dX12_entry_42 : decode cX12_entry 42 = .ok (.iload_n 3, 1) := by decide +kernel
theorem dX12_entry_43 : decode cX12_entry 43 = .ok (.iconst 0, 1) := by decide +kernel
theorem dX12_entry_44 : decode cX12_entry 44 = .ok (.ldc_w 308, 3) := by decide +kernel
theorem dX12_entry_47 : decode cX12_entry 47 = .ok (.invokestatic 254, 3) := by decide +kernel
theorem dX12_entry_50 : decode cX12_entry 50 = .ok (.ifCond .ne 5, 3) := by decide +kernel
theorem dX12_entry_53 : decode cX12_entry 53 = .ok (.iconst (-1), 1) := by decide +kernel
theorem dX12_entry_54 : decode cX12_entry 54 = .ok (.ireturn, 1) := by decide +kernel
theorem dX12_entry_55 : decode cX12_entry 55 = .ok (.aload_n 0, 1) := by decide +kernel
theorem dX12_entry_56 : decode cX12_entry 56 = .ok (.getfield 196, 3) := by decide +kernel
theorem dX12_entry_59 : decode cX12_entry 59 = .ok (.aload_n 0, 1) := by decide +kernel
theorem dX12_entry_60 : decode cX12_entry 60 = .ok (.getfield 562, 3) := by decide +kernel
theorem dX12_entry_63 : decode cX12_entry 63 = .ok (.iload_n 1, 1) := by decide +kernel
theorem dX12_entry_64 : decode cX12_entry 64 = .ok (.iastore, 1) := by decide +kernel
theorem dX12_entry_65 : decode cX12_entry 65 = .ok (.aload_n 0, 1) := by decide +kernel
theorem dX12_entry_66 : decode cX12_entry 66 = .ok (.getfield 208, 3) := by decide +kernel
theorem dX12_entry_69 : decode cX12_entry 69 = .ok (.aload_n 0, 1) := by decide +kernel
theorem dX12_entry_70 : decode cX12_entry 70 = .ok (.getfield 562, 3) := by decide +kernel
theorem dX12_entry_73 : decode cX12_entry 73 = .ok (.lload 4, 2) := by decide +kernel
theorem dX12_entry_75 : decode cX12_entry 75 = .ok (.lastore, 1) := by decide +kernel
theorem dX12_entry_76 : decode cX12_entry 76 = .ok (.aload_n 0, 1) := by decide +kernel
theorem dX12_entry_77 : decode cX12_entry 77 = .ok (.getfield 199, 3) := by decide +kernel
theorem dX12_entry_80 : decode cX12_entry 80 = .ok (.aload_n 0, 1) := by decide +kernel
theorem dX12_entry_81 : decode cX12_entry 81 = .ok (.getfield 562, 3) := by decide +kernel
theorem dX12_entry_84 : decode cX12_entry 84 = .ok (.iload_n 2, 1) := by decide +kernel
theorem dX12_entry_85 : decode cX12_entry 85 = .ok (.iastore, 1) := by decide +kernel
theorem dX12_entry_86 : decode cX12_entry 86 = .ok (.aload_n 0, 1) := by decide +kernel
theorem dX12_entry_87 : decode cX12_entry 87 = .ok (.getfield 202, 3) := by decide +kernel
theorem dX12_entry_90 : decode cX12_entry 90 = .ok (.aload_n 0, 1) := by decide +kernel
theorem dX12_entry_91 : decode cX12_entry 91 = .ok (.getfield 562, 3) := by decide +kernel
theorem dX12_entry_94 : decode cX12_entry 94 = .ok (.iload_n 3, 1) := by decide +kernel
theorem dX12_entry_95 : decode cX12_entry 95 = .ok (.iastore, 1) := by decide +kernel
theorem dX12_entry_96 : decode cX12_entry 96 = .ok (.aload_n 0, 1) := by decide +kernel
theorem dX12_entry_97 : decode cX12_entry 97 = .ok (.getfield 205, 3) := by decide +kernel
theorem dX12_entry_100 : decode cX12_entry 100 = .ok (.aload_n 0, 1) := by decide +kernel
theorem dX12_entry_101 : decode cX12_entry 101 = .ok (.getfield 562, 3) := by decide +kernel
theorem dX12_entry_104 : decode cX12_entry 104 = .ok (.aload_n 0, 1) := by decide +kernel
theorem dX12_entry_105 : decode cX12_entry 105 = .ok (.getfield 258, 3) := by decide +kernel
theorem dX12_entry_108 : decode cX12_entry 108 = .ok (.iastore, 1) := by decide +kernel
theorem dX12_entry_109 : decode cX12_entry 109 = .ok (.aload_n 0, 1) := by decide +kernel
theorem dX12_entry_110 : decode cX12_entry 110 = .ok (.dup, 1) := by decide +kernel
theorem dX12_entry_111 : decode cX12_entry 111 = .ok (.getfield 562, 3) := by decide +kernel
theorem dX12_entry_114 : decode cX12_entry 114 = .ok (.iconst 1, 1) := by decide +kernel
theorem dX12_entry_115 : decode cX12_entry 115 = .ok (.iadd, 1) := by decide +kernel
theorem dX12_entry_116 : decode cX12_entry 116 = .ok (.putfield 562, 3) := by decide +kernel
theorem dX12_entry_119 : decode cX12_entry 119 = .ok (.aload_n 0, 1) := by decide +kernel
theorem dX12_entry_120 : decode cX12_entry 120 = .ok (.getfield 562, 3) := by decide +kernel
theorem dX12_entry_123 : decode cX12_entry 123 = .ok (.iconst 1, 1) := by decide +kernel
theorem dX12_entry_124 : decode cX12_entry 124 = .ok (.isub, 1) := by decide +kernel
theorem dX12_entry_125 : decode cX12_entry 125 = .ok (.ireturn, 1) := by decide +kernel
theorem dX12_fit_0 : decode cX12_fit 0 = .ok (.aload_n 0, 1) := by decide +kernel
theorem dX12_fit_1 : decode cX12_fit 1 = .ok (.getfield 81, 3) := by decide +kernel
theorem dX12_fit_4 : decode cX12_fit 4 = .ok (.iload_n 2, 1) := by decide +kernel
theorem dX12_fit_5 : decode cX12_fit 5 = .ok (.iaload, 1) := by decide +kernel
theorem dX12_fit_6 : decode cX12_fit 6 = .ok (.aload_n 0, 1) := by decide +kernel
theorem dX12_fit_7 : decode cX12_fit 7 = .ok (.getfield 199, 3) := by decide +kernel
theorem dX12_fit_10 : decode cX12_fit 10 = .ok (.iload_n 1, 1) := by decide +kernel
theorem dX12_fit_11 : decode cX12_fit 11 = .ok (.iaload, 1) := by decide +kernel
theorem dX12_fit_12 : decode cX12_fit 12 = .ok (.if_icmp .le 19, 3) := by decide +kernel
theorem dX12_fit_15 : decode cX12_fit 15 = .ok (.aload_n 0, 1) := by decide +kernel
theorem dX12_fit_16 : decode cX12_fit 16 = .ok (.getfield 81, 3) := by decide +kernel
theorem dX12_fit_19 : decode cX12_fit 19 = .ok (.iload_n 2, 1) := by decide +kernel
theorem dX12_fit_20 : decode cX12_fit 20 = .ok (.iaload, 1) := by decide +kernel
theorem dX12_fit_21 : decode cX12_fit 21 = .ok (.aload_n 0, 1) := by decide +kernel
theorem dX12_fit_22 : decode cX12_fit 22 = .ok (.getfield 199, 3) := by decide +kernel
theorem dX12_fit_25 : decode cX12_fit 25 = .ok (.iload_n 1, 1) := by decide +kernel
theorem dX12_fit_26 : decode cX12_fit 26 = .ok (.iaload, 1) := by decide +kernel
theorem dX12_fit_27 : decode cX12_fit 27 = .ok (.isub, 1) := by decide +kernel
theorem dX12_fit_28 : decode cX12_fit 28 = .ok (.goto 16, 3) := by decide +kernel
theorem dX12_fit_31 : decode cX12_fit 31 = .ok (.aload_n 0, 1) := by decide +kernel
theorem dX12_fit_32 : decode cX12_fit 32 = .ok (.getfield 199, 3) := by decide +kernel
theorem dX12_fit_35 : decode cX12_fit 35 = .ok (.iload_n 1, 1) := by decide +kernel
theorem dX12_fit_36 : decode cX12_fit 36 = .ok (.iaload, 1) := by decide +kernel
theorem dX12_fit_37 : decode cX12_fit 37 = .ok (.aload_n 0, 1) := by decide +kernel
theorem dX12_fit_38 : decode cX12_fit 38 = .ok (.getfield 81, 3) := by decide +kernel
theorem dX12_fit_41 : decode cX12_fit 41 = .ok (.iload_n 2, 1) := by decide +kernel
theorem dX12_fit_42 : decode cX12_fit 42 = .ok (.iaload, 1) := by decide +kernel
theorem dX12_fit_43 : decode cX12_fit 43 = .ok (.isub, 1) := by decide +kernel
theorem dX12_fit_44 : decode cX12_fit 44 = .ok (.istore 4, 2) := by decide +kernel
theorem dX12_fit_46 : decode cX12_fit 46 = .ok (.aload_n 0, 1) := by decide +kernel
theorem dX12_fit_47 : decode cX12_fit 47 = .ok (.getfield 90, 3) := by decide +kernel
theorem dX12_fit_50 : decode cX12_fit 50 = .ok (.iload_n 2, 1) := by decide +kernel
theorem dX12_fit_51 : decode cX12_fit 51 = .ok (.iaload, 1) := by decide +kernel
theorem dX12_fit_52 : decode cX12_fit 52 = .ok (.iload_n 3, 1) := by decide +kernel
theorem dX12_fit_53 : decode cX12_fit 53 = .ok (.if_icmp .gt 99, 3) := by decide +kernel
theorem dX12_fit_56 : decode cX12_fit 56 = .ok (.aload_n 0, 1) := by decide +kernel
theorem dX12_fit_57 : decode cX12_fit 57 = .ok (.iload_n 2, 1) := by decide +kernel
theorem dX12_fit_58 : decode cX12_fit 58 = .ok (.iload_n 3, 1) := by decide +kernel
theorem dX12_fit_59 : decode cX12_fit 59 = .ok (.invokevirtual 531, 3) := by decide +kernel
theorem dX12_fit_62 : decode cX12_fit 62 = .ok (.iconst (-1), 1) := by decide +kernel
theorem dX12_fit_63 : decode cX12_fit 63 = .ok (.if_icmp .eq 89, 3) := by decide +kernel
theorem dX12_fit_66 : decode cX12_fit 66 = .ok (.aload_n 0, 1) := by decide +kernel
theorem dX12_fit_67 : decode cX12_fit 67 = .ok (.getfield 16, 3) := by decide +kernel
theorem dX12_fit_70 : decode cX12_fit 70 = .ok (.aload_n 0, 1) := by decide +kernel
theorem dX12_fit_71 : decode cX12_fit 71 = .ok (.getfield 75, 3) := by decide +kernel
theorem dX12_fit_74 : decode cX12_fit 74 = .ok (.iload_n 2, 1) := by decide +kernel
theorem dX12_fit_75 : decode cX12_fit 75 = .ok (.iaload, 1) := by decide +kernel
theorem dX12_fit_76 : decode cX12_fit 76 = .ok (.laload, 1) := by decide +kernel
theorem dX12_fit_77 : decode cX12_fit 77 = .ok (.aload_n 0, 1) := by decide +kernel
theorem dX12_fit_78 : decode cX12_fit 78 = .ok (.getfield 208, 3) := by decide +kernel
theorem dX12_fit_81 : decode cX12_fit 81 = .ok (.iload_n 1, 1) := by decide +kernel
theorem dX12_fit_82 : decode cX12_fit 82 = .ok (.laload, 1) := by decide +kernel
theorem dX12_fit_83 : decode cX12_fit 83 = .ok (.lcmp, 1) := by decide +kernel
theorem dX12_fit_84 : decode cX12_fit 84 = .ok (.ifCond .ne 68, 3) := by decide +kernel
theorem dX12_fit_87 : decode cX12_fit 87 = .ok (.iload 4, 2) := by decide +kernel
theorem dX12_fit_89 : decode cX12_fit 89 = .ok (.iconst 3, 1) := by decide +kernel
theorem dX12_fit_90 : decode cX12_fit 90 = .ok (.if_icmp .gt 62, 3) := by decide +kernel
theorem dX12_fit_93 : decode cX12_fit 93 = .ok (.aload_n 0, 1) := by decide +kernel
theorem dX12_fit_94 : decode cX12_fit 94 = .ok (.getfield 121, 3) := by decide +kernel
theorem dX12_fit_97 : decode cX12_fit 97 = .ok (.aload_n 0, 1) := by decide +kernel
theorem dX12_fit_98 : decode cX12_fit 98 = .ok (.getfield 72, 3) := by decide +kernel
theorem dX12_fit_101 : decode cX12_fit 101 = .ok (.iload_n 2, 1) := by decide +kernel
theorem dX12_fit_102 : decode cX12_fit 102 = .ok (.iaload, 1) := by decide +kernel
theorem dX12_fit_103 : decode cX12_fit 103 = .ok (.iaload, 1) := by decide +kernel
theorem dX12_fit_104 : decode cX12_fit 104 = .ok (.aload_n 0, 1) := by decide +kernel
theorem dX12_fit_105 : decode cX12_fit 105 = .ok (.getfield 121, 3) := by decide +kernel
theorem dX12_fit_108 : decode cX12_fit 108 = .ok (.aload_n 0, 1) := by decide +kernel
theorem dX12_fit_109 : decode cX12_fit 109 = .ok (.getfield 196, 3) := by decide +kernel
theorem dX12_fit_112 : decode cX12_fit 112 = .ok (.iload_n 1, 1) := by decide +kernel
theorem dX12_fit_113 : decode cX12_fit 113 = .ok (.iaload, 1) := by decide +kernel
theorem dX12_fit_114 : decode cX12_fit 114 = .ok (.iaload, 1) := by decide +kernel
theorem dX12_fit_115 : decode cX12_fit 115 = .ok (.if_icmp .ne 37, 3) := by decide +kernel
theorem dX12_fit_118 : decode cX12_fit 118 = .ok (.aload_n 0, 1) := by decide +kernel
theorem dX12_fit_119 : decode cX12_fit 119 = .ok (.getfield 202, 3) := by decide +kernel
theorem dX12_fit_122 : decode cX12_fit 122 = .ok (.iload_n 1, 1) := by decide +kernel
theorem dX12_fit_123 : decode cX12_fit 123 = .ok (.iaload, 1) := by decide +kernel
theorem dX12_fit_124 : decode cX12_fit 124 = .ok (.aload_n 0, 1) := by decide +kernel
theorem dX12_fit_125 : decode cX12_fit 125 = .ok (.iload_n 2, 1) := by decide +kernel
theorem dX12_fit_126 : decode cX12_fit 126 = .ok (.iload_n 3, 1) := by decide +kernel
theorem dX12_fit_127 : decode cX12_fit 127 = .ok (.invokevirtual 509, 3) := by decide +kernel
theorem dX12_fit_130 : decode cX12_fit 130 = .ok (.if_icmp .lt 22, 3) := by decide +kernel
theorem dX12_fit_133 : decode cX12_fit 133 = .ok (.aload_n 0, 1) := by decide +kernel
theorem dX12_fit_134 : decode cX12_fit 134 = .ok (.getfield 202, 3) := by decide +kernel
theorem dX12_fit_137 : decode cX12_fit 137 = .ok (.iload_n 1, 1) := by decide +kernel
theorem dX12_fit_138 : decode cX12_fit 138 = .ok (.iaload, 1) := by decide +kernel
theorem dX12_fit_139 : decode cX12_fit 139 = .ok (.aload_n 0, 1) := by decide +kernel
theorem dX12_fit_140 : decode cX12_fit 140 = .ok (.iload_n 2, 1) := by decide +kernel
theorem dX12_fit_141 : decode cX12_fit 141 = .ok (.iload_n 3, 1) := by decide +kernel
theorem dX12_fit_142 : decode cX12_fit 142 = .ok (.invokevirtual 519, 3) := by decide +kernel
theorem dX12_fit_145 : decode cX12_fit 145 = .ok (.if_icmp .gt 7, 3) := by decide +kernel
theorem dX12_fit_148 : decode cX12_fit 148 = .ok (.iconst 1, 1) := by decide +kernel
theorem dX12_fit_149 : decode cX12_fit 149 = .ok (.goto 4, 3) := by decide +kernel
theorem dX12_fit_152 : decode cX12_fit 152 = .ok (.iconst 0, 1) := by decide +kernel
theorem dX12_fit_153 : decode cX12_fit 153 = .ok (.ireturn, 1) := by decide +kernel
theorem dX12_finds_0 : decode cX12_finds 0 = .ok (.iconst 0, 1) := by decide +kernel
theorem dX12_finds_1 : decode cX12_finds 1 = .ok (.istore_n 2, 1) := by decide +kernel
theorem dX12_finds_2 : decode cX12_finds 2 = .ok (.iload_n 2, 1) := by decide +kernel
theorem dX12_finds_3 : decode cX12_finds 3 = .ok (.aload_n 0, 1) := by decide +kernel
theorem dX12_finds_4 : decode cX12_finds 4 = .ok (.getfield 313, 3) := by decide +kernel
theorem dX12_finds_7 : decode cX12_finds 7 = .ok (.if_icmp .ge 16, 3) := by decide +kernel
theorem dX12_finds_10 : decode cX12_finds 10 = .ok (.aload_n 0, 1) := by decide +kernel
theorem dX12_finds_11 : decode cX12_finds 11 = .ok (.getfield 223, 3) := by decide +kernel
theorem dX12_finds_14 : decode cX12_finds 14 = .ok (.iload_n 2, 1) := by decide +kernel
theorem dX12_finds_15 : decode cX12_finds 15 = .ok (.iconst (-1), 1) := by decide +kernel
theorem dX12_finds_16 : decode cX12_finds 16 = .ok (.iastore, 1) := by decide +kernel
theorem dX12_finds_17 : decode cX12_finds 17 = .ok (.iinc 2 1, 3) := by decide +kernel
theorem dX12_finds_20 : decode cX12_finds 20 = .ok (.goto (-18), 3) := by decide +kernel
theorem dX12_finds_23 : decode cX12_finds 23 = .ok (.aload_n 0, 1) := by decide +kernel
theorem dX12_finds_24 : decode cX12_finds 24 = .ok (.getfield 226, 3) := by decide +kernel
theorem dX12_finds_27 : decode cX12_finds 27 = .ok (.iconst 0, 1) := by decide +kernel
theorem dX12_finds_28 : decode cX12_finds 28 = .ok (.iload_n 1, 1) := by decide +kernel
theorem dX12_finds_29 : decode cX12_finds 29 = .ok (.iastore, 1) := by decide +kernel
theorem dX12_finds_30 : decode cX12_finds 30 = .ok (.iconst 1, 1) := by decide +kernel
theorem dX12_finds_31 : decode cX12_finds 31 = .ok (.istore_n 2, 1) := by decide +kernel
theorem dX12_finds_32 : decode cX12_finds 32 = .ok (.iconst 0, 1) := by decide +kernel
theorem dX12_finds_33 : decode cX12_finds 33 = .ok (.istore_n 3, 1) := by decide +kernel
theorem dX12_finds_34 : decode cX12_finds 34 = .ok (.iload_n 3, 1) := by decide +kernel
theorem dX12_finds_35 : decode cX12_finds 35 = .ok (.iload_n 2, 1) := by decide +kernel
theorem dX12_finds_36 : decode cX12_finds 36 = .ok (.if_icmp .ge 123, 3) := by decide +kernel
theorem dX12_finds_39 : decode cX12_finds 39 = .ok (.iconst 0, 1) := by decide +kernel
theorem dX12_finds_40 : decode cX12_finds 40 = .ok (.istore 4, 2) := by decide +kernel
theorem dX12_finds_42 : decode cX12_finds 42 = .ok (.iload 4, 2) := by decide +kernel
theorem dX12_finds_44 : decode cX12_finds 44 = .ok (.aload_n 0, 1) := by decide +kernel
theorem dX12_finds_45 : decode cX12_finds 45 = .ok (.getfield 313, 3) := by decide +kernel
theorem dX12_finds_48 : decode cX12_finds 48 = .ok (.if_icmp .ge 105, 3) := by decide +kernel
theorem dX12_finds_51 : decode cX12_finds 51 = .ok (.aload_n 0, 1) := by decide +kernel
theorem dX12_finds_52 : decode cX12_finds 52 = .ok (.getfield 211, 3) := by decide +kernel
theorem dX12_finds_55 : decode cX12_finds 55 = .ok (.bipush 120, 2) := by decide +kernel
theorem dX12_finds_57 : decode cX12_finds 57 = .ok (.aload_n 0, 1) := by decide +kernel
theorem dX12_finds_58 : decode cX12_finds 58 = .ok (.getfield 226, 3) := by decide +kernel
theorem dX12_finds_61 : decode cX12_finds 61 = .ok (.iload_n 3, 1) := by decide +kernel
theorem dX12_finds_62 : decode cX12_finds 62 = .ok (.iaload, 1) := by decide +kernel
theorem dX12_finds_63 : decode cX12_finds 63 = .ok (.imul, 1) := by decide +kernel
theorem dX12_finds_64 : decode cX12_finds 64 = .ok (.iload 4, 2) := by decide +kernel
theorem dX12_finds_66 : decode cX12_finds 66 = .ok (.iadd, 1) := by decide +kernel
theorem dX12_finds_67 : decode cX12_finds 67 = .ok (.baload, 1) := by decide +kernel
theorem dX12_finds_68 : decode cX12_finds 68 = .ok (.ifCond .eq 79, 3) := by decide +kernel
theorem dX12_finds_71 : decode cX12_finds 71 = .ok (.aload_n 0, 1) := by decide +kernel
theorem dX12_finds_72 : decode cX12_finds 72 = .ok (.getfield 214, 3) := by decide +kernel
theorem dX12_finds_75 : decode cX12_finds 75 = .ok (.iload 4, 2) := by decide +kernel
theorem dX12_finds_77 : decode cX12_finds 77 = .ok (.baload, 1) := by decide +kernel
theorem dX12_finds_78 : decode cX12_finds 78 = .ok (.ifCond .ne 69, 3) := by decide +kernel
theorem dX12_finds_81 : decode cX12_finds 81 = .ok (.aload_n 0, 1) := by decide +kernel
theorem dX12_finds_82 : decode cX12_finds 82 = .ok (.getfield 223, 3) := by decide +kernel
theorem dX12_finds_85 : decode cX12_finds 85 = .ok (.iload 4, 2) := by decide +kernel
theorem dX12_finds_87 : decode cX12_finds 87 = .ok (.iaload, 1) := by decide +kernel
theorem dX12_finds_88 : decode cX12_finds 88 = .ok (.iconst (-1), 1) := by decide +kernel
theorem dX12_finds_89 : decode cX12_finds 89 = .ok (.if_icmp .eq 6, 3) := by decide +kernel
theorem dX12_finds_92 : decode cX12_finds 92 = .ok (.goto 55, 3) := by decide +kernel
theorem dX12_finds_95 : decode cX12_finds 95 = .ok (.aload_n 0, 1) := by decide +kernel
theorem dX12_finds_96 : decode cX12_finds 96 = .ok (.getfield 223, 3) := by decide +kernel
theorem dX12_finds_99 : decode cX12_finds 99 = .ok (.iload 4, 2) := by decide +kernel
theorem dX12_finds_101 : decode cX12_finds 101 = .ok (.aload_n 0, 1) := by decide +kernel
theorem dX12_finds_102 : decode cX12_finds 102 = .ok (.getfield 226, 3) := by decide +kernel
theorem dX12_finds_105 : decode cX12_finds 105 = .ok (.iload_n 3, 1) := by decide +kernel
theorem dX12_finds_106 : decode cX12_finds 106 = .ok (.iaload, 1) := by decide +kernel
theorem dX12_finds_107 : decode cX12_finds 107 = .ok (.iastore, 1) := by decide +kernel
theorem dX12_finds_108 : decode cX12_finds 108 = .ok (.aload_n 0, 1) := by decide +kernel
theorem dX12_finds_109 : decode cX12_finds 109 = .ok (.getfield 220, 3) := by decide +kernel
theorem dX12_finds_112 : decode cX12_finds 112 = .ok (.iload 4, 2) := by decide +kernel
theorem dX12_finds_114 : decode cX12_finds 114 = .ok (.iaload, 1) := by decide +kernel
theorem dX12_finds_115 : decode cX12_finds 115 = .ok (.iconst (-1), 1) := by decide +kernel
theorem dX12_finds_116 : decode cX12_finds 116 = .ok (.if_icmp .eq 22, 3) := by decide +kernel
theorem dX12_finds_119 : decode cX12_finds 119 = .ok (.aload_n 0, 1) := by decide +kernel
theorem dX12_finds_120 : decode cX12_finds 120 = .ok (.getfield 226, 3) := by decide +kernel
theorem dX12_finds_123 : decode cX12_finds 123 = .ok (.iload_n 2, 1) := by decide +kernel
theorem dX12_finds_124 : decode cX12_finds 124 = .ok (.aload_n 0, 1) := by decide +kernel
theorem dX12_finds_125 : decode cX12_finds 125 = .ok (.getfield 220, 3) := by decide +kernel
theorem dX12_finds_128 : decode cX12_finds 128 = .ok (.iload 4, 2) := by decide +kernel
theorem dX12_finds_130 : decode cX12_finds 130 = .ok (.iaload, 1) := by decide +kernel
theorem dX12_finds_131 : decode cX12_finds 131 = .ok (.iastore, 1) := by decide +kernel
theorem dX12_finds_132 : decode cX12_finds 132 = .ok (.iinc 2 1, 3) := by decide +kernel
theorem dX12_finds_135 : decode cX12_finds 135 = .ok (.goto 12, 3) := by decide +kernel
theorem dX12_finds_138 : decode cX12_finds 138 = .ok (.aload_n 0, 1) := by decide +kernel
theorem dX12_finds_139 : decode cX12_finds 139 = .ok (.iload 4, 2) := by decide +kernel
theorem dX12_finds_141 : decode cX12_finds 141 = .ok (.iload_n 1, 1) := by decide +kernel
theorem dX12_finds_142 : decode cX12_finds 142 = .ok (.invokevirtual 565, 3) := by decide +kernel
theorem dX12_finds_145 : decode cX12_finds 145 = .ok (.iconst 1, 1) := by decide +kernel
theorem dX12_finds_146 : decode cX12_finds 146 = .ok (.ireturn, 1) := by decide +kernel
theorem dX12_finds_147 : decode cX12_finds 147 = .ok (.iinc 4 1, 3) := by decide +kernel
theorem dX12_finds_150 : decode cX12_finds 150 = .ok (.goto (-108), 3) := by decide +kernel
theorem dX12_finds_153 : decode cX12_finds 153 = .ok (.iinc 3 1, 3) := by decide +kernel
theorem dX12_finds_156 : decode cX12_finds 156 = .ok (.goto (-122), 3) := by decide +kernel
theorem dX12_finds_159 : decode cX12_finds 159 = .ok (.iconst 0, 1) := by decide +kernel
theorem dX12_finds_160 : decode cX12_finds 160 = .ok (.ireturn, 1) := by decide +kernel
theorem dX12_change_0 : decode cX12_change 0 = .ok (.iload_n 1, 1) := by decide +kernel
theorem dX12_change_1 : decode cX12_change 1 = .ok (.istore_n 3, 1) := by decide +kernel
theorem dX12_change_2 : decode cX12_change 2 = .ok (.iconst 1, 1) := by decide +kernel
theorem dX12_change_3 : decode cX12_change 3 = .ok (.istore 4, 2) := by decide +kernel
theorem dX12_change_5 : decode cX12_change 5 = .ok (.iload 4, 2) := by decide +kernel
theorem dX12_change_7 : decode cX12_change 7 = .ok (.ifCond .eq 55, 3) := by decide +kernel
theorem dX12_change_10 : decode cX12_change 10 = .ok (.aload_n 0, 1) := by decide +kernel
theorem dX12_change_11 : decode cX12_change 11 = .ok (.getfield 223, 3) := by decide +kernel
theorem dX12_change_14 : decode cX12_change 14 = .ok (.iload_n 3, 1) := by decide +kernel
theorem dX12_change_15 : decode cX12_change 15 = .ok (.iaload, 1) := by decide +kernel
theorem dX12_change_16 : decode cX12_change 16 = .ok (.istore 5, 2) := by decide +kernel
theorem dX12_change_18 : decode cX12_change 18 = .ok (.aload_n 0, 1) := by decide +kernel
theorem dX12_change_19 : decode cX12_change 19 = .ok (.getfield 217, 3) := by decide +kernel
theorem dX12_change_22 : decode cX12_change 22 = .ok (.iload 5, 2) := by decide +kernel
theorem dX12_change_24 : decode cX12_change 24 = .ok (.iaload, 1) := by decide +kernel
theorem dX12_change_25 : decode cX12_change 25 = .ok (.istore 6, 2) := by decide +kernel
theorem dX12_change_27 : decode cX12_change 27 = .ok (.aload_n 0, 1) := by decide +kernel
theorem dX12_change_28 : decode cX12_change 28 = .ok (.getfield 217, 3) := by decide +kernel
theorem dX12_change_31 : decode cX12_change 31 = .ok (.iload 5, 2) := by decide +kernel
theorem dX12_change_33 : decode cX12_change 33 = .ok (.iload_n 3, 1) := by decide +kernel
theorem dX12_change_34 : decode cX12_change 34 = .ok (.iastore, 1) := by decide +kernel
theorem dX12_change_35 : decode cX12_change 35 = .ok (.aload_n 0, 1) := by decide +kernel
theorem dX12_change_36 : decode cX12_change 36 = .ok (.getfield 220, 3) := by decide +kernel
theorem dX12_change_39 : decode cX12_change 39 = .ok (.iload_n 3, 1) := by decide +kernel
theorem dX12_change_40 : decode cX12_change 40 = .ok (.iload 5, 2) := by decide +kernel
theorem dX12_change_42 : decode cX12_change 42 = .ok (.iastore, 1) := by decide +kernel
theorem dX12_change_43 : decode cX12_change 43 = .ok (.iload 5, 2) := by decide +kernel
theorem dX12_change_45 : decode cX12_change 45 = .ok (.iload_n 2, 1) := by decide +kernel
theorem dX12_change_46 : decode cX12_change 46 = .ok (.if_icmp .eq 7, 3) := by decide +kernel
theorem dX12_change_49 : decode cX12_change 49 = .ok (.iconst 1, 1) := by decide +kernel
theorem dX12_change_50 : decode cX12_change 50 = .ok (.goto 4, 3) := by decide +kernel
theorem dX12_change_53 : decode cX12_change 53 = .ok (.iconst 0, 1) := by decide +kernel
theorem dX12_change_54 : decode cX12_change 54 = .ok (.istore 4, 2) := by decide +kernel
theorem dX12_change_56 : decode cX12_change 56 = .ok (.iload 6, 2) := by decide +kernel
theorem dX12_change_58 : decode cX12_change 58 = .ok (.istore_n 3, 1) := by decide +kernel
theorem dX12_change_59 : decode cX12_change 59 = .ok (.goto (-54), 3) := by decide +kernel
theorem dX12_change_62 : decode cX12_change 62 = .ok (.return_, 1) := by decide +kernel
theorem dX12_join_0 : decode cX12_join 0 = .ok (.iconst 0, 1) := by decide +kernel
theorem dX12_join_1 : decode cX12_join 1 = .ok (.istore_n 2, 1) := by decide +kernel
theorem dX12_join_2 : decode cX12_join 2 = .ok (.iload_n 2, 1) := by decide +kernel
theorem dX12_join_3 : decode cX12_join 3 = .ok (.aload_n 0, 1) := by decide +kernel
theorem dX12_join_4 : decode cX12_join 4 = .ok (.getfield 313, 3) := by decide +kernel
theorem dX12_join_7 : decode cX12_join 7 = .ok (.if_icmp .ge 23, 3) := by decide +kernel
theorem dX12_join_10 : decode cX12_join 10 = .ok (.aload_n 0, 1) := by decide +kernel
theorem dX12_join_11 : decode cX12_join 11 = .ok (.getfield 220, 3) := by decide +kernel
theorem dX12_join_14 : decode cX12_join 14 = .ok (.iload_n 2, 1) := by decide +kernel
theorem dX12_join_15 : decode cX12_join 15 = .ok (.iconst (-1), 1) := by decide +kernel
theorem dX12_join_16 : decode cX12_join 16 = .ok (.iastore, 1) := by decide +kernel
theorem dX12_join_17 : decode cX12_join 17 = .ok (.aload_n 0, 1) := by decide +kernel
theorem dX12_join_18 : decode cX12_join 18 = .ok (.getfield 214, 3) := by decide +kernel
theorem dX12_join_21 : decode cX12_join 21 = .ok (.iload_n 2, 1) := by decide +kernel
theorem dX12_join_22 : decode cX12_join 22 = .ok (.iconst 0, 1) := by decide +kernel
theorem dX12_join_23 : decode cX12_join 23 = .ok (.bastore, 1) := by decide +kernel
theorem dX12_join_24 : decode cX12_join 24 = .ok (.iinc 2 1, 3) := by decide +kernel
theorem dX12_join_27 : decode cX12_join 27 = .ok (.goto (-25), 3) := by decide +kernel
theorem dX12_join_30 : decode cX12_join 30 = .ok (.iconst 0, 1) := by decide +kernel
theorem dX12_join_31 : decode cX12_join 31 = .ok (.istore_n 2, 1) := by decide +kernel
theorem dX12_join_32 : decode cX12_join 32 = .ok (.iload_n 2, 1) := by decide +kernel
theorem dX12_join_33 : decode cX12_join 33 = .ok (.aload_n 0, 1) := by decide +kernel
theorem dX12_join_34 : decode cX12_join 34 = .ok (.getfield 562, 3) := by decide +kernel
theorem dX12_join_37 : decode cX12_join 37 = .ok (.if_icmp .ge 97, 3) := by decide +kernel
theorem dX12_join_40 : decode cX12_join 40 = .ok (.aload_n 0, 1) := by decide +kernel
theorem dX12_join_41 : decode cX12_join 41 = .ok (.getfield 217, 3) := by decide +kernel
theorem dX12_join_44 : decode cX12_join 44 = .ok (.iload_n 2, 1) := by decide +kernel
theorem dX12_join_45 : decode cX12_join 45 = .ok (.iconst (-1), 1) := by decide +kernel
theorem dX12_join_46 : decode cX12_join 46 = .ok (.iastore, 1) := by decide +kernel
theorem dX12_join_47 : decode cX12_join 47 = .ok (.aload_n 0, 1) := by decide +kernel
theorem dX12_join_48 : decode cX12_join 48 = .ok (.getfield 205, 3) := by decide +kernel
theorem dX12_join_51 : decode cX12_join 51 = .ok (.iload_n 2, 1) := by decide +kernel
theorem dX12_join_52 : decode cX12_join 52 = .ok (.iaload, 1) := by decide +kernel
theorem dX12_join_53 : decode cX12_join 53 = .ok (.iload_n 1, 1) := by decide +kernel
theorem dX12_join_54 : decode cX12_join 54 = .ok (.if_icmp .gt 7, 3) := by decide +kernel
theorem dX12_join_57 : decode cX12_join 57 = .ok (.iconst 1, 1) := by decide +kernel
theorem dX12_join_58 : decode cX12_join 58 = .ok (.goto 4, 3) := by decide +kernel
theorem dX12_join_61 : decode cX12_join 61 = .ok (.iconst 0, 1) := by decide +kernel
theorem dX12_join_62 : decode cX12_join 62 = .ok (.istore_n 3, 1) := by decide +kernel
theorem dX12_join_63 : decode cX12_join 63 = .ok (.iload_n 3, 1) := by decide +kernel
theorem dX12_join_64 : decode cX12_join 64 = .ok (.ifCond .eq 14, 3) := by decide +kernel
theorem dX12_join_67 : decode cX12_join 67 = .ok (.aload_n 0, 1) := by decide +kernel
theorem dX12_join_68 : decode cX12_join 68 = .ok (.aload_n 0, 1) := by decide +kernel
theorem dX12_join_69 : decode cX12_join 69 = .ok (.getfield 199, 3) := by decide +kernel
theorem dX12_join_72 : decode cX12_join 72 = .ok (.iload_n 2, 1) := by decide +kernel
theorem dX12_join_73 : decode cX12_join 73 = .ok (.iaload, 1) := by decide +kernel
theorem dX12_join_74 : decode cX12_join 74 = .ok (.iload_n 1, 1) := by decide +kernel
theorem dX12_join_75 : decode cX12_join 75 = .ok (.invokevirtual 349, 3) := by decide +kernel
theorem dX12_join_78 : decode cX12_join 78 = .ok (.iconst 0, 1) := by decide +kernel
theorem dX12_join_79 : decode cX12_join 79 = .ok (.istore 4, 2) := by decide +kernel
theorem dX12_join_81 : decode cX12_join 81 = .ok (.iload 4, 2) := by decide +kernel
theorem dX12_join_83 : decode cX12_join 83 = .ok (.aload_n 0, 1) := by decide +kernel
theorem dX12_join_84 : decode cX12_join 84 = .ok (.getfield 313, 3) := by decide +kernel
theorem dX12_join_87 : decode cX12_join 87 = .ok (.if_icmp .ge 41, 3) := by decide +kernel
theorem dX12_join_90 : decode cX12_join 90 = .ok (.aload_n 0, 1) := by decide +kernel
theorem dX12_join_91 : decode cX12_join 91 = .ok (.getfield 211, 3) := by decide +kernel
theorem dX12_join_94 : decode cX12_join 94 = .ok (.bipush 120, 2) := by decide +kernel
theorem dX12_join_96 : decode cX12_join 96 = .ok (.iload_n 2, 1) := by decide +kernel
theorem dX12_join_97 : decode cX12_join 97 = .ok (.imul, 1) := by decide +kernel
theorem dX12_join_98 : decode cX12_join 98 = .ok (.iload 4, 2) := by decide +kernel
theorem dX12_join_100 : decode cX12_join 100 = .ok (.iadd, 1) := by decide +kernel
theorem dX12_join_101 : decode cX12_join 101 = .ok (.iload_n 3, 1) := by decide +kernel
theorem dX12_join_102 : decode cX12_join 102 = .ok (.ifCond .eq 18, 3) := by decide +kernel
theorem dX12_join_105 : decode cX12_join 105 = .ok (.aload_n 0, 1) := by decide +kernel
theorem dX12_join_106 : decode cX12_join 106 = .ok (.iload_n 2, 1) := by decide +kernel
theorem dX12_join_107 : decode cX12_join 107 = .ok (.iload 4, 2) := by decide +kernel
theorem dX12_join_109 : decode cX12_join 109 = .ok (.iload_n 1, 1) := by decide +kernel
theorem dX12_join_110 : decode cX12_join 110 = .ok (.invokevirtual 568, 3) := by decide +kernel
theorem dX12_join_113 : decode cX12_join 113 = .ok (.ifCond .eq 7, 3) := by decide +kernel
theorem dX12_join_116 : decode cX12_join 116 = .ok (.iconst 1, 1) := by decide +kernel
theorem dX12_join_117 : decode cX12_join 117 = .ok (.goto 4, 3) := by decide +kernel
theorem dX12_join_120 : decode cX12_join 120 = .ok (.iconst 0, 1) := by decide +kernel
theorem dX12_join_121 : decode cX12_join 121 = .ok (.bastore, 1) := by decide +kernel
theorem dX12_join_122 : decode cX12_join 122 = .ok (.iinc 4 1, 3) := by decide +kernel
theorem dX12_join_125 : decode cX12_join 125 = .ok (.goto (-44), 3) := by decide +kernel
theorem dX12_join_128 : decode cX12_join 128 = .ok (.iinc 2 1, 3) := by decide +kernel
theorem dX12_join_131 : decode cX12_join 131 = .ok (.goto (-99), 3) := by decide +kernel
theorem dX12_join_134 : decode cX12_join 134 = .ok (.iconst 0, 1) := by decide +kernel
theorem dX12_join_135 : decode cX12_join 135 = .ok (.istore_n 2, 1) := by decide +kernel
theorem dX12_join_136 : decode cX12_join 136 = .ok (.iload_n 2, 1) := by decide +kernel
theorem dX12_join_137 : decode cX12_join 137 = .ok (.aload_n 0, 1) := by decide +kernel
theorem dX12_join_138 : decode cX12_join 138 = .ok (.getfield 562, 3) := by decide +kernel
theorem dX12_join_141 : decode cX12_join 141 = .ok (.if_icmp .ge 15, 3) := by decide +kernel
theorem dX12_join_144 : decode cX12_join 144 = .ok (.aload_n 0, 1) := by decide +kernel
theorem dX12_join_145 : decode cX12_join 145 = .ok (.iload_n 2, 1) := by decide +kernel
theorem dX12_join_146 : decode cX12_join 146 = .ok (.invokevirtual 571, 3) := by decide +kernel
theorem dX12_join_149 : decode cX12_join 149 = .ok (.pop, 1) := by decide +kernel
theorem dX12_join_150 : decode cX12_join 150 = .ok (.iinc 2 1, 3) := by decide +kernel
theorem dX12_join_153 : decode cX12_join 153 = .ok (.goto (-17), 3) := by decide +kernel
theorem dX12_join_156 : decode cX12_join 156 = .ok (.iconst 0, 1) := by decide +kernel
theorem dX12_join_157 : decode cX12_join 157 = .ok (.istore_n 2, 1) := by decide +kernel
theorem dX12_join_158 : decode cX12_join 158 = .ok (.iload_n 2, 1) := by decide +kernel
theorem dX12_join_159 : decode cX12_join 159 = .ok (.aload_n 0, 1) := by decide +kernel
theorem dX12_join_160 : decode cX12_join 160 = .ok (.getfield 562, 3) := by decide +kernel
theorem dX12_join_163 : decode cX12_join 163 = .ok (.if_icmp .ge 36, 3) := by decide +kernel
theorem dX12_join_166 : decode cX12_join 166 = .ok (.aload_n 0, 1) := by decide +kernel
theorem dX12_join_167 : decode cX12_join 167 = .ok (.iload_n 2, 1) := by decide +kernel
theorem dX12_join_168 : decode cX12_join 168 = .ok (.invokevirtual 574, 3) := by decide +kernel
theorem dX12_join_171 : decode cX12_join 171 = .ok (.aload_n 0, 1) := by decide +kernel
theorem dX12_join_172 : decode cX12_join 172 = .ok (.getfield 217, 3) := by decide +kernel
theorem dX12_join_175 : decode cX12_join 175 = .ok (.iload_n 2, 1) := by decide +kernel
theorem dX12_join_176 : decode cX12_join 176 = .ok (.iaload, 1) := by decide +kernel
theorem dX12_join_177 : decode cX12_join 177 = .ok (.iconst (-1), 1) := by decide +kernel
theorem dX12_join_178 : decode cX12_join 178 = .ok (.if_icmp .eq 15, 3) := by decide +kernel
theorem dX12_join_181 : decode cX12_join 181 = .ok (.aload_n 0, 1) := by decide +kernel
theorem dX12_join_182 : decode cX12_join 182 = .ok (.getfield 214, 3) := by decide +kernel
theorem dX12_join_185 : decode cX12_join 185 = .ok (.aload_n 0, 1) := by decide +kernel
theorem dX12_join_186 : decode cX12_join 186 = .ok (.getfield 217, 3) := by decide +kernel
theorem dX12_join_189 : decode cX12_join 189 = .ok (.iload_n 2, 1) := by decide +kernel
theorem dX12_join_190 : decode cX12_join 190 = .ok (.iaload, 1) := by decide +kernel
theorem dX12_join_191 : decode cX12_join 191 = .ok (.iconst 1, 1) := by decide +kernel
theorem dX12_join_192 : decode cX12_join 192 = .ok (.bastore, 1) := by decide +kernel
theorem dX12_join_193 : decode cX12_join 193 = .ok (.iinc 2 1, 3) := by decide +kernel
theorem dX12_join_196 : decode cX12_join 196 = .ok (.goto (-38), 3) := by decide +kernel
theorem dX12_join_199 : decode cX12_join 199 = .ok (.return_, 1) := by decide +kernel
theorem dX12_findsBehind_0 : decode cX12_findsBehind 0 = .ok (.iload_n 1, 1) := by decide +kernel
theorem dX12_findsBehind_1 : decode cX12_findsBehind 1 = .ok (.iconst 1, 1) := by decide +kernel
theorem dX12_findsBehind_2 : decode cX12_findsBehind 2 = .ok (.iadd, 1) := by decide +kernel
theorem dX12_findsBehind_3 : decode cX12_findsBehind 3 = .ok (.istore_n 2, 1) := by decide +kernel
theorem dX12_findsBehind_4 : decode cX12_findsBehind 4 = .ok (.iload_n 2, 1) := by decide +kernel
theorem dX12_findsBehind_5 : decode cX12_findsBehind 5 = .ok (.aload_n 0, 1) := by decide +kernel
theorem dX12_findsBehind_6 : decode cX12_findsBehind 6 = .ok (.getfield 562, 3) := by decide +kernel
theorem dX12_findsBehind_9 : decode cX12_findsBehind 9 = .ok (.if_icmp .ge 29, 3) := by decide +kernel
theorem dX12_findsBehind_12 : decode cX12_findsBehind 12 = .ok (.aload_n 0, 1) := by decide +kernel
theorem dX12_findsBehind_13 : decode cX12_findsBehind 13 = .ok (.getfield 217, 3) := by decide +kernel
theorem dX12_findsBehind_16 : decode cX12_findsBehind 16 = .ok (.iload_n 2, 1) := by decide +kernel
theorem dX12_findsBehind_17 : decode cX12_findsBehind 17 = .ok (.iaload, 1) := by decide +kernel
theorem dX12_findsBehind_18 : decode cX12_findsBehind 18 = .ok (.iconst (-1), 1) := by decide +kernel
theorem dX12_findsBehind_19 : decode cX12_findsBehind 19 = .ok (.if_icmp .ne 13, 3) := by decide +kernel
theorem dX12_findsBehind_22 : decode cX12_findsBehind 22 = .ok (.aload_n 0, 1) := by decide +kernel
theorem dX12_findsBehind_23 : decode cX12_findsBehind 23 = .ok (.iload_n 2, 1) := by decide +kernel
theorem dX12_findsBehind_24 : decode cX12_findsBehind 24 = .ok (.invokevirtual 571, 3) := by decide +kernel
theorem dX12_findsBehind_27 : decode cX12_findsBehind 27 = .ok (.ifCond .eq 5, 3) := by decide +kernel
theorem dX12_findsBehind_30 : decode cX12_findsBehind 30 = .ok (.iconst 1, 1) := by decide +kernel
theorem dX12_findsBehind_31 : decode cX12_findsBehind 31 = .ok (.ireturn, 1) := by decide +kernel
theorem dX12_findsBehind_32 : decode cX12_findsBehind 32 = .ok (.iinc 2 1, 3) := by decide +kernel
theorem dX12_findsBehind_35 : decode cX12_findsBehind 35 = .ok (.goto (-31), 3) := by decide +kernel
theorem dX12_findsBehind_38 : decode cX12_findsBehind 38 = .ok (.iconst 0, 1) := by decide +kernel
theorem dX12_findsBehind_39 : decode cX12_findsBehind 39 = .ok (.ireturn, 1) := by decide +kernel
theorem dX12_lessen_0 : decode cX12_lessen 0 = .ok (.aload_n 0, 1) := by decide +kernel
theorem dX12_lessen_1 : decode cX12_lessen 1 = .ok (.getfield 217, 3) := by decide +kernel
theorem dX12_lessen_4 : decode cX12_lessen 4 = .ok (.iload_n 1, 1) := by decide +kernel
theorem dX12_lessen_5 : decode cX12_lessen 5 = .ok (.iaload, 1) := by decide +kernel
theorem dX12_lessen_6 : decode cX12_lessen 6 = .ok (.istore_n 2, 1) := by decide +kernel
theorem dX12_lessen_7 : decode cX12_lessen 7 = .ok (.iconst 0, 1) := by decide +kernel
theorem dX12_lessen_8 : decode cX12_lessen 8 = .ok (.istore_n 3, 1) := by decide +kernel
theorem dX12_lessen_9 : decode cX12_lessen 9 = .ok (.iload_n 3, 1) := by decide +kernel
theorem dX12_lessen_10 : decode cX12_lessen 10 = .ok (.aload_n 0, 1) := by decide +kernel
theorem dX12_lessen_11 : decode cX12_lessen 11 = .ok (.getfield 313, 3) := by decide +kernel
theorem dX12_lessen_14 : decode cX12_lessen 14 = .ok (.if_icmp .ge 159, 3) := by decide +kernel
theorem dX12_lessen_17 : decode cX12_lessen 17 = .ok (.iload_n 3, 1) := by decide +kernel
theorem dX12_lessen_18 : decode cX12_lessen 18 = .ok (.iload_n 2, 1) := by decide +kernel
theorem dX12_lessen_19 : decode cX12_lessen 19 = .ok (.if_icmp .eq 154, 3) := by decide +kernel
theorem dX12_lessen_22 : decode cX12_lessen 22 = .ok (.aload_n 0, 1) := by decide +kernel
theorem dX12_lessen_23 : decode cX12_lessen 23 = .ok (.getfield 211, 3) := by decide +kernel
theorem dX12_lessen_26 : decode cX12_lessen 26 = .ok (.bipush 120, 2) := by decide +kernel
theorem dX12_lessen_28 : decode cX12_lessen 28 = .ok (.iload_n 1, 1) := by decide +kernel
theorem dX12_lessen_29 : decode cX12_lessen 29 = .ok (.imul, 1) := by decide +kernel
theorem dX12_lessen_30 : decode cX12_lessen 30 = .ok (.iload_n 3, 1) := by decide +kernel
theorem dX12_lessen_31 : decode cX12_lessen 31 = .ok (.iadd, 1) := by decide +kernel
theorem dX12_lessen_32 : decode cX12_lessen 32 = .ok (.baload, 1) := by decide +kernel
theorem dX12_lessen_33 : decode cX12_lessen 33 = .ok (.ifCond .eq 134, 3) := by decide +kernel
theorem dX12_lessen_36 : decode cX12_lessen 36 = .ok (.aload_n 0, 1) := by decide +kernel
theorem dX12_lessen_37 : decode cX12_lessen 37 = .ok (.getfield 214, 3) := by decide +kernel
theorem dX12_lessen_40 : decode cX12_lessen 40 = .ok (.iload_n 3, 1) := by decide +kernel
theorem dX12_lessen_41 : decode cX12_lessen 41 = .ok (.baload, 1) := by decide +kernel
theorem dX12_lessen_42 : decode cX12_lessen 42 = .ok (.ifCond .eq 6, 3) := by decide +kernel
theorem dX12_lessen_45 : decode cX12_lessen 45 = .ok (.goto 122, 3) := by decide +kernel
theorem dX12_lessen_48 : decode cX12_lessen 48 = .ok (.aload_n 0, 1) := by decide +kernel
theorem dX12_lessen_49 : decode cX12_lessen 49 = .ok (.getfield 220, 3) := by decide +kernel
theorem dX12_lessen_52 : decode cX12_lessen 52 = .ok (.iload_n 3, 1) := by decide +kernel
theorem dX12_lessen_53 : decode cX12_lessen 53 = .ok (.iaload, 1) := by decide +kernel
theorem dX12_lessen_54 : decode cX12_lessen 54 = .ok (.istore 4, 2) := by decide +kernel
theorem dX12_lessen_56 : decode cX12_lessen 56 = .ok (.aload_n 0, 1) := by decide +kernel
theorem dX12_lessen_57 : decode cX12_lessen 57 = .ok (.getfield 217, 3) := by decide +kernel
theorem dX12_lessen_60 : decode cX12_lessen 60 = .ok (.iload_n 1, 1) := by decide +kernel
theorem dX12_lessen_61 : decode cX12_lessen 61 = .ok (.iload_n 3, 1) := by decide +kernel
theorem dX12_lessen_62 : decode cX12_lessen 62 = .ok (.iastore, 1) := by decide +kernel
theorem dX12_lessen_63 : decode cX12_lessen 63 = .ok (.aload_n 0, 1) := by decide +kernel
theorem dX12_lessen_64 : decode cX12_lessen 64 = .ok (.getfield 220, 3) := by decide +kernel
theorem dX12_lessen_67 : decode cX12_lessen 67 = .ok (.iload_n 3, 1) := by decide +kernel
theorem dX12_lessen_68 : decode cX12_lessen 68 = .ok (.iload_n 1, 1) := by decide +kernel
theorem dX12_lessen_69 : decode cX12_lessen 69 = .ok (.iastore, 1) := by decide +kernel
theorem dX12_lessen_70 : decode cX12_lessen 70 = .ok (.iload_n 2, 1) := by decide +kernel
theorem dX12_lessen_71 : decode cX12_lessen 71 = .ok (.iconst (-1), 1) := by decide +kernel
theorem dX12_lessen_72 : decode cX12_lessen 72 = .ok (.if_icmp .eq 10, 3) := by decide +kernel
theorem dX12_lessen_75 : decode cX12_lessen 75 = .ok (.aload_n 0, 1) := by decide +kernel
theorem dX12_lessen_76 : decode cX12_lessen 76 = .ok (.getfield 220, 3) := by decide +kernel
theorem dX12_lessen_79 : decode cX12_lessen 79 = .ok (.iload_n 2, 1) := by decide +kernel
theorem dX12_lessen_80 : decode cX12_lessen 80 = .ok (.iconst (-1), 1) := by decide +kernel
theorem dX12_lessen_81 : decode cX12_lessen 81 = .ok (.iastore, 1) := by decide +kernel
theorem dX12_lessen_82 : decode cX12_lessen 82 = .ok (.iload 4, 2) := by decide +kernel
theorem dX12_lessen_84 : decode cX12_lessen 84 = .ok (.iconst (-1), 1) := by decide +kernel
theorem dX12_lessen_85 : decode cX12_lessen 85 = .ok (.if_icmp .ne 4, 3) := by decide +kernel
theorem dX12_lessen_88 : decode cX12_lessen 88 = .ok (.return_, 1) := by decide +kernel
theorem dX12_lessen_89 : decode cX12_lessen 89 = .ok (.aload_n 0, 1) := by decide +kernel
theorem dX12_lessen_90 : decode cX12_lessen 90 = .ok (.getfield 217, 3) := by decide +kernel
theorem dX12_lessen_93 : decode cX12_lessen 93 = .ok (.iload 4, 2) := by decide +kernel
theorem dX12_lessen_95 : decode cX12_lessen 95 = .ok (.iconst (-1), 1) := by decide +kernel
theorem dX12_lessen_96 : decode cX12_lessen 96 = .ok (.iastore, 1) := by decide +kernel
theorem dX12_lessen_97 : decode cX12_lessen 97 = .ok (.aload_n 0, 1) := by decide +kernel
theorem dX12_lessen_98 : decode cX12_lessen 98 = .ok (.getfield 214, 3) := by decide +kernel
theorem dX12_lessen_101 : decode cX12_lessen 101 = .ok (.iload_n 3, 1) := by decide +kernel
theorem dX12_lessen_102 : decode cX12_lessen 102 = .ok (.iconst 1, 1) := by decide +kernel
theorem dX12_lessen_103 : decode cX12_lessen 103 = .ok (.bastore, 1) := by decide +kernel
theorem dX12_lessen_104 : decode cX12_lessen 104 = .ok (.iload_n 2, 1) := by decide +kernel
theorem dX12_lessen_105 : decode cX12_lessen 105 = .ok (.iconst (-1), 1) := by decide +kernel
theorem dX12_lessen_106 : decode cX12_lessen 106 = .ok (.if_icmp .eq 11, 3) := by decide +kernel
theorem dX12_lessen_109 : decode cX12_lessen 109 = .ok (.aload_n 0, 1) := by decide +kernel
theorem dX12_lessen_110 : decode cX12_lessen 110 = .ok (.iload_n 1, 1) := by decide +kernel
theorem dX12_lessen_111 : decode cX12_lessen 111 = .ok (.invokevirtual 577, 3) := by decide +kernel
theorem dX12_lessen_114 : decode cX12_lessen 114 = .ok (.ifCond .eq 7, 3) := by decide +kernel
theorem dX12_lessen_117 : decode cX12_lessen 117 = .ok (.iconst 1, 1) := by decide +kernel
theorem dX12_lessen_118 : decode cX12_lessen 118 = .ok (.goto 4, 3) := by decide +kernel
theorem dX12_lessen_121 : decode cX12_lessen 121 = .ok (.iconst 0, 1) := by decide +kernel
theorem dX12_lessen_122 : decode cX12_lessen 122 = .ok (.istore 5, 2) := by decide +kernel
theorem dX12_lessen_124 : decode cX12_lessen 124 = .ok (.aload_n 0, 1) := by decide +kernel
theorem dX12_lessen_125 : decode cX12_lessen 125 = .ok (.getfield 214, 3) := by decide +kernel
theorem dX12_lessen_128 : decode cX12_lessen 128 = .ok (.iload_n 3, 1) := by decide +kernel
theorem dX12_lessen_129 : decode cX12_lessen 129 = .ok (.iconst 0, 1) := by decide +kernel
theorem dX12_lessen_130 : decode cX12_lessen 130 = .ok (.bastore, 1) := by decide +kernel
theorem dX12_lessen_131 : decode cX12_lessen 131 = .ok (.iload 5, 2) := by decide +kernel
theorem dX12_lessen_133 : decode cX12_lessen 133 = .ok (.ifCond .eq 4, 3) := by decide +kernel
theorem dX12_lessen_136 : decode cX12_lessen 136 = .ok (.return_, 1) := by decide +kernel
theorem dX12_lessen_137 : decode cX12_lessen 137 = .ok (.aload_n 0, 1) := by decide +kernel
theorem dX12_lessen_138 : decode cX12_lessen 138 = .ok (.getfield 217, 3) := by decide +kernel
theorem dX12_lessen_141 : decode cX12_lessen 141 = .ok (.iload 4, 2) := by decide +kernel
theorem dX12_lessen_143 : decode cX12_lessen 143 = .ok (.iload_n 3, 1) := by decide +kernel
theorem dX12_lessen_144 : decode cX12_lessen 144 = .ok (.iastore, 1) := by decide +kernel
theorem dX12_lessen_145 : decode cX12_lessen 145 = .ok (.aload_n 0, 1) := by decide +kernel
theorem dX12_lessen_146 : decode cX12_lessen 146 = .ok (.getfield 220, 3) := by decide +kernel
theorem dX12_lessen_149 : decode cX12_lessen 149 = .ok (.iload_n 3, 1) := by decide +kernel
theorem dX12_lessen_150 : decode cX12_lessen 150 = .ok (.iload 4, 2) := by decide +kernel
theorem dX12_lessen_152 : decode cX12_lessen 152 = .ok (.iastore, 1) := by decide +kernel
theorem dX12_lessen_153 : decode cX12_lessen 153 = .ok (.aload_n 0, 1) := by decide +kernel
theorem dX12_lessen_154 : decode cX12_lessen 154 = .ok (.getfield 217, 3) := by decide +kernel
theorem dX12_lessen_157 : decode cX12_lessen 157 = .ok (.iload_n 1, 1) := by decide +kernel
theorem dX12_lessen_158 : decode cX12_lessen 158 = .ok (.iload_n 2, 1) := by decide +kernel
theorem dX12_lessen_159 : decode cX12_lessen 159 = .ok (.iastore, 1) := by decide +kernel
theorem dX12_lessen_160 : decode cX12_lessen 160 = .ok (.aload_n 0, 1) := by decide +kernel
theorem dX12_lessen_161 : decode cX12_lessen 161 = .ok (.getfield 220, 3) := by decide +kernel
theorem dX12_lessen_164 : decode cX12_lessen 164 = .ok (.iload_n 2, 1) := by decide +kernel
theorem dX12_lessen_165 : decode cX12_lessen 165 = .ok (.iload_n 1, 1) := by decide +kernel
theorem dX12_lessen_166 : decode cX12_lessen 166 = .ok (.iastore, 1) := by decide +kernel
theorem dX12_lessen_167 : decode cX12_lessen 167 = .ok (.iinc 3 1, 3) := by decide +kernel
theorem dX12_lessen_170 : decode cX12_lessen 170 = .ok (.goto (-161), 3) := by decide +kernel
theorem dX12_lessen_173 : decode cX12_lessen 173 = .ok (.return_, 1) := by decide +kernel
theorem dX12_joined_0 : decode cX12_joined 0 = .ok (.aload_n 0, 1) := by decide +kernel
theorem dX12_joined_1 : decode cX12_joined 1 = .ok (.iconst 0, 1) := by decide +kernel
theorem dX12_joined_2 : decode cX12_joined 2 = .ok (.putfield 244, 3) := by decide +kernel
theorem dX12_joined_5 : decode cX12_joined 5 = .ok (.aload_n 0, 1) := by decide +kernel
theorem dX12_joined_6 : decode cX12_joined 6 = .ok (.iload_n 1, 1) := by decide +kernel
theorem dX12_joined_7 : decode cX12_joined 7 = .ok (.invokevirtual 580, 3) := by decide +kernel
theorem dX12_joined_10 : decode cX12_joined 10 = .ok (.iconst 0, 1) := by decide +kernel
theorem dX12_joined_11 : decode cX12_joined 11 = .ok (.istore_n 2, 1) := by decide +kernel
theorem dX12_joined_12 : decode cX12_joined 12 = .ok (.iconst 0, 1) := by decide +kernel
theorem dX12_joined_13 : decode cX12_joined 13 = .ok (.istore_n 3, 1) := by decide +kernel
theorem dX12_joined_14 : decode cX12_joined 14 = .ok (.iload_n 3, 1) := by decide +kernel
theorem dX12_joined_15 : decode cX12_joined 15 = .ok (.aload_n 0, 1) := by decide +kernel
theorem dX12_joined_16 : decode cX12_joined 16 = .ok (.getfield 562, 3) := by decide +kernel
theorem dX12_joined_19 : decode cX12_joined 19 = .ok (.if_icmp .ge 22, 3) := by decide +kernel
theorem dX12_joined_22 : decode cX12_joined 22 = .ok (.aload_n 0, 1) := by decide +kernel
theorem dX12_joined_23 : decode cX12_joined 23 = .ok (.getfield 217, 3) := by decide +kernel
theorem dX12_joined_26 : decode cX12_joined 26 = .ok (.iload_n 3, 1) := by decide +kernel
theorem dX12_joined_27 : decode cX12_joined 27 = .ok (.iaload, 1) := by decide +kernel
theorem dX12_joined_28 : decode cX12_joined 28 = .ok (.iconst (-1), 1) := by decide +kernel
theorem dX12_joined_29 : decode cX12_joined 29 = .ok (.if_icmp .eq 6, 3) := by decide +kernel
theorem dX12_joined_32 : decode cX12_joined 32 = .ok (.iinc 2 1, 3) := by decide +kernel
theorem dX12_joined_35 : decode cX12_joined 35 = .ok (.iinc 3 1, 3) := by decide +kernel
theorem dX12_joined_38 : decode cX12_joined 38 = .ok (.goto (-24), 3) := by decide +kernel
theorem dX12_joined_41 : decode cX12_joined 41 = .ok (.iload_n 2, 1) := by decide +kernel
theorem dX12_joined_42 : decode cX12_joined 42 = .ok (.ireturn, 1) := by decide +kernel
theorem dX12_entered_0 : decode cX12_entered 0 = .ok (.iload_n 1, 1) := by decide +kernel
theorem dX12_entered_1 : decode cX12_entered 1 = .ok (.ifCond .lt 30, 3) := by decide +kernel
theorem dX12_entered_4 : decode cX12_entered 4 = .ok (.iload_n 1, 1) := by decide +kernel
theorem dX12_entered_5 : decode cX12_entered 5 = .ok (.aload_n 0, 1) := by decide +kernel
theorem dX12_entered_6 : decode cX12_entered 6 = .ok (.getfield 562, 3) := by decide +kernel
theorem dX12_entered_9 : decode cX12_entered 9 = .ok (.if_icmp .ge 22, 3) := by decide +kernel
theorem dX12_entered_12 : decode cX12_entered 12 = .ok (.aload_n 0, 1) := by decide +kernel
theorem dX12_entered_13 : decode cX12_entered 13 = .ok (.getfield 205, 3) := by decide +kernel
theorem dX12_entered_16 : decode cX12_entered 16 = .ok (.iload_n 1, 1) := by decide +kernel
theorem dX12_entered_17 : decode cX12_entered 17 = .ok (.iaload, 1) := by decide +kernel
theorem dX12_entered_18 : decode cX12_entered 18 = .ok (.iload_n 2, 1) := by decide +kernel
theorem dX12_entered_19 : decode cX12_entered 19 = .ok (.if_icmp .gt 12, 3) := by decide +kernel
theorem dX12_entered_22 : decode cX12_entered 22 = .ok (.iload_n 3, 1) := by decide +kernel
theorem dX12_entered_23 : decode cX12_entered 23 = .ok (.ifCond .lt 8, 3) := by decide +kernel
theorem dX12_entered_26 : decode cX12_entered 26 = .ok (.iload_n 3, 1) := by decide +kernel
theorem dX12_entered_27 : decode cX12_entered 27 = .ok (.iconst 2, 1) := by decide +kernel
theorem dX12_entered_28 : decode cX12_entered 28 = .ok (.if_icmp .le 8, 3) := by decide +kernel
theorem dX12_entered_31 : decode cX12_entered 31 = .ok (.aload_n 0, 1) := by decide +kernel
theorem dX12_entered_32 : decode cX12_entered 32 = .ok (.invokevirtual 368, 3) := by decide +kernel
theorem dX12_entered_35 : decode cX12_entered 35 = .ok (.ireturn, 1) := by decide +kernel
theorem dX12_entered_36 : decode cX12_entered 36 = .ok (.aload_n 0, 1) := by decide +kernel
theorem dX12_entered_37 : decode cX12_entered 37 = .ok (.iconst 0, 1) := by decide +kernel
theorem dX12_entered_38 : decode cX12_entered 38 = .ok (.putfield 244, 3) := by decide +kernel
theorem dX12_entered_41 : decode cX12_entered 41 = .ok (.iconst 0, 1) := by decide +kernel
theorem dX12_entered_42 : decode cX12_entered 42 = .ok (.istore 4, 2) := by decide +kernel
theorem dX12_entered_44 : decode cX12_entered 44 = .ok (.iconst 0, 1) := by decide +kernel
theorem dX12_entered_45 : decode cX12_entered 45 = .ok (.istore 5, 2) := by decide +kernel
theorem dX12_entered_47 : decode cX12_entered 47 = .ok (.iload 5, 2) := by decide +kernel
theorem dX12_entered_49 : decode cX12_entered 49 = .ok (.aload_n 0, 1) := by decide +kernel
theorem dX12_entered_50 : decode cX12_entered 50 = .ok (.getfield 273, 3) := by decide +kernel
theorem dX12_entered_53 : decode cX12_entered 53 = .ok (.if_icmp .ge 39, 3) := by decide +kernel
theorem dX12_entered_56 : decode cX12_entered 56 = .ok (.aload_n 0, 1) := by decide +kernel
theorem dX12_entered_57 : decode cX12_entered 57 = .ok (.getfield 13, 3) := by decide +kernel
theorem dX12_entered_60 : decode cX12_entered 60 = .ok (.iload 5, 2) := by decide +kernel
theorem dX12_entered_62 : decode cX12_entered 62 = .ok (.iaload, 1) := by decide +kernel
theorem dX12_entered_63 : decode cX12_entered 63 = .ok (.ifCond .ne 23, 3) := by decide +kernel
theorem dX12_entered_66 : decode cX12_entered 66 = .ok (.aload_n 0, 1) := by decide +kernel
theorem dX12_entered_67 : decode cX12_entered 67 = .ok (.getfield 16, 3) := by decide +kernel
theorem dX12_entered_70 : decode cX12_entered 70 = .ok (.iload 5, 2) := by decide +kernel
theorem dX12_entered_72 : decode cX12_entered 72 = .ok (.laload, 1) := by decide +kernel
theorem dX12_entered_73 : decode cX12_entered 73 = .ok (.aload_n 0, 1) := by decide +kernel
theorem dX12_entered_74 : decode cX12_entered 74 = .ok (.getfield 208, 3) := by decide +kernel
theorem dX12_entered_77 : decode cX12_entered 77 = .ok (.iload_n 1, 1) := by decide +kernel
theorem dX12_entered_78 : decode cX12_entered 78 = .ok (.laload, 1) := by decide +kernel
theorem dX12_entered_79 : decode cX12_entered 79 = .ok (.lcmp, 1) := by decide +kernel
theorem dX12_entered_80 : decode cX12_entered 80 = .ok (.ifCond .ne 6, 3) := by decide +kernel
theorem dX12_entered_83 : decode cX12_entered 83 = .ok (.iinc 4 1, 3) := by decide +kernel
theorem dX12_entered_86 : decode cX12_entered 86 = .ok (.iinc 5 1, 3) := by decide +kernel
theorem dX12_entered_89 : decode cX12_entered 89 = .ok (.goto (-42), 3) := by decide +kernel
theorem dX12_entered_92 : decode cX12_entered 92 = .ok (.iload_n 3, 1) := by decide +kernel
theorem dX12_entered_93 : decode cX12_entered 93 = .ok (.ifCond .le 25, 3) := by decide +kernel
theorem dX12_entered_96 : decode cX12_entered 96 = .ok (.iload_n 3, 1) := by decide +kernel
theorem dX12_entered_97 : decode cX12_entered 97 = .ok (.iconst 1, 1) := by decide +kernel
theorem dX12_entered_98 : decode cX12_entered 98 = .ok (.if_icmp .ne 17, 3) := by decide +kernel
theorem dX12_entered_101 : decode cX12_entered 101 = .ok (.iload 4, 2) := by decide +kernel
theorem dX12_entered_103 : decode cX12_entered 103 = .ok (.iconst 1, 1) := by decide +kernel
theorem dX12_entered_104 : decode cX12_entered 104 = .ok (.if_icmp .ne 7, 3) := by decide +kernel
theorem dX12_entered_107 : decode cX12_entered 107 = .ok (.iconst 0, 1) := by decide +kernel
theorem dX12_entered_108 : decode cX12_entered 108 = .ok (.goto 9, 3) := by decide +kernel
theorem dX12_entered_111 : decode cX12_entered 111 = .ok (.iconst 1, 1) := by decide +kernel
theorem dX12_entered_112 : decode cX12_entered 112 = .ok (.goto 5, 3) := by decide +kernel
theorem dX12_entered_115 : decode cX12_entered 115 = .ok (.iload 4, 2) := by decide +kernel
theorem dX12_entered_117 : decode cX12_entered 117 = .ok (.ireturn, 1) := by decide +kernel
theorem dX12_entered_118 : decode cX12_entered 118 = .ok (.aload_n 0, 1) := by decide +kernel
theorem dX12_entered_119 : decode cX12_entered 119 = .ok (.iload_n 2, 1) := by decide +kernel
theorem dX12_entered_120 : decode cX12_entered 120 = .ok (.invokevirtual 580, 3) := by decide +kernel
theorem dX12_entered_123 : decode cX12_entered 123 = .ok (.aload_n 0, 1) := by decide +kernel
theorem dX12_entered_124 : decode cX12_entered 124 = .ok (.getfield 217, 3) := by decide +kernel
theorem dX12_entered_127 : decode cX12_entered 127 = .ok (.iload_n 1, 1) := by decide +kernel
theorem dX12_entered_128 : decode cX12_entered 128 = .ok (.iaload, 1) := by decide +kernel
theorem dX12_entered_129 : decode cX12_entered 129 = .ok (.ireturn, 1) := by decide +kernel
theorem dX12_vote_0 : decode cX12_vote 0 = .ok (.aload_n 0, 1) := by decide +kernel
theorem dX12_vote_1 : decode cX12_vote 1 = .ok (.iconst 0, 1) := by decide +kernel
theorem dX12_vote_2 : decode cX12_vote 2 = .ok (.putfield 244, 3) := by decide +kernel
theorem dX12_vote_5 : decode cX12_vote 5 = .ok (.aload_n 0, 1) := by decide +kernel
theorem dX12_vote_6 : decode cX12_vote 6 = .ok (.iload_n 1, 1) := by decide +kernel
theorem dX12_vote_7 : decode cX12_vote 7 = .ok (.invokevirtual 555, 3) := by decide +kernel
theorem dX12_vote_10 : decode cX12_vote 10 = .ok (.ifCond .eq 29, 3) := by decide +kernel
theorem dX12_vote_13 : decode cX12_vote 13 = .ok (.aload_n 0, 1) := by decide +kernel
theorem dX12_vote_14 : decode cX12_vote 14 = .ok (.iload_n 2, 1) := by decide +kernel
theorem dX12_vote_15 : decode cX12_vote 15 = .ok (.invokevirtual 299, 3) := by decide +kernel
theorem dX12_vote_18 : decode cX12_vote 18 = .ok (.ifCond .eq 21, 3) := by decide +kernel
theorem dX12_vote_21 : decode cX12_vote 21 = .ok (.aload_n 0, 1) := by decide +kernel
theorem dX12_vote_22 : decode cX12_vote 22 = .ok (.iload_n 2, 1) := by decide +kernel
theorem dX12_vote_23 : decode cX12_vote 23 = .ok (.invokevirtual 546, 3) := by decide +kernel
theorem dX12_vote_26 : decode cX12_vote 26 = .ok (.ifCond .eq 13, 3) := by decide +kernel
theorem dX12_vote_29 : decode cX12_vote 29 = .ok (.aload_n 0, 1) := by decide +kernel
theorem dX12_vote_30 : decode cX12_vote 30 = .ok (.getfield 583, 3) := by decide +kernel
theorem dX12_vote_33 : decode cX12_vote 33 = .ok (.sipush 200, 3) := by decide +kernel
theorem dX12_vote_36 : decode cX12_vote 36 = .ok (.if_icmp .ne 5, 3) := by decide +kernel
theorem dX12_vote_39 : decode cX12_vote 39 = .ok (.iconst (-1), 1) := by decide +kernel
theorem dX12_vote_40 : decode cX12_vote 40 = .ok (.ireturn, 1) := by decide +kernel
theorem dX12_vote_41 : decode cX12_vote 41 = .ok (.iconst 0, 1) := by decide +kernel
theorem dX12_vote_42 : decode cX12_vote 42 = .ok (.istore 4, 2) := by decide +kernel
theorem dX12_vote_44 : decode cX12_vote 44 = .ok (.iload 4, 2) := by decide +kernel
theorem dX12_vote_46 : decode cX12_vote 46 = .ok (.aload_n 0, 1) := by decide +kernel
theorem dX12_vote_47 : decode cX12_vote 47 = .ok (.getfield 583, 3) := by decide +kernel
theorem dX12_vote_50 : decode cX12_vote 50 = .ok (.if_icmp .ge 33, 3) := by decide +kernel
theorem dX12_vote_53 : decode cX12_vote 53 = .ok (.aload_n 0, 1) := by decide +kernel
theorem dX12_vote_54 : decode cX12_vote 54 = .ok (.getfield 229, 3) := by decide +kernel
theorem dX12_vote_57 : decode cX12_vote 57 = .ok (.iload 4, 2) := by decide +kernel
theorem dX12_vote_59 : decode cX12_vote 59 = .ok (.iaload, 1) := by decide +kernel
theorem dX12_vote_60 : decode cX12_vote 60 = .ok (.iload_n 1, 1) := by decide +kernel
theorem dX12_vote_61 : decode cX12_vote 61 = .ok (.if_icmp .ne 16, 3) := by decide +kernel
theorem dX12_vote_64 : decode cX12_vote 64 = .ok (.aload_n 0, 1) := by decide +kernel
theorem dX12_vote_65 : decode cX12_vote 65 = .ok (.getfield 232, 3) := by decide +kernel
theorem dX12_vote_68 : decode cX12_vote 68 = .ok (.iload 4, 2) := by decide +kernel
theorem dX12_vote_70 : decode cX12_vote 70 = .ok (.iaload, 1) := by decide +kernel
theorem dX12_vote_71 : decode cX12_vote 71 = .ok (.iload_n 2, 1) := by decide +kernel
theorem dX12_vote_72 : decode cX12_vote 72 = .ok (.if_icmp .ne 5, 3) := by decide +kernel
theorem dX12_vote_75 : decode cX12_vote 75 = .ok (.iconst (-1), 1) := by decide +kernel
theorem dX12_vote_76 : decode cX12_vote 76 = .ok (.ireturn, 1) := by decide +kernel
theorem dX12_vote_77 : decode cX12_vote 77 = .ok (.iinc 4 1, 3) := by decide +kernel
theorem dX12_vote_80 : decode cX12_vote 80 = .ok (.goto (-36), 3) := by decide +kernel
theorem dX12_vote_83 : decode cX12_vote 83 = .ok (.aload_n 0, 1) := by decide +kernel
theorem dX12_vote_84 : decode cX12_vote 84 = .ok (.getfield 229, 3) := by decide +kernel
theorem dX12_vote_87 : decode cX12_vote 87 = .ok (.aload_n 0, 1) := by decide +kernel
theorem dX12_vote_88 : decode cX12_vote 88 = .ok (.getfield 583, 3) := by decide +kernel
theorem dX12_vote_91 : decode cX12_vote 91 = .ok (.iload_n 1, 1) := by decide +kernel
theorem dX12_vote_92 : decode cX12_vote 92 = .ok (.iastore, 1) := by decide +kernel
theorem dX12_vote_93 : decode cX12_vote 93 = .ok (.aload_n 0, 1) := by decide +kernel
theorem dX12_vote_94 : decode cX12_vote 94 = .ok (.getfield 232, 3) := by decide +kernel
theorem dX12_vote_97 : decode cX12_vote 97 = .ok (.aload_n 0, 1) := by decide +kernel
theorem dX12_vote_98 : decode cX12_vote 98 = .ok (.getfield 583, 3) := by decide +kernel
theorem dX12_vote_101 : decode cX12_vote 101 = .ok (.iload_n 2, 1) := by decide +kernel
theorem dX12_vote_102 : decode cX12_vote 102 = .ok (.iastore, 1) := by decide +kernel
theorem dX12_vote_103 : decode cX12_vote 103 = .ok (.aload_n 0, 1) := by decide +kernel
theorem dX12_vote_104 : decode cX12_vote 104 = .ok (.getfield 238, 3) := by decide +kernel
theorem dX12_vote_107 : decode cX12_vote 107 = .ok (.aload_n 0, 1) := by decide +kernel
theorem dX12_vote_108 : decode cX12_vote 108 = .ok (.getfield 583, 3) := by decide +kernel
theorem dX12_vote_111 : decode cX12_vote 111 = .ok (.iload_n 3, 1) := by decide +kernel
theorem dX12_vote_112 : decode cX12_vote 112 = .ok (.bastore, 1) := by decide +kernel
theorem dX12_vote_113 : decode cX12_vote 113 = .ok (.aload_n 0, 1) := by decide +kernel
theorem dX12_vote_114 : decode cX12_vote 114 = .ok (.getfield 235, 3) := by decide +kernel
theorem dX12_vote_117 : decode cX12_vote 117 = .ok (.aload_n 0, 1) := by decide +kernel
theorem dX12_vote_118 : decode cX12_vote 118 = .ok (.getfield 583, 3) := by decide +kernel
theorem dX12_vote_121 : decode cX12_vote 121 = .ok (.aload_n 0, 1) := by decide +kernel
theorem dX12_vote_122 : decode cX12_vote 122 = .ok (.getfield 258, 3) := by decide +kernel
theorem dX12_vote_125 : decode cX12_vote 125 = .ok (.iastore, 1) := by decide +kernel
theorem dX12_vote_126 : decode cX12_vote 126 = .ok (.aload_n 0, 1) := by decide +kernel
theorem dX12_vote_127 : decode cX12_vote 127 = .ok (.dup, 1) := by decide +kernel
theorem dX12_vote_128 : decode cX12_vote 128 = .ok (.getfield 583, 3) := by decide +kernel
theorem dX12_vote_131 : decode cX12_vote 131 = .ok (.iconst 1, 1) := by decide +kernel
theorem dX12_vote_132 : decode cX12_vote 132 = .ok (.iadd, 1) := by decide +kernel
theorem dX12_vote_133 : decode cX12_vote 133 = .ok (.putfield 583, 3) := by decide +kernel
theorem dX12_vote_136 : decode cX12_vote 136 = .ok (.aload_n 0, 1) := by decide +kernel
theorem dX12_vote_137 : decode cX12_vote 137 = .ok (.getfield 583, 3) := by decide +kernel
theorem dX12_vote_140 : decode cX12_vote 140 = .ok (.iconst 1, 1) := by decide +kernel
theorem dX12_vote_141 : decode cX12_vote 141 = .ok (.isub, 1) := by decide +kernel
theorem dX12_vote_142 : decode cX12_vote 142 = .ok (.ireturn, 1) := by decide +kernel
theorem dX12_isWarm_0 : decode cX12_isWarm 0 = .ok (.aload_n 0, 1) := by decide +kernel
theorem dX12_isWarm_1 : decode cX12_isWarm 1 = .ok (.getfield 193, 3) := by decide +kernel
theorem dX12_isWarm_4 : decode cX12_isWarm 4 = .ok (.aload_n 0, 1) := by decide +kernel
theorem dX12_isWarm_5 : decode cX12_isWarm 5 = .ok (.getfield 229, 3) := by decide +kernel
theorem dX12_isWarm_8 : decode cX12_isWarm 8 = .ok (.iload_n 1, 1) := by decide +kernel
theorem dX12_isWarm_9 : decode cX12_isWarm 9 = .ok (.iaload, 1) := by decide +kernel
theorem dX12_isWarm_10 : decode cX12_isWarm 10 = .ok (.iaload, 1) := by decide +kernel
theorem dX12_isWarm_11 : decode cX12_isWarm 11 = .ok (.istore_n 3, 1) := by decide +kernel
theorem dX12_isWarm_12 : decode cX12_isWarm 12 = .ok (.iload_n 3, 1) := by decide +kernel
theorem dX12_isWarm_13 : decode cX12_isWarm 13 = .ok (.aload_n 0, 1) := by decide +kernel
theorem dX12_isWarm_14 : decode cX12_isWarm 14 = .ok (.aload_n 0, 1) := by decide +kernel
theorem dX12_isWarm_15 : decode cX12_isWarm 15 = .ok (.iload_n 3, 1) := by decide +kernel
theorem dX12_isWarm_16 : decode cX12_isWarm 16 = .ok (.iload_n 2, 1) := by decide +kernel
theorem dX12_isWarm_17 : decode cX12_isWarm 17 = .ok (.invokevirtual 512, 3) := by decide +kernel
theorem dX12_isWarm_20 : decode cX12_isWarm 20 = .ok (.iconst 3, 1) := by decide +kernel
theorem dX12_isWarm_21 : decode cX12_isWarm 21 = .ok (.invokevirtual 503, 3) := by decide +kernel
theorem dX12_isWarm_24 : decode cX12_isWarm 24 = .ok (.isub, 1) := by decide +kernel
theorem dX12_isWarm_25 : decode cX12_isWarm 25 = .ok (.istore 4, 2) := by decide +kernel
theorem dX12_isWarm_27 : decode cX12_isWarm 27 = .ok (.aload_n 0, 1) := by decide +kernel
theorem dX12_isWarm_28 : decode cX12_isWarm 28 = .ok (.iload_n 3, 1) := by decide +kernel
theorem dX12_isWarm_29 : decode cX12_isWarm 29 = .ok (.iload_n 2, 1) := by decide +kernel
theorem dX12_isWarm_30 : decode cX12_isWarm 30 = .ok (.invokevirtual 349, 3) := by decide +kernel
theorem dX12_isWarm_33 : decode cX12_isWarm 33 = .ok (.iconst 0, 1) := by decide +kernel
theorem dX12_isWarm_34 : decode cX12_isWarm 34 = .ok (.istore 5, 2) := by decide +kernel
theorem dX12_isWarm_36 : decode cX12_isWarm 36 = .ok (.iload 5, 2) := by decide +kernel
theorem dX12_isWarm_38 : decode cX12_isWarm 38 = .ok (.aload_n 0, 1) := by decide +kernel
theorem dX12_isWarm_39 : decode cX12_isWarm 39 = .ok (.getfield 313, 3) := by decide +kernel
theorem dX12_isWarm_42 : decode cX12_isWarm 42 = .ok (.if_icmp .ge 116, 3) := by decide +kernel
theorem dX12_isWarm_45 : decode cX12_isWarm 45 = .ok (.aload_n 0, 1) := by decide +kernel
theorem dX12_isWarm_46 : decode cX12_isWarm 46 = .ok (.getfield 90, 3) := by decide +kernel
theorem dX12_isWarm_49 : decode cX12_isWarm 49 = .ok (.iload 5, 2) := by decide +kernel
theorem dX12_isWarm_51 : decode cX12_isWarm 51 = .ok (.iaload, 1) := by decide +kernel
theorem dX12_isWarm_52 : decode cX12_isWarm 52 = .ok (.iload_n 2, 1) := by decide +kernel
theorem dX12_isWarm_53 : decode cX12_isWarm 53 = .ok (.if_icmp .gt 99, 3) := by decide +kernel
theorem dX12_isWarm_56 : decode cX12_isWarm 56 = .ok (.aload_n 0, 1) := by decide +kernel
theorem dX12_isWarm_57 : decode cX12_isWarm 57 = .ok (.getfield 75, 3) := by decide +kernel
theorem dX12_isWarm_60 : decode cX12_isWarm 60 = .ok (.iload 5, 2) := by decide +kernel
theorem dX12_isWarm_62 : decode cX12_isWarm 62 = .ok (.iaload, 1) := by decide +kernel
theorem dX12_isWarm_63 : decode cX12_isWarm 63 = .ok (.aload_n 0, 1) := by decide +kernel
theorem dX12_isWarm_64 : decode cX12_isWarm 64 = .ok (.getfield 232, 3) := by decide +kernel
theorem dX12_isWarm_67 : decode cX12_isWarm 67 = .ok (.iload_n 1, 1) := by decide +kernel
theorem dX12_isWarm_68 : decode cX12_isWarm 68 = .ok (.iaload, 1) := by decide +kernel
theorem dX12_isWarm_69 : decode cX12_isWarm 69 = .ok (.if_icmp .ne 83, 3) := by decide +kernel
theorem dX12_isWarm_72 : decode cX12_isWarm 72 = .ok (.aload_n 0, 1) := by decide +kernel
theorem dX12_isWarm_73 : decode cX12_isWarm 73 = .ok (.getfield 81, 3) := by decide +kernel
theorem dX12_isWarm_76 : decode cX12_isWarm 76 = .ok (.iload 5, 2) := by decide +kernel
theorem dX12_isWarm_78 : decode cX12_isWarm 78 = .ok (.iaload, 1) := by decide +kernel
theorem dX12_isWarm_79 : decode cX12_isWarm 79 = .ok (.iload_n 3, 1) := by decide +kernel
theorem dX12_isWarm_80 : decode cX12_isWarm 80 = .ok (.if_icmp .gt 72, 3) := by decide +kernel
theorem dX12_isWarm_83 : decode cX12_isWarm 83 = .ok (.aload_n 0, 1) := by decide +kernel
theorem dX12_isWarm_84 : decode cX12_isWarm 84 = .ok (.getfield 81, 3) := by decide +kernel
theorem dX12_isWarm_87 : decode cX12_isWarm 87 = .ok (.iload 5, 2) := by decide +kernel
theorem dX12_isWarm_89 : decode cX12_isWarm 89 = .ok (.iaload, 1) := by decide +kernel
theorem dX12_isWarm_90 : decode cX12_isWarm 90 = .ok (.iload 4, 2) := by decide +kernel
theorem dX12_isWarm_92 : decode cX12_isWarm 92 = .ok (.if_icmp .le 60, 3) := by decide +kernel
theorem dX12_isWarm_95 : decode cX12_isWarm 95 = .ok (.aload_n 0, 1) := by decide +kernel
theorem dX12_isWarm_96 : decode cX12_isWarm 96 = .ok (.getfield 121, 3) := by decide +kernel
theorem dX12_isWarm_99 : decode cX12_isWarm 99 = .ok (.aload_n 0, 1) := by decide +kernel
theorem dX12_isWarm_100 : decode cX12_isWarm 100 = .ok (.getfield 72, 3) := by decide +kernel
theorem dX12_isWarm_103 : decode cX12_isWarm 103 = .ok (.iload 5, 2) := by decide +kernel
theorem dX12_isWarm_105 : decode cX12_isWarm 105 = .ok (.iaload, 1) := by decide +kernel
theorem dX12_isWarm_106 : decode cX12_isWarm 106 = .ok (.iaload, 1) := by decide +kernel
theorem dX12_isWarm_107 : decode cX12_isWarm 107 = .ok (.aload_n 0, 1) := by decide +kernel
theorem dX12_isWarm_108 : decode cX12_isWarm 108 = .ok (.getfield 121, 3) := by decide +kernel
theorem dX12_isWarm_111 : decode cX12_isWarm 111 = .ok (.aload_n 0, 1) := by decide +kernel
theorem dX12_isWarm_112 : decode cX12_isWarm 112 = .ok (.getfield 190, 3) := by decide +kernel
theorem dX12_isWarm_115 : decode cX12_isWarm 115 = .ok (.aload_n 0, 1) := by decide +kernel
theorem dX12_isWarm_116 : decode cX12_isWarm 116 = .ok (.getfield 229, 3) := by decide +kernel
theorem dX12_isWarm_119 : decode cX12_isWarm 119 = .ok (.iload_n 1, 1) := by decide +kernel
theorem dX12_isWarm_120 : decode cX12_isWarm 120 = .ok (.iaload, 1) := by decide +kernel
theorem dX12_isWarm_121 : decode cX12_isWarm 121 = .ok (.iaload, 1) := by decide +kernel
theorem dX12_isWarm_122 : decode cX12_isWarm 122 = .ok (.iaload, 1) := by decide +kernel
theorem dX12_isWarm_123 : decode cX12_isWarm 123 = .ok (.if_icmp .eq 6, 3) := by decide +kernel
theorem dX12_isWarm_126 : decode cX12_isWarm 126 = .ok (.goto 26, 3) := by decide +kernel
theorem dX12_isWarm_129 : decode cX12_isWarm 129 = .ok (.aload_n 0, 1) := by decide +kernel
theorem dX12_isWarm_130 : decode cX12_isWarm 130 = .ok (.iload 5, 2) := by decide +kernel
theorem dX12_isWarm_132 : decode cX12_isWarm 132 = .ok (.iload_n 2, 1) := by decide +kernel
theorem dX12_isWarm_133 : decode cX12_isWarm 133 = .ok (.invokevirtual 506, 3) := by decide +kernel
theorem dX12_isWarm_136 : decode cX12_isWarm 136 = .ok (.istore 6, 2) := by decide +kernel
theorem dX12_isWarm_138 : decode cX12_isWarm 138 = .ok (.iload 6, 2) := by decide +kernel
theorem dX12_isWarm_140 : decode cX12_isWarm 140 = .ok (.iconst (-1), 1) := by decide +kernel
theorem dX12_isWarm_141 : decode cX12_isWarm 141 = .ok (.if_icmp .eq 9, 3) := by decide +kernel
theorem dX12_isWarm_144 : decode cX12_isWarm 144 = .ok (.iload 6, 2) := by decide +kernel
theorem dX12_isWarm_146 : decode cX12_isWarm 146 = .ok (.iload_n 3, 1) := by decide +kernel
theorem dX12_isWarm_147 : decode cX12_isWarm 147 = .ok (.if_icmp .lt 5, 3) := by decide +kernel
theorem dX12_isWarm_150 : decode cX12_isWarm 150 = .ok (.iconst 1, 1) := by decide +kernel
theorem dX12_isWarm_151 : decode cX12_isWarm 151 = .ok (.ireturn, 1) := by decide +kernel
theorem dX12_isWarm_152 : decode cX12_isWarm 152 = .ok (.iinc 5 1, 3) := by decide +kernel
theorem dX12_isWarm_155 : decode cX12_isWarm 155 = .ok (.goto (-119), 3) := by decide +kernel
theorem dX12_isWarm_158 : decode cX12_isWarm 158 = .ok (.iconst 0, 1) := by decide +kernel
theorem dX12_isWarm_159 : decode cX12_isWarm 159 = .ok (.ireturn, 1) := by decide +kernel
theorem dX12_countVotes_0 : decode cX12_countVotes 0 = .ok (.aload_n 0, 1) := by decide +kernel
theorem dX12_countVotes_1 : decode cX12_countVotes 1 = .ok (.iconst 0, 1) := by decide +kernel
theorem dX12_countVotes_2 : decode cX12_countVotes 2 = .ok (.putfield 586, 3) := by decide +kernel
theorem dX12_countVotes_5 : decode cX12_countVotes 5 = .ok (.aload_n 0, 1) := by decide +kernel
theorem dX12_countVotes_6 : decode cX12_countVotes 6 = .ok (.iconst 0, 1) := by decide +kernel
theorem dX12_countVotes_7 : decode cX12_countVotes 7 = .ok (.putfield 589, 3) := by decide +kernel
theorem dX12_countVotes_10 : decode cX12_countVotes 10 = .ok (.aload_n 0, 1) := by decide +kernel
theorem dX12_countVotes_11 : decode cX12_countVotes 11 = .ok (.iconst 0, 1) := by decide +kernel
theorem dX12_countVotes_12 : decode cX12_countVotes 12 = .ok (.putfield 592, 3) := by decide +kernel
theorem dX12_countVotes_15 : decode cX12_countVotes 15 = .ok (.aload_n 0, 1) := by decide +kernel
theorem dX12_countVotes_16 : decode cX12_countVotes 16 = .ok (.iconst 0, 1) := by decide +kernel
theorem dX12_countVotes_17 : decode cX12_countVotes 17 = .ok (.putfield 595, 3) := by decide +kernel
theorem dX12_countVotes_20 : decode cX12_countVotes 20 = .ok (.iconst 0, 1) := by decide +kernel
theorem dX12_countVotes_21 : decode cX12_countVotes 21 = .ok (.istore_n 2, 1) := by decide +kernel
theorem dX12_countVotes_22 : decode cX12_countVotes 22 = .ok (.iload_n 2, 1) := by decide +kernel
theorem dX12_countVotes_23 : decode cX12_countVotes 23 = .ok (.aload_n 0, 1) := by decide +kernel
theorem dX12_countVotes_24 : decode cX12_countVotes 24 = .ok (.getfield 583, 3) := by decide +kernel
theorem dX12_countVotes_27 : decode cX12_countVotes 27 = .ok (.if_icmp .ge 95, 3) := by decide +kernel
theorem dX12_countVotes_30 : decode cX12_countVotes 30 = .ok (.aload_n 0, 1) := by decide +kernel
theorem dX12_countVotes_31 : decode cX12_countVotes 31 = .ok (.getfield 235, 3) := by decide +kernel
theorem dX12_countVotes_34 : decode cX12_countVotes 34 = .ok (.iload_n 2, 1) := by decide +kernel
theorem dX12_countVotes_35 : decode cX12_countVotes 35 = .ok (.iaload, 1) := by decide +kernel
theorem dX12_countVotes_36 : decode cX12_countVotes 36 = .ok (.iload_n 1, 1) := by decide +kernel
theorem dX12_countVotes_37 : decode cX12_countVotes 37 = .ok (.if_icmp .le 6, 3) := by decide +kernel
theorem dX12_countVotes_40 : decode cX12_countVotes 40 = .ok (.goto 76, 3) := by decide +kernel
theorem dX12_countVotes_43 : decode cX12_countVotes 43 = .ok (.aload_n 0, 1) := by decide +kernel
theorem dX12_countVotes_44 : decode cX12_countVotes 44 = .ok (.iload_n 2, 1) := by decide +kernel
theorem dX12_countVotes_45 : decode cX12_countVotes 45 = .ok (.iload_n 1, 1) := by decide +kernel
theorem dX12_countVotes_46 : decode cX12_countVotes 46 = .ok (.invokevirtual 598, 3) := by decide +kernel
theorem dX12_countVotes_49 : decode cX12_countVotes 49 = .ok (.istore_n 3, 1) := by decide +kernel
theorem dX12_countVotes_50 : decode cX12_countVotes 50 = .ok (.aload_n 0, 1) := by decide +kernel
theorem dX12_countVotes_51 : decode cX12_countVotes 51 = .ok (.dup, 1) := by decide +kernel
theorem dX12_countVotes_52 : decode cX12_countVotes 52 = .ok (.getfield 586, 3) := by decide +kernel
theorem dX12_countVotes_55 : decode cX12_countVotes 55 = .ok (.iconst 1, 1) := by decide +kernel
theorem dX12_countVotes_56 : decode cX12_countVotes 56 = .ok (.iadd, 1) := by decide +kernel
theorem dX12_countVotes_57 : decode cX12_countVotes 57 = .ok (.putfield 586, 3) := by decide +kernel
theorem dX12_countVotes_60 : decode cX12_countVotes 60 = .ok (.aload_n 0, 1) := by decide +kernel
theorem dX12_countVotes_61 : decode cX12_countVotes 61 = .ok (.getfield 238, 3) := by decide +kernel
theorem dX12_countVotes_64 : decode cX12_countVotes 64 = .ok (.iload_n 2, 1) := by decide +kernel
theorem dX12_countVotes_65 : decode cX12_countVotes 65 = .ok (.baload, 1) := by decide +kernel
theorem dX12_countVotes_66 : decode cX12_countVotes 66 = .ok (.ifCond .eq 13, 3) := by decide +kernel
theorem dX12_countVotes_69 : decode cX12_countVotes 69 = .ok (.aload_n 0, 1) := by decide +kernel
theorem dX12_countVotes_70 : decode cX12_countVotes 70 = .ok (.dup, 1) := by decide +kernel
theorem dX12_countVotes_71 : decode cX12_countVotes 71 = .ok (.getfield 589, 3) := by decide +kernel
theorem dX12_countVotes_74 : decode cX12_countVotes 74 = .ok (.iconst 1, 1) := by decide +kernel
theorem dX12_countVotes_75 : decode cX12_countVotes 75 = .ok (.iadd, 1) := by decide +kernel
theorem dX12_countVotes_76 : decode cX12_countVotes 76 = .ok (.putfield 589, 3) := by decide +kernel
theorem dX12_countVotes_79 : decode cX12_countVotes 79 = .ok (.iload_n 3, 1) := by decide +kernel
theorem dX12_countVotes_80 : decode cX12_countVotes 80 = .ok (.ifCond .eq 13, 3) := by decide +kernel
theorem dX12_countVotes_83 : decode cX12_countVotes 83 = .ok (.aload_n 0, 1) := by decide +kernel
theorem dX12_countVotes_84 : decode cX12_countVotes 84 = .ok (.dup, 1) := by decide +kernel
theorem dX12_countVotes_85 : decode cX12_countVotes 85 = .ok (.getfield 592, 3) := by decide +kernel
theorem dX12_countVotes_88 : decode cX12_countVotes 88 = .ok (.iconst 1, 1) := by decide +kernel
theorem dX12_countVotes_89 : decode cX12_countVotes 89 = .ok (.iadd, 1) := by decide +kernel
theorem dX12_countVotes_90 : decode cX12_countVotes 90 = .ok (.putfield 592, 3) := by decide +kernel
theorem dX12_countVotes_93 : decode cX12_countVotes 93 = .ok (.iload_n 3, 1) := by decide +kernel
theorem dX12_countVotes_94 : decode cX12_countVotes 94 = .ok (.ifCond .eq 22, 3) := by decide +kernel
theorem dX12_countVotes_97 : decode cX12_countVotes 97 = .ok (.aload_n 0, 1) := by decide +kernel
theorem dX12_countVotes_98 : decode cX12_countVotes 98 = .ok (.getfield 238, 3) := by decide +kernel
theorem dX12_countVotes_101 : decode cX12_countVotes 101 = .ok (.iload_n 2, 1) := by decide +kernel
theorem dX12_countVotes_102 : decode cX12_countVotes 102 = .ok (.baload, 1) := by decide +kernel
theorem dX12_countVotes_103 : decode cX12_countVotes 103 = .ok (.ifCond .eq 13, 3) := by decide +kernel
theorem dX12_countVotes_106 : decode cX12_countVotes 106 = .ok (.aload_n 0, 1) := by decide +kernel
theorem dX12_countVotes_107 : decode cX12_countVotes 107 = .ok (.dup, 1) := by decide +kernel
theorem dX12_countVotes_108 : decode cX12_countVotes 108 = .ok (.getfield 595, 3) := by decide +kernel
theorem dX12_countVotes_111 : decode cX12_countVotes 111 = .ok (.iconst 1, 1) := by decide +kernel
theorem dX12_countVotes_112 : decode cX12_countVotes 112 = .ok (.iadd, 1) := by decide +kernel
theorem dX12_countVotes_113 : decode cX12_countVotes 113 = .ok (.putfield 595, 3) := by decide +kernel
theorem dX12_countVotes_116 : decode cX12_countVotes 116 = .ok (.iinc 2 1, 3) := by decide +kernel
theorem dX12_countVotes_119 : decode cX12_countVotes 119 = .ok (.goto (-97), 3) := by decide +kernel
theorem dX12_countVotes_122 : decode cX12_countVotes 122 = .ok (.return_, 1) := by decide +kernel
theorem dX12_links_0 : decode cX12_links 0 = .ok (.aload_n 0, 1) := by decide +kernel
theorem dX12_links_1 : decode cX12_links 1 = .ok (.iconst 0, 1) := by decide +kernel
theorem dX12_links_2 : decode cX12_links 2 = .ok (.putfield 244, 3) := by decide +kernel
theorem dX12_links_5 : decode cX12_links 5 = .ok (.iload_n 2, 1) := by decide +kernel
theorem dX12_links_6 : decode cX12_links 6 = .ok (.ifCond .lt 8, 3) := by decide +kernel
theorem dX12_links_9 : decode cX12_links 9 = .ok (.iload_n 2, 1) := by decide +kernel
theorem dX12_links_10 : decode cX12_links 10 = .ok (.iconst 3, 1) := by decide +kernel
theorem dX12_links_11 : decode cX12_links 11 = .ok (.if_icmp .le 5, 3) := by decide +kernel
theorem dX12_links_14 : decode cX12_links 14 = .ok (.iconst (-1), 1) := by decide +kernel
theorem dX12_links_15 : decode cX12_links 15 = .ok (.ireturn, 1) := by decide +kernel
theorem dX12_links_16 : decode cX12_links 16 = .ok (.aload_n 0, 1) := by decide +kernel
theorem dX12_links_17 : decode cX12_links 17 = .ok (.iload_n 1, 1) := by decide +kernel
theorem dX12_links_18 : decode cX12_links 18 = .ok (.invokevirtual 601, 3) := by decide +kernel
theorem dX12_links_21 : decode cX12_links 21 = .ok (.iload_n 2, 1) := by decide +kernel
theorem dX12_links_22 : decode cX12_links 22 = .ok (.ifCond .ne 10, 3) := by decide +kernel
theorem dX12_links_25 : decode cX12_links 25 = .ok (.aload_n 0, 1) := by decide +kernel
theorem dX12_links_26 : decode cX12_links 26 = .ok (.getfield 586, 3) := by decide +kernel
theorem dX12_links_29 : decode cX12_links 29 = .ok (.goto 31, 3) := by decide +kernel
theorem dX12_links_32 : decode cX12_links 32 = .ok (.iload_n 2, 1) := by decide +kernel
theorem dX12_links_33 : decode cX12_links 33 = .ok (.iconst 1, 1) := by decide +kernel
theorem dX12_links_34 : decode cX12_links 34 = .ok (.if_icmp .ne 10, 3) := by decide +kernel
theorem dX12_links_37 : decode cX12_links 37 = .ok (.aload_n 0, 1) := by decide +kernel
theorem dX12_links_38 : decode cX12_links 38 = .ok (.getfield 589, 3) := by decide +kernel
theorem dX12_links_41 : decode cX12_links 41 = .ok (.goto 19, 3) := by decide +kernel
theorem dX12_links_44 : decode cX12_links 44 = .ok (.iload_n 2, 1) := by decide +kernel
theorem dX12_links_45 : decode cX12_links 45 = .ok (.iconst 2, 1) := by decide +kernel
theorem dX12_links_46 : decode cX12_links 46 = .ok (.if_icmp .ne 10, 3) := by decide +kernel
theorem dX12_links_49 : decode cX12_links 49 = .ok (.aload_n 0, 1) := by decide +kernel
theorem dX12_links_50 : decode cX12_links 50 = .ok (.getfield 592, 3) := by decide +kernel
theorem dX12_links_53 : decode cX12_links 53 = .ok (.goto 7, 3) := by decide +kernel
theorem dX12_links_56 : decode cX12_links 56 = .ok (.aload_n 0, 1) := by decide +kernel
theorem dX12_links_57 : decode cX12_links 57 = .ok (.getfield 595, 3) := by decide +kernel
theorem dX12_links_60 : decode cX12_links 60 = .ok (.ireturn, 1) := by decide +kernel
theorem dX12_choose_0 : decode cX12_choose 0 = .ok (.iload_n 2, 1) := by decide +kernel
theorem dX12_choose_1 : decode cX12_choose 1 = .ok (.ifCond .lt 8, 3) := by decide +kernel
theorem dX12_choose_4 : decode cX12_choose 4 = .ok (.iload_n 2, 1) := by decide +kernel
theorem dX12_choose_5 : decode cX12_choose 5 = .ok (.iload_n 1, 1) := by decide +kernel
theorem dX12_choose_6 : decode cX12_choose 6 = .ok (.if_icmp .le 5, 3) := by decide +kernel
theorem dX12_choose_9 : decode cX12_choose 9 = .ok (.lconst 0, 1) := by decide +kernel
theorem dX12_choose_10 : decode cX12_choose 10 = .ok (.lreturn, 1) := by decide +kernel
theorem dX12_choose_11 : decode cX12_choose 11 = .ok (.iconst 0, 1) := by decide +kernel
theorem dX12_choose_12 : decode cX12_choose 12 = .ok (.istore_n 3, 1) := by decide +kernel
theorem dX12_choose_13 : decode cX12_choose 13 = .ok (.iload_n 3, 1) := by decide +kernel
theorem dX12_choose_14 : decode cX12_choose 14 = .ok (.iload_n 1, 1) := by decide +kernel
theorem dX12_choose_15 : decode cX12_choose 15 = .ok (.if_icmp .gt 16, 3) := by decide +kernel
theorem dX12_choose_18 : decode cX12_choose 18 = .ok (.aload_n 0, 1) := by decide +kernel
theorem dX12_choose_19 : decode cX12_choose 19 = .ok (.getfield 241, 3) := by decide +kernel
theorem dX12_choose_22 : decode cX12_choose 22 = .ok (.iload_n 3, 1) := by decide +kernel
theorem dX12_choose_23 : decode cX12_choose 23 = .ok (.lconst 0, 1) := by decide +kernel
theorem dX12_choose_24 : decode cX12_choose 24 = .ok (.lastore, 1) := by decide +kernel
theorem dX12_choose_25 : decode cX12_choose 25 = .ok (.iinc 3 1, 3) := by decide +kernel
theorem dX12_choose_28 : decode cX12_choose 28 = .ok (.goto (-15), 3) := by decide +kernel
theorem dX12_choose_31 : decode cX12_choose 31 = .ok (.aload_n 0, 1) := by decide +kernel
theorem dX12_choose_32 : decode cX12_choose 32 = .ok (.getfield 241, 3) := by decide +kernel
theorem dX12_choose_35 : decode cX12_choose 35 = .ok (.iconst 0, 1) := by decide +kernel
theorem dX12_choose_36 : decode cX12_choose 36 = .ok (.lconst 1, 1) := by decide +kernel
theorem dX12_choose_37 : decode cX12_choose 37 = .ok (.lastore, 1) := by decide +kernel
theorem dX12_choose_38 : decode cX12_choose 38 = .ok (.iconst 1, 1) := by decide +kernel
theorem dX12_choose_39 : decode cX12_choose 39 = .ok (.istore_n 3, 1) := by decide +kernel
theorem dX12_choose_40 : decode cX12_choose 40 = .ok (.iload_n 3, 1) := by decide +kernel
theorem dX12_choose_41 : decode cX12_choose 41 = .ok (.iload_n 1, 1) := by decide +kernel
theorem dX12_choose_42 : decode cX12_choose 42 = .ok (.if_icmp .gt 42, 3) := by decide +kernel
theorem dX12_choose_45 : decode cX12_choose 45 = .ok (.iload_n 3, 1) := by decide +kernel
theorem dX12_choose_46 : decode cX12_choose 46 = .ok (.istore 4, 2) := by decide +kernel
theorem dX12_choose_48 : decode cX12_choose 48 = .ok (.iload 4, 2) := by decide +kernel
theorem dX12_choose_50 : decode cX12_choose 50 = .ok (.ifCond .le 28, 3) := by decide +kernel
theorem dX12_choose_53 : decode cX12_choose 53 = .ok (.aload_n 0, 1) := by decide +kernel
theorem dX12_choose_54 : decode cX12_choose 54 = .ok (.getfield 241, 3) := by decide +kernel
theorem dX12_choose_57 : decode cX12_choose 57 = .ok (.iload 4, 2) := by decide +kernel
theorem dX12_choose_59 : decode cX12_choose 59 = .ok (.dup2, 1) := by decide +kernel
theorem dX12_choose_60 : decode cX12_choose 60 = .ok (.laload, 1) := by decide +kernel
theorem dX12_choose_61 : decode cX12_choose 61 = .ok (.aload_n 0, 1) := by decide +kernel
theorem dX12_choose_62 : decode cX12_choose 62 = .ok (.getfield 241, 3) := by decide +kernel
theorem dX12_choose_65 : decode cX12_choose 65 = .ok (.iload 4, 2) := by decide +kernel
theorem dX12_choose_67 : decode cX12_choose 67 = .ok (.iconst 1, 1) := by decide +kernel
theorem dX12_choose_68 : decode cX12_choose 68 = .ok (.isub, 1) := by decide +kernel
theorem dX12_choose_69 : decode cX12_choose 69 = .ok (.laload, 1) := by decide +kernel
theorem dX12_choose_70 : decode cX12_choose 70 = .ok (.ladd, 1) := by decide +kernel
theorem dX12_choose_71 : decode cX12_choose 71 = .ok (.lastore, 1) := by decide +kernel
theorem dX12_choose_72 : decode cX12_choose 72 = .ok (.iinc 4 (-1), 3) := by decide +kernel
theorem dX12_choose_75 : decode cX12_choose 75 = .ok (.goto (-27), 3) := by decide +kernel
theorem dX12_choose_78 : decode cX12_choose 78 = .ok (.iinc 3 1, 3) := by decide +kernel
theorem dX12_choose_81 : decode cX12_choose 81 = .ok (.goto (-41), 3) := by decide +kernel
theorem dX12_choose_84 : decode cX12_choose 84 = .ok (.aload_n 0, 1) := by decide +kernel
theorem dX12_choose_85 : decode cX12_choose 85 = .ok (.getfield 241, 3) := by decide +kernel
theorem dX12_choose_88 : decode cX12_choose 88 = .ok (.iload_n 2, 1) := by decide +kernel
theorem dX12_choose_89 : decode cX12_choose 89 = .ok (.laload, 1) := by decide +kernel
theorem dX12_choose_90 : decode cX12_choose 90 = .ok (.lreturn, 1) := by decide +kernel
theorem dX12_chance_0 : decode cX12_chance 0 = .ok (.aload_n 0, 1) := by decide +kernel
theorem dX12_chance_1 : decode cX12_chance 1 = .ok (.iload_n 1, 1) := by decide +kernel
theorem dX12_chance_2 : decode cX12_chance 2 = .ok (.invokevirtual 601, 3) := by decide +kernel
theorem dX12_chance_5 : decode cX12_chance 5 = .ok (.aload_n 0, 1) := by decide +kernel
theorem dX12_chance_6 : decode cX12_chance 6 = .ok (.getfield 586, 3) := by decide +kernel
theorem dX12_chance_9 : decode cX12_chance 9 = .ok (.bipush 60, 2) := by decide +kernel
theorem dX12_chance_11 : decode cX12_chance 11 = .ok (.if_icmp .gt 12, 3) := by decide +kernel
theorem dX12_chance_14 : decode cX12_chance 14 = .ok (.iload_n 2, 1) := by decide +kernel
theorem dX12_chance_15 : decode cX12_chance 15 = .ok (.ifCond .lt 8, 3) := by decide +kernel
theorem dX12_chance_18 : decode cX12_chance 18 = .ok (.iload_n 2, 1) := by decide +kernel
theorem dX12_chance_19 : decode cX12_chance 19 = .ok (.iconst 1, 1) := by decide +kernel
theorem dX12_chance_20 : decode cX12_chance 20 = .ok (.if_icmp .le 9, 3) := by decide +kernel
theorem dX12_chance_23 : decode cX12_chance 23 = .ok (.aload_n 0, 1) := by decide +kernel
theorem dX12_chance_24 : decode cX12_chance 24 = .ok (.invokevirtual 368, 3) := by decide +kernel
theorem dX12_chance_27 : decode cX12_chance 27 = .ok (.i2l, 1) := by decide +kernel
theorem dX12_chance_28 : decode cX12_chance 28 = .ok (.lreturn, 1) := by decide +kernel
theorem dX12_chance_29 : decode cX12_chance 29 = .ok (.aload_n 0, 1) := by decide +kernel
theorem dX12_chance_30 : decode cX12_chance 30 = .ok (.iconst 0, 1) := by decide +kernel
theorem dX12_chance_31 : decode cX12_chance 31 = .ok (.putfield 244, 3) := by decide +kernel
theorem dX12_chance_34 : decode cX12_chance 34 = .ok (.lconst 0, 1) := by decide +kernel
theorem dX12_chance_35 : decode cX12_chance 35 = .ok (.lstore_n 3, 1) := by decide +kernel
theorem dX12_chance_36 : decode cX12_chance 36 = .ok (.aload_n 0, 1) := by decide +kernel
theorem dX12_chance_37 : decode cX12_chance 37 = .ok (.getfield 595, 3) := by decide +kernel
theorem dX12_chance_40 : decode cX12_chance 40 = .ok (.istore 5, 2) := by decide +kernel
theorem dX12_chance_42 : decode cX12_chance 42 = .ok (.iload 5, 2) := by decide +kernel
theorem dX12_chance_44 : decode cX12_chance 44 = .ok (.aload_n 0, 1) := by decide +kernel
theorem dX12_chance_45 : decode cX12_chance 45 = .ok (.getfield 589, 3) := by decide +kernel
theorem dX12_chance_48 : decode cX12_chance 48 = .ok (.if_icmp .gt 43, 3) := by decide +kernel
theorem dX12_chance_51 : decode cX12_chance 51 = .ok (.lload_n 3, 1) := by decide +kernel
theorem dX12_chance_52 : decode cX12_chance 52 = .ok (.aload_n 0, 1) := by decide +kernel
theorem dX12_chance_53 : decode cX12_chance 53 = .ok (.aload_n 0, 1) := by decide +kernel
theorem dX12_chance_54 : decode cX12_chance 54 = .ok (.getfield 592, 3) := by decide +kernel
theorem dX12_chance_57 : decode cX12_chance 57 = .ok (.iload 5, 2) := by decide +kernel
theorem dX12_chance_59 : decode cX12_chance 59 = .ok (.invokevirtual 604, 3) := by decide +kernel
theorem dX12_chance_62 : decode cX12_chance 62 = .ok (.aload_n 0, 1) := by decide +kernel
theorem dX12_chance_63 : decode cX12_chance 63 = .ok (.aload_n 0, 1) := by decide +kernel
theorem dX12_chance_64 : decode cX12_chance 64 = .ok (.getfield 586, 3) := by decide +kernel
theorem dX12_chance_67 : decode cX12_chance 67 = .ok (.aload_n 0, 1) := by decide +kernel
theorem dX12_chance_68 : decode cX12_chance 68 = .ok (.getfield 592, 3) := by decide +kernel
theorem dX12_chance_71 : decode cX12_chance 71 = .ok (.isub, 1) := by decide +kernel
theorem dX12_chance_72 : decode cX12_chance 72 = .ok (.aload_n 0, 1) := by decide +kernel
theorem dX12_chance_73 : decode cX12_chance 73 = .ok (.getfield 589, 3) := by decide +kernel
theorem dX12_chance_76 : decode cX12_chance 76 = .ok (.iload 5, 2) := by decide +kernel
theorem dX12_chance_78 : decode cX12_chance 78 = .ok (.isub, 1) := by decide +kernel
theorem dX12_chance_79 : decode cX12_chance 79 = .ok (.invokevirtual 604, 3) := by decide +kernel
theorem dX12_chance_82 : decode cX12_chance 82 = .ok (.lmul, 1) := by decide +kernel
theorem dX12_chance_83 : decode cX12_chance 83 = .ok (.ladd, 1) := by decide +kernel
theorem dX12_chance_84 : decode cX12_chance 84 = .ok (.lstore_n 3, 1) := by decide +kernel
theorem dX12_chance_85 : decode cX12_chance 85 = .ok (.iinc 5 1, 3) := by decide +kernel
theorem dX12_chance_88 : decode cX12_chance 88 = .ok (.goto (-46), 3) := by decide +kernel
theorem dX12_chance_91 : decode cX12_chance 91 = .ok (.aload_n 0, 1) := by decide +kernel
theorem dX12_chance_92 : decode cX12_chance 92 = .ok (.aload_n 0, 1) := by decide +kernel
theorem dX12_chance_93 : decode cX12_chance 93 = .ok (.getfield 586, 3) := by decide +kernel
theorem dX12_chance_96 : decode cX12_chance 96 = .ok (.aload_n 0, 1) := by decide +kernel
theorem dX12_chance_97 : decode cX12_chance 97 = .ok (.getfield 589, 3) := by decide +kernel
theorem dX12_chance_100 : decode cX12_chance 100 = .ok (.invokevirtual 604, 3) := by decide +kernel
theorem dX12_chance_103 : decode cX12_chance 103 = .ok (.lstore 5, 2) := by decide +kernel
theorem dX12_chance_105 : decode cX12_chance 105 = .ok (.lload_n 3, 1) := by decide +kernel
theorem dX12_chance_106 : decode cX12_chance 106 = .ok (.lstore 7, 2) := by decide +kernel
theorem dX12_chance_108 : decode cX12_chance 108 = .ok (.lload 5, 2) := by decide +kernel
theorem dX12_chance_110 : decode cX12_chance 110 = .ok (.lstore 9, 2) := by decide +kernel
theorem dX12_chance_112 : decode cX12_chance 112 = .ok (.lload 9, 2) := by decide +kernel
theorem dX12_chance_114 : decode cX12_chance 114 = .ok (.lconst 0, 1) := by decide +kernel
theorem dX12_chance_115 : decode cX12_chance 115 = .ok (.lcmp, 1) := by decide +kernel
theorem dX12_chance_116 : decode cX12_chance 116 = .ok (.ifCond .eq 21, 3) := by decide +kernel
theorem dX12_chance_119 : decode cX12_chance 119 = .ok (.lload 7, 2) := by decide +kernel
theorem dX12_chance_121 : decode cX12_chance 121 = .ok (.lload 9, 2) := by decide +kernel
theorem dX12_chance_123 : decode cX12_chance 123 = .ok (.lrem, 1) := by decide +kernel
theorem dX12_chance_124 : decode cX12_chance 124 = .ok (.lstore 11, 2) := by decide +kernel
theorem dX12_chance_126 : decode cX12_chance 126 = .ok (.lload 9, 2) := by decide +kernel
theorem dX12_chance_128 : decode cX12_chance 128 = .ok (.lstore 7, 2) := by decide +kernel
theorem dX12_chance_130 : decode cX12_chance 130 = .ok (.lload 11, 2) := by decide +kernel
theorem dX12_chance_132 : decode cX12_chance 132 = .ok (.lstore 9, 2) := by decide +kernel
theorem dX12_chance_134 : decode cX12_chance 134 = .ok (.goto (-22), 3) := by decide +kernel
theorem dX12_chance_137 : decode cX12_chance 137 = .ok (.iload_n 2, 1) := by decide +kernel
theorem dX12_chance_138 : decode cX12_chance 138 = .ok (.ifCond .ne 7, 3) := by decide +kernel
theorem dX12_chance_141 : decode cX12_chance 141 = .ok (.lload_n 3, 1) := by decide +kernel
theorem dX12_chance_142 : decode cX12_chance 142 = .ok (.goto 5, 3) := by decide +kernel
theorem dX12_chance_145 : decode cX12_chance 145 = .ok (.lload 5, 2) := by decide +kernel
theorem dX12_chance_147 : decode cX12_chance 147 = .ok (.lload 7, 2) := by decide +kernel
theorem dX12_chance_149 : decode cX12_chance 149 = .ok (.ldiv, 1) := by decide +kernel
theorem dX12_chance_150 : decode cX12_chance 150 = .ok (.lreturn, 1) := by decide +kernel
theorem dX12_asked_0 : decode cX12_asked 0 = .ok (.aload_n 0, 1) := by decide +kernel
theorem dX12_asked_1 : decode cX12_asked 1 = .ok (.iconst 0, 1) := by decide +kernel
theorem dX12_asked_2 : decode cX12_asked 2 = .ok (.putfield 244, 3) := by decide +kernel
theorem dX12_asked_5 : decode cX12_asked 5 = .ok (.aload_n 0, 1) := by decide +kernel
theorem dX12_asked_6 : decode cX12_asked 6 = .ok (.iload_n 1, 1) := by decide +kernel
theorem dX12_asked_7 : decode cX12_asked 7 = .ok (.invokevirtual 299, 3) := by decide +kernel
theorem dX12_asked_10 : decode cX12_asked 10 = .ok (.ifCond .eq 12, 3) := by decide +kernel
theorem dX12_asked_13 : decode cX12_asked 13 = .ok (.iload_n 3, 1) := by decide +kernel
theorem dX12_asked_14 : decode cX12_asked 14 = .ok (.ifCond .lt 8, 3) := by decide +kernel
theorem dX12_asked_17 : decode cX12_asked 17 = .ok (.iload_n 3, 1) := by decide +kernel
theorem dX12_asked_18 : decode cX12_asked 18 = .ok (.iconst 5, 1) := by decide +kernel
theorem dX12_asked_19 : decode cX12_asked 19 = .ok (.if_icmp .le 5, 3) := by decide +kernel
theorem dX12_asked_22 : decode cX12_asked 22 = .ok (.iconst (-1), 1) := by decide +kernel
theorem dX12_asked_23 : decode cX12_asked 23 = .ok (.ireturn, 1) := by decide +kernel
theorem dX12_asked_24 : decode cX12_asked 24 = .ok (.iconst 0, 1) := by decide +kernel
theorem dX12_asked_25 : decode cX12_asked 25 = .ok (.istore 4, 2) := by decide +kernel
theorem dX12_asked_27 : decode cX12_asked 27 = .ok (.iload_n 3, 1) := by decide +kernel
theorem dX12_asked_28 : decode cX12_asked 28 = .ok (.iconst 5, 1) := by decide +kernel
theorem dX12_asked_29 : decode cX12_asked 29 = .ok (.if_icmp .ne 68, 3) := by decide +kernel
theorem dX12_asked_32 : decode cX12_asked 32 = .ok (.aload_n 0, 1) := by decide +kernel
theorem dX12_asked_33 : decode cX12_asked 33 = .ok (.iload_n 2, 1) := by decide +kernel
theorem dX12_asked_34 : decode cX12_asked 34 = .ok (.iload_n 2, 1) := by decide +kernel
theorem dX12_asked_35 : decode cX12_asked 35 = .ok (.invokevirtual 349, 3) := by decide +kernel
theorem dX12_asked_38 : decode cX12_asked 38 = .ok (.iconst 0, 1) := by decide +kernel
theorem dX12_asked_39 : decode cX12_asked 39 = .ok (.istore 5, 2) := by decide +kernel
theorem dX12_asked_41 : decode cX12_asked 41 = .ok (.iload 5, 2) := by decide +kernel
theorem dX12_asked_43 : decode cX12_asked 43 = .ok (.aload_n 0, 1) := by decide +kernel
theorem dX12_asked_44 : decode cX12_asked 44 = .ok (.getfield 273, 3) := by decide +kernel
theorem dX12_asked_47 : decode cX12_asked 47 = .ok (.if_icmp .ge 47, 3) := by decide +kernel
theorem dX12_asked_50 : decode cX12_asked 50 = .ok (.iload 5, 2) := by decide +kernel
theorem dX12_asked_52 : decode cX12_asked 52 = .ok (.iload_n 1, 1) := by decide +kernel
theorem dX12_asked_53 : decode cX12_asked 53 = .ok (.if_icmp .eq 35, 3) := by decide +kernel
theorem dX12_asked_56 : decode cX12_asked 56 = .ok (.aload_n 0, 1) := by decide +kernel
theorem dX12_asked_57 : decode cX12_asked 57 = .ok (.iload_n 1, 1) := by decide +kernel
theorem dX12_asked_58 : decode cX12_asked 58 = .ok (.iload 5, 2) := by decide +kernel
theorem dX12_asked_60 : decode cX12_asked 60 = .ok (.invokevirtual 353, 3) := by decide +kernel
theorem dX12_asked_63 : decode cX12_asked 63 = .ok (.ldc2_w 338, 3) := by decide +kernel
theorem dX12_asked_66 : decode cX12_asked 66 = .ok (.ldiv, 1) := by decide +kernel
theorem dX12_asked_67 : decode cX12_asked 67 = .ok (.iload 4, 2) := by decide +kernel
theorem dX12_asked_69 : decode cX12_asked 69 = .ok (.i2l, 1) := by decide +kernel
theorem dX12_asked_70 : decode cX12_asked 70 = .ok (.lcmp, 1) := by decide +kernel
theorem dX12_asked_71 : decode cX12_asked 71 = .ok (.ifCond .le 17, 3) := by decide +kernel
theorem dX12_asked_74 : decode cX12_asked 74 = .ok (.aload_n 0, 1) := by decide +kernel
theorem dX12_asked_75 : decode cX12_asked 75 = .ok (.iload_n 1, 1) := by decide +kernel
theorem dX12_asked_76 : decode cX12_asked 76 = .ok (.iload 5, 2) := by decide +kernel
theorem dX12_asked_78 : decode cX12_asked 78 = .ok (.invokevirtual 353, 3) := by decide +kernel
theorem dX12_asked_81 : decode cX12_asked 81 = .ok (.ldc2_w 338, 3) := by decide +kernel
theorem dX12_asked_84 : decode cX12_asked 84 = .ok (.ldiv, 1) := by decide +kernel
theorem dX12_asked_85 : decode cX12_asked 85 = .ok (.l2i, 1) := by decide +kernel
theorem dX12_asked_86 : decode cX12_asked 86 = .ok (.istore 4, 2) := by decide +kernel
theorem dX12_asked_88 : decode cX12_asked 88 = .ok (.iinc 5 1, 3) := by decide +kernel
theorem dX12_asked_91 : decode cX12_asked 91 = .ok (.goto (-50), 3) := by decide +kernel
theorem dX12_asked_94 : decode cX12_asked 94 = .ok (.iload 4, 2) := by decide +kernel
theorem dX12_asked_96 : decode cX12_asked 96 = .ok (.ireturn, 1) := by decide +kernel
theorem dX12_asked_97 : decode cX12_asked 97 = .ok (.iconst 0, 1) := by decide +kernel
theorem dX12_asked_98 : decode cX12_asked 98 = .ok (.istore 5, 2) := by decide +kernel
theorem dX12_asked_100 : decode cX12_asked 100 = .ok (.iload 5, 2) := by decide +kernel
theorem dX12_asked_102 : decode cX12_asked 102 = .ok (.aload_n 0, 1) := by decide +kernel
theorem dX12_asked_103 : decode cX12_asked 103 = .ok (.getfield 313, 3) := by decide +kernel
theorem dX12_asked_106 : decode cX12_asked 106 = .ok (.if_icmp .ge 134, 3) := by decide +kernel
theorem dX12_asked_109 : decode cX12_asked 109 = .ok (.aload_n 0, 1) := by decide +kernel
theorem dX12_asked_110 : decode cX12_asked 110 = .ok (.getfield 75, 3) := by decide +kernel
theorem dX12_asked_113 : decode cX12_asked 113 = .ok (.iload 5, 2) := by decide +kernel
theorem dX12_asked_115 : decode cX12_asked 115 = .ok (.iaload, 1) := by decide +kernel
theorem dX12_asked_116 : decode cX12_asked 116 = .ok (.iload_n 1, 1) := by decide +kernel
theorem dX12_asked_117 : decode cX12_asked 117 = .ok (.if_icmp .ne 117, 3) := by decide +kernel
theorem dX12_asked_120 : decode cX12_asked 120 = .ok (.aload_n 0, 1) := by decide +kernel
theorem dX12_asked_121 : decode cX12_asked 121 = .ok (.getfield 90, 3) := by decide +kernel
theorem dX12_asked_124 : decode cX12_asked 124 = .ok (.iload 5, 2) := by decide +kernel
theorem dX12_asked_126 : decode cX12_asked 126 = .ok (.iaload, 1) := by decide +kernel
theorem dX12_asked_127 : decode cX12_asked 127 = .ok (.iload_n 2, 1) := by decide +kernel
theorem dX12_asked_128 : decode cX12_asked 128 = .ok (.if_icmp .le 6, 3) := by decide +kernel
theorem dX12_asked_131 : decode cX12_asked 131 = .ok (.goto 103, 3) := by decide +kernel
theorem dX12_asked_134 : decode cX12_asked 134 = .ok (.aload_n 0, 1) := by decide +kernel
theorem dX12_asked_135 : decode cX12_asked 135 = .ok (.iload 5, 2) := by decide +kernel
theorem dX12_asked_137 : decode cX12_asked 137 = .ok (.iload_n 2, 1) := by decide +kernel
theorem dX12_asked_138 : decode cX12_asked 138 = .ok (.invokevirtual 531, 3) := by decide +kernel
theorem dX12_asked_141 : decode cX12_asked 141 = .ok (.iconst (-1), 1) := by decide +kernel
theorem dX12_asked_142 : decode cX12_asked 142 = .ok (.if_icmp .eq 7, 3) := by decide +kernel
theorem dX12_asked_145 : decode cX12_asked 145 = .ok (.iconst 1, 1) := by decide +kernel
theorem dX12_asked_146 : decode cX12_asked 146 = .ok (.goto 4, 3) := by decide +kernel
theorem dX12_asked_149 : decode cX12_asked 149 = .ok (.iconst 0, 1) := by decide +kernel
theorem dX12_asked_150 : decode cX12_asked 150 = .ok (.istore 6, 2) := by decide +kernel
theorem dX12_asked_152 : decode cX12_asked 152 = .ok (.iload_n 3, 1) := by decide +kernel
theorem dX12_asked_153 : decode cX12_asked 153 = .ok (.ifCond .eq 13, 3) := by decide +kernel
theorem dX12_asked_156 : decode cX12_asked 156 = .ok (.iload_n 3, 1) := by decide +kernel
theorem dX12_asked_157 : decode cX12_asked 157 = .ok (.iconst 1, 1) := by decide +kernel
theorem dX12_asked_158 : decode cX12_asked 158 = .ok (.if_icmp .ne 11, 3) := by decide +kernel
theorem dX12_asked_161 : decode cX12_asked 161 = .ok (.iload 6, 2) := by decide +kernel
theorem dX12_asked_163 : decode cX12_asked 163 = .ok (.ifCond .eq 6, 3) := by decide +kernel
theorem dX12_asked_166 : decode cX12_asked 166 = .ok (.iinc 4 1, 3) := by decide +kernel
theorem dX12_asked_169 : decode cX12_asked 169 = .ok (.iload_n 3, 1) := by decide +kernel
theorem dX12_asked_170 : decode cX12_asked 170 = .ok (.iconst 4, 1) := by decide +kernel
theorem dX12_asked_171 : decode cX12_asked 171 = .ok (.if_icmp .ne 20, 3) := by decide +kernel
theorem dX12_asked_174 : decode cX12_asked 174 = .ok (.iload 6, 2) := by decide +kernel
theorem dX12_asked_176 : decode cX12_asked 176 = .ok (.ifCond .eq 15, 3) := by decide +kernel
theorem dX12_asked_179 : decode cX12_asked 179 = .ok (.iload 4, 2) := by decide +kernel
theorem dX12_asked_181 : decode cX12_asked 181 = .ok (.aload_n 0, 1) := by decide +kernel
theorem dX12_asked_182 : decode cX12_asked 182 = .ok (.iload 5, 2) := by decide +kernel
theorem dX12_asked_184 : decode cX12_asked 184 = .ok (.iload_n 2, 1) := by decide +kernel
theorem dX12_asked_185 : decode cX12_asked 185 = .ok (.invokevirtual 509, 3) := by decide +kernel
theorem dX12_asked_188 : decode cX12_asked 188 = .ok (.iadd, 1) := by decide +kernel
theorem dX12_asked_189 : decode cX12_asked 189 = .ok (.istore 4, 2) := by decide +kernel
theorem dX12_asked_191 : decode cX12_asked 191 = .ok (.iload_n 3, 1) := by decide +kernel
theorem dX12_asked_192 : decode cX12_asked 192 = .ok (.iconst 2, 1) := by decide +kernel
theorem dX12_asked_193 : decode cX12_asked 193 = .ok (.if_icmp .eq 11, 3) := by decide +kernel
theorem dX12_asked_196 : decode cX12_asked 196 = .ok (.iload_n 3, 1) := by decide +kernel
theorem dX12_asked_197 : decode cX12_asked 197 = .ok (.iconst 3, 1) := by decide +kernel
theorem dX12_asked_198 : decode cX12_asked 198 = .ok (.if_icmp .eq 6, 3) := by decide +kernel
theorem dX12_asked_201 : decode cX12_asked 201 = .ok (.goto 33, 3) := by decide +kernel
theorem dX12_asked_204 : decode cX12_asked 204 = .ok (.aload_n 0, 1) := by decide +kernel
theorem dX12_asked_205 : decode cX12_asked 205 = .ok (.iload 5, 2) := by decide +kernel
theorem dX12_asked_207 : decode cX12_asked 207 = .ok (.iload_n 2, 1) := by decide +kernel
theorem dX12_asked_208 : decode cX12_asked 208 = .ok (.invokevirtual 537, 3) := by decide +kernel
theorem dX12_asked_211 : decode cX12_asked 211 = .ok (.aload_n 0, 1) := by decide +kernel
theorem dX12_asked_212 : decode cX12_asked 212 = .ok (.iload 5, 2) := by decide +kernel
theorem dX12_asked_214 : decode cX12_asked 214 = .ok (.iload_n 2, 1) := by decide +kernel
theorem dX12_asked_215 : decode cX12_asked 215 = .ok (.invokevirtual 540, 3) := by decide +kernel
theorem dX12_asked_218 : decode cX12_asked 218 = .ok (.iload_n 3, 1) := by decide +kernel
theorem dX12_asked_219 : decode cX12_asked 219 = .ok (.iconst 2, 1) := by decide +kernel
theorem dX12_asked_220 : decode cX12_asked 220 = .ok (.if_icmp .ne 7, 3) := by decide +kernel
theorem dX12_asked_223 : decode cX12_asked 223 = .ok (.iconst 2, 1) := by decide +kernel
theorem dX12_asked_224 : decode cX12_asked 224 = .ok (.goto 4, 3) := by decide +kernel
theorem dX12_asked_227 : decode cX12_asked 227 = .ok (.iconst 4, 1) := by decide +kernel
theorem dX12_asked_228 : decode cX12_asked 228 = .ok (.if_icmp .ne 6, 3) := by decide +kernel
theorem dX12_asked_231 : decode cX12_asked 231 = .ok (.iinc 4 1, 3) := by decide +kernel
theorem dX12_asked_234 : decode cX12_asked 234 = .ok (.iinc 5 1, 3) := by decide +kernel
theorem dX12_asked_237 : decode cX12_asked 237 = .ok (.goto (-137), 3) := by decide +kernel
theorem dX12_asked_240 : decode cX12_asked 240 = .ok (.iload 4, 2) := by decide +kernel
theorem dX12_asked_242 : decode cX12_asked 242 = .ok (.ireturn, 1) := by decide +kernel
theorem dX12_count_0 : decode cX12_count 0 = .ok (.aload_n 0, 1) := by decide +kernel
theorem dX12_count_1 : decode cX12_count 1 = .ok (.iconst 0, 1) := by decide +kernel
theorem dX12_count_2 : decode cX12_count 2 = .ok (.putfield 244, 3) := by decide +kernel
theorem dX12_count_5 : decode cX12_count 5 = .ok (.iload_n 1, 1) := by decide +kernel
theorem dX12_count_6 : decode cX12_count 6 = .ok (.tableswitch 131 0 12 #[66, 71, 76, 81, 86, 91, 96, 101, 106, 111, 116, 121, 126], 66) := by decide +kernel
theorem dX12_count_72 : decode cX12_count 72 = .ok (.aload_n 0, 1) := by decide +kernel
theorem dX12_count_73 : decode cX12_count 73 = .ok (.getfield 258, 3) := by decide +kernel
theorem dX12_count_76 : decode cX12_count 76 = .ok (.ireturn, 1) := by decide +kernel
theorem dX12_count_77 : decode cX12_count 77 = .ok (.aload_n 0, 1) := by decide +kernel
theorem dX12_count_78 : decode cX12_count 78 = .ok (.getfield 273, 3) := by decide +kernel
theorem dX12_count_81 : decode cX12_count 81 = .ok (.ireturn, 1) := by decide +kernel
theorem dX12_count_82 : decode cX12_count 82 = .ok (.aload_n 0, 1) := by decide +kernel
theorem dX12_count_83 : decode cX12_count 83 = .ok (.getfield 283, 3) := by decide +kernel
theorem dX12_count_86 : decode cX12_count 86 = .ok (.ireturn, 1) := by decide +kernel
theorem dX12_count_87 : decode cX12_count 87 = .ok (.aload_n 0, 1) := by decide +kernel
theorem dX12_count_88 : decode cX12_count 88 = .ok (.getfield 302, 3) := by decide +kernel
theorem dX12_count_91 : decode cX12_count 91 = .ok (.ireturn, 1) := by decide +kernel
theorem dX12_count_92 : decode cX12_count 92 = .ok (.aload_n 0, 1) := by decide +kernel
theorem dX12_count_93 : decode cX12_count 93 = .ok (.getfield 305, 3) := by decide +kernel
theorem dX12_count_96 : decode cX12_count 96 = .ok (.ireturn, 1) := by decide +kernel
theorem dX12_count_97 : decode cX12_count 97 = .ok (.aload_n 0, 1) := by decide +kernel
theorem dX12_count_98 : decode cX12_count 98 = .ok (.getfield 313, 3) := by decide +kernel
theorem dX12_count_101 : decode cX12_count 101 = .ok (.ireturn, 1) := by decide +kernel
theorem dX12_count_102 : decode cX12_count 102 = .ok (.aload_n 0, 1) := by decide +kernel
theorem dX12_count_103 : decode cX12_count 103 = .ok (.getfield 494, 3) := by decide +kernel
theorem dX12_count_106 : decode cX12_count 106 = .ok (.ireturn, 1) := by decide +kernel
theorem dX12_count_107 : decode cX12_count 107 = .ok (.aload_n 0, 1) := by decide +kernel
theorem dX12_count_108 : decode cX12_count 108 = .ok (.getfield 549, 3) := by decide +kernel
theorem dX12_count_111 : decode cX12_count 111 = .ok (.ireturn, 1) := by decide +kernel
theorem dX12_count_112 : decode cX12_count 112 = .ok (.aload_n 0, 1) := by decide +kernel
theorem dX12_count_113 : decode cX12_count 113 = .ok (.getfield 562, 3) := by decide +kernel
theorem dX12_count_116 : decode cX12_count 116 = .ok (.ireturn, 1) := by decide +kernel
theorem dX12_count_117 : decode cX12_count 117 = .ok (.aload_n 0, 1) := by decide +kernel
theorem dX12_count_118 : decode cX12_count 118 = .ok (.getfield 583, 3) := by decide +kernel
theorem dX12_count_121 : decode cX12_count 121 = .ok (.ireturn, 1) := by decide +kernel
theorem dX12_count_122 : decode cX12_count 122 = .ok (.aload_n 0, 1) := by decide +kernel
theorem dX12_count_123 : decode cX12_count 123 = .ok (.getfield 543, 3) := by decide +kernel
theorem dX12_count_126 : decode cX12_count 126 = .ok (.ireturn, 1) := by decide +kernel
theorem dX12_count_127 : decode cX12_count 127 = .ok (.aload_n 0, 1) := by decide +kernel
theorem dX12_count_128 : decode cX12_count 128 = .ok (.getfield 247, 3) := by decide +kernel
theorem dX12_count_131 : decode cX12_count 131 = .ok (.ireturn, 1) := by decide +kernel
theorem dX12_count_132 : decode cX12_count 132 = .ok (.aload_n 0, 1) := by decide +kernel
theorem dX12_count_133 : decode cX12_count 133 = .ok (.getfield 361, 3) := by decide +kernel
theorem dX12_count_136 : decode cX12_count 136 = .ok (.ireturn, 1) := by decide +kernel
theorem dX12_count_137 : decode cX12_count 137 = .ok (.iconst (-1), 1) := by decide +kernel
theorem dX12_count_138 : decode cX12_count 138 = .ok (.ireturn, 1) := by decide +kernel
