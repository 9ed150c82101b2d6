theorem d_Model_programs_128 : decode m_Model_programs.2.1 128 = .ok (.iload_n 3, 1) := by decide +kernel
theorem d_Model_programs_129 : decode m_Model_programs.2.1 129 = .ok (.iload 4, 2) := by decide +kernel
theorem d_Model_programs_131 : decode m_Model_programs.2.1 131 = .ok (.iload 5, 2) := by decide +kernel
theorem d_Model_programs_133 : decode m_Model_programs.2.1 133 = .ok (.invokevirtual 238, 3) := by decide +kernel
theorem d_Model_programs_136 : decode m_Model_programs.2.1 136 = .ok (.goto 114, 3) := by decide +kernel
theorem d_Model_programs_139 : decode m_Model_programs.2.1 139 = .ok (.iload_n 2, 1) := by decide +kernel
theorem d_Model_programs_140 : decode m_Model_programs.2.1 140 = .ok (.iconst 1, 1) := by decide +kernel
theorem d_Model_programs_141 : decode m_Model_programs.2.1 141 = .ok (.if_icmp .ne 18, 3) := by decide +kernel
theorem d_Model_programs_144 : decode m_Model_programs.2.1 144 = .ok (.aload_n 0, 1) := by decide +kernel
theorem d_Model_programs_145 : decode m_Model_programs.2.1 145 = .ok (.iconst 1, 1) := by decide +kernel
theorem d_Model_programs_146 : decode m_Model_programs.2.1 146 = .ok (.iload 4, 2) := by decide +kernel
theorem d_Model_programs_148 : decode m_Model_programs.2.1 148 = .ok (.iload_n 3, 1) := by decide +kernel
theorem d_Model_programs_149 : decode m_Model_programs.2.1 149 = .ok (.iload 5, 2) := by decide +kernel
theorem d_Model_programs_151 : decode m_Model_programs.2.1 151 = .ok (.iload 6, 2) := by decide +kernel
theorem d_Model_programs_153 : decode m_Model_programs.2.1 153 = .ok (.invokevirtual 228, 3) := by decide +kernel
theorem d_Model_programs_156 : decode m_Model_programs.2.1 156 = .ok (.goto 94, 3) := by decide +kernel
theorem d_Model_programs_159 : decode m_Model_programs.2.1 159 = .ok (.iload_n 2, 1) := by decide +kernel
theorem d_Model_programs_160 : decode m_Model_programs.2.1 160 = .ok (.iconst 2, 1) := by decide +kernel
theorem d_Model_programs_161 : decode m_Model_programs.2.1 161 = .ok (.if_icmp .ne 28, 3) := by decide +kernel
theorem d_Model_programs_164 : decode m_Model_programs.2.1 164 = .ok (.aload_n 0, 1) := by decide +kernel
theorem d_Model_programs_165 : decode m_Model_programs.2.1 165 = .ok (.iconst 2, 1) := by decide +kernel
theorem d_Model_programs_166 : decode m_Model_programs.2.1 166 = .ok (.iload 4, 2) := by decide +kernel
theorem d_Model_programs_168 : decode m_Model_programs.2.1 168 = .ok (.iload_n 3, 1) := by decide +kernel
theorem d_Model_programs_169 : decode m_Model_programs.2.1 169 = .ok (.aload_n 0, 1) := by decide +kernel
theorem d_Model_programs_170 : decode m_Model_programs.2.1 170 = .ok (.iload 5, 2) := by decide +kernel
theorem d_Model_programs_172 : decode m_Model_programs.2.1 172 = .ok (.iconst 0, 1) := by decide +kernel
theorem d_Model_programs_173 : decode m_Model_programs.2.1 173 = .ok (.invokevirtual 225, 3) := by decide +kernel
theorem d_Model_programs_176 : decode m_Model_programs.2.1 176 = .ok (.aload_n 0, 1) := by decide +kernel
theorem d_Model_programs_177 : decode m_Model_programs.2.1 177 = .ok (.iload 5, 2) := by decide +kernel
theorem d_Model_programs_179 : decode m_Model_programs.2.1 179 = .ok (.iconst 1, 1) := by decide +kernel
theorem d_Model_programs_180 : decode m_Model_programs.2.1 180 = .ok (.invokevirtual 225, 3) := by decide +kernel
theorem d_Model_programs_183 : decode m_Model_programs.2.1 183 = .ok (.invokevirtual 228, 3) := by decide +kernel
theorem d_Model_programs_186 : decode m_Model_programs.2.1 186 = .ok (.goto 64, 3) := by decide +kernel
theorem d_Model_programs_189 : decode m_Model_programs.2.1 189 = .ok (.iload_n 2, 1) := by decide +kernel
theorem d_Model_programs_190 : decode m_Model_programs.2.1 190 = .ok (.iconst 3, 1) := by decide +kernel
theorem d_Model_programs_191 : decode m_Model_programs.2.1 191 = .ok (.if_icmp .ne 26, 3) := by decide +kernel
theorem d_Model_programs_194 : decode m_Model_programs.2.1 194 = .ok (.aload_n 0, 1) := by decide +kernel
theorem d_Model_programs_195 : decode m_Model_programs.2.1 195 = .ok (.iconst 0, 1) := by decide +kernel
theorem d_Model_programs_196 : decode m_Model_programs.2.1 196 = .ok (.iload 4, 2) := by decide +kernel
theorem d_Model_programs_198 : decode m_Model_programs.2.1 198 = .ok (.iload_n 3, 1) := by decide +kernel
theorem d_Model_programs_199 : decode m_Model_programs.2.1 199 = .ok (.aload_n 0, 1) := by decide +kernel
theorem d_Model_programs_200 : decode m_Model_programs.2.1 200 = .ok (.iload_n 3, 1) := by decide +kernel
theorem d_Model_programs_201 : decode m_Model_programs.2.1 201 = .ok (.iconst 0, 1) := by decide +kernel
theorem d_Model_programs_202 : decode m_Model_programs.2.1 202 = .ok (.invokevirtual 225, 3) := by decide +kernel
theorem d_Model_programs_205 : decode m_Model_programs.2.1 205 = .ok (.aload_n 0, 1) := by decide +kernel
theorem d_Model_programs_206 : decode m_Model_programs.2.1 206 = .ok (.iload_n 3, 1) := by decide +kernel
theorem d_Model_programs_207 : decode m_Model_programs.2.1 207 = .ok (.iconst 1, 1) := by decide +kernel
theorem d_Model_programs_208 : decode m_Model_programs.2.1 208 = .ok (.invokevirtual 225, 3) := by decide +kernel
theorem d_Model_programs_211 : decode m_Model_programs.2.1 211 = .ok (.invokevirtual 228, 3) := by decide +kernel
theorem d_Model_programs_214 : decode m_Model_programs.2.1 214 = .ok (.goto 36, 3) := by decide +kernel
theorem d_Model_programs_217 : decode m_Model_programs.2.1 217 = .ok (.aload_n 0, 1) := by decide +kernel
theorem d_Model_programs_218 : decode m_Model_programs.2.1 218 = .ok (.getfield 59, 3) := by decide +kernel
theorem d_Model_programs_221 : decode m_Model_programs.2.1 221 = .ok (.iload_n 3, 1) := by decide +kernel
theorem d_Model_programs_222 : decode m_Model_programs.2.1 222 = .ok (.aload_n 0, 1) := by decide +kernel
theorem d_Model_programs_223 : decode m_Model_programs.2.1 223 = .ok (.getfield 235, 3) := by decide +kernel
theorem d_Model_programs_226 : decode m_Model_programs.2.1 226 = .ok (.iastore, 1) := by decide +kernel
theorem d_Model_programs_227 : decode m_Model_programs.2.1 227 = .ok (.aload_n 0, 1) := by decide +kernel
theorem d_Model_programs_228 : decode m_Model_programs.2.1 228 = .ok (.iconst 3, 1) := by decide +kernel
theorem d_Model_programs_229 : decode m_Model_programs.2.1 229 = .ok (.iload 4, 2) := by decide +kernel
theorem d_Model_programs_231 : decode m_Model_programs.2.1 231 = .ok (.iload_n 3, 1) := by decide +kernel
theorem d_Model_programs_232 : decode m_Model_programs.2.1 232 = .ok (.iconst 2, 1) := by decide +kernel
theorem d_Model_programs_233 : decode m_Model_programs.2.1 233 = .ok (.aload_n 0, 1) := by decide +kernel
theorem d_Model_programs_234 : decode m_Model_programs.2.1 234 = .ok (.getfield 235, 3) := by decide +kernel
theorem d_Model_programs_237 : decode m_Model_programs.2.1 237 = .ok (.invokevirtual 228, 3) := by decide +kernel
theorem d_Model_programs_240 : decode m_Model_programs.2.1 240 = .ok (.aload_n 0, 1) := by decide +kernel
theorem d_Model_programs_241 : decode m_Model_programs.2.1 241 = .ok (.dup, 1) := by decide +kernel
theorem d_Model_programs_242 : decode m_Model_programs.2.1 242 = .ok (.getfield 235, 3) := by decide +kernel
theorem d_Model_programs_245 : decode m_Model_programs.2.1 245 = .ok (.iconst 1, 1) := by decide +kernel
theorem d_Model_programs_246 : decode m_Model_programs.2.1 246 = .ok (.iadd, 1) := by decide +kernel
theorem d_Model_programs_247 : decode m_Model_programs.2.1 247 = .ok (.putfield 235, 3) := by decide +kernel
theorem d_Model_programs_250 : decode m_Model_programs.2.1 250 = .ok (.goto (-215), 3) := by decide +kernel
theorem d_Model_programs_253 : decode m_Model_programs.2.1 253 = .ok (.return_, 1) := by decide +kernel
theorem d_Model_toDo_0 : decode m_Model_toDo.2.1 0 = .ok (.aload_n 0, 1) := by decide +kernel
theorem d_Model_toDo_1 : decode m_Model_toDo.2.1 1 = .ok (.getfield 53, 3) := by decide +kernel
theorem d_Model_toDo_4 : decode m_Model_toDo.2.1 4 = .ok (.iconst 5, 1) := by decide +kernel
theorem d_Model_toDo_5 : decode m_Model_toDo.2.1 5 = .ok (.aload_n 0, 1) := by decide +kernel
theorem d_Model_toDo_6 : decode m_Model_toDo.2.1 6 = .ok (.getfield 216, 3) := by decide +kernel
theorem d_Model_toDo_9 : decode m_Model_toDo.2.1 9 = .ok (.imul, 1) := by decide +kernel
theorem d_Model_toDo_10 : decode m_Model_toDo.2.1 10 = .ok (.iload_n 1, 1) := by decide +kernel
theorem d_Model_toDo_11 : decode m_Model_toDo.2.1 11 = .ok (.iastore, 1) := by decide +kernel
theorem d_Model_toDo_12 : decode m_Model_toDo.2.1 12 = .ok (.aload_n 0, 1) := by decide +kernel
theorem d_Model_toDo_13 : decode m_Model_toDo.2.1 13 = .ok (.getfield 53, 3) := by decide +kernel
theorem d_Model_toDo_16 : decode m_Model_toDo.2.1 16 = .ok (.iconst 5, 1) := by decide +kernel
theorem d_Model_toDo_17 : decode m_Model_toDo.2.1 17 = .ok (.aload_n 0, 1) := by decide +kernel
theorem d_Model_toDo_18 : decode m_Model_toDo.2.1 18 = .ok (.getfield 216, 3) := by decide +kernel
theorem d_Model_toDo_21 : decode m_Model_toDo.2.1 21 = .ok (.imul, 1) := by decide +kernel
theorem d_Model_toDo_22 : decode m_Model_toDo.2.1 22 = .ok (.iconst 1, 1) := by decide +kernel
theorem d_Model_toDo_23 : decode m_Model_toDo.2.1 23 = .ok (.iadd, 1) := by decide +kernel
theorem d_Model_toDo_24 : decode m_Model_toDo.2.1 24 = .ok (.iload_n 2, 1) := by decide +kernel
theorem d_Model_toDo_25 : decode m_Model_toDo.2.1 25 = .ok (.iastore, 1) := by decide +kernel
theorem d_Model_toDo_26 : decode m_Model_toDo.2.1 26 = .ok (.aload_n 0, 1) := by decide +kernel
theorem d_Model_toDo_27 : decode m_Model_toDo.2.1 27 = .ok (.getfield 53, 3) := by decide +kernel
theorem d_Model_toDo_30 : decode m_Model_toDo.2.1 30 = .ok (.iconst 5, 1) := by decide +kernel
theorem d_Model_toDo_31 : decode m_Model_toDo.2.1 31 = .ok (.aload_n 0, 1) := by decide +kernel
theorem d_Model_toDo_32 : decode m_Model_toDo.2.1 32 = .ok (.getfield 216, 3) := by decide +kernel
theorem d_Model_toDo_35 : decode m_Model_toDo.2.1 35 = .ok (.imul, 1) := by decide +kernel
theorem d_Model_toDo_36 : decode m_Model_toDo.2.1 36 = .ok (.iconst 2, 1) := by decide +kernel
theorem d_Model_toDo_37 : decode m_Model_toDo.2.1 37 = .ok (.iadd, 1) := by decide +kernel
theorem d_Model_toDo_38 : decode m_Model_toDo.2.1 38 = .ok (.iload_n 3, 1) := by decide +kernel
theorem d_Model_toDo_39 : decode m_Model_toDo.2.1 39 = .ok (.iastore, 1) := by decide +kernel
theorem d_Model_toDo_40 : decode m_Model_toDo.2.1 40 = .ok (.aload_n 0, 1) := by decide +kernel
theorem d_Model_toDo_41 : decode m_Model_toDo.2.1 41 = .ok (.getfield 53, 3) := by decide +kernel
theorem d_Model_toDo_44 : decode m_Model_toDo.2.1 44 = .ok (.iconst 5, 1) := by decide +kernel
theorem d_Model_toDo_45 : decode m_Model_toDo.2.1 45 = .ok (.aload_n 0, 1) := by decide +kernel
theorem d_Model_toDo_46 : decode m_Model_toDo.2.1 46 = .ok (.getfield 216, 3) := by decide +kernel
theorem d_Model_toDo_49 : decode m_Model_toDo.2.1 49 = .ok (.imul, 1) := by decide +kernel
theorem d_Model_toDo_50 : decode m_Model_toDo.2.1 50 = .ok (.iconst 3, 1) := by decide +kernel
theorem d_Model_toDo_51 : decode m_Model_toDo.2.1 51 = .ok (.iadd, 1) := by decide +kernel
theorem d_Model_toDo_52 : decode m_Model_toDo.2.1 52 = .ok (.iload 4, 2) := by decide +kernel
theorem d_Model_toDo_54 : decode m_Model_toDo.2.1 54 = .ok (.iastore, 1) := by decide +kernel
theorem d_Model_toDo_55 : decode m_Model_toDo.2.1 55 = .ok (.aload_n 0, 1) := by decide +kernel
theorem d_Model_toDo_56 : decode m_Model_toDo.2.1 56 = .ok (.getfield 53, 3) := by decide +kernel
theorem d_Model_toDo_59 : decode m_Model_toDo.2.1 59 = .ok (.iconst 5, 1) := by decide +kernel
theorem d_Model_toDo_60 : decode m_Model_toDo.2.1 60 = .ok (.aload_n 0, 1) := by decide +kernel
theorem d_Model_toDo_61 : decode m_Model_toDo.2.1 61 = .ok (.getfield 216, 3) := by decide +kernel
theorem d_Model_toDo_64 : decode m_Model_toDo.2.1 64 = .ok (.imul, 1) := by decide +kernel
theorem d_Model_toDo_65 : decode m_Model_toDo.2.1 65 = .ok (.iconst 4, 1) := by decide +kernel
theorem d_Model_toDo_66 : decode m_Model_toDo.2.1 66 = .ok (.iadd, 1) := by decide +kernel
theorem d_Model_toDo_67 : decode m_Model_toDo.2.1 67 = .ok (.iload 5, 2) := by decide +kernel
theorem d_Model_toDo_69 : decode m_Model_toDo.2.1 69 = .ok (.iastore, 1) := by decide +kernel
theorem d_Model_toDo_70 : decode m_Model_toDo.2.1 70 = .ok (.aload_n 0, 1) := by decide +kernel
theorem d_Model_toDo_71 : decode m_Model_toDo.2.1 71 = .ok (.dup, 1) := by decide +kernel
theorem d_Model_toDo_72 : decode m_Model_toDo.2.1 72 = .ok (.getfield 216, 3) := by decide +kernel
theorem d_Model_toDo_75 : decode m_Model_toDo.2.1 75 = .ok (.iconst 1, 1) := by decide +kernel
theorem d_Model_toDo_76 : decode m_Model_toDo.2.1 76 = .ok (.iadd, 1) := by decide +kernel
theorem d_Model_toDo_77 : decode m_Model_toDo.2.1 77 = .ok (.putfield 216, 3) := by decide +kernel
theorem d_Model_toDo_80 : decode m_Model_toDo.2.1 80 = .ok (.return_, 1) := by decide +kernel
theorem d_Model_plans_0 : decode m_Model_plans.2.1 0 = .ok (.aload_n 0, 1) := by decide +kernel
theorem d_Model_plans_1 : decode m_Model_plans.2.1 1 = .ok (.getfield 16, 3) := by decide +kernel
theorem d_Model_plans_4 : decode m_Model_plans.2.1 4 = .ok (.bipush 63, 2) := by decide +kernel
theorem d_Model_plans_6 : decode m_Model_plans.2.1 6 = .ok (.iload_n 1, 1) := by decide +kernel
theorem d_Model_plans_7 : decode m_Model_plans.2.1 7 = .ok (.iadd, 1) := by decide +kernel
theorem d_Model_plans_8 : decode m_Model_plans.2.1 8 = .ok (.iaload, 1) := by decide +kernel
theorem d_Model_plans_9 : decode m_Model_plans.2.1 9 = .ok (.istore 4, 2) := by decide +kernel
theorem d_Model_plans_11 : decode m_Model_plans.2.1 11 = .ok (.aload_n 0, 1) := by decide +kernel
theorem d_Model_plans_12 : decode m_Model_plans.2.1 12 = .ok (.getfield 16, 3) := by decide +kernel
theorem d_Model_plans_15 : decode m_Model_plans.2.1 15 = .ok (.bipush 94, 2) := by decide +kernel
theorem d_Model_plans_17 : decode m_Model_plans.2.1 17 = .ok (.iload_n 1, 1) := by decide +kernel
theorem d_Model_plans_18 : decode m_Model_plans.2.1 18 = .ok (.iadd, 1) := by decide +kernel
theorem d_Model_plans_19 : decode m_Model_plans.2.1 19 = .ok (.iaload, 1) := by decide +kernel
theorem d_Model_plans_20 : decode m_Model_plans.2.1 20 = .ok (.istore 5, 2) := by decide +kernel
theorem d_Model_plans_22 : decode m_Model_plans.2.1 22 = .ok (.aload_n 0, 1) := by decide +kernel
theorem d_Model_plans_23 : decode m_Model_plans.2.1 23 = .ok (.getfield 47, 3) := by decide +kernel
theorem d_Model_plans_26 : decode m_Model_plans.2.1 26 = .ok (.bipush 7, 2) := by decide +kernel
theorem d_Model_plans_28 : decode m_Model_plans.2.1 28 = .ok (.iload_n 1, 1) := by decide +kernel
theorem d_Model_plans_29 : decode m_Model_plans.2.1 29 = .ok (.imul, 1) := by decide +kernel
theorem d_Model_plans_30 : decode m_Model_plans.2.1 30 = .ok (.iload_n 3, 1) := by decide +kernel
theorem d_Model_plans_31 : decode m_Model_plans.2.1 31 = .ok (.iadd, 1) := by decide +kernel
theorem d_Model_plans_32 : decode m_Model_plans.2.1 32 = .ok (.iaload, 1) := by decide +kernel
theorem d_Model_plans_33 : decode m_Model_plans.2.1 33 = .ok (.istore 6, 2) := by decide +kernel
theorem d_Model_plans_35 : decode m_Model_plans.2.1 35 = .ok (.aload_n 0, 1) := by decide +kernel
theorem d_Model_plans_36 : decode m_Model_plans.2.1 36 = .ok (.getfield 41, 3) := by decide +kernel
theorem d_Model_plans_39 : decode m_Model_plans.2.1 39 = .ok (.iload_n 1, 1) := by decide +kernel
theorem d_Model_plans_40 : decode m_Model_plans.2.1 40 = .ok (.baload, 1) := by decide +kernel
theorem d_Model_plans_41 : decode m_Model_plans.2.1 41 = .ok (.ifCond .eq 25, 3) := by decide +kernel
theorem d_Model_plans_44 : decode m_Model_plans.2.1 44 = .ok (.aload_n 0, 1) := by decide +kernel
theorem d_Model_plans_45 : decode m_Model_plans.2.1 45 = .ok (.iconst 0, 1) := by decide +kernel
theorem d_Model_plans_46 : decode m_Model_plans.2.1 46 = .ok (.iload_n 2, 1) := by decide +kernel
theorem d_Model_plans_47 : decode m_Model_plans.2.1 47 = .ok (.iload_n 1, 1) := by decide +kernel
theorem d_Model_plans_48 : decode m_Model_plans.2.1 48 = .ok (.aload_n 0, 1) := by decide +kernel
theorem d_Model_plans_49 : decode m_Model_plans.2.1 49 = .ok (.iload_n 1, 1) := by decide +kernel
theorem d_Model_plans_50 : decode m_Model_plans.2.1 50 = .ok (.iconst 0, 1) := by decide +kernel
theorem d_Model_plans_51 : decode m_Model_plans.2.1 51 = .ok (.invokevirtual 225, 3) := by decide +kernel
theorem d_Model_plans_54 : decode m_Model_plans.2.1 54 = .ok (.aload_n 0, 1) := by decide +kernel
theorem d_Model_plans_55 : decode m_Model_plans.2.1 55 = .ok (.iload_n 1, 1) := by decide +kernel
theorem d_Model_plans_56 : decode m_Model_plans.2.1 56 = .ok (.iconst 1, 1) := by decide +kernel
theorem d_Model_plans_57 : decode m_Model_plans.2.1 57 = .ok (.invokevirtual 225, 3) := by decide +kernel
theorem d_Model_plans_60 : decode m_Model_plans.2.1 60 = .ok (.invokevirtual 228, 3) := by decide +kernel
theorem d_Model_plans_63 : decode m_Model_plans.2.1 63 = .ok (.goto 280, 3) := by decide +kernel
theorem d_Model_plans_66 : decode m_Model_plans.2.1 66 = .ok (.iload 6, 2) := by decide +kernel
theorem d_Model_plans_68 : decode m_Model_plans.2.1 68 = .ok (.ifCond .ne 25, 3) := by decide +kernel
theorem d_Model_plans_71 : decode m_Model_plans.2.1 71 = .ok (.aload_n 0, 1) := by decide +kernel
theorem d_Model_plans_72 : decode m_Model_plans.2.1 72 = .ok (.iconst 1, 1) := by decide +kernel
theorem d_Model_plans_73 : decode m_Model_plans.2.1 73 = .ok (.iload_n 1, 1) := by decide +kernel
theorem d_Model_plans_74 : decode m_Model_plans.2.1 74 = .ok (.iload_n 2, 1) := by decide +kernel
theorem d_Model_plans_75 : decode m_Model_plans.2.1 75 = .ok (.iload_n 2, 1) := by decide +kernel
theorem d_Model_plans_76 : decode m_Model_plans.2.1 76 = .ok (.iload_n 2, 1) := by decide +kernel
theorem d_Model_plans_77 : decode m_Model_plans.2.1 77 = .ok (.invokevirtual 219, 3) := by decide +kernel
theorem d_Model_plans_80 : decode m_Model_plans.2.1 80 = .ok (.aload_n 0, 1) := by decide +kernel
theorem d_Model_plans_81 : decode m_Model_plans.2.1 81 = .ok (.iconst 0, 1) := by decide +kernel
theorem d_Model_plans_82 : decode m_Model_plans.2.1 82 = .ok (.iload 4, 2) := by decide +kernel
theorem d_Model_plans_84 : decode m_Model_plans.2.1 84 = .ok (.iload_n 2, 1) := by decide +kernel
theorem d_Model_plans_85 : decode m_Model_plans.2.1 85 = .ok (.iload_n 3, 1) := by decide +kernel
theorem d_Model_plans_86 : decode m_Model_plans.2.1 86 = .ok (.iconst 0, 1) := by decide +kernel
theorem d_Model_plans_87 : decode m_Model_plans.2.1 87 = .ok (.invokevirtual 219, 3) := by decide +kernel
theorem d_Model_plans_90 : decode m_Model_plans.2.1 90 = .ok (.goto 253, 3) := by decide +kernel
theorem d_Model_plans_93 : decode m_Model_plans.2.1 93 = .ok (.iload 6, 2) := by decide +kernel
theorem d_Model_plans_95 : decode m_Model_plans.2.1 95 = .ok (.iconst 1, 1) := by decide +kernel
theorem d_Model_plans_96 : decode m_Model_plans.2.1 96 = .ok (.if_icmp .ne 41, 3) := by decide +kernel
theorem d_Model_plans_99 : decode m_Model_plans.2.1 99 = .ok (.aload_n 0, 1) := by decide +kernel
theorem d_Model_plans_100 : decode m_Model_plans.2.1 100 = .ok (.iconst 1, 1) := by decide +kernel
theorem d_Model_plans_101 : decode m_Model_plans.2.1 101 = .ok (.iload_n 1, 1) := by decide +kernel
theorem d_Model_plans_102 : decode m_Model_plans.2.1 102 = .ok (.iload_n 2, 1) := by decide +kernel
theorem d_Model_plans_103 : decode m_Model_plans.2.1 103 = .ok (.iload_n 2, 1) := by decide +kernel
theorem d_Model_plans_104 : decode m_Model_plans.2.1 104 = .ok (.iload_n 2, 1) := by decide +kernel
theorem d_Model_plans_105 : decode m_Model_plans.2.1 105 = .ok (.iconst 1, 1) := by decide +kernel
theorem d_Model_plans_106 : decode m_Model_plans.2.1 106 = .ok (.iadd, 1) := by decide +kernel
theorem d_Model_plans_107 : decode m_Model_plans.2.1 107 = .ok (.invokevirtual 219, 3) := by decide +kernel
theorem d_Model_plans_110 : decode m_Model_plans.2.1 110 = .ok (.aload_n 0, 1) := by decide +kernel
theorem d_Model_plans_111 : decode m_Model_plans.2.1 111 = .ok (.iconst 0, 1) := by decide +kernel
theorem d_Model_plans_112 : decode m_Model_plans.2.1 112 = .ok (.iload 5, 2) := by decide +kernel
theorem d_Model_plans_114 : decode m_Model_plans.2.1 114 = .ok (.iload_n 2, 1) := by decide +kernel
theorem d_Model_plans_115 : decode m_Model_plans.2.1 115 = .ok (.iconst 1, 1) := by decide +kernel
theorem d_Model_plans_116 : decode m_Model_plans.2.1 116 = .ok (.iadd, 1) := by decide +kernel
theorem d_Model_plans_117 : decode m_Model_plans.2.1 117 = .ok (.iload_n 3, 1) := by decide +kernel
theorem d_Model_plans_118 : decode m_Model_plans.2.1 118 = .ok (.iconst 1, 1) := by decide +kernel
theorem d_Model_plans_119 : decode m_Model_plans.2.1 119 = .ok (.isub, 1) := by decide +kernel
theorem d_Model_plans_120 : decode m_Model_plans.2.1 120 = .ok (.iconst 0, 1) := by decide +kernel
theorem d_Model_plans_121 : decode m_Model_plans.2.1 121 = .ok (.invokevirtual 219, 3) := by decide +kernel
theorem d_Model_plans_124 : decode m_Model_plans.2.1 124 = .ok (.aload_n 0, 1) := by decide +kernel
theorem d_Model_plans_125 : decode m_Model_plans.2.1 125 = .ok (.iconst 0, 1) := by decide +kernel
theorem d_Model_plans_126 : decode m_Model_plans.2.1 126 = .ok (.iload 4, 2) := by decide +kernel
theorem d_Model_plans_128 : decode m_Model_plans.2.1 128 = .ok (.iload_n 2, 1) := by decide +kernel
theorem d_Model_plans_129 : decode m_Model_plans.2.1 129 = .ok (.iload_n 3, 1) := by decide +kernel
theorem d_Model_plans_130 : decode m_Model_plans.2.1 130 = .ok (.iconst 0, 1) := by decide +kernel
theorem d_Model_plans_131 : decode m_Model_plans.2.1 131 = .ok (.invokevirtual 219, 3) := by decide +kernel
theorem d_Model_plans_134 : decode m_Model_plans.2.1 134 = .ok (.goto 209, 3) := by decide +kernel
theorem d_Model_plans_137 : decode m_Model_plans.2.1 137 = .ok (.iload 6, 2) := by decide +kernel
theorem d_Model_plans_139 : decode m_Model_plans.2.1 139 = .ok (.iconst 2, 1) := by decide +kernel
theorem d_Model_plans_140 : decode m_Model_plans.2.1 140 = .ok (.if_icmp .ne 41, 3) := by decide +kernel
theorem d_Model_plans_143 : decode m_Model_plans.2.1 143 = .ok (.aload_n 0, 1) := by decide +kernel
theorem d_Model_plans_144 : decode m_Model_plans.2.1 144 = .ok (.iconst 1, 1) := by decide +kernel
theorem d_Model_plans_145 : decode m_Model_plans.2.1 145 = .ok (.iload_n 1, 1) := by decide +kernel
theorem d_Model_plans_146 : decode m_Model_plans.2.1 146 = .ok (.iload_n 2, 1) := by decide +kernel
theorem d_Model_plans_147 : decode m_Model_plans.2.1 147 = .ok (.iload_n 2, 1) := by decide +kernel
theorem d_Model_plans_148 : decode m_Model_plans.2.1 148 = .ok (.iconst 1, 1) := by decide +kernel
theorem d_Model_plans_149 : decode m_Model_plans.2.1 149 = .ok (.iadd, 1) := by decide +kernel
theorem d_Model_plans_150 : decode m_Model_plans.2.1 150 = .ok (.iload_n 2, 1) := by decide +kernel
theorem d_Model_plans_151 : decode m_Model_plans.2.1 151 = .ok (.invokevirtual 219, 3) := by decide +kernel
theorem d_Model_plans_154 : decode m_Model_plans.2.1 154 = .ok (.aload_n 0, 1) := by decide +kernel
theorem d_Model_plans_155 : decode m_Model_plans.2.1 155 = .ok (.iconst 0, 1) := by decide +kernel
theorem d_Model_plans_156 : decode m_Model_plans.2.1 156 = .ok (.iload 4, 2) := by decide +kernel
theorem d_Model_plans_158 : decode m_Model_plans.2.1 158 = .ok (.iload_n 2, 1) := by decide +kernel
theorem d_Model_plans_159 : decode m_Model_plans.2.1 159 = .ok (.iconst 1, 1) := by decide +kernel
theorem d_Model_plans_160 : decode m_Model_plans.2.1 160 = .ok (.iadd, 1) := by decide +kernel
theorem d_Model_plans_161 : decode m_Model_plans.2.1 161 = .ok (.iload_n 3, 1) := by decide +kernel
theorem d_Model_plans_162 : decode m_Model_plans.2.1 162 = .ok (.iconst 1, 1) := by decide +kernel
theorem d_Model_plans_163 : decode m_Model_plans.2.1 163 = .ok (.isub, 1) := by decide +kernel
theorem d_Model_plans_164 : decode m_Model_plans.2.1 164 = .ok (.iconst 0, 1) := by decide +kernel
theorem d_Model_plans_165 : decode m_Model_plans.2.1 165 = .ok (.invokevirtual 219, 3) := by decide +kernel
theorem d_Model_plans_168 : decode m_Model_plans.2.1 168 = .ok (.aload_n 0, 1) := by decide +kernel
theorem d_Model_plans_169 : decode m_Model_plans.2.1 169 = .ok (.iconst 0, 1) := by decide +kernel
theorem d_Model_plans_170 : decode m_Model_plans.2.1 170 = .ok (.iload 5, 2) := by decide +kernel
theorem d_Model_plans_172 : decode m_Model_plans.2.1 172 = .ok (.iload_n 2, 1) := by decide +kernel
theorem d_Model_plans_173 : decode m_Model_plans.2.1 173 = .ok (.iload_n 3, 1) := by decide +kernel
theorem d_Model_plans_174 : decode m_Model_plans.2.1 174 = .ok (.iconst 0, 1) := by decide +kernel
theorem d_Model_plans_175 : decode m_Model_plans.2.1 175 = .ok (.invokevirtual 219, 3) := by decide +kernel
theorem d_Model_plans_178 : decode m_Model_plans.2.1 178 = .ok (.goto 165, 3) := by decide +kernel
theorem d_Model_plans_181 : decode m_Model_plans.2.1 181 = .ok (.iload 6, 2) := by decide +kernel
theorem d_Model_plans_183 : decode m_Model_plans.2.1 183 = .ok (.iconst 3, 1) := by decide +kernel
theorem d_Model_plans_184 : decode m_Model_plans.2.1 184 = .ok (.if_icmp .eq 9, 3) := by decide +kernel
theorem d_Model_plans_187 : decode m_Model_plans.2.1 187 = .ok (.iload 6, 2) := by decide +kernel
theorem d_Model_plans_189 : decode m_Model_plans.2.1 189 = .ok (.iconst 4, 1) := by decide +kernel
theorem d_Model_plans_190 : decode m_Model_plans.2.1 190 = .ok (.if_icmp .ne 67, 3) := by decide +kernel
theorem d_Model_plans_193 : decode m_Model_plans.2.1 193 = .ok (.aload_n 0, 1) := by decide +kernel
theorem d_Model_plans_194 : decode m_Model_plans.2.1 194 = .ok (.iconst 2, 1) := by decide +kernel
theorem d_Model_plans_195 : decode m_Model_plans.2.1 195 = .ok (.iload_n 1, 1) := by decide +kernel
theorem d_Model_plans_196 : decode m_Model_plans.2.1 196 = .ok (.iload_n 2, 1) := by decide +kernel
theorem d_Model_plans_197 : decode m_Model_plans.2.1 197 = .ok (.iload 6, 2) := by decide +kernel
theorem d_Model_plans_199 : decode m_Model_plans.2.1 199 = .ok (.iconst 3, 1) := by decide +kernel
theorem d_Model_plans_200 : decode m_Model_plans.2.1 200 = .ok (.if_icmp .ne 8, 3) := by decide +kernel
theorem d_Model_plans_203 : decode m_Model_plans.2.1 203 = .ok (.iload 5, 2) := by decide +kernel
theorem d_Model_plans_205 : decode m_Model_plans.2.1 205 = .ok (.goto 5, 3) := by decide +kernel
theorem d_Model_plans_208 : decode m_Model_plans.2.1 208 = .ok (.iload 4, 2) := by decide +kernel
theorem d_Model_plans_210 : decode m_Model_plans.2.1 210 = .ok (.iconst 0, 1) := by decide +kernel
theorem d_Model_plans_211 : decode m_Model_plans.2.1 211 = .ok (.invokevirtual 219, 3) := by decide +kernel
theorem d_Model_plans_214 : decode m_Model_plans.2.1 214 = .ok (.aload_n 0, 1) := by decide +kernel
theorem d_Model_plans_215 : decode m_Model_plans.2.1 215 = .ok (.iconst 0, 1) := by decide +kernel
theorem d_Model_plans_216 : decode m_Model_plans.2.1 216 = .ok (.iload 6, 2) := by decide +kernel
theorem d_Model_plans_218 : decode m_Model_plans.2.1 218 = .ok (.iconst 3, 1) := by decide +kernel
theorem d_Model_plans_219 : decode m_Model_plans.2.1 219 = .ok (.if_icmp .ne 8, 3) := by decide +kernel
theorem d_Model_plans_222 : decode m_Model_plans.2.1 222 = .ok (.iload 4, 2) := by decide +kernel
theorem d_Model_plans_224 : decode m_Model_plans.2.1 224 = .ok (.goto 5, 3) := by decide +kernel
theorem d_Model_plans_227 : decode m_Model_plans.2.1 227 = .ok (.iload 5, 2) := by decide +kernel
theorem d_Model_plans_229 : decode m_Model_plans.2.1 229 = .ok (.iload_n 2, 1) := by decide +kernel
theorem d_Model_plans_230 : decode m_Model_plans.2.1 230 = .ok (.iload_n 3, 1) := by decide +kernel
theorem d_Model_plans_231 : decode m_Model_plans.2.1 231 = .ok (.iconst 0, 1) := by decide +kernel
theorem d_Model_plans_232 : decode m_Model_plans.2.1 232 = .ok (.invokevirtual 219, 3) := by decide +kernel
theorem d_Model_plans_235 : decode m_Model_plans.2.1 235 = .ok (.aload_n 0, 1) := by decide +kernel
theorem d_Model_plans_236 : decode m_Model_plans.2.1 236 = .ok (.iload 6, 2) := by decide +kernel
theorem d_Model_plans_238 : decode m_Model_plans.2.1 238 = .ok (.iconst 3, 1) := by decide +kernel
theorem d_Model_plans_239 : decode m_Model_plans.2.1 239 = .ok (.if_icmp .ne 8, 3) := by decide +kernel
theorem d_Model_plans_242 : decode m_Model_plans.2.1 242 = .ok (.iload 5, 2) := by decide +kernel
theorem d_Model_plans_244 : decode m_Model_plans.2.1 244 = .ok (.goto 5, 3) := by decide +kernel
theorem d_Model_plans_247 : decode m_Model_plans.2.1 247 = .ok (.iload 4, 2) := by decide +kernel
theorem d_Model_plans_249 : decode m_Model_plans.2.1 249 = .ok (.iload_n 2, 1) := by decide +kernel
theorem d_Model_plans_250 : decode m_Model_plans.2.1 250 = .ok (.iload_n 3, 1) := by decide +kernel
theorem d_Model_plans_251 : decode m_Model_plans.2.1 251 = .ok (.invokevirtual 231, 3) := by decide +kernel
theorem d_Model_plans_254 : decode m_Model_plans.2.1 254 = .ok (.goto 89, 3) := by decide +kernel
theorem d_Model_plans_257 : decode m_Model_plans.2.1 257 = .ok (.iload 6, 2) := by decide +kernel
theorem d_Model_plans_259 : decode m_Model_plans.2.1 259 = .ok (.iconst 5, 1) := by decide +kernel
theorem d_Model_plans_260 : decode m_Model_plans.2.1 260 = .ok (.if_icmp .ne 47, 3) := by decide +kernel
theorem d_Model_plans_263 : decode m_Model_plans.2.1 263 = .ok (.aload_n 0, 1) := by decide +kernel
theorem d_Model_plans_264 : decode m_Model_plans.2.1 264 = .ok (.iconst 1, 1) := by decide +kernel
theorem d_Model_plans_265 : decode m_Model_plans.2.1 265 = .ok (.iload_n 1, 1) := by decide +kernel
theorem d_Model_plans_266 : decode m_Model_plans.2.1 266 = .ok (.iload_n 2, 1) := by decide +kernel
theorem d_Model_plans_267 : decode m_Model_plans.2.1 267 = .ok (.iload_n 2, 1) := by decide +kernel
theorem d_Model_plans_268 : decode m_Model_plans.2.1 268 = .ok (.iconst 1, 1) := by decide +kernel
theorem d_Model_plans_269 : decode m_Model_plans.2.1 269 = .ok (.iadd, 1) := by decide +kernel
theorem d_Model_plans_270 : decode m_Model_plans.2.1 270 = .ok (.iload_n 2, 1) := by decide +kernel
theorem d_Model_plans_271 : decode m_Model_plans.2.1 271 = .ok (.invokevirtual 219, 3) := by decide +kernel
theorem d_Model_plans_274 : decode m_Model_plans.2.1 274 = .ok (.aload_n 0, 1) := by decide +kernel
theorem d_Model_plans_275 : decode m_Model_plans.2.1 275 = .ok (.iconst 3, 1) := by decide +kernel
theorem d_Model_plans_276 : decode m_Model_plans.2.1 276 = .ok (.iload 4, 2) := by decide +kernel
theorem d_Model_plans_278 : decode m_Model_plans.2.1 278 = .ok (.iload_n 2, 1) := by decide +kernel
theorem d_Model_plans_279 : decode m_Model_plans.2.1 279 = .ok (.iconst 1, 1) := by decide +kernel
theorem d_Model_plans_280 : decode m_Model_plans.2.1 280 = .ok (.iadd, 1) := by decide +kernel
theorem d_Model_plans_281 : decode m_Model_plans.2.1 281 = .ok (.iconst 0, 1) := by decide +kernel
theorem d_Model_plans_282 : decode m_Model_plans.2.1 282 = .ok (.iconst 0, 1) := by decide +kernel
theorem d_Model_plans_283 : decode m_Model_plans.2.1 283 = .ok (.invokevirtual 219, 3) := by decide +kernel
theorem d_Model_plans_286 : decode m_Model_plans.2.1 286 = .ok (.aload_n 0, 1) := by decide +kernel
theorem d_Model_plans_287 : decode m_Model_plans.2.1 287 = .ok (.iconst 0, 1) := by decide +kernel
theorem d_Model_plans_288 : decode m_Model_plans.2.1 288 = .ok (.iload 5, 2) := by decide +kernel
theorem d_Model_plans_290 : decode m_Model_plans.2.1 290 = .ok (.iload_n 2, 1) := by decide +kernel
theorem d_Model_plans_291 : decode m_Model_plans.2.1 291 = .ok (.iload_n 3, 1) := by decide +kernel
theorem d_Model_plans_292 : decode m_Model_plans.2.1 292 = .ok (.iconst 0, 1) := by decide +kernel
theorem d_Model_plans_293 : decode m_Model_plans.2.1 293 = .ok (.invokevirtual 219, 3) := by decide +kernel
theorem d_Model_plans_296 : decode m_Model_plans.2.1 296 = .ok (.aload_n 0, 1) := by decide +kernel
theorem d_Model_plans_297 : decode m_Model_plans.2.1 297 = .ok (.iload 4, 2) := by decide +kernel
theorem d_Model_plans_299 : decode m_Model_plans.2.1 299 = .ok (.iload_n 2, 1) := by decide +kernel
theorem d_Model_plans_300 : decode m_Model_plans.2.1 300 = .ok (.iload_n 3, 1) := by decide +kernel
theorem d_Model_plans_301 : decode m_Model_plans.2.1 301 = .ok (.invokevirtual 231, 3) := by decide +kernel
theorem d_Model_plans_304 : decode m_Model_plans.2.1 304 = .ok (.goto 39, 3) := by decide +kernel
theorem d_Model_plans_307 : decode m_Model_plans.2.1 307 = .ok (.aload_n 0, 1) := by decide +kernel
theorem d_Model_plans_308 : decode m_Model_plans.2.1 308 = .ok (.iconst 2, 1) := by decide +kernel
theorem d_Model_plans_309 : decode m_Model_plans.2.1 309 = .ok (.iload_n 1, 1) := by decide +kernel
theorem d_Model_plans_310 : decode m_Model_plans.2.1 310 = .ok (.iload_n 2, 1) := by decide +kernel
theorem d_Model_plans_311 : decode m_Model_plans.2.1 311 = .ok (.iload 5, 2) := by decide +kernel
theorem d_Model_plans_313 : decode m_Model_plans.2.1 313 = .ok (.iconst 0, 1) := by decide +kernel
theorem d_Model_plans_314 : decode m_Model_plans.2.1 314 = .ok (.invokevirtual 219, 3) := by decide +kernel
theorem d_Model_plans_317 : decode m_Model_plans.2.1 317 = .ok (.aload_n 0, 1) := by decide +kernel
theorem d_Model_plans_318 : decode m_Model_plans.2.1 318 = .ok (.iconst 3, 1) := by decide +kernel
theorem d_Model_plans_319 : decode m_Model_plans.2.1 319 = .ok (.iload 4, 2) := by decide +kernel
theorem d_Model_plans_321 : decode m_Model_plans.2.1 321 = .ok (.iload_n 2, 1) := by decide +kernel
theorem d_Model_plans_322 : decode m_Model_plans.2.1 322 = .ok (.iconst 0, 1) := by decide +kernel
theorem d_Model_plans_323 : decode m_Model_plans.2.1 323 = .ok (.iconst 0, 1) := by decide +kernel
theorem d_Model_plans_324 : decode m_Model_plans.2.1 324 = .ok (.invokevirtual 219, 3) := by decide +kernel
theorem d_Model_plans_327 : decode m_Model_plans.2.1 327 = .ok (.aload_n 0, 1) := by decide +kernel
theorem d_Model_plans_328 : decode m_Model_plans.2.1 328 = .ok (.iload 5, 2) := by decide +kernel
theorem d_Model_plans_330 : decode m_Model_plans.2.1 330 = .ok (.iload_n 2, 1) := by decide +kernel
theorem d_Model_plans_331 : decode m_Model_plans.2.1 331 = .ok (.iload_n 3, 1) := by decide +kernel
theorem d_Model_plans_332 : decode m_Model_plans.2.1 332 = .ok (.invokevirtual 231, 3) := by decide +kernel
theorem d_Model_plans_335 : decode m_Model_plans.2.1 335 = .ok (.aload_n 0, 1) := by decide +kernel
theorem d_Model_plans_336 : decode m_Model_plans.2.1 336 = .ok (.iload 4, 2) := by decide +kernel
theorem d_Model_plans_338 : decode m_Model_plans.2.1 338 = .ok (.iload_n 2, 1) := by decide +kernel
theorem d_Model_plans_339 : decode m_Model_plans.2.1 339 = .ok (.iload_n 3, 1) := by decide +kernel
theorem d_Model_plans_340 : decode m_Model_plans.2.1 340 = .ok (.invokevirtual 231, 3) := by decide +kernel
theorem d_Model_plans_343 : decode m_Model_plans.2.1 343 = .ok (.return_, 1) := by decide +kernel
theorem d_Model_lies_0 : decode m_Model_lies.2.1 0 = .ok (.aload_n 0, 1) := by decide +kernel
theorem d_Model_lies_1 : decode m_Model_lies.2.1 1 = .ok (.getfield 41, 3) := by decide +kernel
theorem d_Model_lies_4 : decode m_Model_lies.2.1 4 = .ok (.iload_n 1, 1) := by decide +kernel
theorem d_Model_lies_5 : decode m_Model_lies.2.1 5 = .ok (.baload, 1) := by decide +kernel
theorem d_Model_lies_6 : decode m_Model_lies.2.1 6 = .ok (.ifCond .ne 18, 3) := by decide +kernel
theorem d_Model_lies_9 : decode m_Model_lies.2.1 9 = .ok (.iload_n 2, 1) := by decide +kernel
theorem d_Model_lies_10 : decode m_Model_lies.2.1 10 = .ok (.ifCond .eq 12, 3) := by decide +kernel
theorem d_Model_lies_13 : decode m_Model_lies.2.1 13 = .ok (.aload_n 0, 1) := by decide +kernel
theorem d_Model_lies_14 : decode m_Model_lies.2.1 14 = .ok (.getfield 59, 3) := by decide +kernel
theorem d_Model_lies_17 : decode m_Model_lies.2.1 17 = .ok (.iload_n 1, 1) := by decide +kernel
theorem d_Model_lies_18 : decode m_Model_lies.2.1 18 = .ok (.iaload, 1) := by decide +kernel
theorem d_Model_lies_19 : decode m_Model_lies.2.1 19 = .ok (.goto 4, 3) := by decide +kernel
theorem d_Model_lies_22 : decode m_Model_lies.2.1 22 = .ok (.iconst 2, 1) := by decide +kernel
theorem d_Model_lies_23 : decode m_Model_lies.2.1 23 = .ok (.ireturn, 1) := by decide +kernel
theorem d_Model_lies_24 : decode m_Model_lies.2.1 24 = .ok (.iload_n 2, 1) := by decide +kernel
theorem d_Model_lies_25 : decode m_Model_lies.2.1 25 = .ok (.ifCond .eq 15, 3) := by decide +kernel
theorem d_Model_lies_28 : decode m_Model_lies.2.1 28 = .ok (.aload_n 0, 1) := by decide +kernel
theorem d_Model_lies_29 : decode m_Model_lies.2.1 29 = .ok (.getfield 16, 3) := by decide +kernel
theorem d_Model_lies_32 : decode m_Model_lies.2.1 32 = .ok (.bipush 32, 2) := by decide +kernel
theorem d_Model_lies_34 : decode m_Model_lies.2.1 34 = .ok (.iload_n 1, 1) := by decide +kernel
theorem d_Model_lies_35 : decode m_Model_lies.2.1 35 = .ok (.iadd, 1) := by decide +kernel
theorem d_Model_lies_36 : decode m_Model_lies.2.1 36 = .ok (.iaload, 1) := by decide +kernel
theorem d_Model_lies_37 : decode m_Model_lies.2.1 37 = .ok (.goto 21, 3) := by decide +kernel
theorem d_Model_lies_40 : decode m_Model_lies.2.1 40 = .ok (.aload_n 0, 1) := by decide +kernel
theorem d_Model_lies_41 : decode m_Model_lies.2.1 41 = .ok (.getfield 16, 3) := by decide +kernel
theorem d_Model_lies_44 : decode m_Model_lies.2.1 44 = .ok (.iconst 1, 1) := by decide +kernel
theorem d_Model_lies_45 : decode m_Model_lies.2.1 45 = .ok (.iload_n 1, 1) := by decide +kernel
theorem d_Model_lies_46 : decode m_Model_lies.2.1 46 = .ok (.iadd, 1) := by decide +kernel
theorem d_Model_lies_47 : decode m_Model_lies.2.1 47 = .ok (.iaload, 1) := by decide +kernel
theorem d_Model_lies_48 : decode m_Model_lies.2.1 48 = .ok (.bipush 48, 2) := by decide +kernel
theorem d_Model_lies_50 : decode m_Model_lies.2.1 50 = .ok (.if_icmp .ne 7, 3) := by decide +kernel
theorem d_Model_lies_53 : decode m_Model_lies.2.1 53 = .ok (.iconst 0, 1) := by decide +kernel
theorem d_Model_lies_54 : decode m_Model_lies.2.1 54 = .ok (.goto 4, 3) := by decide +kernel
theorem d_Model_lies_57 : decode m_Model_lies.2.1 57 = .ok (.iconst 1, 1) := by decide +kernel
theorem d_Model_lies_58 : decode m_Model_lies.2.1 58 = .ok (.ireturn, 1) := by decide +kernel
theorem d_Model_writes_0 : decode m_Model_writes.2.1 0 = .ok (.aload_n 0, 1) := by decide +kernel
theorem d_Model_writes_1 : decode m_Model_writes.2.1 1 = .ok (.getfield 56, 3) := by decide +kernel
theorem d_Model_writes_4 : decode m_Model_writes.2.1 4 = .ok (.iconst 5, 1) := by decide +kernel
theorem d_Model_writes_5 : decode m_Model_writes.2.1 5 = .ok (.aload_n 0, 1) := by decide +kernel
theorem d_Model_writes_6 : decode m_Model_writes.2.1 6 = .ok (.getfield 222, 3) := by decide +kernel
theorem d_Model_writes_9 : decode m_Model_writes.2.1 9 = .ok (.imul, 1) := by decide +kernel
theorem d_Model_writes_10 : decode m_Model_writes.2.1 10 = .ok (.iload_n 1, 1) := by decide +kernel
theorem d_Model_writes_11 : decode m_Model_writes.2.1 11 = .ok (.iastore, 1) := by decide +kernel
theorem d_Model_writes_12 : decode m_Model_writes.2.1 12 = .ok (.aload_n 0, 1) := by decide +kernel
theorem d_Model_writes_13 : decode m_Model_writes.2.1 13 = .ok (.getfield 56, 3) := by decide +kernel
theorem d_Model_writes_16 : decode m_Model_writes.2.1 16 = .ok (.iconst 5, 1) := by decide +kernel
theorem d_Model_writes_17 : decode m_Model_writes.2.1 17 = .ok (.aload_n 0, 1) := by decide +kernel
theorem d_Model_writes_18 : decode m_Model_writes.2.1 18 = .ok (.getfield 222, 3) := by decide +kernel
theorem d_Model_writes_21 : decode m_Model_writes.2.1 21 = .ok (.imul, 1) := by decide +kernel
theorem d_Model_writes_22 : decode m_Model_writes.2.1 22 = .ok (.iconst 1, 1) := by decide +kernel
theorem d_Model_writes_23 : decode m_Model_writes.2.1 23 = .ok (.iadd, 1) := by decide +kernel
theorem d_Model_writes_24 : decode m_Model_writes.2.1 24 = .ok (.iload_n 2, 1) := by decide +kernel
theorem d_Model_writes_25 : decode m_Model_writes.2.1 25 = .ok (.iastore, 1) := by decide +kernel
theorem d_Model_writes_26 : decode m_Model_writes.2.1 26 = .ok (.aload_n 0, 1) := by decide +kernel
theorem d_Model_writes_27 : decode m_Model_writes.2.1 27 = .ok (.getfield 56, 3) := by decide +kernel
theorem d_Model_writes_30 : decode m_Model_writes.2.1 30 = .ok (.iconst 5, 1) := by decide +kernel
theorem d_Model_writes_31 : decode m_Model_writes.2.1 31 = .ok (.aload_n 0, 1) := by decide +kernel
theorem d_Model_writes_32 : decode m_Model_writes.2.1 32 = .ok (.getfield 222, 3) := by decide +kernel
theorem d_Model_writes_35 : decode m_Model_writes.2.1 35 = .ok (.imul, 1) := by decide +kernel
theorem d_Model_writes_36 : decode m_Model_writes.2.1 36 = .ok (.iconst 2, 1) := by decide +kernel
theorem d_Model_writes_37 : decode m_Model_writes.2.1 37 = .ok (.iadd, 1) := by decide +kernel
theorem d_Model_writes_38 : decode m_Model_writes.2.1 38 = .ok (.iload_n 3, 1) := by decide +kernel
theorem d_Model_writes_39 : decode m_Model_writes.2.1 39 = .ok (.iastore, 1) := by decide +kernel
theorem d_Model_writes_40 : decode m_Model_writes.2.1 40 = .ok (.aload_n 0, 1) := by decide +kernel
theorem d_Model_writes_41 : decode m_Model_writes.2.1 41 = .ok (.getfield 56, 3) := by decide +kernel
theorem d_Model_writes_44 : decode m_Model_writes.2.1 44 = .ok (.iconst 5, 1) := by decide +kernel
theorem d_Model_writes_45 : decode m_Model_writes.2.1 45 = .ok (.aload_n 0, 1) := by decide +kernel
theorem d_Model_writes_46 : decode m_Model_writes.2.1 46 = .ok (.getfield 222, 3) := by decide +kernel
theorem d_Model_writes_49 : decode m_Model_writes.2.1 49 = .ok (.imul, 1) := by decide +kernel
theorem d_Model_writes_50 : decode m_Model_writes.2.1 50 = .ok (.iconst 3, 1) := by decide +kernel
theorem d_Model_writes_51 : decode m_Model_writes.2.1 51 = .ok (.iadd, 1) := by decide +kernel
theorem d_Model_writes_52 : decode m_Model_writes.2.1 52 = .ok (.iload 4, 2) := by decide +kernel
theorem d_Model_writes_54 : decode m_Model_writes.2.1 54 = .ok (.iastore, 1) := by decide +kernel
theorem d_Model_writes_55 : decode m_Model_writes.2.1 55 = .ok (.aload_n 0, 1) := by decide +kernel
theorem d_Model_writes_56 : decode m_Model_writes.2.1 56 = .ok (.getfield 56, 3) := by decide +kernel
theorem d_Model_writes_59 : decode m_Model_writes.2.1 59 = .ok (.iconst 5, 1) := by decide +kernel
theorem d_Model_writes_60 : decode m_Model_writes.2.1 60 = .ok (.aload_n 0, 1) := by decide +kernel
theorem d_Model_writes_61 : decode m_Model_writes.2.1 61 = .ok (.getfield 222, 3) := by decide +kernel
theorem d_Model_writes_64 : decode m_Model_writes.2.1 64 = .ok (.imul, 1) := by decide +kernel
theorem d_Model_writes_65 : decode m_Model_writes.2.1 65 = .ok (.iconst 4, 1) := by decide +kernel
theorem d_Model_writes_66 : decode m_Model_writes.2.1 66 = .ok (.iadd, 1) := by decide +kernel
theorem d_Model_writes_67 : decode m_Model_writes.2.1 67 = .ok (.iload 5, 2) := by decide +kernel
theorem d_Model_writes_69 : decode m_Model_writes.2.1 69 = .ok (.iastore, 1) := by decide +kernel
theorem d_Model_writes_70 : decode m_Model_writes.2.1 70 = .ok (.aload_n 0, 1) := by decide +kernel
theorem d_Model_writes_71 : decode m_Model_writes.2.1 71 = .ok (.dup, 1) := by decide +kernel
theorem d_Model_writes_72 : decode m_Model_writes.2.1 72 = .ok (.getfield 222, 3) := by decide +kernel
theorem d_Model_writes_75 : decode m_Model_writes.2.1 75 = .ok (.iconst 1, 1) := by decide +kernel
theorem d_Model_writes_76 : decode m_Model_writes.2.1 76 = .ok (.iadd, 1) := by decide +kernel
theorem d_Model_writes_77 : decode m_Model_writes.2.1 77 = .ok (.putfield 222, 3) := by decide +kernel
theorem d_Model_writes_80 : decode m_Model_writes.2.1 80 = .ok (.return_, 1) := by decide +kernel
theorem d_Model_toKeep_0 : decode m_Model_toKeep.2.1 0 = .ok (.aload_n 0, 1) := by decide +kernel
theorem d_Model_toKeep_1 : decode m_Model_toKeep.2.1 1 = .ok (.getfield 41, 3) := by decide +kernel
theorem d_Model_toKeep_4 : decode m_Model_toKeep.2.1 4 = .ok (.iload_n 1, 1) := by decide +kernel
theorem d_Model_toKeep_5 : decode m_Model_toKeep.2.1 5 = .ok (.baload, 1) := by decide +kernel
theorem d_Model_toKeep_6 : decode m_Model_toKeep.2.1 6 = .ok (.ifCond .ne 21, 3) := by decide +kernel
theorem d_Model_toKeep_9 : decode m_Model_toKeep.2.1 9 = .ok (.aload_n 0, 1) := by decide +kernel
theorem d_Model_toKeep_10 : decode m_Model_toKeep.2.1 10 = .ok (.iconst 4, 1) := by decide +kernel
theorem d_Model_toKeep_11 : decode m_Model_toKeep.2.1 11 = .ok (.iload_n 1, 1) := by decide +kernel
theorem d_Model_toKeep_12 : decode m_Model_toKeep.2.1 12 = .ok (.iload_n 2, 1) := by decide +kernel
theorem d_Model_toKeep_13 : decode m_Model_toKeep.2.1 13 = .ok (.iconst 0, 1) := by decide +kernel
theorem d_Model_toKeep_14 : decode m_Model_toKeep.2.1 14 = .ok (.iconst 0, 1) := by decide +kernel
theorem d_Model_toKeep_15 : decode m_Model_toKeep.2.1 15 = .ok (.invokevirtual 219, 3) := by decide +kernel
theorem d_Model_toKeep_18 : decode m_Model_toKeep.2.1 18 = .ok (.aload_n 0, 1) := by decide +kernel
theorem d_Model_toKeep_19 : decode m_Model_toKeep.2.1 19 = .ok (.iconst 0, 1) := by decide +kernel
theorem d_Model_toKeep_20 : decode m_Model_toKeep.2.1 20 = .ok (.iload_n 1, 1) := by decide +kernel
theorem d_Model_toKeep_21 : decode m_Model_toKeep.2.1 21 = .ok (.iload_n 2, 1) := by decide +kernel
theorem d_Model_toKeep_22 : decode m_Model_toKeep.2.1 22 = .ok (.iload_n 3, 1) := by decide +kernel
theorem d_Model_toKeep_23 : decode m_Model_toKeep.2.1 23 = .ok (.iconst 0, 1) := by decide +kernel
theorem d_Model_toKeep_24 : decode m_Model_toKeep.2.1 24 = .ok (.invokevirtual 219, 3) := by decide +kernel
theorem d_Model_toKeep_27 : decode m_Model_toKeep.2.1 27 = .ok (.return_, 1) := by decide +kernel
theorem d_Model_line_0 : decode m_Model_line.2.1 0 = .ok (.aload_n 0, 1) := by decide +kernel
theorem d_Model_line_1 : decode m_Model_line.2.1 1 = .ok (.iconst 0, 1) := by decide +kernel
theorem d_Model_line_2 : decode m_Model_line.2.1 2 = .ok (.putfield 75, 3) := by decide +kernel
theorem d_Model_line_5 : decode m_Model_line.2.1 5 = .ok (.aload_n 0, 1) := by decide +kernel
theorem d_Model_line_6 : decode m_Model_line.2.1 6 = .ok (.getfield 16, 3) := by decide +kernel
theorem d_Model_line_9 : decode m_Model_line.2.1 9 = .ok (.iconst 0, 1) := by decide +kernel
theorem d_Model_line_10 : decode m_Model_line.2.1 10 = .ok (.iaload, 1) := by decide +kernel
theorem d_Model_line_11 : decode m_Model_line.2.1 11 = .ok (.ifCond .ne 6, 3) := by decide +kernel
theorem d_Model_line_14 : decode m_Model_line.2.1 14 = .ok (.bipush (-2), 2) := by decide +kernel
theorem d_Model_line_16 : decode m_Model_line.2.1 16 = .ok (.ireturn, 1) := by decide +kernel
theorem d_Model_line_17 : decode m_Model_line.2.1 17 = .ok (.aload_n 0, 1) := by decide +kernel
theorem d_Model_line_18 : decode m_Model_line.2.1 18 = .ok (.aload_n 0, 1) := by decide +kernel
theorem d_Model_line_19 : decode m_Model_line.2.1 19 = .ok (.getfield 16, 3) := by decide +kernel
theorem d_Model_line_22 : decode m_Model_line.2.1 22 = .ok (.sipush 133, 3) := by decide +kernel
theorem d_Model_line_25 : decode m_Model_line.2.1 25 = .ok (.iaload, 1) := by decide +kernel
theorem d_Model_line_26 : decode m_Model_line.2.1 26 = .ok (.invokevirtual 241, 3) := by decide +kernel
theorem d_Model_line_29 : decode m_Model_line.2.1 29 = .ok (.iload_n 1, 1) := by decide +kernel
theorem d_Model_line_30 : decode m_Model_line.2.1 30 = .ok (.iconst 0, 1) := by decide +kernel
theorem d_Model_line_31 : decode m_Model_line.2.1 31 = .ok (.aload_n 0, 1) := by decide +kernel
theorem d_Model_line_32 : decode m_Model_line.2.1 32 = .ok (.getfield 222, 3) := by decide +kernel
theorem d_Model_line_35 : decode m_Model_line.2.1 35 = .ok (.iconst 1, 1) := by decide +kernel
theorem d_Model_line_36 : decode m_Model_line.2.1 36 = .ok (.isub, 1) := by decide +kernel
theorem d_Model_line_37 : decode m_Model_line.2.1 37 = .ok (.invokestatic 78, 3) := by decide +kernel
theorem d_Model_line_40 : decode m_Model_line.2.1 40 = .ok (.ifCond .eq 25, 3) := by decide +kernel
theorem d_Model_line_43 : decode m_Model_line.2.1 43 = .ok (.iload_n 2, 1) := by decide +kernel
theorem d_Model_line_44 : decode m_Model_line.2.1 44 = .ok (.iconst 0, 1) := by decide +kernel
theorem d_Model_line_45 : decode m_Model_line.2.1 45 = .ok (.iconst 4, 1) := by decide +kernel
theorem d_Model_line_46 : decode m_Model_line.2.1 46 = .ok (.invokestatic 78, 3) := by decide +kernel
theorem d_Model_line_49 : decode m_Model_line.2.1 49 = .ok (.ifCond .eq 16, 3) := by decide +kernel
theorem d_Model_line_52 : decode m_Model_line.2.1 52 = .ok (.aload_n 0, 1) := by decide +kernel
theorem d_Model_line_53 : decode m_Model_line.2.1 53 = .ok (.getfield 56, 3) := by decide +kernel
theorem d_Model_line_56 : decode m_Model_line.2.1 56 = .ok (.iconst 5, 1) := by decide +kernel
theorem d_Model_line_57 : decode m_Model_line.2.1 57 = .ok (.iload_n 1, 1) := by decide +kernel
theorem d_Model_line_58 : decode m_Model_line.2.1 58 = .ok (.imul, 1) := by decide +kernel
theorem d_Model_line_59 : decode m_Model_line.2.1 59 = .ok (.iload_n 2, 1) := by decide +kernel
theorem d_Model_line_60 : decode m_Model_line.2.1 60 = .ok (.iadd, 1) := by decide +kernel
theorem d_Model_line_61 : decode m_Model_line.2.1 61 = .ok (.iaload, 1) := by decide +kernel
theorem d_Model_line_62 : decode m_Model_line.2.1 62 = .ok (.goto 4, 3) := by decide +kernel
theorem d_Model_line_65 : decode m_Model_line.2.1 65 = .ok (.iconst (-1), 1) := by decide +kernel
theorem d_Model_line_66 : decode m_Model_line.2.1 66 = .ok (.ireturn, 1) := by decide +kernel
theorem d_Model_run_0 : decode m_Model_run.2.1 0 = .ok (.aload_n 0, 1) := by decide +kernel
theorem d_Model_run_1 : decode m_Model_run.2.1 1 = .ok (.iconst 0, 1) := by decide +kernel
theorem d_Model_run_2 : decode m_Model_run.2.1 2 = .ok (.putfield 75, 3) := by decide +kernel
theorem d_Model_run_5 : decode m_Model_run.2.1 5 = .ok (.aload_n 0, 1) := by decide +kernel
theorem d_Model_run_6 : decode m_Model_run.2.1 6 = .ok (.getfield 16, 3) := by decide +kernel
theorem d_Model_run_9 : decode m_Model_run.2.1 9 = .ok (.iconst 0, 1) := by decide +kernel
theorem d_Model_run_10 : decode m_Model_run.2.1 10 = .ok (.iaload, 1) := by decide +kernel
theorem d_Model_run_11 : decode m_Model_run.2.1 11 = .ok (.ifCond .ne 6, 3) := by decide +kernel
theorem d_Model_run_14 : decode m_Model_run.2.1 14 = .ok (.bipush (-2), 2) := by decide +kernel
theorem d_Model_run_16 : decode m_Model_run.2.1 16 = .ok (.ireturn, 1) := by decide +kernel
theorem d_Model_run_17 : decode m_Model_run.2.1 17 = .ok (.aload_n 0, 1) := by decide +kernel
theorem d_Model_run_18 : decode m_Model_run.2.1 18 = .ok (.aload_n 0, 1) := by decide +kernel
theorem d_Model_run_19 : decode m_Model_run.2.1 19 = .ok (.getfield 16, 3) := by decide +kernel
theorem d_Model_run_22 : decode m_Model_run.2.1 22 = .ok (.sipush 133, 3) := by decide +kernel
theorem d_Model_run_25 : decode m_Model_run.2.1 25 = .ok (.iaload, 1) := by decide +kernel
theorem d_Model_run_26 : decode m_Model_run.2.1 26 = .ok (.invokevirtual 241, 3) := by decide +kernel
theorem d_Model_run_29 : decode m_Model_run.2.1 29 = .ok (.iload_n 1, 1) := by decide +kernel
theorem d_Model_run_30 : decode m_Model_run.2.1 30 = .ok (.iconst 0, 1) := by decide +kernel
theorem d_Model_run_31 : decode m_Model_run.2.1 31 = .ok (.aload_n 0, 1) := by decide +kernel
theorem d_Model_run_32 : decode m_Model_run.2.1 32 = .ok (.getfield 222, 3) := by decide +kernel
theorem d_Model_run_35 : decode m_Model_run.2.1 35 = .ok (.invokestatic 78, 3) := by decide +kernel
theorem d_Model_run_38 : decode m_Model_run.2.1 38 = .ok (.ifCond .ne 5, 3) := by decide +kernel
theorem d_Model_run_41 : decode m_Model_run.2.1 41 = .ok (.iconst (-1), 1) := by decide +kernel
theorem d_Model_run_42 : decode m_Model_run.2.1 42 = .ok (.ireturn, 1) := by decide +kernel
theorem d_Model_run_43 : decode m_Model_run.2.1 43 = .ok (.iconst 0, 1) := by decide +kernel
theorem d_Model_run_44 : decode m_Model_run.2.1 44 = .ok (.istore_n 2, 1) := by decide +kernel
theorem d_Model_run_45 : decode m_Model_run.2.1 45 = .ok (.iload_n 2, 1) := by decide +kernel
theorem d_Model_run_46 : decode m_Model_run.2.1 46 = .ok (.bipush 8, 2) := by decide +kernel
theorem d_Model_run_48 : decode m_Model_run.2.1 48 = .ok (.if_icmp .ge 16, 3) := by decide +kernel
theorem d_Model_run_51 : decode m_Model_run.2.1 51 = .ok (.aload_n 0, 1) := by decide +kernel
theorem d_Model_run_52 : decode m_Model_run.2.1 52 = .ok (.getfield 62, 3) := by decide +kernel
theorem d_Model_run_55 : decode m_Model_run.2.1 55 = .ok (.iload_n 2, 1) := by decide +kernel
theorem d_Model_run_56 : decode m_Model_run.2.1 56 = .ok (.iconst 0, 1) := by decide +kernel
theorem d_Model_run_57 : decode m_Model_run.2.1 57 = .ok (.iastore, 1) := by decide +kernel
theorem d_Model_run_58 : decode m_Model_run.2.1 58 = .ok (.iinc 2 1, 3) := by decide +kernel
theorem d_Model_run_61 : decode m_Model_run.2.1 61 = .ok (.goto (-16), 3) := by decide +kernel
theorem d_Model_run_64 : decode m_Model_run.2.1 64 = .ok (.iconst 0, 1) := by decide +kernel
theorem d_Model_run_65 : decode m_Model_run.2.1 65 = .ok (.istore_n 2, 1) := by decide +kernel
theorem d_Model_run_66 : decode m_Model_run.2.1 66 = .ok (.iload_n 2, 1) := by decide +kernel
theorem d_Model_run_67 : decode m_Model_run.2.1 67 = .ok (.bipush 32, 2) := by decide +kernel
theorem d_Model_run_69 : decode m_Model_run.2.1 69 = .ok (.if_icmp .ge 16, 3) := by decide +kernel
theorem d_Model_run_72 : decode m_Model_run.2.1 72 = .ok (.aload_n 0, 1) := by decide +kernel
theorem d_Model_run_73 : decode m_Model_run.2.1 73 = .ok (.getfield 65, 3) := by decide +kernel
theorem d_Model_run_76 : decode m_Model_run.2.1 76 = .ok (.iload_n 2, 1) := by decide +kernel
theorem d_Model_run_77 : decode m_Model_run.2.1 77 = .ok (.iconst 0, 1) := by decide +kernel
theorem d_Model_run_78 : decode m_Model_run.2.1 78 = .ok (.iastore, 1) := by decide +kernel
theorem d_Model_run_79 : decode m_Model_run.2.1 79 = .ok (.iinc 2 1, 3) := by decide +kernel
theorem d_Model_run_82 : decode m_Model_run.2.1 82 = .ok (.goto (-16), 3) := by decide +kernel
theorem d_Model_run_85 : decode m_Model_run.2.1 85 = .ok (.iconst 0, 1) := by decide +kernel
theorem d_Model_run_86 : decode m_Model_run.2.1 86 = .ok (.istore_n 2, 1) := by decide +kernel
theorem d_Model_run_87 : decode m_Model_run.2.1 87 = .ok (.iload_n 2, 1) := by decide +kernel
theorem d_Model_run_88 : decode m_Model_run.2.1 88 = .ok (.iload_n 1, 1) := by decide +kernel
theorem d_Model_run_89 : decode m_Model_run.2.1 89 = .ok (.if_icmp .ge 210, 3) := by decide +kernel
theorem d_Model_run_92 : decode m_Model_run.2.1 92 = .ok (.aload_n 0, 1) := by decide +kernel
theorem d_Model_run_93 : decode m_Model_run.2.1 93 = .ok (.getfield 56, 3) := by decide +kernel
theorem d_Model_run_96 : decode m_Model_run.2.1 96 = .ok (.iconst 5, 1) := by decide +kernel
theorem d_Model_run_97 : decode m_Model_run.2.1 97 = .ok (.iload_n 2, 1) := by decide +kernel
theorem d_Model_run_98 : decode m_Model_run.2.1 98 = .ok (.imul, 1) := by decide +kernel
theorem d_Model_run_99 : decode m_Model_run.2.1 99 = .ok (.iaload, 1) := by decide +kernel
theorem d_Model_run_100 : decode m_Model_run.2.1 100 = .ok (.istore_n 3, 1) := by decide +kernel
theorem d_Model_run_101 : decode m_Model_run.2.1 101 = .ok (.aload_n 0, 1) := by decide +kernel
theorem d_Model_run_102 : decode m_Model_run.2.1 102 = .ok (.getfield 56, 3) := by decide +kernel
theorem d_Model_run_105 : decode m_Model_run.2.1 105 = .ok (.iconst 5, 1) := by decide +kernel
theorem d_Model_run_106 : decode m_Model_run.2.1 106 = .ok (.iload_n 2, 1) := by decide +kernel
theorem d_Model_run_107 : decode m_Model_run.2.1 107 = .ok (.imul, 1) := by decide +kernel
theorem d_Model_run_108 : decode m_Model_run.2.1 108 = .ok (.iconst 1, 1) := by decide +kernel
theorem d_Model_run_109 : decode m_Model_run.2.1 109 = .ok (.iadd, 1) := by decide +kernel
theorem d_Model_run_110 : decode m_Model_run.2.1 110 = .ok (.iaload, 1) := by decide +kernel
theorem d_Model_run_111 : decode m_Model_run.2.1 111 = .ok (.istore 4, 2) := by decide +kernel
theorem d_Model_run_113 : decode m_Model_run.2.1 113 = .ok (.aload_n 0, 1) := by decide +kernel
theorem d_Model_run_114 : decode m_Model_run.2.1 114 = .ok (.getfield 56, 3) := by decide +kernel
theorem d_Model_run_117 : decode m_Model_run.2.1 117 = .ok (.iconst 5, 1) := by decide +kernel
theorem d_Model_run_118 : decode m_Model_run.2.1 118 = .ok (.iload_n 2, 1) := by decide +kernel
theorem d_Model_run_119 : decode m_Model_run.2.1 119 = .ok (.imul, 1) := by decide +kernel
theorem d_Model_run_120 : decode m_Model_run.2.1 120 = .ok (.iconst 2, 1) := by decide +kernel
theorem d_Model_run_121 : decode m_Model_run.2.1 121 = .ok (.iadd, 1) := by decide +kernel
theorem d_Model_run_122 : decode m_Model_run.2.1 122 = .ok (.iaload, 1) := by decide +kernel
theorem d_Model_run_123 : decode m_Model_run.2.1 123 = .ok (.istore 5, 2) := by decide +kernel
theorem d_Model_run_125 : decode m_Model_run.2.1 125 = .ok (.aload_n 0, 1) := by decide +kernel
theorem d_Model_run_126 : decode m_Model_run.2.1 126 = .ok (.getfield 56, 3) := by decide +kernel
theorem d_Model_run_129 : decode m_Model_run.2.1 129 = .ok (.iconst 5, 1) := by decide +kernel
theorem d_Model_run_130 : decode m_Model_run.2.1 130 = .ok (.iload_n 2, 1) := by decide +kernel
theorem d_Model_run_131 : decode m_Model_run.2.1 131 = .ok (.imul, 1) := by decide +kernel
theorem d_Model_run_132 : decode m_Model_run.2.1 132 = .ok (.iconst 3, 1) := by decide +kernel
theorem d_Model_run_133 : decode m_Model_run.2.1 133 = .ok (.iadd, 1) := by decide +kernel
theorem d_Model_run_134 : decode m_Model_run.2.1 134 = .ok (.iaload, 1) := by decide +kernel
theorem d_Model_run_135 : decode m_Model_run.2.1 135 = .ok (.istore 6, 2) := by decide +kernel
theorem d_Model_run_137 : decode m_Model_run.2.1 137 = .ok (.aload_n 0, 1) := by decide +kernel
theorem d_Model_run_138 : decode m_Model_run.2.1 138 = .ok (.getfield 56, 3) := by decide +kernel
theorem d_Model_run_141 : decode m_Model_run.2.1 141 = .ok (.iconst 5, 1) := by decide +kernel
theorem d_Model_run_142 : decode m_Model_run.2.1 142 = .ok (.iload_n 2, 1) := by decide +kernel
theorem d_Model_run_143 : decode m_Model_run.2.1 143 = .ok (.imul, 1) := by decide +kernel
theorem d_Model_run_144 : decode m_Model_run.2.1 144 = .ok (.iconst 4, 1) := by decide +kernel
theorem d_Model_run_145 : decode m_Model_run.2.1 145 = .ok (.iadd, 1) := by decide +kernel
theorem d_Model_run_146 : decode m_Model_run.2.1 146 = .ok (.iaload, 1) := by decide +kernel
theorem d_Model_run_147 : decode m_Model_run.2.1 147 = .ok (.istore 7, 2) := by decide +kernel
theorem d_Model_run_149 : decode m_Model_run.2.1 149 = .ok (.iload_n 3, 1) := by decide +kernel
theorem d_Model_run_150 : decode m_Model_run.2.1 150 = .ok (.ifCond .ne 21, 3) := by decide +kernel
theorem d_Model_run_153 : decode m_Model_run.2.1 153 = .ok (.aload_n 0, 1) := by decide +kernel
theorem d_Model_run_154 : decode m_Model_run.2.1 154 = .ok (.getfield 62, 3) := by decide +kernel
theorem d_Model_run_157 : decode m_Model_run.2.1 157 = .ok (.iload 4, 2) := by decide +kernel
theorem d_Model_run_159 : decode m_Model_run.2.1 159 = .ok (.aload_n 0, 1) := by decide +kernel
theorem d_Model_run_160 : decode m_Model_run.2.1 160 = .ok (.iload 6, 2) := by decide +kernel
theorem d_Model_run_162 : decode m_Model_run.2.1 162 = .ok (.iload 7, 2) := by decide +kernel
theorem d_Model_run_164 : decode m_Model_run.2.1 164 = .ok (.invokevirtual 244, 3) := by decide +kernel
theorem d_Model_run_167 : decode m_Model_run.2.1 167 = .ok (.iastore, 1) := by decide +kernel
theorem d_Model_run_168 : decode m_Model_run.2.1 168 = .ok (.goto 125, 3) := by decide +kernel
theorem d_Model_run_171 : decode m_Model_run.2.1 171 = .ok (.iload_n 3, 1) := by decide +kernel
theorem d_Model_run_172 : decode m_Model_run.2.1 172 = .ok (.iconst 3, 1) := by decide +kernel
theorem d_Model_run_173 : decode m_Model_run.2.1 173 = .ok (.if_icmp .ne 20, 3) := by decide +kernel
theorem d_Model_run_176 : decode m_Model_run.2.1 176 = .ok (.aload_n 0, 1) := by decide +kernel
theorem d_Model_run_177 : decode m_Model_run.2.1 177 = .ok (.getfield 65, 3) := by decide +kernel
theorem d_Model_run_180 : decode m_Model_run.2.1 180 = .ok (.iload 7, 2) := by decide +kernel
theorem d_Model_run_182 : decode m_Model_run.2.1 182 = .ok (.aload_n 0, 1) := by decide +kernel
theorem d_Model_run_183 : decode m_Model_run.2.1 183 = .ok (.getfield 62, 3) := by decide +kernel
theorem d_Model_run_186 : decode m_Model_run.2.1 186 = .ok (.iload 4, 2) := by decide +kernel
theorem d_Model_run_188 : decode m_Model_run.2.1 188 = .ok (.iaload, 1) := by decide +kernel
theorem d_Model_run_189 : decode m_Model_run.2.1 189 = .ok (.iastore, 1) := by decide +kernel
theorem d_Model_run_190 : decode m_Model_run.2.1 190 = .ok (.goto 103, 3) := by decide +kernel
theorem d_Model_run_193 : decode m_Model_run.2.1 193 = .ok (.iload_n 3, 1) := by decide +kernel
theorem d_Model_run_194 : decode m_Model_run.2.1 194 = .ok (.iconst 1, 1) := by decide +kernel
theorem d_Model_run_195 : decode m_Model_run.2.1 195 = .ok (.if_icmp .ne 13, 3) := by decide +kernel
theorem d_Model_run_198 : decode m_Model_run.2.1 198 = .ok (.aload_n 0, 1) := by decide +kernel
theorem d_Model_run_199 : decode m_Model_run.2.1 199 = .ok (.getfield 62, 3) := by decide +kernel
theorem d_Model_run_202 : decode m_Model_run.2.1 202 = .ok (.iload 6, 2) := by decide +kernel
theorem d_Model_run_204 : decode m_Model_run.2.1 204 = .ok (.iaload, 1) := by decide +kernel
theorem d_Model_run_205 : decode m_Model_run.2.1 205 = .ok (.goto 10, 3) := by decide +kernel
theorem d_Model_run_208 : decode m_Model_run.2.1 208 = .ok (.aload_n 0, 1) := by decide +kernel
theorem d_Model_run_209 : decode m_Model_run.2.1 209 = .ok (.getfield 62, 3) := by decide +kernel
theorem d_Model_run_212 : decode m_Model_run.2.1 212 = .ok (.iload 4, 2) := by decide +kernel
theorem d_Model_run_214 : decode m_Model_run.2.1 214 = .ok (.iaload, 1) := by decide +kernel
theorem d_Model_run_215 : decode m_Model_run.2.1 215 = .ok (.istore 8, 2) := by decide +kernel
theorem d_Model_run_217 : decode m_Model_run.2.1 217 = .ok (.iload_n 3, 1) := by decide +kernel
theorem d_Model_run_218 : decode m_Model_run.2.1 218 = .ok (.iconst 1, 1) := by decide +kernel
theorem d_Model_run_219 : decode m_Model_run.2.1 219 = .ok (.if_icmp .ne 13, 3) := by decide +kernel
theorem d_Model_run_222 : decode m_Model_run.2.1 222 = .ok (.aload_n 0, 1) := by decide +kernel
theorem d_Model_run_223 : decode m_Model_run.2.1 223 = .ok (.getfield 62, 3) := by decide +kernel
theorem d_Model_run_226 : decode m_Model_run.2.1 226 = .ok (.iload 7, 2) := by decide +kernel
theorem d_Model_run_228 : decode m_Model_run.2.1 228 = .ok (.iaload, 1) := by decide +kernel
theorem d_Model_run_229 : decode m_Model_run.2.1 229 = .ok (.goto 11, 3) := by decide +kernel
theorem d_Model_run_232 : decode m_Model_run.2.1 232 = .ok (.aload_n 0, 1) := by decide +kernel
theorem d_Model_run_233 : decode m_Model_run.2.1 233 = .ok (.iload 6, 2) := by decide +kernel
theorem d_Model_run_235 : decode m_Model_run.2.1 235 = .ok (.iload 7, 2) := by decide +kernel
theorem d_Model_run_237 : decode m_Model_run.2.1 237 = .ok (.invokevirtual 244, 3) := by decide +kernel
theorem d_Model_run_240 : decode m_Model_run.2.1 240 = .ok (.istore 9, 2) := by decide +kernel
theorem d_Model_run_242 : decode m_Model_run.2.1 242 = .ok (.aload_n 0, 1) := by decide +kernel
theorem d_Model_run_243 : decode m_Model_run.2.1 243 = .ok (.getfield 16, 3) := by decide +kernel
theorem d_Model_run_246 : decode m_Model_run.2.1 246 = .ok (.iconst 1, 1) := by decide +kernel
theorem d_Model_run_247 : decode m_Model_run.2.1 247 = .ok (.iload 5, 2) := by decide +kernel
theorem d_Model_run_249 : decode m_Model_run.2.1 249 = .ok (.iadd, 1) := by decide +kernel
theorem d_Model_run_250 : decode m_Model_run.2.1 250 = .ok (.iaload, 1) := by decide +kernel
theorem d_Model_run_251 : decode m_Model_run.2.1 251 = .ok (.iload 8, 2) := by decide +kernel
theorem d_Model_run_253 : decode m_Model_run.2.1 253 = .ok (.iload 9, 2) := by decide +kernel
theorem d_Model_run_255 : decode m_Model_run.2.1 255 = .ok (.invokestatic 187, 3) := by decide +kernel
theorem d_Model_run_258 : decode m_Model_run.2.1 258 = .ok (.ifCond .eq 12, 3) := by decide +kernel
theorem d_Model_run_261 : decode m_Model_run.2.1 261 = .ok (.aload_n 0, 1) := by decide +kernel
theorem d_Model_run_262 : decode m_Model_run.2.1 262 = .ok (.iload 5, 2) := by decide +kernel
theorem d_Model_run_264 : decode m_Model_run.2.1 264 = .ok (.putfield 71, 3) := by decide +kernel
theorem d_Model_run_267 : decode m_Model_run.2.1 267 = .ok (.bipush (-4), 2) := by decide +kernel
theorem d_Model_run_269 : decode m_Model_run.2.1 269 = .ok (.ireturn, 1) := by decide +kernel
theorem d_Model_run_270 : decode m_Model_run.2.1 270 = .ok (.aload_n 0, 1) := by decide +kernel
theorem d_Model_run_271 : decode m_Model_run.2.1 271 = .ok (.getfield 62, 3) := by decide +kernel
theorem d_Model_run_274 : decode m_Model_run.2.1 274 = .ok (.iload 4, 2) := by decide +kernel
theorem d_Model_run_276 : decode m_Model_run.2.1 276 = .ok (.aload_n 0, 1) := by decide +kernel
theorem d_Model_run_277 : decode m_Model_run.2.1 277 = .ok (.getfield 16, 3) := by decide +kernel
theorem d_Model_run_280 : decode m_Model_run.2.1 280 = .ok (.iconst 1, 1) := by decide +kernel
theorem d_Model_run_281 : decode m_Model_run.2.1 281 = .ok (.iload 5, 2) := by decide +kernel
theorem d_Model_run_283 : decode m_Model_run.2.1 283 = .ok (.iadd, 1) := by decide +kernel
theorem d_Model_run_284 : decode m_Model_run.2.1 284 = .ok (.iaload, 1) := by decide +kernel
theorem d_Model_run_285 : decode m_Model_run.2.1 285 = .ok (.iload 8, 2) := by decide +kernel
theorem d_Model_run_287 : decode m_Model_run.2.1 287 = .ok (.iload 9, 2) := by decide +kernel
theorem d_Model_run_289 : decode m_Model_run.2.1 289 = .ok (.invokestatic 190, 3) := by decide +kernel
theorem d_Model_run_292 : decode m_Model_run.2.1 292 = .ok (.iastore, 1) := by decide +kernel
theorem d_Model_run_293 : decode m_Model_run.2.1 293 = .ok (.iinc 2 1, 3) := by decide +kernel
theorem d_Model_run_296 : decode m_Model_run.2.1 296 = .ok (.goto (-209), 3) := by decide +kernel
theorem d_Model_run_299 : decode m_Model_run.2.1 299 = .ok (.aload_n 0, 1) := by decide +kernel
theorem d_Model_run_300 : decode m_Model_run.2.1 300 = .ok (.aload_n 0, 1) := by decide +kernel
theorem d_Model_run_301 : decode m_Model_run.2.1 301 = .ok (.getfield 62, 3) := by decide +kernel
theorem d_Model_run_304 : decode m_Model_run.2.1 304 = .ok (.iconst 0, 1) := by decide +kernel
theorem d_Model_run_305 : decode m_Model_run.2.1 305 = .ok (.iaload, 1) := by decide +kernel
theorem d_Model_run_306 : decode m_Model_run.2.1 306 = .ok (.putfield 194, 3) := by decide +kernel
theorem d_Model_run_309 : decode m_Model_run.2.1 309 = .ok (.iconst 1, 1) := by decide +kernel
theorem d_Model_run_310 : decode m_Model_run.2.1 310 = .ok (.ireturn, 1) := by decide +kernel
theorem d_Model_from_0 : decode m_Model_from.2.1 0 = .ok (.iload_n 1, 1) := by decide +kernel
theorem d_Model_from_1 : decode m_Model_from.2.1 1 = .ok (.ifCond .ne 7, 3) := by decide +kernel
theorem d_Model_from_4 : decode m_Model_from.2.1 4 = .ok (.iload_n 2, 1) := by decide +kernel
theorem d_Model_from_5 : decode m_Model_from.2.1 5 = .ok (.goto 26, 3) := by decide +kernel
theorem d_Model_from_8 : decode m_Model_from.2.1 8 = .ok (.iload_n 1, 1) := by decide +kernel
theorem d_Model_from_9 : decode m_Model_from.2.1 9 = .ok (.iconst 1, 1) := by decide +kernel
theorem d_Model_from_10 : decode m_Model_from.2.1 10 = .ok (.if_icmp .ne 15, 3) := by decide +kernel
theorem d_Model_from_13 : decode m_Model_from.2.1 13 = .ok (.aload_n 0, 1) := by decide +kernel
theorem d_Model_from_14 : decode m_Model_from.2.1 14 = .ok (.getfield 16, 3) := by decide +kernel
theorem d_Model_from_17 : decode m_Model_from.2.1 17 = .ok (.bipush 125, 2) := by decide +kernel
theorem d_Model_from_19 : decode m_Model_from.2.1 19 = .ok (.iload_n 2, 1) := by decide +kernel
theorem d_Model_from_20 : decode m_Model_from.2.1 20 = .ok (.iadd, 1) := by decide +kernel
theorem d_Model_from_21 : decode m_Model_from.2.1 21 = .ok (.iaload, 1) := by decide +kernel
theorem d_Model_from_22 : decode m_Model_from.2.1 22 = .ok (.goto 9, 3) := by decide +kernel
theorem d_Model_from_25 : decode m_Model_from.2.1 25 = .ok (.aload_n 0, 1) := by decide +kernel
theorem d_Model_from_26 : decode m_Model_from.2.1 26 = .ok (.getfield 65, 3) := by decide +kernel
theorem d_Model_from_29 : decode m_Model_from.2.1 29 = .ok (.iload_n 2, 1) := by decide +kernel
theorem d_Model_from_30 : decode m_Model_from.2.1 30 = .ok (.iaload, 1) := by decide +kernel
theorem d_Model_from_31 : decode m_Model_from.2.1 31 = .ok (.ireturn, 1) := by decide +kernel
theorem d_Model_fewest_0 : decode m_Model_fewest.2.1 0 = .ok (.aload_n 0, 1) := by decide +kernel
theorem d_Model_fewest_1 : decode m_Model_fewest.2.1 1 = .ok (.iconst 0, 1) := by decide +kernel
theorem d_Model_fewest_2 : decode m_Model_fewest.2.1 2 = .ok (.putfield 75, 3) := by decide +kernel
theorem d_Model_fewest_5 : decode m_Model_fewest.2.1 5 = .ok (.aload_n 0, 1) := by decide +kernel
theorem d_Model_fewest_6 : decode m_Model_fewest.2.1 6 = .ok (.getfield 16, 3) := by decide +kernel
theorem d_Model_fewest_9 : decode m_Model_fewest.2.1 9 = .ok (.iconst 0, 1) := by decide +kernel
theorem d_Model_fewest_10 : decode m_Model_fewest.2.1 10 = .ok (.iaload, 1) := by decide +kernel
theorem d_Model_fewest_11 : decode m_Model_fewest.2.1 11 = .ok (.ifCond .ne 6, 3) := by decide +kernel
theorem d_Model_fewest_14 : decode m_Model_fewest.2.1 14 = .ok (.bipush (-2), 2) := by decide +kernel
theorem d_Model_fewest_16 : decode m_Model_fewest.2.1 16 = .ok (.ireturn, 1) := by decide +kernel
theorem d_Model_fewest_17 : decode m_Model_fewest.2.1 17 = .ok (.iconst 1, 1) := by decide +kernel
theorem d_Model_fewest_18 : decode m_Model_fewest.2.1 18 = .ok (.istore_n 1, 1) := by decide +kernel
theorem d_Model_fewest_19 : decode m_Model_fewest.2.1 19 = .ok (.iload_n 1, 1) := by decide +kernel
theorem d_Model_fewest_20 : decode m_Model_fewest.2.1 20 = .ok (.aload_n 0, 1) := by decide +kernel
theorem d_Model_fewest_21 : decode m_Model_fewest.2.1 21 = .ok (.getfield 16, 3) := by decide +kernel
theorem d_Model_fewest_24 : decode m_Model_fewest.2.1 24 = .ok (.sipush 133, 3) := by decide +kernel
theorem d_Model_fewest_27 : decode m_Model_fewest.2.1 27 = .ok (.iaload, 1) := by decide +kernel
theorem d_Model_fewest_28 : decode m_Model_fewest.2.1 28 = .ok (.if_icmp .gt 23, 3) := by decide +kernel
theorem d_Model_fewest_31 : decode m_Model_fewest.2.1 31 = .ok (.aload_n 0, 1) := by decide +kernel
theorem d_Model_fewest_32 : decode m_Model_fewest.2.1 32 = .ok (.iload_n 1, 1) := by decide +kernel
theorem d_Model_fewest_33 : decode m_Model_fewest.2.1 33 = .ok (.invokevirtual 241, 3) := by decide +kernel
theorem d_Model_fewest_36 : decode m_Model_fewest.2.1 36 = .ok (.aload_n 0, 1) := by decide +kernel
theorem d_Model_fewest_37 : decode m_Model_fewest.2.1 37 = .ok (.getfield 235, 3) := by decide +kernel
theorem d_Model_fewest_40 : decode m_Model_fewest.2.1 40 = .ok (.ifCond .ne 5, 3) := by decide +kernel
theorem d_Model_fewest_43 : decode m_Model_fewest.2.1 43 = .ok (.iload_n 1, 1) := by decide +kernel
theorem d_Model_fewest_44 : decode m_Model_fewest.2.1 44 = .ok (.ireturn, 1) := by decide +kernel
theorem d_Model_fewest_45 : decode m_Model_fewest.2.1 45 = .ok (.iinc 1 1, 3) := by decide +kernel
theorem d_Model_fewest_48 : decode m_Model_fewest.2.1 48 = .ok (.goto (-29), 3) := by decide +kernel
theorem d_Model_fewest_51 : decode m_Model_fewest.2.1 51 = .ok (.bipush (-9), 2) := by decide +kernel
theorem d_Model_fewest_53 : decode m_Model_fewest.2.1 53 = .ok (.ireturn, 1) := by decide +kernel
theorem d_Model_exchange_0 : decode m_Model_exchange.2.1 0 = .ok (.aload_n 0, 1) := by decide +kernel
theorem d_Model_exchange_1 : decode m_Model_exchange.2.1 1 = .ok (.iconst 0, 1) := by decide +kernel
theorem d_Model_exchange_2 : decode m_Model_exchange.2.1 2 = .ok (.putfield 75, 3) := by decide +kernel
theorem d_Model_exchange_5 : decode m_Model_exchange.2.1 5 = .ok (.aload_n 0, 1) := by decide +kernel
theorem d_Model_exchange_6 : decode m_Model_exchange.2.1 6 = .ok (.iload_n 1, 1) := by decide +kernel
theorem d_Model_exchange_7 : decode m_Model_exchange.2.1 7 = .ok (.invokevirtual 172, 3) := by decide +kernel
theorem d_Model_exchange_10 : decode m_Model_exchange.2.1 10 = .ok (.ifCond .ne 5, 3) := by decide +kernel
theorem d_Model_exchange_13 : decode m_Model_exchange.2.1 13 = .ok (.iconst (-1), 1) := by decide +kernel
theorem d_Model_exchange_14 : decode m_Model_exchange.2.1 14 = .ok (.ireturn, 1) := by decide +kernel
theorem d_Model_exchange_15 : decode m_Model_exchange.2.1 15 = .ok (.aload_n 0, 1) := by decide +kernel
theorem d_Model_exchange_16 : decode m_Model_exchange.2.1 16 = .ok (.getfield 16, 3) := by decide +kernel
theorem d_Model_exchange_19 : decode m_Model_exchange.2.1 19 = .ok (.iconst 1, 1) := by decide +kernel
theorem d_Model_exchange_20 : decode m_Model_exchange.2.1 20 = .ok (.iload_n 1, 1) := by decide +kernel
theorem d_Model_exchange_21 : decode m_Model_exchange.2.1 21 = .ok (.iadd, 1) := by decide +kernel
theorem d_Model_exchange_22 : decode m_Model_exchange.2.1 22 = .ok (.iaload, 1) := by decide +kernel
theorem d_Model_exchange_23 : decode m_Model_exchange.2.1 23 = .ok (.invokestatic 162, 3) := by decide +kernel
theorem d_Model_exchange_26 : decode m_Model_exchange.2.1 26 = .ok (.ifCond .eq 35, 3) := by decide +kernel
theorem d_Model_exchange_29 : decode m_Model_exchange.2.1 29 = .ok (.aload_n 0, 1) := by decide +kernel
theorem d_Model_exchange_30 : decode m_Model_exchange.2.1 30 = .ok (.aload_n 0, 1) := by decide +kernel
theorem d_Model_exchange_31 : decode m_Model_exchange.2.1 31 = .ok (.getfield 16, 3) := by decide +kernel
theorem d_Model_exchange_34 : decode m_Model_exchange.2.1 34 = .ok (.bipush 63, 2) := by decide +kernel
theorem d_Model_exchange_36 : decode m_Model_exchange.2.1 36 = .ok (.iload_n 1, 1) := by decide +kernel
theorem d_Model_exchange_37 : decode m_Model_exchange.2.1 37 = .ok (.iadd, 1) := by decide +kernel
theorem d_Model_exchange_38 : decode m_Model_exchange.2.1 38 = .ok (.iaload, 1) := by decide +kernel
theorem d_Model_exchange_39 : decode m_Model_exchange.2.1 39 = .ok (.invokevirtual 178, 3) := by decide +kernel
theorem d_Model_exchange_42 : decode m_Model_exchange.2.1 42 = .ok (.ifCond .eq 22, 3) := by decide +kernel
theorem d_Model_exchange_45 : decode m_Model_exchange.2.1 45 = .ok (.aload_n 0, 1) := by decide +kernel
theorem d_Model_exchange_46 : decode m_Model_exchange.2.1 46 = .ok (.aload_n 0, 1) := by decide +kernel
theorem d_Model_exchange_47 : decode m_Model_exchange.2.1 47 = .ok (.getfield 16, 3) := by decide +kernel
theorem d_Model_exchange_50 : decode m_Model_exchange.2.1 50 = .ok (.bipush 94, 2) := by decide +kernel
theorem d_Model_exchange_52 : decode m_Model_exchange.2.1 52 = .ok (.iload_n 1, 1) := by decide +kernel
theorem d_Model_exchange_53 : decode m_Model_exchange.2.1 53 = .ok (.iadd, 1) := by decide +kernel
theorem d_Model_exchange_54 : decode m_Model_exchange.2.1 54 = .ok (.iaload, 1) := by decide +kernel
theorem d_Model_exchange_55 : decode m_Model_exchange.2.1 55 = .ok (.invokevirtual 178, 3) := by decide +kernel
theorem d_Model_exchange_58 : decode m_Model_exchange.2.1 58 = .ok (.ifCond .eq 6, 3) := by decide +kernel
theorem d_Model_exchange_61 : decode m_Model_exchange.2.1 61 = .ok (.bipush (-2), 2) := by decide +kernel
theorem d_Model_exchange_63 : decode m_Model_exchange.2.1 63 = .ok (.ireturn, 1) := by decide +kernel
theorem d_Model_exchange_64 : decode m_Model_exchange.2.1 64 = .ok (.aload_n 0, 1) := by decide +kernel
theorem d_Model_exchange_65 : decode m_Model_exchange.2.1 65 = .ok (.invokevirtual 247, 3) := by decide +kernel
theorem d_Model_exchange_68 : decode m_Model_exchange.2.1 68 = .ok (.iconst 0, 1) := by decide +kernel
theorem d_Model_exchange_69 : decode m_Model_exchange.2.1 69 = .ok (.istore_n 2, 1) := by decide +kernel
theorem d_Model_exchange_70 : decode m_Model_exchange.2.1 70 = .ok (.iload_n 2, 1) := by decide +kernel
theorem d_Model_exchange_71 : decode m_Model_exchange.2.1 71 = .ok (.sipush 138, 3) := by decide +kernel
theorem d_Model_exchange_74 : decode m_Model_exchange.2.1 74 = .ok (.if_icmp .ge 21, 3) := by decide +kernel
theorem d_Model_exchange_77 : decode m_Model_exchange.2.1 77 = .ok (.aload_n 0, 1) := by decide +kernel
theorem d_Model_exchange_78 : decode m_Model_exchange.2.1 78 = .ok (.getfield 19, 3) := by decide +kernel
theorem d_Model_exchange_81 : decode m_Model_exchange.2.1 81 = .ok (.iload_n 2, 1) := by decide +kernel
theorem d_Model_exchange_82 : decode m_Model_exchange.2.1 82 = .ok (.aload_n 0, 1) := by decide +kernel
theorem d_Model_exchange_83 : decode m_Model_exchange.2.1 83 = .ok (.getfield 16, 3) := by decide +kernel
theorem d_Model_exchange_86 : decode m_Model_exchange.2.1 86 = .ok (.iload_n 2, 1) := by decide +kernel
theorem d_Model_exchange_87 : decode m_Model_exchange.2.1 87 = .ok (.iaload, 1) := by decide +kernel
theorem d_Model_exchange_88 : decode m_Model_exchange.2.1 88 = .ok (.iastore, 1) := by decide +kernel
theorem d_Model_exchange_89 : decode m_Model_exchange.2.1 89 = .ok (.iinc 2 1, 3) := by decide +kernel
theorem d_Model_exchange_92 : decode m_Model_exchange.2.1 92 = .ok (.goto (-22), 3) := by decide +kernel
theorem d_Model_exchange_95 : decode m_Model_exchange.2.1 95 = .ok (.aload_n 0, 1) := by decide +kernel
theorem d_Model_exchange_96 : decode m_Model_exchange.2.1 96 = .ok (.getfield 16, 3) := by decide +kernel
theorem d_Model_exchange_99 : decode m_Model_exchange.2.1 99 = .ok (.bipush 63, 2) := by decide +kernel
theorem d_Model_exchange_101 : decode m_Model_exchange.2.1 101 = .ok (.iload_n 1, 1) := by decide +kernel
theorem d_Model_exchange_102 : decode m_Model_exchange.2.1 102 = .ok (.iadd, 1) := by decide +kernel
theorem d_Model_exchange_103 : decode m_Model_exchange.2.1 103 = .ok (.iaload, 1) := by decide +kernel
theorem d_Model_exchange_104 : decode m_Model_exchange.2.1 104 = .ok (.istore_n 2, 1) := by decide +kernel
theorem d_Model_exchange_105 : decode m_Model_exchange.2.1 105 = .ok (.aload_n 0, 1) := by decide +kernel
theorem d_Model_exchange_106 : decode m_Model_exchange.2.1 106 = .ok (.iload_n 2, 1) := by decide +kernel
theorem d_Model_exchange_107 : decode m_Model_exchange.2.1 107 = .ok (.invokevirtual 148, 3) := by decide +kernel
theorem d_Model_exchange_110 : decode m_Model_exchange.2.1 110 = .ok (.istore_n 3, 1) := by decide +kernel
theorem d_Model_exchange_111 : decode m_Model_exchange.2.1 111 = .ok (.aload_n 0, 1) := by decide +kernel
theorem d_Model_exchange_112 : decode m_Model_exchange.2.1 112 = .ok (.aload_n 0, 1) := by decide +kernel
theorem d_Model_exchange_113 : decode m_Model_exchange.2.1 113 = .ok (.getfield 16, 3) := by decide +kernel
theorem d_Model_exchange_116 : decode m_Model_exchange.2.1 116 = .ok (.bipush 94, 2) := by decide +kernel
theorem d_Model_exchange_118 : decode m_Model_exchange.2.1 118 = .ok (.iload_n 1, 1) := by decide +kernel
theorem d_Model_exchange_119 : decode m_Model_exchange.2.1 119 = .ok (.iadd, 1) := by decide +kernel
theorem d_Model_exchange_120 : decode m_Model_exchange.2.1 120 = .ok (.iaload, 1) := by decide +kernel
theorem d_Model_exchange_121 : decode m_Model_exchange.2.1 121 = .ok (.invokevirtual 148, 3) := by decide +kernel
theorem d_Model_exchange_124 : decode m_Model_exchange.2.1 124 = .ok (.istore 4, 2) := by decide +kernel
theorem d_Model_exchange_126 : decode m_Model_exchange.2.1 126 = .ok (.iload_n 2, 1) := by decide +kernel
theorem d_Model_exchange_127 : decode m_Model_exchange.2.1 127 = .ok (.iload_n 3, 1) := by decide +kernel
theorem d_Model_exchange_128 : decode m_Model_exchange.2.1 128 = .ok (.isub, 1) := by decide +kernel
theorem d_Model_exchange_129 : decode m_Model_exchange.2.1 129 = .ok (.iconst 1, 1) := by decide +kernel
theorem d_Model_exchange_130 : decode m_Model_exchange.2.1 130 = .ok (.iadd, 1) := by decide +kernel
theorem d_Model_exchange_131 : decode m_Model_exchange.2.1 131 = .ok (.istore 5, 2) := by decide +kernel
theorem d_Model_exchange_133 : decode m_Model_exchange.2.1 133 = .ok (.iconst 0, 1) := by decide +kernel
theorem d_Model_exchange_134 : decode m_Model_exchange.2.1 134 = .ok (.istore 6, 2) := by decide +kernel
theorem d_Model_exchange_136 : decode m_Model_exchange.2.1 136 = .ok (.iload 6, 2) := by decide +kernel
theorem d_Model_exchange_138 : decode m_Model_exchange.2.1 138 = .ok (.iload 4, 2) := by decide +kernel
theorem d_Model_exchange_140 : decode m_Model_exchange.2.1 140 = .ok (.if_icmp .ge 24, 3) := by decide +kernel
theorem d_Model_exchange_143 : decode m_Model_exchange.2.1 143 = .ok (.aload_n 0, 1) := by decide +kernel
theorem d_Model_exchange_144 : decode m_Model_exchange.2.1 144 = .ok (.iload_n 2, 1) := by decide +kernel
theorem d_Model_exchange_145 : decode m_Model_exchange.2.1 145 = .ok (.iconst 1, 1) := by decide +kernel
theorem d_Model_exchange_146 : decode m_Model_exchange.2.1 146 = .ok (.iadd, 1) := by decide +kernel
theorem d_Model_exchange_147 : decode m_Model_exchange.2.1 147 = .ok (.iload 6, 2) := by decide +kernel
theorem d_Model_exchange_149 : decode m_Model_exchange.2.1 149 = .ok (.iadd, 1) := by decide +kernel
theorem d_Model_exchange_150 : decode m_Model_exchange.2.1 150 = .ok (.iload 5, 2) := by decide +kernel
theorem d_Model_exchange_152 : decode m_Model_exchange.2.1 152 = .ok (.iload 6, 2) := by decide +kernel
theorem d_Model_exchange_154 : decode m_Model_exchange.2.1 154 = .ok (.iadd, 1) := by decide +kernel
theorem d_Model_exchange_155 : decode m_Model_exchange.2.1 155 = .ok (.invokevirtual 250, 3) := by decide +kernel
theorem d_Model_exchange_158 : decode m_Model_exchange.2.1 158 = .ok (.iinc 6 1, 3) := by decide +kernel
theorem d_Model_exchange_161 : decode m_Model_exchange.2.1 161 = .ok (.goto (-25), 3) := by decide +kernel
theorem d_Model_exchange_164 : decode m_Model_exchange.2.1 164 = .ok (.iconst 0, 1) := by decide +kernel
theorem d_Model_exchange_165 : decode m_Model_exchange.2.1 165 = .ok (.istore 6, 2) := by decide +kernel
theorem d_Model_exchange_167 : decode m_Model_exchange.2.1 167 = .ok (.iload 6, 2) := by decide +kernel
theorem d_Model_exchange_169 : decode m_Model_exchange.2.1 169 = .ok (.iload_n 3, 1) := by decide +kernel
theorem d_Model_exchange_170 : decode m_Model_exchange.2.1 170 = .ok (.if_icmp .ge 26, 3) := by decide +kernel
theorem d_Model_exchange_173 : decode m_Model_exchange.2.1 173 = .ok (.aload_n 0, 1) := by decide +kernel
theorem d_Model_exchange_174 : decode m_Model_exchange.2.1 174 = .ok (.iload 5, 2) := by decide +kernel
theorem d_Model_exchange_176 : decode m_Model_exchange.2.1 176 = .ok (.iload 6, 2) := by decide +kernel
theorem d_Model_exchange_178 : decode m_Model_exchange.2.1 178 = .ok (.iadd, 1) := by decide +kernel
theorem d_Model_exchange_179 : decode m_Model_exchange.2.1 179 = .ok (.iload 5, 2) := by decide +kernel
theorem d_Model_exchange_181 : decode m_Model_exchange.2.1 181 = .ok (.iload 4, 2) := by decide +kernel
theorem d_Model_exchange_183 : decode m_Model_exchange.2.1 183 = .ok (.iadd, 1) := by decide +kernel
theorem d_Model_exchange_184 : decode m_Model_exchange.2.1 184 = .ok (.iload 6, 2) := by decide +kernel
theorem d_Model_exchange_186 : decode m_Model_exchange.2.1 186 = .ok (.iadd, 1) := by decide +kernel
theorem d_Model_exchange_187 : decode m_Model_exchange.2.1 187 = .ok (.invokevirtual 250, 3) := by decide +kernel
theorem d_Model_exchange_190 : decode m_Model_exchange.2.1 190 = .ok (.iinc 6 1, 3) := by decide +kernel
theorem d_Model_exchange_193 : decode m_Model_exchange.2.1 193 = .ok (.goto (-26), 3) := by decide +kernel
theorem d_Model_exchange_196 : decode m_Model_exchange.2.1 196 = .ok (.aload_n 0, 1) := by decide +kernel
theorem d_Model_exchange_197 : decode m_Model_exchange.2.1 197 = .ok (.getfield 16, 3) := by decide +kernel
theorem d_Model_exchange_200 : decode m_Model_exchange.2.1 200 = .ok (.bipush 63, 2) := by decide +kernel
theorem d_Model_exchange_202 : decode m_Model_exchange.2.1 202 = .ok (.iload_n 1, 1) := by decide +kernel
theorem d_Model_exchange_203 : decode m_Model_exchange.2.1 203 = .ok (.iadd, 1) := by decide +kernel
theorem d_Model_exchange_204 : decode m_Model_exchange.2.1 204 = .ok (.iload 5, 2) := by decide +kernel
theorem d_Model_exchange_206 : decode m_Model_exchange.2.1 206 = .ok (.iload 4, 2) := by decide +kernel
theorem d_Model_exchange_208 : decode m_Model_exchange.2.1 208 = .ok (.iadd, 1) := by decide +kernel
theorem d_Model_exchange_209 : decode m_Model_exchange.2.1 209 = .ok (.iconst 1, 1) := by decide +kernel
theorem d_Model_exchange_210 : decode m_Model_exchange.2.1 210 = .ok (.isub, 1) := by decide +kernel
theorem d_Model_exchange_211 : decode m_Model_exchange.2.1 211 = .ok (.iastore, 1) := by decide +kernel
theorem d_Model_exchange_212 : decode m_Model_exchange.2.1 212 = .ok (.aload_n 0, 1) := by decide +kernel
theorem d_Model_exchange_213 : decode m_Model_exchange.2.1 213 = .ok (.getfield 16, 3) := by decide +kernel
theorem d_Model_exchange_216 : decode m_Model_exchange.2.1 216 = .ok (.bipush 94, 2) := by decide +kernel
theorem d_Model_exchange_218 : decode m_Model_exchange.2.1 218 = .ok (.iload_n 1, 1) := by decide +kernel
theorem d_Model_exchange_219 : decode m_Model_exchange.2.1 219 = .ok (.iadd, 1) := by decide +kernel
theorem d_Model_exchange_220 : decode m_Model_exchange.2.1 220 = .ok (.iload_n 1, 1) := by decide +kernel
theorem d_Model_exchange_221 : decode m_Model_exchange.2.1 221 = .ok (.iconst 1, 1) := by decide +kernel
theorem d_Model_exchange_222 : decode m_Model_exchange.2.1 222 = .ok (.isub, 1) := by decide +kernel
theorem d_Model_exchange_223 : decode m_Model_exchange.2.1 223 = .ok (.iastore, 1) := by decide +kernel
theorem d_Model_exchange_224 : decode m_Model_exchange.2.1 224 = .ok (.aload_n 0, 1) := by decide +kernel
theorem d_Model_exchange_225 : decode m_Model_exchange.2.1 225 = .ok (.invokevirtual 254, 3) := by decide +kernel
theorem d_Model_exchange_228 : decode m_Model_exchange.2.1 228 = .ok (.ireturn, 1) := by decide +kernel
theorem d_Model_notes_0 : decode m_Model_notes.2.1 0 = .ok (.aload_n 0, 1) := by decide +kernel
theorem d_Model_notes_1 : decode m_Model_notes.2.1 1 = .ok (.getfield 142, 3) := by decide +kernel
theorem d_Model_notes_4 : decode m_Model_notes.2.1 4 = .ok (.bipush 10, 2) := by decide +kernel
theorem d_Model_notes_6 : decode m_Model_notes.2.1 6 = .ok (.if_icmp .ne 40, 3) := by decide +kernel
theorem d_Model_notes_9 : decode m_Model_notes.2.1 9 = .ok (.iconst 0, 1) := by decide +kernel
theorem d_Model_notes_10 : decode m_Model_notes.2.1 10 = .ok (.istore_n 1, 1) := by decide +kernel
theorem d_Model_notes_11 : decode m_Model_notes.2.1 11 = .ok (.iload_n 1, 1) := by decide +kernel
theorem d_Model_notes_12 : decode m_Model_notes.2.1 12 = .ok (.sipush 1242, 3) := by decide +kernel
theorem d_Model_notes_15 : decode m_Model_notes.2.1 15 = .ok (.if_icmp .ge 25, 3) := by decide +kernel
theorem d_Model_notes_18 : decode m_Model_notes.2.1 18 = .ok (.aload_n 0, 1) := by decide +kernel
theorem d_Model_notes_19 : decode m_Model_notes.2.1 19 = .ok (.getfield 22, 3) := by decide +kernel
theorem d_Model_notes_22 : decode m_Model_notes.2.1 22 = .ok (.iload_n 1, 1) := by decide +kernel
theorem d_Model_notes_23 : decode m_Model_notes.2.1 23 = .ok (.aload_n 0, 1) := by decide +kernel
theorem d_Model_notes_24 : decode m_Model_notes.2.1 24 = .ok (.getfield 22, 3) := by decide +kernel
theorem d_Model_notes_27 : decode m_Model_notes.2.1 27 = .ok (.iload_n 1, 1) := by decide +kernel
theorem d_Model_notes_28 : decode m_Model_notes.2.1 28 = .ok (.sipush 138, 3) := by decide +kernel
theorem d_Model_notes_31 : decode m_Model_notes.2.1 31 = .ok (.iadd, 1) := by decide +kernel
theorem d_Model_notes_32 : decode m_Model_notes.2.1 32 = .ok (.iaload, 1) := by decide +kernel
theorem d_Model_notes_33 : decode m_Model_notes.2.1 33 = .ok (.iastore, 1) := by decide +kernel
theorem d_Model_notes_34 : decode m_Model_notes.2.1 34 = .ok (.iinc 1 1, 3) := by decide +kernel
theorem d_Model_notes_37 : decode m_Model_notes.2.1 37 = .ok (.goto (-26), 3) := by decide +kernel
theorem d_Model_notes_40 : decode m_Model_notes.2.1 40 = .ok (.aload_n 0, 1) := by decide +kernel
theorem d_Model_notes_41 : decode m_Model_notes.2.1 41 = .ok (.bipush 9, 2) := by decide +kernel
theorem d_Model_notes_43 : decode m_Model_notes.2.1 43 = .ok (.putfield 142, 3) := by decide +kernel
theorem d_Model_notes_46 : decode m_Model_notes.2.1 46 = .ok (.iconst 0, 1) := by decide +kernel
theorem d_Model_notes_47 : decode m_Model_notes.2.1 47 = .ok (.istore_n 1, 1) := by decide +kernel
theorem d_Model_notes_48 : decode m_Model_notes.2.1 48 = .ok (.iload_n 1, 1) := by decide +kernel
theorem d_Model_notes_49 : decode m_Model_notes.2.1 49 = .ok (.sipush 138, 3) := by decide +kernel
theorem d_Model_notes_52 : decode m_Model_notes.2.1 52 = .ok (.if_icmp .ge 30, 3) := by decide +kernel
theorem d_Model_notes_55 : decode m_Model_notes.2.1 55 = .ok (.aload_n 0, 1) := by decide +kernel
theorem d_Model_notes_56 : decode m_Model_notes.2.1 56 = .ok (.getfield 22, 3) := by decide +kernel
theorem d_Model_notes_59 : decode m_Model_notes.2.1 59 = .ok (.sipush 138, 3) := by decide +kernel
theorem d_Model_notes_62 : decode m_Model_notes.2.1 62 = .ok (.aload_n 0, 1) := by decide +kernel
theorem d_Model_notes_63 : decode m_Model_notes.2.1 63 = .ok (.getfield 142, 3) := by decide +kernel
theorem d_Model_notes_66 : decode m_Model_notes.2.1 66 = .ok (.imul, 1) := by decide +kernel
theorem d_Model_notes_67 : decode m_Model_notes.2.1 67 = .ok (.iload_n 1, 1) := by decide +kernel
theorem d_Model_notes_68 : decode m_Model_notes.2.1 68 = .ok (.iadd, 1) := by decide +kernel
theorem d_Model_notes_69 : decode m_Model_notes.2.1 69 = .ok (.aload_n 0, 1) := by decide +kernel
theorem d_Model_notes_70 : decode m_Model_notes.2.1 70 = .ok (.getfield 16, 3) := by decide +kernel
theorem d_Model_notes_73 : decode m_Model_notes.2.1 73 = .ok (.iload_n 1, 1) := by decide +kernel
theorem d_Model_notes_74 : decode m_Model_notes.2.1 74 = .ok (.iaload, 1) := by decide +kernel
theorem d_Model_notes_75 : decode m_Model_notes.2.1 75 = .ok (.iastore, 1) := by decide +kernel
theorem d_Model_notes_76 : decode m_Model_notes.2.1 76 = .ok (.iinc 1 1, 3) := by decide +kernel
theorem d_Model_notes_79 : decode m_Model_notes.2.1 79 = .ok (.goto (-31), 3) := by decide +kernel
theorem d_Model_notes_82 : decode m_Model_notes.2.1 82 = .ok (.aload_n 0, 1) := by decide +kernel
theorem d_Model_notes_83 : decode m_Model_notes.2.1 83 = .ok (.dup, 1) := by decide +kernel
theorem d_Model_notes_84 : decode m_Model_notes.2.1 84 = .ok (.getfield 142, 3) := by decide +kernel
theorem d_Model_notes_87 : decode m_Model_notes.2.1 87 = .ok (.iconst 1, 1) := by decide +kernel
theorem d_Model_notes_88 : decode m_Model_notes.2.1 88 = .ok (.iadd, 1) := by decide +kernel
theorem d_Model_notes_89 : decode m_Model_notes.2.1 89 = .ok (.putfield 142, 3) := by decide +kernel
theorem d_Model_notes_92 : decode m_Model_notes.2.1 92 = .ok (.return_, 1) := by decide +kernel
theorem d_Model_moves_0 : decode m_Model_moves.2.1 0 = .ok (.iload_n 2, 1) := by decide +kernel
theorem d_Model_moves_1 : decode m_Model_moves.2.1 1 = .ok (.iload_n 1, 1) := by decide +kernel
theorem d_Model_moves_2 : decode m_Model_moves.2.1 2 = .ok (.isub, 1) := by decide +kernel
theorem d_Model_moves_3 : decode m_Model_moves.2.1 3 = .ok (.istore_n 3, 1) := by decide +kernel
theorem d_Model_moves_4 : decode m_Model_moves.2.1 4 = .ok (.aload_n 0, 1) := by decide +kernel
theorem d_Model_moves_5 : decode m_Model_moves.2.1 5 = .ok (.getfield 16, 3) := by decide +kernel
theorem d_Model_moves_8 : decode m_Model_moves.2.1 8 = .ok (.iconst 1, 1) := by decide +kernel
theorem d_Model_moves_9 : decode m_Model_moves.2.1 9 = .ok (.iload_n 2, 1) := by decide +kernel
theorem d_Model_moves_10 : decode m_Model_moves.2.1 10 = .ok (.iadd, 1) := by decide +kernel
theorem d_Model_moves_11 : decode m_Model_moves.2.1 11 = .ok (.aload_n 0, 1) := by decide +kernel
theorem d_Model_moves_12 : decode m_Model_moves.2.1 12 = .ok (.getfield 19, 3) := by decide +kernel
theorem d_Model_moves_15 : decode m_Model_moves.2.1 15 = .ok (.iconst 1, 1) := by decide +kernel
theorem d_Model_moves_16 : decode m_Model_moves.2.1 16 = .ok (.iload_n 1, 1) := by decide +kernel
theorem d_Model_moves_17 : decode m_Model_moves.2.1 17 = .ok (.iadd, 1) := by decide +kernel
theorem d_Model_moves_18 : decode m_Model_moves.2.1 18 = .ok (.iaload, 1) := by decide +kernel
theorem d_Model_moves_19 : decode m_Model_moves.2.1 19 = .ok (.iastore, 1) := by decide +kernel
theorem d_Model_moves_20 : decode m_Model_moves.2.1 20 = .ok (.aload_n 0, 1) := by decide +kernel
theorem d_Model_moves_21 : decode m_Model_moves.2.1 21 = .ok (.getfield 16, 3) := by decide +kernel
theorem d_Model_moves_24 : decode m_Model_moves.2.1 24 = .ok (.bipush 32, 2) := by decide +kernel
theorem d_Model_moves_26 : decode m_Model_moves.2.1 26 = .ok (.iload_n 2, 1) := by decide +kernel
theorem d_Model_moves_27 : decode m_Model_moves.2.1 27 = .ok (.iadd, 1) := by decide +kernel
theorem d_Model_moves_28 : decode m_Model_moves.2.1 28 = .ok (.aload_n 0, 1) := by decide +kernel
theorem d_Model_moves_29 : decode m_Model_moves.2.1 29 = .ok (.getfield 19, 3) := by decide +kernel
theorem d_Model_moves_32 : decode m_Model_moves.2.1 32 = .ok (.bipush 32, 2) := by decide +kernel
theorem d_Model_moves_34 : decode m_Model_moves.2.1 34 = .ok (.iload_n 1, 1) := by decide +kernel
theorem d_Model_moves_35 : decode m_Model_moves.2.1 35 = .ok (.iadd, 1) := by decide +kernel
theorem d_Model_moves_36 : decode m_Model_moves.2.1 36 = .ok (.iaload, 1) := by decide +kernel
theorem d_Model_moves_37 : decode m_Model_moves.2.1 37 = .ok (.iastore, 1) := by decide +kernel
theorem d_Model_moves_38 : decode m_Model_moves.2.1 38 = .ok (.aload_n 0, 1) := by decide +kernel
theorem d_Model_moves_39 : decode m_Model_moves.2.1 39 = .ok (.getfield 16, 3) := by decide +kernel
theorem d_Model_moves_42 : decode m_Model_moves.2.1 42 = .ok (.bipush 63, 2) := by decide +kernel
theorem d_Model_moves_44 : decode m_Model_moves.2.1 44 = .ok (.iload_n 2, 1) := by decide +kernel
theorem d_Model_moves_45 : decode m_Model_moves.2.1 45 = .ok (.iadd, 1) := by decide +kernel
theorem d_Model_moves_46 : decode m_Model_moves.2.1 46 = .ok (.aload_n 0, 1) := by decide +kernel
theorem d_Model_moves_47 : decode m_Model_moves.2.1 47 = .ok (.getfield 19, 3) := by decide +kernel
theorem d_Model_moves_50 : decode m_Model_moves.2.1 50 = .ok (.bipush 63, 2) := by decide +kernel
theorem d_Model_moves_52 : decode m_Model_moves.2.1 52 = .ok (.iload_n 1, 1) := by decide +kernel
theorem d_Model_moves_53 : decode m_Model_moves.2.1 53 = .ok (.iadd, 1) := by decide +kernel
theorem d_Model_moves_54 : decode m_Model_moves.2.1 54 = .ok (.iaload, 1) := by decide +kernel
theorem d_Model_moves_55 : decode m_Model_moves.2.1 55 = .ok (.bipush (-9), 2) := by decide +kernel
theorem d_Model_moves_57 : decode m_Model_moves.2.1 57 = .ok (.if_icmp .ne 8, 3) := by decide +kernel
theorem d_Model_moves_60 : decode m_Model_moves.2.1 60 = .ok (.bipush (-9), 2) := by decide +kernel
theorem d_Model_moves_62 : decode m_Model_moves.2.1 62 = .ok (.goto 14, 3) := by decide +kernel
theorem d_Model_moves_65 : decode m_Model_moves.2.1 65 = .ok (.aload_n 0, 1) := by decide +kernel
theorem d_Model_moves_66 : decode m_Model_moves.2.1 66 = .ok (.getfield 19, 3) := by decide +kernel
theorem d_Model_moves_69 : decode m_Model_moves.2.1 69 = .ok (.bipush 63, 2) := by decide +kernel
theorem d_Model_moves_71 : decode m_Model_moves.2.1 71 = .ok (.iload_n 1, 1) := by decide +kernel
theorem d_Model_moves_72 : decode m_Model_moves.2.1 72 = .ok (.iadd, 1) := by decide +kernel
theorem d_Model_moves_73 : decode m_Model_moves.2.1 73 = .ok (.iaload, 1) := by decide +kernel
theorem d_Model_moves_74 : decode m_Model_moves.2.1 74 = .ok (.iload_n 3, 1) := by decide +kernel
theorem d_Model_moves_75 : decode m_Model_moves.2.1 75 = .ok (.iadd, 1) := by decide +kernel
theorem d_Model_moves_76 : decode m_Model_moves.2.1 76 = .ok (.iastore, 1) := by decide +kernel
theorem d_Model_moves_77 : decode m_Model_moves.2.1 77 = .ok (.aload_n 0, 1) := by decide +kernel
theorem d_Model_moves_78 : decode m_Model_moves.2.1 78 = .ok (.getfield 16, 3) := by decide +kernel
theorem d_Model_moves_81 : decode m_Model_moves.2.1 81 = .ok (.bipush 94, 2) := by decide +kernel
theorem d_Model_moves_83 : decode m_Model_moves.2.1 83 = .ok (.iload_n 2, 1) := by decide +kernel
theorem d_Model_moves_84 : decode m_Model_moves.2.1 84 = .ok (.iadd, 1) := by decide +kernel
theorem d_Model_moves_85 : decode m_Model_moves.2.1 85 = .ok (.aload_n 0, 1) := by decide +kernel
theorem d_Model_moves_86 : decode m_Model_moves.2.1 86 = .ok (.getfield 19, 3) := by decide +kernel
theorem d_Model_moves_89 : decode m_Model_moves.2.1 89 = .ok (.bipush 94, 2) := by decide +kernel
theorem d_Model_moves_91 : decode m_Model_moves.2.1 91 = .ok (.iload_n 1, 1) := by decide +kernel
theorem d_Model_moves_92 : decode m_Model_moves.2.1 92 = .ok (.iadd, 1) := by decide +kernel
theorem d_Model_moves_93 : decode m_Model_moves.2.1 93 = .ok (.iaload, 1) := by decide +kernel
theorem d_Model_moves_94 : decode m_Model_moves.2.1 94 = .ok (.bipush (-9), 2) := by decide +kernel
theorem d_Model_moves_96 : decode m_Model_moves.2.1 96 = .ok (.if_icmp .ne 8, 3) := by decide +kernel
theorem d_Model_moves_99 : decode m_Model_moves.2.1 99 = .ok (.bipush (-9), 2) := by decide +kernel
theorem d_Model_moves_101 : decode m_Model_moves.2.1 101 = .ok (.goto 14, 3) := by decide +kernel
theorem d_Model_moves_104 : decode m_Model_moves.2.1 104 = .ok (.aload_n 0, 1) := by decide +kernel
theorem d_Model_moves_105 : decode m_Model_moves.2.1 105 = .ok (.getfield 19, 3) := by decide +kernel
theorem d_Model_moves_108 : decode m_Model_moves.2.1 108 = .ok (.bipush 94, 2) := by decide +kernel
theorem d_Model_moves_110 : decode m_Model_moves.2.1 110 = .ok (.iload_n 1, 1) := by decide +kernel
theorem d_Model_moves_111 : decode m_Model_moves.2.1 111 = .ok (.iadd, 1) := by decide +kernel
theorem d_Model_moves_112 : decode m_Model_moves.2.1 112 = .ok (.iaload, 1) := by decide +kernel
theorem d_Model_moves_113 : decode m_Model_moves.2.1 113 = .ok (.iload_n 3, 1) := by decide +kernel
theorem d_Model_moves_114 : decode m_Model_moves.2.1 114 = .ok (.iadd, 1) := by decide +kernel
theorem d_Model_moves_115 : decode m_Model_moves.2.1 115 = .ok (.iastore, 1) := by decide +kernel
theorem d_Model_moves_116 : decode m_Model_moves.2.1 116 = .ok (.return_, 1) := by decide +kernel
theorem d_Model_rootCost_0 : decode m_Model_rootCost.2.1 0 = .ok (.aload_n 0, 1) := by decide +kernel
theorem d_Model_rootCost_1 : decode m_Model_rootCost.2.1 1 = .ok (.invokevirtual 210, 3) := by decide +kernel
theorem d_Model_rootCost_4 : decode m_Model_rootCost.2.1 4 = .ok (.aload_n 0, 1) := by decide +kernel
theorem d_Model_rootCost_5 : decode m_Model_rootCost.2.1 5 = .ok (.getfield 16, 3) := by decide +kernel
theorem d_Model_rootCost_8 : decode m_Model_rootCost.2.1 8 = .ok (.iconst 0, 1) := by decide +kernel
theorem d_Model_rootCost_9 : decode m_Model_rootCost.2.1 9 = .ok (.iaload, 1) := by decide +kernel
theorem d_Model_rootCost_10 : decode m_Model_rootCost.2.1 10 = .ok (.ifCond .ne 7, 3) := by decide +kernel
theorem d_Model_rootCost_13 : decode m_Model_rootCost.2.1 13 = .ok (.iconst 0, 1) := by decide +kernel
theorem d_Model_rootCost_14 : decode m_Model_rootCost.2.1 14 = .ok (.goto 23, 3) := by decide +kernel
theorem d_Model_rootCost_17 : decode m_Model_rootCost.2.1 17 = .ok (.aload_n 0, 1) := by decide +kernel
theorem d_Model_rootCost_18 : decode m_Model_rootCost.2.1 18 = .ok (.aload_n 0, 1) := by decide +kernel
theorem d_Model_rootCost_19 : decode m_Model_rootCost.2.1 19 = .ok (.getfield 16, 3) := by decide +kernel
theorem d_Model_rootCost_22 : decode m_Model_rootCost.2.1 22 = .ok (.iconst 0, 1) := by decide +kernel
theorem d_Model_rootCost_23 : decode m_Model_rootCost.2.1 23 = .ok (.iaload, 1) := by decide +kernel
theorem d_Model_rootCost_24 : decode m_Model_rootCost.2.1 24 = .ok (.iconst 1, 1) := by decide +kernel
theorem d_Model_rootCost_25 : decode m_Model_rootCost.2.1 25 = .ok (.isub, 1) := by decide +kernel
theorem d_Model_rootCost_26 : decode m_Model_rootCost.2.1 26 = .ok (.aload_n 0, 1) := by decide +kernel
theorem d_Model_rootCost_27 : decode m_Model_rootCost.2.1 27 = .ok (.getfield 16, 3) := by decide +kernel
theorem d_Model_rootCost_30 : decode m_Model_rootCost.2.1 30 = .ok (.sipush 133, 3) := by decide +kernel
theorem d_Model_rootCost_33 : decode m_Model_rootCost.2.1 33 = .ok (.iaload, 1) := by decide +kernel
theorem d_Model_rootCost_34 : decode m_Model_rootCost.2.1 34 = .ok (.invokevirtual 197, 3) := by decide +kernel
theorem d_Model_rootCost_37 : decode m_Model_rootCost.2.1 37 = .ok (.ireturn, 1) := by decide +kernel
theorem d_Model_let_0 : decode m_Model_let.2.1 0 = .ok (.aload_n 0, 1) := by decide +kernel
theorem d_Model_let_1 : decode m_Model_let.2.1 1 = .ok (.iconst 0, 1) := by decide +kernel
theorem d_Model_let_2 : decode m_Model_let.2.1 2 = .ok (.putfield 75, 3) := by decide +kernel
theorem d_Model_let_5 : decode m_Model_let.2.1 5 = .ok (.iload_n 1, 1) := by decide +kernel
theorem d_Model_let_6 : decode m_Model_let.2.1 6 = .ok (.iconst 0, 1) := by decide +kernel
theorem d_Model_let_7 : decode m_Model_let.2.1 7 = .ok (.bipush 7, 2) := by decide +kernel
theorem d_Model_let_9 : decode m_Model_let.2.1 9 = .ok (.invokestatic 78, 3) := by decide +kernel
theorem d_Model_let_12 : decode m_Model_let.2.1 12 = .ok (.ifCond .ne 5, 3) := by decide +kernel
theorem d_Model_let_15 : decode m_Model_let.2.1 15 = .ok (.iconst (-1), 1) := by decide +kernel
theorem d_Model_let_16 : decode m_Model_let.2.1 16 = .ok (.ireturn, 1) := by decide +kernel
theorem d_Model_let_17 : decode m_Model_let.2.1 17 = .ok (.aload_n 0, 1) := by decide +kernel
theorem d_Model_let_18 : decode m_Model_let.2.1 18 = .ok (.invokevirtual 247, 3) := by decide +kernel
theorem d_Model_let_21 : decode m_Model_let.2.1 21 = .ok (.aload_n 0, 1) := by decide +kernel
theorem d_Model_let_22 : decode m_Model_let.2.1 22 = .ok (.aload_n 0, 1) := by decide +kernel
theorem d_Model_let_23 : decode m_Model_let.2.1 23 = .ok (.getfield 16, 3) := by decide +kernel
theorem d_Model_let_26 : decode m_Model_let.2.1 26 = .ok (.bipush 125, 2) := by decide +kernel
theorem d_Model_let_28 : decode m_Model_let.2.1 28 = .ok (.iload_n 1, 1) := by decide +kernel
theorem d_Model_let_29 : decode m_Model_let.2.1 29 = .ok (.iadd, 1) := by decide +kernel
theorem d_Model_let_30 : decode m_Model_let.2.1 30 = .ok (.iaload, 1) := by decide +kernel
theorem d_Model_let_31 : decode m_Model_let.2.1 31 = .ok (.putfield 194, 3) := by decide +kernel
theorem d_Model_let_34 : decode m_Model_let.2.1 34 = .ok (.aload_n 0, 1) := by decide +kernel
theorem d_Model_let_35 : decode m_Model_let.2.1 35 = .ok (.getfield 16, 3) := by decide +kernel
theorem d_Model_let_38 : decode m_Model_let.2.1 38 = .ok (.bipush 125, 2) := by decide +kernel
theorem d_Model_let_40 : decode m_Model_let.2.1 40 = .ok (.iload_n 1, 1) := by decide +kernel
theorem d_Model_let_41 : decode m_Model_let.2.1 41 = .ok (.iadd, 1) := by decide +kernel
theorem d_Model_let_42 : decode m_Model_let.2.1 42 = .ok (.iload_n 2, 1) := by decide +kernel
theorem d_Model_let_43 : decode m_Model_let.2.1 43 = .ok (.iastore, 1) := by decide +kernel
theorem d_Model_let_44 : decode m_Model_let.2.1 44 = .ok (.iconst 1, 1) := by decide +kernel
theorem d_Model_let_45 : decode m_Model_let.2.1 45 = .ok (.ireturn, 1) := by decide +kernel
theorem d_Model_machine_0 : decode m_Model_machine.2.1 0 = .ok (.aload_n 0, 1) := by decide +kernel
theorem d_Model_machine_1 : decode m_Model_machine.2.1 1 = .ok (.iconst 0, 1) := by decide +kernel
theorem d_Model_machine_2 : decode m_Model_machine.2.1 2 = .ok (.putfield 75, 3) := by decide +kernel
theorem d_Model_machine_5 : decode m_Model_machine.2.1 5 = .ok (.iload_n 1, 1) := by decide +kernel
theorem d_Model_machine_6 : decode m_Model_machine.2.1 6 = .ok (.iconst 1, 1) := by decide +kernel
theorem d_Model_machine_7 : decode m_Model_machine.2.1 7 = .ok (.bipush 6, 2) := by decide +kernel
theorem d_Model_machine_9 : decode m_Model_machine.2.1 9 = .ok (.invokestatic 78, 3) := by decide +kernel
theorem d_Model_machine_12 : decode m_Model_machine.2.1 12 = .ok (.ifCond .eq 45, 3) := by decide +kernel
theorem d_Model_machine_15 : decode m_Model_machine.2.1 15 = .ok (.iload_n 2, 1) := by decide +kernel
theorem d_Model_machine_16 : decode m_Model_machine.2.1 16 = .ok (.iconst 1, 1) := by decide +kernel
theorem d_Model_machine_17 : decode m_Model_machine.2.1 17 = .ok (.bipush 9, 2) := by decide +kernel
theorem d_Model_machine_19 : decode m_Model_machine.2.1 19 = .ok (.invokestatic 78, 3) := by decide +kernel
theorem d_Model_machine_22 : decode m_Model_machine.2.1 22 = .ok (.ifCond .eq 35, 3) := by decide +kernel
theorem d_Model_machine_25 : decode m_Model_machine.2.1 25 = .ok (.iload_n 3, 1) := by decide +kernel
theorem d_Model_machine_26 : decode m_Model_machine.2.1 26 = .ok (.iconst 1, 1) := by decide +kernel
theorem d_Model_machine_27 : decode m_Model_machine.2.1 27 = .ok (.bipush 9, 2) := by decide +kernel
theorem d_Model_machine_29 : decode m_Model_machine.2.1 29 = .ok (.invokestatic 78, 3) := by decide +kernel
theorem d_Model_machine_32 : decode m_Model_machine.2.1 32 = .ok (.ifCond .eq 25, 3) := by decide +kernel
theorem d_Model_machine_35 : decode m_Model_machine.2.1 35 = .ok (.iload 4, 2) := by decide +kernel
theorem d_Model_machine_37 : decode m_Model_machine.2.1 37 = .ok (.iconst 1, 1) := by decide +kernel
theorem d_Model_machine_38 : decode m_Model_machine.2.1 38 = .ok (.bipush 9, 2) := by decide +kernel
theorem d_Model_machine_40 : decode m_Model_machine.2.1 40 = .ok (.invokestatic 78, 3) := by decide +kernel
theorem d_Model_machine_43 : decode m_Model_machine.2.1 43 = .ok (.ifCond .eq 14, 3) := by decide +kernel
theorem d_Model_machine_46 : decode m_Model_machine.2.1 46 = .ok (.iload 5, 2) := by decide +kernel
theorem d_Model_machine_48 : decode m_Model_machine.2.1 48 = .ok (.iconst 1, 1) := by decide +kernel
theorem d_Model_machine_49 : decode m_Model_machine.2.1 49 = .ok (.bipush 9, 2) := by decide +kernel
theorem d_Model_machine_51 : decode m_Model_machine.2.1 51 = .ok (.invokestatic 78, 3) := by decide +kernel
theorem d_Model_machine_54 : decode m_Model_machine.2.1 54 = .ok (.ifCond .ne 5, 3) := by decide +kernel
theorem d_Model_machine_57 : decode m_Model_machine.2.1 57 = .ok (.iconst (-1), 1) := by decide +kernel
theorem d_Model_machine_58 : decode m_Model_machine.2.1 58 = .ok (.ireturn, 1) := by decide +kernel
theorem d_Model_machine_59 : decode m_Model_machine.2.1 59 = .ok (.aload_n 0, 1) := by decide +kernel
theorem d_Model_machine_60 : decode m_Model_machine.2.1 60 = .ok (.invokevirtual 247, 3) := by decide +kernel
theorem d_Model_machine_63 : decode m_Model_machine.2.1 63 = .ok (.aload_n 0, 1) := by decide +kernel
theorem d_Model_machine_64 : decode m_Model_machine.2.1 64 = .ok (.getfield 16, 3) := by decide +kernel
theorem d_Model_machine_67 : decode m_Model_machine.2.1 67 = .ok (.sipush 133, 3) := by decide +kernel
theorem d_Model_machine_70 : decode m_Model_machine.2.1 70 = .ok (.iload_n 1, 1) := by decide +kernel
theorem d_Model_machine_71 : decode m_Model_machine.2.1 71 = .ok (.iastore, 1) := by decide +kernel
theorem d_Model_machine_72 : decode m_Model_machine.2.1 72 = .ok (.aload_n 0, 1) := by decide +kernel
theorem d_Model_machine_73 : decode m_Model_machine.2.1 73 = .ok (.getfield 16, 3) := by decide +kernel
theorem d_Model_machine_76 : decode m_Model_machine.2.1 76 = .ok (.sipush 134, 3) := by decide +kernel
theorem d_Model_machine_79 : decode m_Model_machine.2.1 79 = .ok (.iload_n 2, 1) := by decide +kernel
theorem d_Model_machine_80 : decode m_Model_machine.2.1 80 = .ok (.iastore, 1) := by decide +kernel
theorem d_Model_machine_81 : decode m_Model_machine.2.1 81 = .ok (.aload_n 0, 1) := by decide +kernel
theorem d_Model_machine_82 : decode m_Model_machine.2.1 82 = .ok (.getfield 16, 3) := by decide +kernel
theorem d_Model_machine_85 : decode m_Model_machine.2.1 85 = .ok (.sipush 135, 3) := by decide +kernel
theorem d_Model_machine_88 : decode m_Model_machine.2.1 88 = .ok (.iload_n 3, 1) := by decide +kernel
theorem d_Model_machine_89 : decode m_Model_machine.2.1 89 = .ok (.iastore, 1) := by decide +kernel
theorem d_Model_machine_90 : decode m_Model_machine.2.1 90 = .ok (.aload_n 0, 1) := by decide +kernel
theorem d_Model_machine_91 : decode m_Model_machine.2.1 91 = .ok (.getfield 16, 3) := by decide +kernel
theorem d_Model_machine_94 : decode m_Model_machine.2.1 94 = .ok (.sipush 136, 3) := by decide +kernel
theorem d_Model_machine_97 : decode m_Model_machine.2.1 97 = .ok (.iload 4, 2) := by decide +kernel
theorem d_Model_machine_99 : decode m_Model_machine.2.1 99 = .ok (.iastore, 1) := by decide +kernel
theorem d_Model_machine_100 : decode m_Model_machine.2.1 100 = .ok (.aload_n 0, 1) := by decide +kernel
theorem d_Model_machine_101 : decode m_Model_machine.2.1 101 = .ok (.getfield 16, 3) := by decide +kernel
