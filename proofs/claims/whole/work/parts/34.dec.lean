theorem dX10_resumes_114 : decode cX10_resumes 114 = .ok (.iadd, 1) := by decide +kernel
theorem dX10_resumes_115 : decode cX10_resumes 115 = .ok (.aload_n 0, 1) := by decide +kernel
theorem dX10_resumes_116 : decode cX10_resumes 116 = .ok (.getfield 71, 3) := by decide +kernel
theorem dX10_resumes_119 : decode cX10_resumes 119 = .ok (.bipush 32, 2) := by decide +kernel
theorem dX10_resumes_121 : decode cX10_resumes 121 = .ok (.iload_n 1, 1) := by decide +kernel
theorem dX10_resumes_122 : decode cX10_resumes 122 = .ok (.imul, 1) := by decide +kernel
theorem dX10_resumes_123 : decode cX10_resumes 123 = .ok (.bipush 8, 2) := by decide +kernel
theorem dX10_resumes_125 : decode cX10_resumes 125 = .ok (.iadd, 1) := by decide +kernel
theorem dX10_resumes_126 : decode cX10_resumes 126 = .ok (.iload 5, 2) := by decide +kernel
theorem dX10_resumes_128 : decode cX10_resumes 128 = .ok (.iadd, 1) := by decide +kernel
theorem dX10_resumes_129 : decode cX10_resumes 129 = .ok (.iaload, 1) := by decide +kernel
theorem dX10_resumes_130 : decode cX10_resumes 130 = .ok (.iastore, 1) := by decide +kernel
theorem dX10_resumes_131 : decode cX10_resumes 131 = .ok (.iinc 5 1, 3) := by decide +kernel
theorem dX10_resumes_134 : decode cX10_resumes 134 = .ok (.goto (-37), 3) := by decide +kernel
theorem dX10_resumes_137 : decode cX10_resumes 137 = .ok (.aload_n 0, 1) := by decide +kernel
theorem dX10_resumes_138 : decode cX10_resumes 138 = .ok (.getfield 53, 3) := by decide +kernel
theorem dX10_resumes_141 : decode cX10_resumes 141 = .ok (.iload_n 3, 1) := by decide +kernel
theorem dX10_resumes_142 : decode cX10_resumes 142 = .ok (.iconst 3, 1) := by decide +kernel
theorem dX10_resumes_143 : decode cX10_resumes 143 = .ok (.iadd, 1) := by decide +kernel
theorem dX10_resumes_144 : decode cX10_resumes 144 = .ok (.dup2, 1) := by decide +kernel
theorem dX10_resumes_145 : decode cX10_resumes 145 = .ok (.iaload, 1) := by decide +kernel
theorem dX10_resumes_146 : decode cX10_resumes 146 = .ok (.iload 4, 2) := by decide +kernel
theorem dX10_resumes_148 : decode cX10_resumes 148 = .ok (.iadd, 1) := by decide +kernel
theorem dX10_resumes_149 : decode cX10_resumes 149 = .ok (.iastore, 1) := by decide +kernel
theorem dX10_resumes_150 : decode cX10_resumes 150 = .ok (.aload_n 0, 1) := by decide +kernel
theorem dX10_resumes_151 : decode cX10_resumes 151 = .ok (.getfield 53, 3) := by decide +kernel
theorem dX10_resumes_154 : decode cX10_resumes 154 = .ok (.iload_n 3, 1) := by decide +kernel
theorem dX10_resumes_155 : decode cX10_resumes 155 = .ok (.bipush 15, 2) := by decide +kernel
theorem dX10_resumes_157 : decode cX10_resumes 157 = .ok (.iadd, 1) := by decide +kernel
theorem dX10_resumes_158 : decode cX10_resumes 158 = .ok (.iconst 0, 1) := by decide +kernel
theorem dX10_resumes_159 : decode cX10_resumes 159 = .ok (.iastore, 1) := by decide +kernel
theorem dX10_resumes_160 : decode cX10_resumes 160 = .ok (.iconst 1, 1) := by decide +kernel
theorem dX10_resumes_161 : decode cX10_resumes 161 = .ok (.ireturn, 1) := by decide +kernel
theorem dX10_faults_0 : decode cX10_faults 0 = .ok (.bipush 30, 2) := by decide +kernel
theorem dX10_faults_2 : decode cX10_faults 2 = .ok (.iload_n 1, 1) := by decide +kernel
theorem dX10_faults_3 : decode cX10_faults 3 = .ok (.imul, 1) := by decide +kernel
theorem dX10_faults_4 : decode cX10_faults 4 = .ok (.istore_n 2, 1) := by decide +kernel
theorem dX10_faults_5 : decode cX10_faults 5 = .ok (.aload_n 0, 1) := by decide +kernel
theorem dX10_faults_6 : decode cX10_faults 6 = .ok (.getfield 53, 3) := by decide +kernel
theorem dX10_faults_9 : decode cX10_faults 9 = .ok (.iload_n 2, 1) := by decide +kernel
theorem dX10_faults_10 : decode cX10_faults 10 = .ok (.bipush 9, 2) := by decide +kernel
theorem dX10_faults_12 : decode cX10_faults 12 = .ok (.iadd, 1) := by decide +kernel
theorem dX10_faults_13 : decode cX10_faults 13 = .ok (.aload_n 0, 1) := by decide +kernel
theorem dX10_faults_14 : decode cX10_faults 14 = .ok (.getfield 107, 3) := by decide +kernel
theorem dX10_faults_17 : decode cX10_faults 17 = .ok (.iastore, 1) := by decide +kernel
theorem dX10_faults_18 : decode cX10_faults 18 = .ok (.aload_n 0, 1) := by decide +kernel
theorem dX10_faults_19 : decode cX10_faults 19 = .ok (.getfield 53, 3) := by decide +kernel
theorem dX10_faults_22 : decode cX10_faults 22 = .ok (.iload_n 2, 1) := by decide +kernel
theorem dX10_faults_23 : decode cX10_faults 23 = .ok (.bipush 10, 2) := by decide +kernel
theorem dX10_faults_25 : decode cX10_faults 25 = .ok (.iadd, 1) := by decide +kernel
theorem dX10_faults_26 : decode cX10_faults 26 = .ok (.aload_n 0, 1) := by decide +kernel
theorem dX10_faults_27 : decode cX10_faults 27 = .ok (.getfield 110, 3) := by decide +kernel
theorem dX10_faults_30 : decode cX10_faults 30 = .ok (.iastore, 1) := by decide +kernel
theorem dX10_faults_31 : decode cX10_faults 31 = .ok (.aload_n 0, 1) := by decide +kernel
theorem dX10_faults_32 : decode cX10_faults 32 = .ok (.getfield 53, 3) := by decide +kernel
theorem dX10_faults_35 : decode cX10_faults 35 = .ok (.iload_n 2, 1) := by decide +kernel
theorem dX10_faults_36 : decode cX10_faults 36 = .ok (.bipush 11, 2) := by decide +kernel
theorem dX10_faults_38 : decode cX10_faults 38 = .ok (.iadd, 1) := by decide +kernel
theorem dX10_faults_39 : decode cX10_faults 39 = .ok (.aload_n 0, 1) := by decide +kernel
theorem dX10_faults_40 : decode cX10_faults 40 = .ok (.getfield 113, 3) := by decide +kernel
theorem dX10_faults_43 : decode cX10_faults 43 = .ok (.iastore, 1) := by decide +kernel
theorem dX10_faults_44 : decode cX10_faults 44 = .ok (.aload_n 0, 1) := by decide +kernel
theorem dX10_faults_45 : decode cX10_faults 45 = .ok (.getfield 53, 3) := by decide +kernel
theorem dX10_faults_48 : decode cX10_faults 48 = .ok (.iload_n 2, 1) := by decide +kernel
theorem dX10_faults_49 : decode cX10_faults 49 = .ok (.bipush 12, 2) := by decide +kernel
theorem dX10_faults_51 : decode cX10_faults 51 = .ok (.iadd, 1) := by decide +kernel
theorem dX10_faults_52 : decode cX10_faults 52 = .ok (.aload_n 0, 1) := by decide +kernel
theorem dX10_faults_53 : decode cX10_faults 53 = .ok (.getfield 116, 3) := by decide +kernel
theorem dX10_faults_56 : decode cX10_faults 56 = .ok (.iastore, 1) := by decide +kernel
theorem dX10_faults_57 : decode cX10_faults 57 = .ok (.aload_n 0, 1) := by decide +kernel
theorem dX10_faults_58 : decode cX10_faults 58 = .ok (.getfield 53, 3) := by decide +kernel
theorem dX10_faults_61 : decode cX10_faults 61 = .ok (.iload_n 2, 1) := by decide +kernel
theorem dX10_faults_62 : decode cX10_faults 62 = .ok (.bipush 14, 2) := by decide +kernel
theorem dX10_faults_64 : decode cX10_faults 64 = .ok (.iadd, 1) := by decide +kernel
theorem dX10_faults_65 : decode cX10_faults 65 = .ok (.dup2, 1) := by decide +kernel
theorem dX10_faults_66 : decode cX10_faults 66 = .ok (.iaload, 1) := by decide +kernel
theorem dX10_faults_67 : decode cX10_faults 67 = .ok (.iconst 1, 1) := by decide +kernel
theorem dX10_faults_68 : decode cX10_faults 68 = .ok (.iadd, 1) := by decide +kernel
theorem dX10_faults_69 : decode cX10_faults 69 = .ok (.iastore, 1) := by decide +kernel
theorem dX10_faults_70 : decode cX10_faults 70 = .ok (.aload_n 0, 1) := by decide +kernel
theorem dX10_faults_71 : decode cX10_faults 71 = .ok (.getfield 53, 3) := by decide +kernel
theorem dX10_faults_74 : decode cX10_faults 74 = .ok (.iload_n 2, 1) := by decide +kernel
theorem dX10_faults_75 : decode cX10_faults 75 = .ok (.bipush 19, 2) := by decide +kernel
theorem dX10_faults_77 : decode cX10_faults 77 = .ok (.iadd, 1) := by decide +kernel
theorem dX10_faults_78 : decode cX10_faults 78 = .ok (.iaload, 1) := by decide +kernel
theorem dX10_faults_79 : decode cX10_faults 79 = .ok (.ifCond .lt 16, 3) := by decide +kernel
theorem dX10_faults_82 : decode cX10_faults 82 = .ok (.aload_n 0, 1) := by decide +kernel
theorem dX10_faults_83 : decode cX10_faults 83 = .ok (.getfield 53, 3) := by decide +kernel
theorem dX10_faults_86 : decode cX10_faults 86 = .ok (.iload_n 2, 1) := by decide +kernel
theorem dX10_faults_87 : decode cX10_faults 87 = .ok (.bipush 15, 2) := by decide +kernel
theorem dX10_faults_89 : decode cX10_faults 89 = .ok (.iadd, 1) := by decide +kernel
theorem dX10_faults_90 : decode cX10_faults 90 = .ok (.iaload, 1) := by decide +kernel
theorem dX10_faults_91 : decode cX10_faults 91 = .ok (.iconst 1, 1) := by decide +kernel
theorem dX10_faults_92 : decode cX10_faults 92 = .ok (.if_icmp .ne 27, 3) := by decide +kernel
theorem dX10_faults_95 : decode cX10_faults 95 = .ok (.aload_n 0, 1) := by decide +kernel
theorem dX10_faults_96 : decode cX10_faults 96 = .ok (.getfield 53, 3) := by decide +kernel
theorem dX10_faults_99 : decode cX10_faults 99 = .ok (.iload_n 2, 1) := by decide +kernel
theorem dX10_faults_100 : decode cX10_faults 100 = .ok (.aload_n 0, 1) := by decide +kernel
theorem dX10_faults_101 : decode cX10_faults 101 = .ok (.getfield 53, 3) := by decide +kernel
theorem dX10_faults_104 : decode cX10_faults 104 = .ok (.iload_n 2, 1) := by decide +kernel
theorem dX10_faults_105 : decode cX10_faults 105 = .ok (.bipush 19, 2) := by decide +kernel
theorem dX10_faults_107 : decode cX10_faults 107 = .ok (.iadd, 1) := by decide +kernel
theorem dX10_faults_108 : decode cX10_faults 108 = .ok (.iaload, 1) := by decide +kernel
theorem dX10_faults_109 : decode cX10_faults 109 = .ok (.ifCond .ge 7, 3) := by decide +kernel
theorem dX10_faults_112 : decode cX10_faults 112 = .ok (.iconst 3, 1) := by decide +kernel
theorem dX10_faults_113 : decode cX10_faults 113 = .ok (.goto 4, 3) := by decide +kernel
theorem dX10_faults_116 : decode cX10_faults 116 = .ok (.iconst 4, 1) := by decide +kernel
theorem dX10_faults_117 : decode cX10_faults 117 = .ok (.iastore, 1) := by decide +kernel
theorem dX10_faults_118 : decode cX10_faults 118 = .ok (.return_, 1) := by decide +kernel
theorem dX10_faults_119 : decode cX10_faults 119 = .ok (.iconst 0, 1) := by decide +kernel
theorem dX10_faults_120 : decode cX10_faults 120 = .ok (.istore_n 3, 1) := by decide +kernel
theorem dX10_faults_121 : decode cX10_faults 121 = .ok (.iload_n 3, 1) := by decide +kernel
theorem dX10_faults_122 : decode cX10_faults 122 = .ok (.bipush 8, 2) := by decide +kernel
theorem dX10_faults_124 : decode cX10_faults 124 = .ok (.if_icmp .ge 30, 3) := by decide +kernel
theorem dX10_faults_127 : decode cX10_faults 127 = .ok (.aload_n 0, 1) := by decide +kernel
theorem dX10_faults_128 : decode cX10_faults 128 = .ok (.getfield 71, 3) := by decide +kernel
theorem dX10_faults_131 : decode cX10_faults 131 = .ok (.bipush 32, 2) := by decide +kernel
theorem dX10_faults_133 : decode cX10_faults 133 = .ok (.iload_n 1, 1) := by decide +kernel
theorem dX10_faults_134 : decode cX10_faults 134 = .ok (.imul, 1) := by decide +kernel
theorem dX10_faults_135 : decode cX10_faults 135 = .ok (.iload_n 3, 1) := by decide +kernel
theorem dX10_faults_136 : decode cX10_faults 136 = .ok (.iadd, 1) := by decide +kernel
theorem dX10_faults_137 : decode cX10_faults 137 = .ok (.aload_n 0, 1) := by decide +kernel
theorem dX10_faults_138 : decode cX10_faults 138 = .ok (.getfield 53, 3) := by decide +kernel
theorem dX10_faults_141 : decode cX10_faults 141 = .ok (.iload_n 2, 1) := by decide +kernel
theorem dX10_faults_142 : decode cX10_faults 142 = .ok (.iconst 1, 1) := by decide +kernel
theorem dX10_faults_143 : decode cX10_faults 143 = .ok (.iadd, 1) := by decide +kernel
theorem dX10_faults_144 : decode cX10_faults 144 = .ok (.iload_n 3, 1) := by decide +kernel
theorem dX10_faults_145 : decode cX10_faults 145 = .ok (.iadd, 1) := by decide +kernel
theorem dX10_faults_146 : decode cX10_faults 146 = .ok (.iaload, 1) := by decide +kernel
theorem dX10_faults_147 : decode cX10_faults 147 = .ok (.iastore, 1) := by decide +kernel
theorem dX10_faults_148 : decode cX10_faults 148 = .ok (.iinc 3 1, 3) := by decide +kernel
theorem dX10_faults_151 : decode cX10_faults 151 = .ok (.goto (-30), 3) := by decide +kernel
theorem dX10_faults_154 : decode cX10_faults 154 = .ok (.iconst 0, 1) := by decide +kernel
theorem dX10_faults_155 : decode cX10_faults 155 = .ok (.istore_n 3, 1) := by decide +kernel
theorem dX10_faults_156 : decode cX10_faults 156 = .ok (.iload_n 3, 1) := by decide +kernel
theorem dX10_faults_157 : decode cX10_faults 157 = .ok (.bipush 24, 2) := by decide +kernel
theorem dX10_faults_159 : decode cX10_faults 159 = .ok (.if_icmp .ge 34, 3) := by decide +kernel
theorem dX10_faults_162 : decode cX10_faults 162 = .ok (.aload_n 0, 1) := by decide +kernel
theorem dX10_faults_163 : decode cX10_faults 163 = .ok (.getfield 71, 3) := by decide +kernel
theorem dX10_faults_166 : decode cX10_faults 166 = .ok (.bipush 32, 2) := by decide +kernel
theorem dX10_faults_168 : decode cX10_faults 168 = .ok (.iload_n 1, 1) := by decide +kernel
theorem dX10_faults_169 : decode cX10_faults 169 = .ok (.imul, 1) := by decide +kernel
theorem dX10_faults_170 : decode cX10_faults 170 = .ok (.bipush 8, 2) := by decide +kernel
theorem dX10_faults_172 : decode cX10_faults 172 = .ok (.iadd, 1) := by decide +kernel
theorem dX10_faults_173 : decode cX10_faults 173 = .ok (.iload_n 3, 1) := by decide +kernel
theorem dX10_faults_174 : decode cX10_faults 174 = .ok (.iadd, 1) := by decide +kernel
theorem dX10_faults_175 : decode cX10_faults 175 = .ok (.aload_n 0, 1) := by decide +kernel
theorem dX10_faults_176 : decode cX10_faults 176 = .ok (.getfield 56, 3) := by decide +kernel
theorem dX10_faults_179 : decode cX10_faults 179 = .ok (.bipush 24, 2) := by decide +kernel
theorem dX10_faults_181 : decode cX10_faults 181 = .ok (.iload_n 1, 1) := by decide +kernel
theorem dX10_faults_182 : decode cX10_faults 182 = .ok (.imul, 1) := by decide +kernel
theorem dX10_faults_183 : decode cX10_faults 183 = .ok (.iload_n 3, 1) := by decide +kernel
theorem dX10_faults_184 : decode cX10_faults 184 = .ok (.iadd, 1) := by decide +kernel
theorem dX10_faults_185 : decode cX10_faults 185 = .ok (.iaload, 1) := by decide +kernel
theorem dX10_faults_186 : decode cX10_faults 186 = .ok (.iastore, 1) := by decide +kernel
theorem dX10_faults_187 : decode cX10_faults 187 = .ok (.iinc 3 1, 3) := by decide +kernel
theorem dX10_faults_190 : decode cX10_faults 190 = .ok (.goto (-34), 3) := by decide +kernel
theorem dX10_faults_193 : decode cX10_faults 193 = .ok (.aload_n 0, 1) := by decide +kernel
theorem dX10_faults_194 : decode cX10_faults 194 = .ok (.getfield 53, 3) := by decide +kernel
theorem dX10_faults_197 : decode cX10_faults 197 = .ok (.iload_n 2, 1) := by decide +kernel
theorem dX10_faults_198 : decode cX10_faults 198 = .ok (.bipush 15, 2) := by decide +kernel
theorem dX10_faults_200 : decode cX10_faults 200 = .ok (.iadd, 1) := by decide +kernel
theorem dX10_faults_201 : decode cX10_faults 201 = .ok (.iconst 1, 1) := by decide +kernel
theorem dX10_faults_202 : decode cX10_faults 202 = .ok (.iastore, 1) := by decide +kernel
theorem dX10_faults_203 : decode cX10_faults 203 = .ok (.aload_n 0, 1) := by decide +kernel
theorem dX10_faults_204 : decode cX10_faults 204 = .ok (.iload_n 1, 1) := by decide +kernel
theorem dX10_faults_205 : decode cX10_faults 205 = .ok (.iconst 0, 1) := by decide +kernel
theorem dX10_faults_206 : decode cX10_faults 206 = .ok (.aload_n 0, 1) := by decide +kernel
theorem dX10_faults_207 : decode cX10_faults 207 = .ok (.getfield 53, 3) := by decide +kernel
theorem dX10_faults_210 : decode cX10_faults 210 = .ok (.iload_n 2, 1) := by decide +kernel
theorem dX10_faults_211 : decode cX10_faults 211 = .ok (.bipush 19, 2) := by decide +kernel
theorem dX10_faults_213 : decode cX10_faults 213 = .ok (.iadd, 1) := by decide +kernel
theorem dX10_faults_214 : decode cX10_faults 214 = .ok (.iaload, 1) := by decide +kernel
theorem dX10_faults_215 : decode cX10_faults 215 = .ok (.aload_n 0, 1) := by decide +kernel
theorem dX10_faults_216 : decode cX10_faults 216 = .ok (.getfield 53, 3) := by decide +kernel
theorem dX10_faults_219 : decode cX10_faults 219 = .ok (.iload_n 2, 1) := by decide +kernel
theorem dX10_faults_220 : decode cX10_faults 220 = .ok (.bipush 20, 2) := by decide +kernel
theorem dX10_faults_222 : decode cX10_faults 222 = .ok (.iadd, 1) := by decide +kernel
theorem dX10_faults_223 : decode cX10_faults 223 = .ok (.iaload, 1) := by decide +kernel
theorem dX10_faults_224 : decode cX10_faults 224 = .ok (.invokevirtual 191, 3) := by decide +kernel
theorem dX10_faults_227 : decode cX10_faults 227 = .ok (.aload_n 0, 1) := by decide +kernel
theorem dX10_faults_228 : decode cX10_faults 228 = .ok (.getfield 53, 3) := by decide +kernel
theorem dX10_faults_231 : decode cX10_faults 231 = .ok (.iload_n 2, 1) := by decide +kernel
theorem dX10_faults_232 : decode cX10_faults 232 = .ok (.iconst 4, 1) := by decide +kernel
theorem dX10_faults_233 : decode cX10_faults 233 = .ok (.iadd, 1) := by decide +kernel
theorem dX10_faults_234 : decode cX10_faults 234 = .ok (.aload_n 0, 1) := by decide +kernel
theorem dX10_faults_235 : decode cX10_faults 235 = .ok (.getfield 107, 3) := by decide +kernel
theorem dX10_faults_238 : decode cX10_faults 238 = .ok (.iastore, 1) := by decide +kernel
theorem dX10_faults_239 : decode cX10_faults 239 = .ok (.aload_n 0, 1) := by decide +kernel
theorem dX10_faults_240 : decode cX10_faults 240 = .ok (.iload_n 1, 1) := by decide +kernel
theorem dX10_faults_241 : decode cX10_faults 241 = .ok (.iconst 1, 1) := by decide +kernel
theorem dX10_faults_242 : decode cX10_faults 242 = .ok (.aload_n 0, 1) := by decide +kernel
theorem dX10_faults_243 : decode cX10_faults 243 = .ok (.getfield 110, 3) := by decide +kernel
theorem dX10_faults_246 : decode cX10_faults 246 = .ok (.aload_n 0, 1) := by decide +kernel
theorem dX10_faults_247 : decode cX10_faults 247 = .ok (.getfield 113, 3) := by decide +kernel
theorem dX10_faults_250 : decode cX10_faults 250 = .ok (.aload_n 0, 1) := by decide +kernel
theorem dX10_faults_251 : decode cX10_faults 251 = .ok (.getfield 116, 3) := by decide +kernel
theorem dX10_faults_254 : decode cX10_faults 254 = .ok (.ldc 93, 2) := by decide +kernel
theorem dX10_faults_256 : decode cX10_faults 256 = .ok (.iand, 1) := by decide +kernel
theorem dX10_faults_257 : decode cX10_faults 257 = .ok (.invokevirtual 175, 3) := by decide +kernel
theorem dX10_faults_260 : decode cX10_faults 260 = .ok (.return_, 1) := by decide +kernel
theorem dX10_run_0 : decode cX10_run 0 = .ok (.aload_n 0, 1) := by decide +kernel
theorem dX10_run_1 : decode cX10_run 1 = .ok (.iload_n 1, 1) := by decide +kernel
theorem dX10_run_2 : decode cX10_run 2 = .ok (.invokevirtual 94, 3) := by decide +kernel
theorem dX10_run_5 : decode cX10_run 5 = .ok (.ifCond .eq 14, 3) := by decide +kernel
theorem dX10_run_8 : decode cX10_run 8 = .ok (.iload_n 2, 1) := by decide +kernel
theorem dX10_run_9 : decode cX10_run 9 = .ok (.iconst 0, 1) := by decide +kernel
theorem dX10_run_10 : decode cX10_run 10 = .ok (.sipush 500, 3) := by decide +kernel
theorem dX10_run_13 : decode cX10_run 13 = .ok (.invokestatic 81, 3) := by decide +kernel
theorem dX10_run_16 : decode cX10_run 16 = .ok (.ifCond .ne 5, 3) := by decide +kernel
theorem dX10_run_19 : decode cX10_run 19 = .ok (.iconst (-1), 1) := by decide +kernel
theorem dX10_run_20 : decode cX10_run 20 = .ok (.ireturn, 1) := by decide +kernel
theorem dX10_run_21 : decode cX10_run 21 = .ok (.iconst 0, 1) := by decide +kernel
theorem dX10_run_22 : decode cX10_run 22 = .ok (.istore_n 3, 1) := by decide +kernel
theorem dX10_run_23 : decode cX10_run 23 = .ok (.iload_n 3, 1) := by decide +kernel
theorem dX10_run_24 : decode cX10_run 24 = .ok (.iload_n 2, 1) := by decide +kernel
theorem dX10_run_25 : decode cX10_run 25 = .ok (.if_icmp .ge 56, 3) := by decide +kernel
theorem dX10_run_28 : decode cX10_run 28 = .ok (.aload_n 0, 1) := by decide +kernel
theorem dX10_run_29 : decode cX10_run 29 = .ok (.getfield 53, 3) := by decide +kernel
theorem dX10_run_32 : decode cX10_run 32 = .ok (.bipush 30, 2) := by decide +kernel
theorem dX10_run_34 : decode cX10_run 34 = .ok (.iload_n 1, 1) := by decide +kernel
theorem dX10_run_35 : decode cX10_run 35 = .ok (.imul, 1) := by decide +kernel
theorem dX10_run_36 : decode cX10_run 36 = .ok (.iaload, 1) := by decide +kernel
theorem dX10_run_37 : decode cX10_run 37 = .ok (.iconst 1, 1) := by decide +kernel
theorem dX10_run_38 : decode cX10_run 38 = .ok (.if_icmp .ne 43, 3) := by decide +kernel
theorem dX10_run_41 : decode cX10_run 41 = .ok (.aload_n 0, 1) := by decide +kernel
theorem dX10_run_42 : decode cX10_run 42 = .ok (.iconst 0, 1) := by decide +kernel
theorem dX10_run_43 : decode cX10_run 43 = .ok (.putfield 107, 3) := by decide +kernel
theorem dX10_run_46 : decode cX10_run 46 = .ok (.aload_n 0, 1) := by decide +kernel
theorem dX10_run_47 : decode cX10_run 47 = .ok (.iload_n 1, 1) := by decide +kernel
theorem dX10_run_48 : decode cX10_run 48 = .ok (.invokevirtual 194, 3) := by decide +kernel
theorem dX10_run_51 : decode cX10_run 51 = .ok (.ifCond .ne 8, 3) := by decide +kernel
theorem dX10_run_54 : decode cX10_run 54 = .ok (.aload_n 0, 1) := by decide +kernel
theorem dX10_run_55 : decode cX10_run 55 = .ok (.iload_n 1, 1) := by decide +kernel
theorem dX10_run_56 : decode cX10_run 56 = .ok (.invokevirtual 197, 3) := by decide +kernel
theorem dX10_run_59 : decode cX10_run 59 = .ok (.aload_n 0, 1) := by decide +kernel
theorem dX10_run_60 : decode cX10_run 60 = .ok (.getfield 53, 3) := by decide +kernel
theorem dX10_run_63 : decode cX10_run 63 = .ok (.bipush 30, 2) := by decide +kernel
theorem dX10_run_65 : decode cX10_run 65 = .ok (.iload_n 1, 1) := by decide +kernel
theorem dX10_run_66 : decode cX10_run 66 = .ok (.imul, 1) := by decide +kernel
theorem dX10_run_67 : decode cX10_run 67 = .ok (.bipush 13, 2) := by decide +kernel
theorem dX10_run_69 : decode cX10_run 69 = .ok (.iadd, 1) := by decide +kernel
theorem dX10_run_70 : decode cX10_run 70 = .ok (.dup2, 1) := by decide +kernel
theorem dX10_run_71 : decode cX10_run 71 = .ok (.iaload, 1) := by decide +kernel
theorem dX10_run_72 : decode cX10_run 72 = .ok (.iconst 1, 1) := by decide +kernel
theorem dX10_run_73 : decode cX10_run 73 = .ok (.iadd, 1) := by decide +kernel
theorem dX10_run_74 : decode cX10_run 74 = .ok (.iastore, 1) := by decide +kernel
theorem dX10_run_75 : decode cX10_run 75 = .ok (.iinc 3 1, 3) := by decide +kernel
theorem dX10_run_78 : decode cX10_run 78 = .ok (.goto (-55), 3) := by decide +kernel
theorem dX10_run_81 : decode cX10_run 81 = .ok (.iload_n 3, 1) := by decide +kernel
theorem dX10_run_82 : decode cX10_run 82 = .ok (.ireturn, 1) := by decide +kernel
theorem dX10_state_0 : decode cX10_state 0 = .ok (.aload_n 0, 1) := by decide +kernel
theorem dX10_state_1 : decode cX10_state 1 = .ok (.iload_n 1, 1) := by decide +kernel
theorem dX10_state_2 : decode cX10_state 2 = .ok (.invokevirtual 94, 3) := by decide +kernel
theorem dX10_state_5 : decode cX10_state 5 = .ok (.ifCond .eq 27, 3) := by decide +kernel
theorem dX10_state_8 : decode cX10_state 8 = .ok (.iload_n 2, 1) := by decide +kernel
theorem dX10_state_9 : decode cX10_state 9 = .ok (.iconst 0, 1) := by decide +kernel
theorem dX10_state_10 : decode cX10_state 10 = .ok (.bipush 18, 2) := by decide +kernel
theorem dX10_state_12 : decode cX10_state 12 = .ok (.invokestatic 81, 3) := by decide +kernel
theorem dX10_state_15 : decode cX10_state 15 = .ok (.ifCond .eq 17, 3) := by decide +kernel
theorem dX10_state_18 : decode cX10_state 18 = .ok (.aload_n 0, 1) := by decide +kernel
theorem dX10_state_19 : decode cX10_state 19 = .ok (.getfield 53, 3) := by decide +kernel
theorem dX10_state_22 : decode cX10_state 22 = .ok (.bipush 30, 2) := by decide +kernel
theorem dX10_state_24 : decode cX10_state 24 = .ok (.iload_n 1, 1) := by decide +kernel
theorem dX10_state_25 : decode cX10_state 25 = .ok (.imul, 1) := by decide +kernel
theorem dX10_state_26 : decode cX10_state 26 = .ok (.iload_n 2, 1) := by decide +kernel
theorem dX10_state_27 : decode cX10_state 27 = .ok (.iadd, 1) := by decide +kernel
theorem dX10_state_28 : decode cX10_state 28 = .ok (.iaload, 1) := by decide +kernel
theorem dX10_state_29 : decode cX10_state 29 = .ok (.goto 4, 3) := by decide +kernel
theorem dX10_state_32 : decode cX10_state 32 = .ok (.iconst 0, 1) := by decide +kernel
theorem dX10_state_33 : decode cX10_state 33 = .ok (.ireturn, 1) := by decide +kernel
theorem dX10_pointer_0 : decode cX10_pointer 0 = .ok (.aload_n 0, 1) := by decide +kernel
theorem dX10_pointer_1 : decode cX10_pointer 1 = .ok (.iload_n 1, 1) := by decide +kernel
theorem dX10_pointer_2 : decode cX10_pointer 2 = .ok (.invokevirtual 94, 3) := by decide +kernel
theorem dX10_pointer_5 : decode cX10_pointer 5 = .ok (.ifCond .eq 40, 3) := by decide +kernel
theorem dX10_pointer_8 : decode cX10_pointer 8 = .ok (.iload_n 2, 1) := by decide +kernel
theorem dX10_pointer_9 : decode cX10_pointer 9 = .ok (.iconst 0, 1) := by decide +kernel
theorem dX10_pointer_10 : decode cX10_pointer 10 = .ok (.bipush 7, 2) := by decide +kernel
theorem dX10_pointer_12 : decode cX10_pointer 12 = .ok (.invokestatic 81, 3) := by decide +kernel
theorem dX10_pointer_15 : decode cX10_pointer 15 = .ok (.ifCond .eq 30, 3) := by decide +kernel
theorem dX10_pointer_18 : decode cX10_pointer 18 = .ok (.iload_n 3, 1) := by decide +kernel
theorem dX10_pointer_19 : decode cX10_pointer 19 = .ok (.iconst 0, 1) := by decide +kernel
theorem dX10_pointer_20 : decode cX10_pointer 20 = .ok (.iconst 2, 1) := by decide +kernel
theorem dX10_pointer_21 : decode cX10_pointer 21 = .ok (.invokestatic 81, 3) := by decide +kernel
theorem dX10_pointer_24 : decode cX10_pointer 24 = .ok (.ifCond .eq 21, 3) := by decide +kernel
theorem dX10_pointer_27 : decode cX10_pointer 27 = .ok (.aload_n 0, 1) := by decide +kernel
theorem dX10_pointer_28 : decode cX10_pointer 28 = .ok (.getfield 56, 3) := by decide +kernel
theorem dX10_pointer_31 : decode cX10_pointer 31 = .ok (.bipush 24, 2) := by decide +kernel
theorem dX10_pointer_33 : decode cX10_pointer 33 = .ok (.iload_n 1, 1) := by decide +kernel
theorem dX10_pointer_34 : decode cX10_pointer 34 = .ok (.imul, 1) := by decide +kernel
theorem dX10_pointer_35 : decode cX10_pointer 35 = .ok (.iconst 3, 1) := by decide +kernel
theorem dX10_pointer_36 : decode cX10_pointer 36 = .ok (.iload_n 2, 1) := by decide +kernel
theorem dX10_pointer_37 : decode cX10_pointer 37 = .ok (.imul, 1) := by decide +kernel
theorem dX10_pointer_38 : decode cX10_pointer 38 = .ok (.iadd, 1) := by decide +kernel
theorem dX10_pointer_39 : decode cX10_pointer 39 = .ok (.iload_n 3, 1) := by decide +kernel
theorem dX10_pointer_40 : decode cX10_pointer 40 = .ok (.iadd, 1) := by decide +kernel
theorem dX10_pointer_41 : decode cX10_pointer 41 = .ok (.iaload, 1) := by decide +kernel
theorem dX10_pointer_42 : decode cX10_pointer 42 = .ok (.goto 4, 3) := by decide +kernel
theorem dX10_pointer_45 : decode cX10_pointer 45 = .ok (.iconst (-1), 1) := by decide +kernel
theorem dX10_pointer_46 : decode cX10_pointer 46 = .ok (.ireturn, 1) := by decide +kernel
theorem dX10_peek_0 : decode cX10_peek 0 = .ok (.aload_n 0, 1) := by decide +kernel
theorem dX10_peek_1 : decode cX10_peek 1 = .ok (.iload_n 1, 1) := by decide +kernel
theorem dX10_peek_2 : decode cX10_peek 2 = .ok (.invokevirtual 94, 3) := by decide +kernel
theorem dX10_peek_5 : decode cX10_peek 5 = .ok (.ifCond .eq 38, 3) := by decide +kernel
theorem dX10_peek_8 : decode cX10_peek 8 = .ok (.aload_n 0, 1) := by decide +kernel
theorem dX10_peek_9 : decode cX10_peek 9 = .ok (.iload_n 1, 1) := by decide +kernel
theorem dX10_peek_10 : decode cX10_peek 10 = .ok (.iload_n 2, 1) := by decide +kernel
theorem dX10_peek_11 : decode cX10_peek 11 = .ok (.invokevirtual 123, 3) := by decide +kernel
theorem dX10_peek_14 : decode cX10_peek 14 = .ok (.ifCond .eq 29, 3) := by decide +kernel
theorem dX10_peek_17 : decode cX10_peek 17 = .ok (.iload_n 3, 1) := by decide +kernel
theorem dX10_peek_18 : decode cX10_peek 18 = .ok (.iconst 0, 1) := by decide +kernel
theorem dX10_peek_19 : decode cX10_peek 19 = .ok (.aload_n 0, 1) := by decide +kernel
theorem dX10_peek_20 : decode cX10_peek 20 = .ok (.iload_n 1, 1) := by decide +kernel
theorem dX10_peek_21 : decode cX10_peek 21 = .ok (.iload_n 2, 1) := by decide +kernel
theorem dX10_peek_22 : decode cX10_peek 22 = .ok (.invokevirtual 127, 3) := by decide +kernel
theorem dX10_peek_25 : decode cX10_peek 25 = .ok (.iconst 1, 1) := by decide +kernel
theorem dX10_peek_26 : decode cX10_peek 26 = .ok (.isub, 1) := by decide +kernel
theorem dX10_peek_27 : decode cX10_peek 27 = .ok (.invokestatic 81, 3) := by decide +kernel
theorem dX10_peek_30 : decode cX10_peek 30 = .ok (.ifCond .eq 13, 3) := by decide +kernel
theorem dX10_peek_33 : decode cX10_peek 33 = .ok (.aload_n 0, 1) := by decide +kernel
theorem dX10_peek_34 : decode cX10_peek 34 = .ok (.iload_n 1, 1) := by decide +kernel
theorem dX10_peek_35 : decode cX10_peek 35 = .ok (.iload_n 2, 1) := by decide +kernel
theorem dX10_peek_36 : decode cX10_peek 36 = .ok (.iload_n 3, 1) := by decide +kernel
theorem dX10_peek_37 : decode cX10_peek 37 = .ok (.invokevirtual 152, 3) := by decide +kernel
theorem dX10_peek_40 : decode cX10_peek 40 = .ok (.goto 4, 3) := by decide +kernel
theorem dX10_peek_43 : decode cX10_peek 43 = .ok (.iconst 0, 1) := by decide +kernel
theorem dX10_peek_44 : decode cX10_peek 44 = .ok (.ireturn, 1) := by decide +kernel
theorem dX10_stored_0 : decode cX10_stored 0 = .ok (.aload_n 0, 1) := by decide +kernel
theorem dX10_stored_1 : decode cX10_stored 1 = .ok (.iload_n 1, 1) := by decide +kernel
theorem dX10_stored_2 : decode cX10_stored 2 = .ok (.invokevirtual 85, 3) := by decide +kernel
theorem dX10_stored_5 : decode cX10_stored 5 = .ok (.ifCond .eq 34, 3) := by decide +kernel
theorem dX10_stored_8 : decode cX10_stored 8 = .ok (.iload_n 2, 1) := by decide +kernel
theorem dX10_stored_9 : decode cX10_stored 9 = .ok (.iconst 0, 1) := by decide +kernel
theorem dX10_stored_10 : decode cX10_stored 10 = .ok (.aload_n 0, 1) := by decide +kernel
theorem dX10_stored_11 : decode cX10_stored 11 = .ok (.getfield 13, 3) := by decide +kernel
theorem dX10_stored_14 : decode cX10_stored 14 = .ok (.iload_n 1, 1) := by decide +kernel
theorem dX10_stored_15 : decode cX10_stored 15 = .ok (.iaload, 1) := by decide +kernel
theorem dX10_stored_16 : decode cX10_stored 16 = .ok (.iconst 1, 1) := by decide +kernel
theorem dX10_stored_17 : decode cX10_stored 17 = .ok (.isub, 1) := by decide +kernel
theorem dX10_stored_18 : decode cX10_stored 18 = .ok (.invokestatic 81, 3) := by decide +kernel
theorem dX10_stored_21 : decode cX10_stored 21 = .ok (.ifCond .eq 18, 3) := by decide +kernel
theorem dX10_stored_24 : decode cX10_stored 24 = .ok (.aload_n 0, 1) := by decide +kernel
theorem dX10_stored_25 : decode cX10_stored 25 = .ok (.getfield 31, 3) := by decide +kernel
theorem dX10_stored_28 : decode cX10_stored 28 = .ok (.sipush 256, 3) := by decide +kernel
theorem dX10_stored_31 : decode cX10_stored 31 = .ok (.iload_n 1, 1) := by decide +kernel
theorem dX10_stored_32 : decode cX10_stored 32 = .ok (.imul, 1) := by decide +kernel
theorem dX10_stored_33 : decode cX10_stored 33 = .ok (.iload_n 2, 1) := by decide +kernel
theorem dX10_stored_34 : decode cX10_stored 34 = .ok (.iadd, 1) := by decide +kernel
theorem dX10_stored_35 : decode cX10_stored 35 = .ok (.iaload, 1) := by decide +kernel
theorem dX10_stored_36 : decode cX10_stored 36 = .ok (.goto 4, 3) := by decide +kernel
theorem dX10_stored_39 : decode cX10_stored 39 = .ok (.iconst 0, 1) := by decide +kernel
theorem dX10_stored_40 : decode cX10_stored 40 = .ok (.ireturn, 1) := by decide +kernel
theorem dX10_known_0 : decode cX10_known 0 = .ok (.aload_n 0, 1) := by decide +kernel
theorem dX10_known_1 : decode cX10_known 1 = .ok (.iload_n 1, 1) := by decide +kernel
theorem dX10_known_2 : decode cX10_known 2 = .ok (.invokevirtual 94, 3) := by decide +kernel
theorem dX10_known_5 : decode cX10_known 5 = .ok (.ifCond .eq 12, 3) := by decide +kernel
theorem dX10_known_8 : decode cX10_known 8 = .ok (.aload_n 0, 1) := by decide +kernel
theorem dX10_known_9 : decode cX10_known 9 = .ok (.iload_n 1, 1) := by decide +kernel
theorem dX10_known_10 : decode cX10_known 10 = .ok (.iload_n 2, 1) := by decide +kernel
theorem dX10_known_11 : decode cX10_known 11 = .ok (.invokevirtual 123, 3) := by decide +kernel
theorem dX10_known_14 : decode cX10_known 14 = .ok (.ifCond .ne 5, 3) := by decide +kernel
theorem dX10_known_17 : decode cX10_known 17 = .ok (.iconst (-1), 1) := by decide +kernel
theorem dX10_known_18 : decode cX10_known 18 = .ok (.ireturn, 1) := by decide +kernel
theorem dX10_known_19 : decode cX10_known 19 = .ok (.iload_n 2, 1) := by decide +kernel
theorem dX10_known_20 : decode cX10_known 20 = .ok (.bipush 8, 2) := by decide +kernel
theorem dX10_known_22 : decode cX10_known 22 = .ok (.if_icmp .ge 8, 3) := by decide +kernel
theorem dX10_known_25 : decode cX10_known 25 = .ok (.bipush (-2), 2) := by decide +kernel
theorem dX10_known_27 : decode cX10_known 27 = .ok (.goto 14, 3) := by decide +kernel
theorem dX10_known_30 : decode cX10_known 30 = .ok (.aload_n 0, 1) := by decide +kernel
theorem dX10_known_31 : decode cX10_known 31 = .ok (.getfield 62, 3) := by decide +kernel
theorem dX10_known_34 : decode cX10_known 34 = .ok (.bipush 40, 2) := by decide +kernel
theorem dX10_known_36 : decode cX10_known 36 = .ok (.iload_n 1, 1) := by decide +kernel
theorem dX10_known_37 : decode cX10_known 37 = .ok (.imul, 1) := by decide +kernel
theorem dX10_known_38 : decode cX10_known 38 = .ok (.iload_n 2, 1) := by decide +kernel
theorem dX10_known_39 : decode cX10_known 39 = .ok (.iadd, 1) := by decide +kernel
theorem dX10_known_40 : decode cX10_known 40 = .ok (.iaload, 1) := by decide +kernel
theorem dX10_known_41 : decode cX10_known 41 = .ok (.ireturn, 1) := by decide +kernel
theorem dX10_may_0 : decode cX10_may 0 = .ok (.aload_n 0, 1) := by decide +kernel
theorem dX10_may_1 : decode cX10_may 1 = .ok (.iload_n 1, 1) := by decide +kernel
theorem dX10_may_2 : decode cX10_may 2 = .ok (.invokevirtual 94, 3) := by decide +kernel
theorem dX10_may_5 : decode cX10_may 5 = .ok (.ifCond .eq 32, 3) := by decide +kernel
theorem dX10_may_8 : decode cX10_may 8 = .ok (.aload_n 0, 1) := by decide +kernel
theorem dX10_may_9 : decode cX10_may 9 = .ok (.iload_n 1, 1) := by decide +kernel
theorem dX10_may_10 : decode cX10_may 10 = .ok (.iload_n 3, 1) := by decide +kernel
theorem dX10_may_11 : decode cX10_may 11 = .ok (.invokevirtual 123, 3) := by decide +kernel
theorem dX10_may_14 : decode cX10_may 14 = .ok (.ifCond .eq 23, 3) := by decide +kernel
theorem dX10_may_17 : decode cX10_may 17 = .ok (.iload_n 2, 1) := by decide +kernel
theorem dX10_may_18 : decode cX10_may 18 = .ok (.iconst 0, 1) := by decide +kernel
theorem dX10_may_19 : decode cX10_may 19 = .ok (.bipush 7, 2) := by decide +kernel
theorem dX10_may_21 : decode cX10_may 21 = .ok (.invokestatic 81, 3) := by decide +kernel
theorem dX10_may_24 : decode cX10_may 24 = .ok (.ifCond .eq 13, 3) := by decide +kernel
theorem dX10_may_27 : decode cX10_may 27 = .ok (.iload 4, 2) := by decide +kernel
theorem dX10_may_29 : decode cX10_may 29 = .ok (.iconst 0, 1) := by decide +kernel
theorem dX10_may_30 : decode cX10_may 30 = .ok (.iconst 2, 1) := by decide +kernel
theorem dX10_may_31 : decode cX10_may 31 = .ok (.invokestatic 81, 3) := by decide +kernel
theorem dX10_may_34 : decode cX10_may 34 = .ok (.ifCond .ne 5, 3) := by decide +kernel
theorem dX10_may_37 : decode cX10_may 37 = .ok (.iconst (-1), 1) := by decide +kernel
theorem dX10_may_38 : decode cX10_may 38 = .ok (.ireturn, 1) := by decide +kernel
theorem dX10_may_39 : decode cX10_may 39 = .ok (.aload_n 0, 1) := by decide +kernel
theorem dX10_may_40 : decode cX10_may 40 = .ok (.iload_n 1, 1) := by decide +kernel
theorem dX10_may_41 : decode cX10_may 41 = .ok (.iload_n 2, 1) := by decide +kernel
theorem dX10_may_42 : decode cX10_may 42 = .ok (.iload_n 3, 1) := by decide +kernel
theorem dX10_may_43 : decode cX10_may 43 = .ok (.iload 4, 2) := by decide +kernel
theorem dX10_may_45 : decode cX10_may 45 = .ok (.invokevirtual 130, 3) := by decide +kernel
theorem dX10_may_48 : decode cX10_may 48 = .ok (.ifCond .eq 7, 3) := by decide +kernel
theorem dX10_may_51 : decode cX10_may 51 = .ok (.iconst 1, 1) := by decide +kernel
theorem dX10_may_52 : decode cX10_may 52 = .ok (.goto 4, 3) := by decide +kernel
theorem dX10_may_55 : decode cX10_may 55 = .ok (.iconst 0, 1) := by decide +kernel
theorem dX10_may_56 : decode cX10_may 56 = .ok (.ireturn, 1) := by decide +kernel
theorem dX10_said_0 : decode cX10_said 0 = .ok (.iload_n 1, 1) := by decide +kernel
theorem dX10_said_1 : decode cX10_said 1 = .ok (.iconst 0, 1) := by decide +kernel
theorem dX10_said_2 : decode cX10_said 2 = .ok (.sipush 199, 3) := by decide +kernel
theorem dX10_said_5 : decode cX10_said 5 = .ok (.invokestatic 81, 3) := by decide +kernel
theorem dX10_said_8 : decode cX10_said 8 = .ok (.ifCond .eq 20, 3) := by decide +kernel
theorem dX10_said_11 : decode cX10_said 11 = .ok (.iload_n 1, 1) := by decide +kernel
theorem dX10_said_12 : decode cX10_said 12 = .ok (.aload_n 0, 1) := by decide +kernel
theorem dX10_said_13 : decode cX10_said 13 = .ok (.getfield 185, 3) := by decide +kernel
theorem dX10_said_16 : decode cX10_said 16 = .ok (.if_icmp .ge 12, 3) := by decide +kernel
theorem dX10_said_19 : decode cX10_said 19 = .ok (.aload_n 0, 1) := by decide +kernel
theorem dX10_said_20 : decode cX10_said 20 = .ok (.getfield 74, 3) := by decide +kernel
theorem dX10_said_23 : decode cX10_said 23 = .ok (.iload_n 1, 1) := by decide +kernel
theorem dX10_said_24 : decode cX10_said 24 = .ok (.iaload, 1) := by decide +kernel
theorem dX10_said_25 : decode cX10_said 25 = .ok (.goto 4, 3) := by decide +kernel
theorem dX10_said_28 : decode cX10_said 28 = .ok (.iconst 0, 1) := by decide +kernel
theorem dX10_said_29 : decode cX10_said 29 = .ok (.ireturn, 1) := by decide +kernel
theorem dX10_sayings_0 : decode cX10_sayings 0 = .ok (.aload_n 0, 1) := by decide +kernel
theorem dX10_sayings_1 : decode cX10_sayings 1 = .ok (.getfield 185, 3) := by decide +kernel
theorem dX10_sayings_4 : decode cX10_sayings 4 = .ok (.ireturn, 1) := by decide +kernel
theorem dJ9_max_7cf53_0 : decode cJ9_max_7cf53 0 = .ok (.iload_n 0, 1) := by decide +kernel
theorem dJ9_max_7cf53_1 : decode cJ9_max_7cf53 1 = .ok (.iload_n 1, 1) := by decide +kernel
theorem dJ9_max_7cf53_2 : decode cJ9_max_7cf53 2 = .ok (.if_icmp .lt 7, 3) := by decide +kernel
theorem dJ9_max_7cf53_5 : decode cJ9_max_7cf53 5 = .ok (.iload_n 0, 1) := by decide +kernel
theorem dJ9_max_7cf53_6 : decode cJ9_max_7cf53 6 = .ok (.goto 4, 3) := by decide +kernel
theorem dJ9_max_7cf53_9 : decode cJ9_max_7cf53 9 = .ok (.iload_n 1, 1) := by decide +kernel
theorem dJ9_max_7cf53_10 : decode cJ9_max_7cf53 10 = .ok (.ireturn, 1) := by decide +kernel
theorem dJ9_min_7cf53_0 : decode cJ9_min_7cf53 0 = .ok (.iload_n 0, 1) := by decide +kernel
theorem dJ9_min_7cf53_1 : decode cJ9_min_7cf53 1 = .ok (.iload_n 1, 1) := by decide +kernel
theorem dJ9_min_7cf53_2 : decode cJ9_min_7cf53 2 = .ok (.if_icmp .gt 7, 3) := by decide +kernel
theorem dJ9_min_7cf53_5 : decode cJ9_min_7cf53 5 = .ok (.iload_n 0, 1) := by decide +kernel
theorem dJ9_min_7cf53_6 : decode cJ9_min_7cf53 6 = .ok (.goto 4, 3) := by decide +kernel
theorem dJ9_min_7cf53_9 : decode cJ9_min_7cf53 9 = .ok (.iload_n 1, 1) := by decide +kernel
theorem dJ9_min_7cf53_10 : decode cJ9_min_7cf53 10 = .ok (.ireturn, 1) := by decide +kernel
theorem dJ7_fill_53178_0 : decode cJ7_fill_53178 0 = .ok (.iconst 0, 1) := by decide +kernel
theorem dJ7_fill_53178_1 : decode cJ7_fill_53178 1 = .ok (.istore_n 2, 1) := by decide +kernel
theorem dJ7_fill_53178_2 : decode cJ7_fill_53178 2 = .ok (.aload_n 0, 1) := by decide +kernel
theorem dJ7_fill_53178_3 : decode cJ7_fill_53178 3 = .ok (.arraylength, 1) := by decide +kernel
theorem dJ7_fill_53178_4 : decode cJ7_fill_53178 4 = .ok (.istore_n 3, 1) := by decide +kernel
theorem dJ7_fill_53178_5 : decode cJ7_fill_53178 5 = .ok (.iload_n 2, 1) := by decide +kernel
theorem dJ7_fill_53178_6 : decode cJ7_fill_53178 6 = .ok (.iload_n 3, 1) := by decide +kernel
theorem dJ7_fill_53178_7 : decode cJ7_fill_53178 7 = .ok (.if_icmp .ge 13, 3) := by decide +kernel
theorem dJ7_fill_53178_10 : decode cJ7_fill_53178 10 = .ok (.aload_n 0, 1) := by decide +kernel
theorem dJ7_fill_53178_11 : decode cJ7_fill_53178 11 = .ok (.iload_n 2, 1) := by decide +kernel
theorem dJ7_fill_53178_12 : decode cJ7_fill_53178 12 = .ok (.iload_n 1, 1) := by decide +kernel
theorem dJ7_fill_53178_13 : decode cJ7_fill_53178 13 = .ok (.iastore, 1) := by decide +kernel
theorem dJ7_fill_53178_14 : decode cJ7_fill_53178 14 = .ok (.iinc 2 1, 3) := by decide +kernel
theorem dJ7_fill_53178_17 : decode cJ7_fill_53178 17 = .ok (.goto (-12), 3) := by decide +kernel
theorem dJ7_fill_53178_20 : decode cJ7_fill_53178 20 = .ok (.return_, 1) := by decide +kernel
theorem dL_law_0 : decode cL_law 0 = .ok (.new 7, 3) := by decide +kernel
theorem dL_law_3 : decode cL_law 3 = .ok (.dup, 1) := by decide +kernel
theorem dL_law_4 : decode cL_law 4 = .ok (.invokespecial 9, 3) := by decide +kernel
theorem dL_law_7 : decode cL_law 7 = .ok (.astore_n 1, 1) := by decide +kernel
theorem dL_law_8 : decode cL_law 8 = .ok (.new 10, 3) := by decide +kernel
theorem dL_law_11 : decode cL_law 11 = .ok (.dup, 1) := by decide +kernel
theorem dL_law_12 : decode cL_law 12 = .ok (.invokespecial 12, 3) := by decide +kernel
theorem dL_law_15 : decode cL_law 15 = .ok (.astore_n 2, 1) := by decide +kernel
theorem dL_law_16 : decode cL_law 16 = .ok (.iconst 0, 1) := by decide +kernel
theorem dL_law_17 : decode cL_law 17 = .ok (.istore_n 3, 1) := by decide +kernel
theorem dL_law_18 : decode cL_law 18 = .ok (.iload_n 3, 1) := by decide +kernel
theorem dL_law_19 : decode cL_law 19 = .ok (.aload_n 0, 1) := by decide +kernel
theorem dL_law_20 : decode cL_law 20 = .ok (.arraylength, 1) := by decide +kernel
theorem dL_law_21 : decode cL_law 21 = .ok (.bipush 6, 2) := by decide +kernel
theorem dL_law_23 : decode cL_law 23 = .ok (.isub, 1) := by decide +kernel
theorem dL_law_24 : decode cL_law 24 = .ok (.if_icmp .gt 779, 3) := by decide +kernel
theorem dL_law_27 : decode cL_law 27 = .ok (.aload_n 0, 1) := by decide +kernel
theorem dL_law_28 : decode cL_law 28 = .ok (.iload_n 3, 1) := by decide +kernel
theorem dL_law_29 : decode cL_law 29 = .ok (.iaload, 1) := by decide +kernel
theorem dL_law_30 : decode cL_law 30 = .ok (.bipush 31, 2) := by decide +kernel
theorem dL_law_32 : decode cL_law 32 = .ok (.iand, 1) := by decide +kernel
theorem dL_law_33 : decode cL_law 33 = .ok (.tableswitch 764 0 16 #[83, 116, 179, 222, 265, 308, 361, 414, 457, 490, 523, 566, 609, 642, 675, 728, 751], 83) := by decide +kernel
theorem dL_law_116 : decode cL_law 116 = .ok (.aload_n 1, 1) := by decide +kernel
theorem dL_law_117 : decode cL_law 117 = .ok (.aload_n 0, 1) := by decide +kernel
theorem dL_law_118 : decode cL_law 118 = .ok (.iload_n 3, 1) := by decide +kernel
theorem dL_law_119 : decode cL_law 119 = .ok (.iconst 1, 1) := by decide +kernel
theorem dL_law_120 : decode cL_law 120 = .ok (.iadd, 1) := by decide +kernel
theorem dL_law_121 : decode cL_law 121 = .ok (.iaload, 1) := by decide +kernel
theorem dL_law_122 : decode cL_law 122 = .ok (.aload_n 0, 1) := by decide +kernel
theorem dL_law_123 : decode cL_law 123 = .ok (.iload_n 3, 1) := by decide +kernel
theorem dL_law_124 : decode cL_law 124 = .ok (.iconst 2, 1) := by decide +kernel
theorem dL_law_125 : decode cL_law 125 = .ok (.iadd, 1) := by decide +kernel
theorem dL_law_126 : decode cL_law 126 = .ok (.iaload, 1) := by decide +kernel
theorem dL_law_127 : decode cL_law 127 = .ok (.invokevirtual 13, 3) := by decide +kernel
theorem dL_law_130 : decode cL_law 130 = .ok (.aload_n 2, 1) := by decide +kernel
theorem dL_law_131 : decode cL_law 131 = .ok (.aload_n 0, 1) := by decide +kernel
theorem dL_law_132 : decode cL_law 132 = .ok (.iload_n 3, 1) := by decide +kernel
theorem dL_law_133 : decode cL_law 133 = .ok (.iconst 1, 1) := by decide +kernel
theorem dL_law_134 : decode cL_law 134 = .ok (.iadd, 1) := by decide +kernel
theorem dL_law_135 : decode cL_law 135 = .ok (.iaload, 1) := by decide +kernel
theorem dL_law_136 : decode cL_law 136 = .ok (.aload_n 0, 1) := by decide +kernel
theorem dL_law_137 : decode cL_law 137 = .ok (.iload_n 3, 1) := by decide +kernel
theorem dL_law_138 : decode cL_law 138 = .ok (.iconst 2, 1) := by decide +kernel
theorem dL_law_139 : decode cL_law 139 = .ok (.iadd, 1) := by decide +kernel
theorem dL_law_140 : decode cL_law 140 = .ok (.iaload, 1) := by decide +kernel
theorem dL_law_141 : decode cL_law 141 = .ok (.invokevirtual 17, 3) := by decide +kernel
theorem dL_law_144 : decode cL_law 144 = .ok (.if_icmp .eq 653, 3) := by decide +kernel
theorem dL_law_147 : decode cL_law 147 = .ok (.iconst 0, 1) := by decide +kernel
theorem dL_law_148 : decode cL_law 148 = .ok (.ireturn, 1) := by decide +kernel
theorem dL_law_149 : decode cL_law 149 = .ok (.aload_n 1, 1) := by decide +kernel
theorem dL_law_150 : decode cL_law 150 = .ok (.aload_n 0, 1) := by decide +kernel
theorem dL_law_151 : decode cL_law 151 = .ok (.iload_n 3, 1) := by decide +kernel
theorem dL_law_152 : decode cL_law 152 = .ok (.iconst 1, 1) := by decide +kernel
theorem dL_law_153 : decode cL_law 153 = .ok (.iadd, 1) := by decide +kernel
theorem dL_law_154 : decode cL_law 154 = .ok (.iaload, 1) := by decide +kernel
theorem dL_law_155 : decode cL_law 155 = .ok (.aload_n 0, 1) := by decide +kernel
theorem dL_law_156 : decode cL_law 156 = .ok (.iload_n 3, 1) := by decide +kernel
theorem dL_law_157 : decode cL_law 157 = .ok (.iconst 2, 1) := by decide +kernel
theorem dL_law_158 : decode cL_law 158 = .ok (.iadd, 1) := by decide +kernel
theorem dL_law_159 : decode cL_law 159 = .ok (.iaload, 1) := by decide +kernel
theorem dL_law_160 : decode cL_law 160 = .ok (.aload_n 0, 1) := by decide +kernel
theorem dL_law_161 : decode cL_law 161 = .ok (.iload_n 3, 1) := by decide +kernel
theorem dL_law_162 : decode cL_law 162 = .ok (.iconst 3, 1) := by decide +kernel
theorem dL_law_163 : decode cL_law 163 = .ok (.iadd, 1) := by decide +kernel
theorem dL_law_164 : decode cL_law 164 = .ok (.iaload, 1) := by decide +kernel
theorem dL_law_165 : decode cL_law 165 = .ok (.aload_n 0, 1) := by decide +kernel
theorem dL_law_166 : decode cL_law 166 = .ok (.iload_n 3, 1) := by decide +kernel
theorem dL_law_167 : decode cL_law 167 = .ok (.iconst 4, 1) := by decide +kernel
theorem dL_law_168 : decode cL_law 168 = .ok (.iadd, 1) := by decide +kernel
theorem dL_law_169 : decode cL_law 169 = .ok (.iaload, 1) := by decide +kernel
theorem dL_law_170 : decode cL_law 170 = .ok (.aload_n 0, 1) := by decide +kernel
theorem dL_law_171 : decode cL_law 171 = .ok (.iload_n 3, 1) := by decide +kernel
theorem dL_law_172 : decode cL_law 172 = .ok (.iconst 5, 1) := by decide +kernel
theorem dL_law_173 : decode cL_law 173 = .ok (.iadd, 1) := by decide +kernel
theorem dL_law_174 : decode cL_law 174 = .ok (.iaload, 1) := by decide +kernel
theorem dL_law_175 : decode cL_law 175 = .ok (.invokevirtual 18, 3) := by decide +kernel
theorem dL_law_178 : decode cL_law 178 = .ok (.aload_n 2, 1) := by decide +kernel
theorem dL_law_179 : decode cL_law 179 = .ok (.aload_n 0, 1) := by decide +kernel
theorem dL_law_180 : decode cL_law 180 = .ok (.iload_n 3, 1) := by decide +kernel
theorem dL_law_181 : decode cL_law 181 = .ok (.iconst 1, 1) := by decide +kernel
theorem dL_law_182 : decode cL_law 182 = .ok (.iadd, 1) := by decide +kernel
theorem dL_law_183 : decode cL_law 183 = .ok (.iaload, 1) := by decide +kernel
theorem dL_law_184 : decode cL_law 184 = .ok (.aload_n 0, 1) := by decide +kernel
theorem dL_law_185 : decode cL_law 185 = .ok (.iload_n 3, 1) := by decide +kernel
theorem dL_law_186 : decode cL_law 186 = .ok (.iconst 2, 1) := by decide +kernel
theorem dL_law_187 : decode cL_law 187 = .ok (.iadd, 1) := by decide +kernel
theorem dL_law_188 : decode cL_law 188 = .ok (.iaload, 1) := by decide +kernel
theorem dL_law_189 : decode cL_law 189 = .ok (.aload_n 0, 1) := by decide +kernel
theorem dL_law_190 : decode cL_law 190 = .ok (.iload_n 3, 1) := by decide +kernel
theorem dL_law_191 : decode cL_law 191 = .ok (.iconst 3, 1) := by decide +kernel
theorem dL_law_192 : decode cL_law 192 = .ok (.iadd, 1) := by decide +kernel
theorem dL_law_193 : decode cL_law 193 = .ok (.iaload, 1) := by decide +kernel
theorem dL_law_194 : decode cL_law 194 = .ok (.aload_n 0, 1) := by decide +kernel
theorem dL_law_195 : decode cL_law 195 = .ok (.iload_n 3, 1) := by decide +kernel
theorem dL_law_196 : decode cL_law 196 = .ok (.iconst 4, 1) := by decide +kernel
theorem dL_law_197 : decode cL_law 197 = .ok (.iadd, 1) := by decide +kernel
theorem dL_law_198 : decode cL_law 198 = .ok (.iaload, 1) := by decide +kernel
theorem dL_law_199 : decode cL_law 199 = .ok (.aload_n 0, 1) := by decide +kernel
theorem dL_law_200 : decode cL_law 200 = .ok (.iload_n 3, 1) := by decide +kernel
theorem dL_law_201 : decode cL_law 201 = .ok (.iconst 5, 1) := by decide +kernel
theorem dL_law_202 : decode cL_law 202 = .ok (.iadd, 1) := by decide +kernel
theorem dL_law_203 : decode cL_law 203 = .ok (.iaload, 1) := by decide +kernel
theorem dL_law_204 : decode cL_law 204 = .ok (.invokevirtual 22, 3) := by decide +kernel
theorem dL_law_207 : decode cL_law 207 = .ok (.if_icmp .eq 590, 3) := by decide +kernel
theorem dL_law_210 : decode cL_law 210 = .ok (.iconst 0, 1) := by decide +kernel
theorem dL_law_211 : decode cL_law 211 = .ok (.ireturn, 1) := by decide +kernel
theorem dL_law_212 : decode cL_law 212 = .ok (.aload_n 1, 1) := by decide +kernel
theorem dL_law_213 : decode cL_law 213 = .ok (.aload_n 0, 1) := by decide +kernel
theorem dL_law_214 : decode cL_law 214 = .ok (.iload_n 3, 1) := by decide +kernel
theorem dL_law_215 : decode cL_law 215 = .ok (.iconst 1, 1) := by decide +kernel
theorem dL_law_216 : decode cL_law 216 = .ok (.iadd, 1) := by decide +kernel
theorem dL_law_217 : decode cL_law 217 = .ok (.iaload, 1) := by decide +kernel
theorem dL_law_218 : decode cL_law 218 = .ok (.aload_n 0, 1) := by decide +kernel
theorem dL_law_219 : decode cL_law 219 = .ok (.iload_n 3, 1) := by decide +kernel
theorem dL_law_220 : decode cL_law 220 = .ok (.iconst 2, 1) := by decide +kernel
theorem dL_law_221 : decode cL_law 221 = .ok (.iadd, 1) := by decide +kernel
theorem dL_law_222 : decode cL_law 222 = .ok (.iaload, 1) := by decide +kernel
theorem dL_law_223 : decode cL_law 223 = .ok (.aload_n 0, 1) := by decide +kernel
theorem dL_law_224 : decode cL_law 224 = .ok (.iload_n 3, 1) := by decide +kernel
theorem dL_law_225 : decode cL_law 225 = .ok (.iconst 3, 1) := by decide +kernel
theorem dL_law_226 : decode cL_law 226 = .ok (.iadd, 1) := by decide +kernel
theorem dL_law_227 : decode cL_law 227 = .ok (.iaload, 1) := by decide +kernel
theorem dL_law_228 : decode cL_law 228 = .ok (.invokevirtual 23, 3) := by decide +kernel
theorem dL_law_231 : decode cL_law 231 = .ok (.aload_n 2, 1) := by decide +kernel
theorem dL_law_232 : decode cL_law 232 = .ok (.aload_n 0, 1) := by decide +kernel
theorem dL_law_233 : decode cL_law 233 = .ok (.iload_n 3, 1) := by decide +kernel
theorem dL_law_234 : decode cL_law 234 = .ok (.iconst 1, 1) := by decide +kernel
theorem dL_law_235 : decode cL_law 235 = .ok (.iadd, 1) := by decide +kernel
theorem dL_law_236 : decode cL_law 236 = .ok (.iaload, 1) := by decide +kernel
theorem dL_law_237 : decode cL_law 237 = .ok (.aload_n 0, 1) := by decide +kernel
theorem dL_law_238 : decode cL_law 238 = .ok (.iload_n 3, 1) := by decide +kernel
theorem dL_law_239 : decode cL_law 239 = .ok (.iconst 2, 1) := by decide +kernel
theorem dL_law_240 : decode cL_law 240 = .ok (.iadd, 1) := by decide +kernel
theorem dL_law_241 : decode cL_law 241 = .ok (.iaload, 1) := by decide +kernel
theorem dL_law_242 : decode cL_law 242 = .ok (.aload_n 0, 1) := by decide +kernel
theorem dL_law_243 : decode cL_law 243 = .ok (.iload_n 3, 1) := by decide +kernel
theorem dL_law_244 : decode cL_law 244 = .ok (.iconst 3, 1) := by decide +kernel
theorem dL_law_245 : decode cL_law 245 = .ok (.iadd, 1) := by decide +kernel
theorem dL_law_246 : decode cL_law 246 = .ok (.iaload, 1) := by decide +kernel
theorem dL_law_247 : decode cL_law 247 = .ok (.invokevirtual 27, 3) := by decide +kernel
theorem dL_law_250 : decode cL_law 250 = .ok (.if_icmp .eq 547, 3) := by decide +kernel
theorem dL_law_253 : decode cL_law 253 = .ok (.iconst 0, 1) := by decide +kernel
theorem dL_law_254 : decode cL_law 254 = .ok (.ireturn, 1) := by decide +kernel
theorem dL_law_255 : decode cL_law 255 = .ok (.aload_n 1, 1) := by decide +kernel
theorem dL_law_256 : decode cL_law 256 = .ok (.aload_n 0, 1) := by decide +kernel
theorem dL_law_257 : decode cL_law 257 = .ok (.iload_n 3, 1) := by decide +kernel
theorem dL_law_258 : decode cL_law 258 = .ok (.iconst 1, 1) := by decide +kernel
theorem dL_law_259 : decode cL_law 259 = .ok (.iadd, 1) := by decide +kernel
theorem dL_law_260 : decode cL_law 260 = .ok (.iaload, 1) := by decide +kernel
theorem dL_law_261 : decode cL_law 261 = .ok (.aload_n 0, 1) := by decide +kernel
theorem dL_law_262 : decode cL_law 262 = .ok (.iload_n 3, 1) := by decide +kernel
theorem dL_law_263 : decode cL_law 263 = .ok (.iconst 2, 1) := by decide +kernel
theorem dL_law_264 : decode cL_law 264 = .ok (.iadd, 1) := by decide +kernel
theorem dL_law_265 : decode cL_law 265 = .ok (.iaload, 1) := by decide +kernel
theorem dL_law_266 : decode cL_law 266 = .ok (.aload_n 0, 1) := by decide +kernel
theorem dL_law_267 : decode cL_law 267 = .ok (.iload_n 3, 1) := by decide +kernel
theorem dL_law_268 : decode cL_law 268 = .ok (.iconst 3, 1) := by decide +kernel
theorem dL_law_269 : decode cL_law 269 = .ok (.iadd, 1) := by decide +kernel
theorem dL_law_270 : decode cL_law 270 = .ok (.iaload, 1) := by decide +kernel
theorem dL_law_271 : decode cL_law 271 = .ok (.invokevirtual 28, 3) := by decide +kernel
theorem dL_law_274 : decode cL_law 274 = .ok (.aload_n 2, 1) := by decide +kernel
theorem dL_law_275 : decode cL_law 275 = .ok (.aload_n 0, 1) := by decide +kernel
theorem dL_law_276 : decode cL_law 276 = .ok (.iload_n 3, 1) := by decide +kernel
theorem dL_law_277 : decode cL_law 277 = .ok (.iconst 1, 1) := by decide +kernel
theorem dL_law_278 : decode cL_law 278 = .ok (.iadd, 1) := by decide +kernel
theorem dL_law_279 : decode cL_law 279 = .ok (.iaload, 1) := by decide +kernel
theorem dL_law_280 : decode cL_law 280 = .ok (.aload_n 0, 1) := by decide +kernel
theorem dL_law_281 : decode cL_law 281 = .ok (.iload_n 3, 1) := by decide +kernel
theorem dL_law_282 : decode cL_law 282 = .ok (.iconst 2, 1) := by decide +kernel
theorem dL_law_283 : decode cL_law 283 = .ok (.iadd, 1) := by decide +kernel
theorem dL_law_284 : decode cL_law 284 = .ok (.iaload, 1) := by decide +kernel
theorem dL_law_285 : decode cL_law 285 = .ok (.aload_n 0, 1) := by decide +kernel
theorem dL_law_286 : decode cL_law 286 = .ok (.iload_n 3, 1) := by decide +kernel
theorem dL_law_287 : decode cL_law 287 = .ok (.iconst 3, 1) := by decide +kernel
theorem dL_law_288 : decode cL_law 288 = .ok (.iadd, 1) := by decide +kernel
theorem dL_law_289 : decode cL_law 289 = .ok (.iaload, 1) := by decide +kernel
theorem dL_law_290 : decode cL_law 290 = .ok (.invokevirtual 31, 3) := by decide +kernel
theorem dL_law_293 : decode cL_law 293 = .ok (.if_icmp .eq 504, 3) := by decide +kernel
theorem dL_law_296 : decode cL_law 296 = .ok (.iconst 0, 1) := by decide +kernel
theorem dL_law_297 : decode cL_law 297 = .ok (.ireturn, 1) := by decide +kernel
theorem dL_law_298 : decode cL_law 298 = .ok (.aload_n 1, 1) := by decide +kernel
theorem dL_law_299 : decode cL_law 299 = .ok (.aload_n 0, 1) := by decide +kernel
theorem dL_law_300 : decode cL_law 300 = .ok (.iload_n 3, 1) := by decide +kernel
theorem dL_law_301 : decode cL_law 301 = .ok (.iconst 1, 1) := by decide +kernel
theorem dL_law_302 : decode cL_law 302 = .ok (.iadd, 1) := by decide +kernel
theorem dL_law_303 : decode cL_law 303 = .ok (.iaload, 1) := by decide +kernel
theorem dL_law_304 : decode cL_law 304 = .ok (.aload_n 0, 1) := by decide +kernel
theorem dL_law_305 : decode cL_law 305 = .ok (.iload_n 3, 1) := by decide +kernel
theorem dL_law_306 : decode cL_law 306 = .ok (.iconst 2, 1) := by decide +kernel
theorem dL_law_307 : decode cL_law 307 = .ok (.iadd, 1) := by decide +kernel
theorem dL_law_308 : decode cL_law 308 = .ok (.iaload, 1) := by decide +kernel
theorem dL_law_309 : decode cL_law 309 = .ok (.aload_n 0, 1) := by decide +kernel
theorem dL_law_310 : decode cL_law 310 = .ok (.iload_n 3, 1) := by decide +kernel
theorem dL_law_311 : decode cL_law 311 = .ok (.iconst 3, 1) := by decide +kernel
theorem dL_law_312 : decode cL_law 312 = .ok (.iadd, 1) := by decide +kernel
theorem dL_law_313 : decode cL_law 313 = .ok (.iaload, 1) := by decide +kernel
theorem dL_law_314 : decode cL_law 314 = .ok (.invokevirtual 32, 3) := by decide +kernel
theorem dL_law_317 : decode cL_law 317 = .ok (.aload_n 2, 1) := by decide +kernel
theorem dL_law_318 : decode cL_law 318 = .ok (.aload_n 0, 1) := by decide +kernel
theorem dL_law_319 : decode cL_law 319 = .ok (.iload_n 3, 1) := by decide +kernel
theorem dL_law_320 : decode cL_law 320 = .ok (.iconst 1, 1) := by decide +kernel
theorem dL_law_321 : decode cL_law 321 = .ok (.iadd, 1) := by decide +kernel
theorem dL_law_322 : decode cL_law 322 = .ok (.iaload, 1) := by decide +kernel
theorem dL_law_323 : decode cL_law 323 = .ok (.aload_n 0, 1) := by decide +kernel
theorem dL_law_324 : decode cL_law 324 = .ok (.iload_n 3, 1) := by decide +kernel
theorem dL_law_325 : decode cL_law 325 = .ok (.iconst 2, 1) := by decide +kernel
theorem dL_law_326 : decode cL_law 326 = .ok (.iadd, 1) := by decide +kernel
theorem dL_law_327 : decode cL_law 327 = .ok (.iaload, 1) := by decide +kernel
theorem dL_law_328 : decode cL_law 328 = .ok (.aload_n 0, 1) := by decide +kernel
theorem dL_law_329 : decode cL_law 329 = .ok (.iload_n 3, 1) := by decide +kernel
theorem dL_law_330 : decode cL_law 330 = .ok (.iconst 3, 1) := by decide +kernel
theorem dL_law_331 : decode cL_law 331 = .ok (.iadd, 1) := by decide +kernel
theorem dL_law_332 : decode cL_law 332 = .ok (.iaload, 1) := by decide +kernel
theorem dL_law_333 : decode cL_law 333 = .ok (.invokevirtual 35, 3) := by decide +kernel
theorem dL_law_336 : decode cL_law 336 = .ok (.if_icmp .eq 461, 3) := by decide +kernel
theorem dL_law_339 : decode cL_law 339 = .ok (.iconst 0, 1) := by decide +kernel
theorem dL_law_340 : decode cL_law 340 = .ok (.ireturn, 1) := by decide +kernel
theorem dL_law_341 : decode cL_law 341 = .ok (.aload_n 1, 1) := by decide +kernel
theorem dL_law_342 : decode cL_law 342 = .ok (.aload_n 0, 1) := by decide +kernel
theorem dL_law_343 : decode cL_law 343 = .ok (.iload_n 3, 1) := by decide +kernel
theorem dL_law_344 : decode cL_law 344 = .ok (.iconst 1, 1) := by decide +kernel
theorem dL_law_345 : decode cL_law 345 = .ok (.iadd, 1) := by decide +kernel
theorem dL_law_346 : decode cL_law 346 = .ok (.iaload, 1) := by decide +kernel
theorem dL_law_347 : decode cL_law 347 = .ok (.aload_n 0, 1) := by decide +kernel
theorem dL_law_348 : decode cL_law 348 = .ok (.iload_n 3, 1) := by decide +kernel
theorem dL_law_349 : decode cL_law 349 = .ok (.iconst 2, 1) := by decide +kernel
theorem dL_law_350 : decode cL_law 350 = .ok (.iadd, 1) := by decide +kernel
theorem dL_law_351 : decode cL_law 351 = .ok (.iaload, 1) := by decide +kernel
theorem dL_law_352 : decode cL_law 352 = .ok (.aload_n 0, 1) := by decide +kernel
theorem dL_law_353 : decode cL_law 353 = .ok (.iload_n 3, 1) := by decide +kernel
theorem dL_law_354 : decode cL_law 354 = .ok (.iconst 3, 1) := by decide +kernel
theorem dL_law_355 : decode cL_law 355 = .ok (.iadd, 1) := by decide +kernel
theorem dL_law_356 : decode cL_law 356 = .ok (.iaload, 1) := by decide +kernel
theorem dL_law_357 : decode cL_law 357 = .ok (.aload_n 0, 1) := by decide +kernel
theorem dL_law_358 : decode cL_law 358 = .ok (.iload_n 3, 1) := by decide +kernel
theorem dL_law_359 : decode cL_law 359 = .ok (.iconst 4, 1) := by decide +kernel
theorem dL_law_360 : decode cL_law 360 = .ok (.iadd, 1) := by decide +kernel
theorem dL_law_361 : decode cL_law 361 = .ok (.iaload, 1) := by decide +kernel
theorem dL_law_362 : decode cL_law 362 = .ok (.invokevirtual 36, 3) := by decide +kernel
theorem dL_law_365 : decode cL_law 365 = .ok (.aload_n 2, 1) := by decide +kernel
theorem dL_law_366 : decode cL_law 366 = .ok (.aload_n 0, 1) := by decide +kernel
theorem dL_law_367 : decode cL_law 367 = .ok (.iload_n 3, 1) := by decide +kernel
theorem dL_law_368 : decode cL_law 368 = .ok (.iconst 1, 1) := by decide +kernel
theorem dL_law_369 : decode cL_law 369 = .ok (.iadd, 1) := by decide +kernel
theorem dL_law_370 : decode cL_law 370 = .ok (.iaload, 1) := by decide +kernel
theorem dL_law_371 : decode cL_law 371 = .ok (.aload_n 0, 1) := by decide +kernel
theorem dL_law_372 : decode cL_law 372 = .ok (.iload_n 3, 1) := by decide +kernel
theorem dL_law_373 : decode cL_law 373 = .ok (.iconst 2, 1) := by decide +kernel
theorem dL_law_374 : decode cL_law 374 = .ok (.iadd, 1) := by decide +kernel
theorem dL_law_375 : decode cL_law 375 = .ok (.iaload, 1) := by decide +kernel
theorem dL_law_376 : decode cL_law 376 = .ok (.aload_n 0, 1) := by decide +kernel
theorem dL_law_377 : decode cL_law 377 = .ok (.iload_n 3, 1) := by decide +kernel
theorem dL_law_378 : decode cL_law 378 = .ok (.iconst 3, 1) := by decide +kernel
theorem dL_law_379 : decode cL_law 379 = .ok (.iadd, 1) := by decide +kernel
theorem dL_law_380 : decode cL_law 380 = .ok (.iaload, 1) := by decide +kernel
theorem dL_law_381 : decode cL_law 381 = .ok (.aload_n 0, 1) := by decide +kernel
theorem dL_law_382 : decode cL_law 382 = .ok (.iload_n 3, 1) := by decide +kernel
theorem dL_law_383 : decode cL_law 383 = .ok (.iconst 4, 1) := by decide +kernel
theorem dL_law_384 : decode cL_law 384 = .ok (.iadd, 1) := by decide +kernel
theorem dL_law_385 : decode cL_law 385 = .ok (.iaload, 1) := by decide +kernel
theorem dL_law_386 : decode cL_law 386 = .ok (.invokevirtual 40, 3) := by decide +kernel
theorem dL_law_389 : decode cL_law 389 = .ok (.if_icmp .eq 408, 3) := by decide +kernel
theorem dL_law_392 : decode cL_law 392 = .ok (.iconst 0, 1) := by decide +kernel
theorem dL_law_393 : decode cL_law 393 = .ok (.ireturn, 1) := by decide +kernel
theorem dL_law_394 : decode cL_law 394 = .ok (.aload_n 1, 1) := by decide +kernel
theorem dL_law_395 : decode cL_law 395 = .ok (.aload_n 0, 1) := by decide +kernel
theorem dL_law_396 : decode cL_law 396 = .ok (.iload_n 3, 1) := by decide +kernel
theorem dL_law_397 : decode cL_law 397 = .ok (.iconst 1, 1) := by decide +kernel
theorem dL_law_398 : decode cL_law 398 = .ok (.iadd, 1) := by decide +kernel
theorem dL_law_399 : decode cL_law 399 = .ok (.iaload, 1) := by decide +kernel
theorem dL_law_400 : decode cL_law 400 = .ok (.aload_n 0, 1) := by decide +kernel
theorem dL_law_401 : decode cL_law 401 = .ok (.iload_n 3, 1) := by decide +kernel
theorem dL_law_402 : decode cL_law 402 = .ok (.iconst 2, 1) := by decide +kernel
theorem dL_law_403 : decode cL_law 403 = .ok (.iadd, 1) := by decide +kernel
theorem dL_law_404 : decode cL_law 404 = .ok (.iaload, 1) := by decide +kernel
theorem dL_law_405 : decode cL_law 405 = .ok (.aload_n 0, 1) := by decide +kernel
theorem dL_law_406 : decode cL_law 406 = .ok (.iload_n 3, 1) := by decide +kernel
theorem dL_law_407 : decode cL_law 407 = .ok (.iconst 3, 1) := by decide +kernel
theorem dL_law_408 : decode cL_law 408 = .ok (.iadd, 1) := by decide +kernel
theorem dL_law_409 : decode cL_law 409 = .ok (.iaload, 1) := by decide +kernel
theorem dL_law_410 : decode cL_law 410 = .ok (.aload_n 0, 1) := by decide +kernel
theorem dL_law_411 : decode cL_law 411 = .ok (.iload_n 3, 1) := by decide +kernel
theorem dL_law_412 : decode cL_law 412 = .ok (.iconst 4, 1) := by decide +kernel
theorem dL_law_413 : decode cL_law 413 = .ok (.iadd, 1) := by decide +kernel
theorem dL_law_414 : decode cL_law 414 = .ok (.iaload, 1) := by decide +kernel
theorem dL_law_415 : decode cL_law 415 = .ok (.invokevirtual 41, 3) := by decide +kernel
theorem dL_law_418 : decode cL_law 418 = .ok (.aload_n 2, 1) := by decide +kernel
theorem dL_law_419 : decode cL_law 419 = .ok (.aload_n 0, 1) := by decide +kernel
theorem dL_law_420 : decode cL_law 420 = .ok (.iload_n 3, 1) := by decide +kernel
theorem dL_law_421 : decode cL_law 421 = .ok (.iconst 1, 1) := by decide +kernel
theorem dL_law_422 : decode cL_law 422 = .ok (.iadd, 1) := by decide +kernel
theorem dL_law_423 : decode cL_law 423 = .ok (.iaload, 1) := by decide +kernel
theorem dL_law_424 : decode cL_law 424 = .ok (.aload_n 0, 1) := by decide +kernel
theorem dL_law_425 : decode cL_law 425 = .ok (.iload_n 3, 1) := by decide +kernel
theorem dL_law_426 : decode cL_law 426 = .ok (.iconst 2, 1) := by decide +kernel
theorem dL_law_427 : decode cL_law 427 = .ok (.iadd, 1) := by decide +kernel
theorem dL_law_428 : decode cL_law 428 = .ok (.iaload, 1) := by decide +kernel
theorem dL_law_429 : decode cL_law 429 = .ok (.aload_n 0, 1) := by decide +kernel
theorem dL_law_430 : decode cL_law 430 = .ok (.iload_n 3, 1) := by decide +kernel
theorem dL_law_431 : decode cL_law 431 = .ok (.iconst 3, 1) := by decide +kernel
theorem dL_law_432 : decode cL_law 432 = .ok (.iadd, 1) := by decide +kernel
theorem dL_law_433 : decode cL_law 433 = .ok (.iaload, 1) := by decide +kernel
theorem dL_law_434 : decode cL_law 434 = .ok (.aload_n 0, 1) := by decide +kernel
theorem dL_law_435 : decode cL_law 435 = .ok (.iload_n 3, 1) := by decide +kernel
theorem dL_law_436 : decode cL_law 436 = .ok (.iconst 4, 1) := by decide +kernel
theorem dL_law_437 : decode cL_law 437 = .ok (.iadd, 1) := by decide +kernel
theorem dL_law_438 : decode cL_law 438 = .ok (.iaload, 1) := by decide +kernel
theorem dL_law_439 : decode cL_law 439 = .ok (.invokevirtual 44, 3) := by decide +kernel
theorem dL_law_442 : decode cL_law 442 = .ok (.if_icmp .eq 355, 3) := by decide +kernel
theorem dL_law_445 : decode cL_law 445 = .ok (.iconst 0, 1) := by decide +kernel
theorem dL_law_446 : decode cL_law 446 = .ok (.ireturn, 1) := by decide +kernel
theorem dL_law_447 : decode cL_law 447 = .ok (.aload_n 1, 1) := by decide +kernel
theorem dL_law_448 : decode cL_law 448 = .ok (.aload_n 0, 1) := by decide +kernel
theorem dL_law_449 : decode cL_law 449 = .ok (.iload_n 3, 1) := by decide +kernel
theorem dL_law_450 : decode cL_law 450 = .ok (.iconst 1, 1) := by decide +kernel
theorem dL_law_451 : decode cL_law 451 = .ok (.iadd, 1) := by decide +kernel
theorem dL_law_452 : decode cL_law 452 = .ok (.iaload, 1) := by decide +kernel
theorem dL_law_453 : decode cL_law 453 = .ok (.aload_n 0, 1) := by decide +kernel
theorem dL_law_454 : decode cL_law 454 = .ok (.iload_n 3, 1) := by decide +kernel
theorem dL_law_455 : decode cL_law 455 = .ok (.iconst 2, 1) := by decide +kernel
theorem dL_law_456 : decode cL_law 456 = .ok (.iadd, 1) := by decide +kernel
theorem dL_law_457 : decode cL_law 457 = .ok (.iaload, 1) := by decide +kernel
theorem dL_law_458 : decode cL_law 458 = .ok (.aload_n 0, 1) := by decide +kernel
theorem dL_law_459 : decode cL_law 459 = .ok (.iload_n 3, 1) := by decide +kernel
theorem dL_law_460 : decode cL_law 460 = .ok (.iconst 3, 1) := by decide +kernel
theorem dL_law_461 : decode cL_law 461 = .ok (.iadd, 1) := by decide +kernel
theorem dL_law_462 : decode cL_law 462 = .ok (.iaload, 1) := by decide +kernel
theorem dL_law_463 : decode cL_law 463 = .ok (.invokevirtual 45, 3) := by decide +kernel
theorem dL_law_466 : decode cL_law 466 = .ok (.aload_n 2, 1) := by decide +kernel
theorem dL_law_467 : decode cL_law 467 = .ok (.aload_n 0, 1) := by decide +kernel
theorem dL_law_468 : decode cL_law 468 = .ok (.iload_n 3, 1) := by decide +kernel
theorem dL_law_469 : decode cL_law 469 = .ok (.iconst 1, 1) := by decide +kernel
theorem dL_law_470 : decode cL_law 470 = .ok (.iadd, 1) := by decide +kernel
theorem dL_law_471 : decode cL_law 471 = .ok (.iaload, 1) := by decide +kernel
theorem dL_law_472 : decode cL_law 472 = .ok (.aload_n 0, 1) := by decide +kernel
theorem dL_law_473 : decode cL_law 473 = .ok (.iload_n 3, 1) := by decide +kernel
theorem dL_law_474 : decode cL_law 474 = .ok (.iconst 2, 1) := by decide +kernel
theorem dL_law_475 : decode cL_law 475 = .ok (.iadd, 1) := by decide +kernel
theorem dL_law_476 : decode cL_law 476 = .ok (.iaload, 1) := by decide +kernel
theorem dL_law_477 : decode cL_law 477 = .ok (.aload_n 0, 1) := by decide +kernel
theorem dL_law_478 : decode cL_law 478 = .ok (.iload_n 3, 1) := by decide +kernel
theorem dL_law_479 : decode cL_law 479 = .ok (.iconst 3, 1) := by decide +kernel
theorem dL_law_480 : decode cL_law 480 = .ok (.iadd, 1) := by decide +kernel
theorem dL_law_481 : decode cL_law 481 = .ok (.iaload, 1) := by decide +kernel
theorem dL_law_482 : decode cL_law 482 = .ok (.invokevirtual 49, 3) := by decide +kernel
theorem dL_law_485 : decode cL_law 485 = .ok (.if_icmp .eq 312, 3) := by decide +kernel
theorem dL_law_488 : decode cL_law 488 = .ok (.iconst 0, 1) := by decide +kernel
theorem dL_law_489 : decode cL_law 489 = .ok (.ireturn, 1) := by decide +kernel
theorem dL_law_490 : decode cL_law 490 = .ok (.aload_n 1, 1) := by decide +kernel
theorem dL_law_491 : decode cL_law 491 = .ok (.aload_n 0, 1) := by decide +kernel
theorem dL_law_492 : decode cL_law 492 = .ok (.iload_n 3, 1) := by decide +kernel
theorem dL_law_493 : decode cL_law 493 = .ok (.iconst 1, 1) := by decide +kernel
theorem dL_law_494 : decode cL_law 494 = .ok (.iadd, 1) := by decide +kernel
theorem dL_law_495 : decode cL_law 495 = .ok (.iaload, 1) := by decide +kernel
theorem dL_law_496 : decode cL_law 496 = .ok (.aload_n 0, 1) := by decide +kernel
theorem dL_law_497 : decode cL_law 497 = .ok (.iload_n 3, 1) := by decide +kernel
theorem dL_law_498 : decode cL_law 498 = .ok (.iconst 2, 1) := by decide +kernel
theorem dL_law_499 : decode cL_law 499 = .ok (.iadd, 1) := by decide +kernel
theorem dL_law_500 : decode cL_law 500 = .ok (.iaload, 1) := by decide +kernel
theorem dL_law_501 : decode cL_law 501 = .ok (.invokevirtual 50, 3) := by decide +kernel
theorem dL_law_504 : decode cL_law 504 = .ok (.aload_n 2, 1) := by decide +kernel
theorem dL_law_505 : decode cL_law 505 = .ok (.aload_n 0, 1) := by decide +kernel
theorem dL_law_506 : decode cL_law 506 = .ok (.iload_n 3, 1) := by decide +kernel
theorem dL_law_507 : decode cL_law 507 = .ok (.iconst 1, 1) := by decide +kernel
theorem dL_law_508 : decode cL_law 508 = .ok (.iadd, 1) := by decide +kernel
theorem dL_law_509 : decode cL_law 509 = .ok (.iaload, 1) := by decide +kernel
theorem dL_law_510 : decode cL_law 510 = .ok (.aload_n 0, 1) := by decide +kernel
theorem dL_law_511 : decode cL_law 511 = .ok (.iload_n 3, 1) := by decide +kernel
theorem dL_law_512 : decode cL_law 512 = .ok (.iconst 2, 1) := by decide +kernel
theorem dL_law_513 : decode cL_law 513 = .ok (.iadd, 1) := by decide +kernel
theorem dL_law_514 : decode cL_law 514 = .ok (.iaload, 1) := by decide +kernel
theorem dL_law_515 : decode cL_law 515 = .ok (.invokevirtual 53, 3) := by decide +kernel
theorem dL_law_518 : decode cL_law 518 = .ok (.if_icmp .eq 279, 3) := by decide +kernel
theorem dL_law_521 : decode cL_law 521 = .ok (.iconst 0, 1) := by decide +kernel
theorem dL_law_522 : decode cL_law 522 = .ok (.ireturn, 1) := by decide +kernel
theorem dL_law_523 : decode cL_law 523 = .ok (.aload_n 1, 1) := by decide +kernel
theorem dL_law_524 : decode cL_law 524 = .ok (.aload_n 0, 1) := by decide +kernel
theorem dL_law_525 : decode cL_law 525 = .ok (.iload_n 3, 1) := by decide +kernel
theorem dL_law_526 : decode cL_law 526 = .ok (.iconst 1, 1) := by decide +kernel
theorem dL_law_527 : decode cL_law 527 = .ok (.iadd, 1) := by decide +kernel
theorem dL_law_528 : decode cL_law 528 = .ok (.iaload, 1) := by decide +kernel
theorem dL_law_529 : decode cL_law 529 = .ok (.aload_n 0, 1) := by decide +kernel
theorem dL_law_530 : decode cL_law 530 = .ok (.iload_n 3, 1) := by decide +kernel
theorem dL_law_531 : decode cL_law 531 = .ok (.iconst 2, 1) := by decide +kernel
theorem dL_law_532 : decode cL_law 532 = .ok (.iadd, 1) := by decide +kernel
theorem dL_law_533 : decode cL_law 533 = .ok (.iaload, 1) := by decide +kernel
theorem dL_law_534 : decode cL_law 534 = .ok (.invokevirtual 54, 3) := by decide +kernel
theorem dL_law_537 : decode cL_law 537 = .ok (.aload_n 2, 1) := by decide +kernel
theorem dL_law_538 : decode cL_law 538 = .ok (.aload_n 0, 1) := by decide +kernel
theorem dL_law_539 : decode cL_law 539 = .ok (.iload_n 3, 1) := by decide +kernel
theorem dL_law_540 : decode cL_law 540 = .ok (.iconst 1, 1) := by decide +kernel
theorem dL_law_541 : decode cL_law 541 = .ok (.iadd, 1) := by decide +kernel
theorem dL_law_542 : decode cL_law 542 = .ok (.iaload, 1) := by decide +kernel
theorem dL_law_543 : decode cL_law 543 = .ok (.aload_n 0, 1) := by decide +kernel
theorem dL_law_544 : decode cL_law 544 = .ok (.iload_n 3, 1) := by decide +kernel
theorem dL_law_545 : decode cL_law 545 = .ok (.iconst 2, 1) := by decide +kernel
theorem dL_law_546 : decode cL_law 546 = .ok (.iadd, 1) := by decide +kernel
theorem dL_law_547 : decode cL_law 547 = .ok (.iaload, 1) := by decide +kernel
theorem dL_law_548 : decode cL_law 548 = .ok (.invokevirtual 57, 3) := by decide +kernel
theorem dL_law_551 : decode cL_law 551 = .ok (.if_icmp .eq 246, 3) := by decide +kernel
theorem dL_law_554 : decode cL_law 554 = .ok (.iconst 0, 1) := by decide +kernel
theorem dL_law_555 : decode cL_law 555 = .ok (.ireturn, 1) := by decide +kernel
theorem dL_law_556 : decode cL_law 556 = .ok (.aload_n 1, 1) := by decide +kernel
theorem dL_law_557 : decode cL_law 557 = .ok (.aload_n 0, 1) := by decide +kernel
theorem dL_law_558 : decode cL_law 558 = .ok (.iload_n 3, 1) := by decide +kernel
theorem dL_law_559 : decode cL_law 559 = .ok (.iconst 1, 1) := by decide +kernel
theorem dL_law_560 : decode cL_law 560 = .ok (.iadd, 1) := by decide +kernel
theorem dL_law_561 : decode cL_law 561 = .ok (.iaload, 1) := by decide +kernel
theorem dL_law_562 : decode cL_law 562 = .ok (.aload_n 0, 1) := by decide +kernel
theorem dL_law_563 : decode cL_law 563 = .ok (.iload_n 3, 1) := by decide +kernel
theorem dL_law_564 : decode cL_law 564 = .ok (.iconst 2, 1) := by decide +kernel
theorem dL_law_565 : decode cL_law 565 = .ok (.iadd, 1) := by decide +kernel
theorem dL_law_566 : decode cL_law 566 = .ok (.iaload, 1) := by decide +kernel
theorem dL_law_567 : decode cL_law 567 = .ok (.aload_n 0, 1) := by decide +kernel
theorem dL_law_568 : decode cL_law 568 = .ok (.iload_n 3, 1) := by decide +kernel
theorem dL_law_569 : decode cL_law 569 = .ok (.iconst 3, 1) := by decide +kernel
theorem dL_law_570 : decode cL_law 570 = .ok (.iadd, 1) := by decide +kernel
theorem dL_law_571 : decode cL_law 571 = .ok (.iaload, 1) := by decide +kernel
theorem dL_law_572 : decode cL_law 572 = .ok (.invokevirtual 58, 3) := by decide +kernel
theorem dL_law_575 : decode cL_law 575 = .ok (.aload_n 2, 1) := by decide +kernel
theorem dL_law_576 : decode cL_law 576 = .ok (.aload_n 0, 1) := by decide +kernel
theorem dL_law_577 : decode cL_law 577 = .ok (.iload_n 3, 1) := by decide +kernel
theorem dL_law_578 : decode cL_law 578 = .ok (.iconst 1, 1) := by decide +kernel
theorem dL_law_579 : decode cL_law 579 = .ok (.iadd, 1) := by decide +kernel
theorem dL_law_580 : decode cL_law 580 = .ok (.iaload, 1) := by decide +kernel
theorem dL_law_581 : decode cL_law 581 = .ok (.aload_n 0, 1) := by decide +kernel
theorem dL_law_582 : decode cL_law 582 = .ok (.iload_n 3, 1) := by decide +kernel
theorem dL_law_583 : decode cL_law 583 = .ok (.iconst 2, 1) := by decide +kernel
theorem dL_law_584 : decode cL_law 584 = .ok (.iadd, 1) := by decide +kernel
theorem dL_law_585 : decode cL_law 585 = .ok (.iaload, 1) := by decide +kernel
theorem dL_law_586 : decode cL_law 586 = .ok (.aload_n 0, 1) := by decide +kernel
theorem dL_law_587 : decode cL_law 587 = .ok (.iload_n 3, 1) := by decide +kernel
theorem dL_law_588 : decode cL_law 588 = .ok (.iconst 3, 1) := by decide +kernel
theorem dL_law_589 : decode cL_law 589 = .ok (.iadd, 1) := by decide +kernel
theorem dL_law_590 : decode cL_law 590 = .ok (.iaload, 1) := by decide +kernel
theorem dL_law_591 : decode cL_law 591 = .ok (.invokevirtual 61, 3) := by decide +kernel
theorem dL_law_594 : decode cL_law 594 = .ok (.if_icmp .eq 203, 3) := by decide +kernel
theorem dL_law_597 : decode cL_law 597 = .ok (.iconst 0, 1) := by decide +kernel
theorem dL_law_598 : decode cL_law 598 = .ok (.ireturn, 1) := by decide +kernel
theorem dL_law_599 : decode cL_law 599 = .ok (.aload_n 1, 1) := by decide +kernel
theorem dL_law_600 : decode cL_law 600 = .ok (.aload_n 0, 1) := by decide +kernel
theorem dL_law_601 : decode cL_law 601 = .ok (.iload_n 3, 1) := by decide +kernel
theorem dL_law_602 : decode cL_law 602 = .ok (.iconst 1, 1) := by decide +kernel
theorem dL_law_603 : decode cL_law 603 = .ok (.iadd, 1) := by decide +kernel
theorem dL_law_604 : decode cL_law 604 = .ok (.iaload, 1) := by decide +kernel
theorem dL_law_605 : decode cL_law 605 = .ok (.aload_n 0, 1) := by decide +kernel
theorem dL_law_606 : decode cL_law 606 = .ok (.iload_n 3, 1) := by decide +kernel
theorem dL_law_607 : decode cL_law 607 = .ok (.iconst 2, 1) := by decide +kernel
theorem dL_law_608 : decode cL_law 608 = .ok (.iadd, 1) := by decide +kernel
theorem dL_law_609 : decode cL_law 609 = .ok (.iaload, 1) := by decide +kernel
theorem dL_law_610 : decode cL_law 610 = .ok (.aload_n 0, 1) := by decide +kernel
theorem dL_law_611 : decode cL_law 611 = .ok (.iload_n 3, 1) := by decide +kernel
theorem dL_law_612 : decode cL_law 612 = .ok (.iconst 3, 1) := by decide +kernel
theorem dL_law_613 : decode cL_law 613 = .ok (.iadd, 1) := by decide +kernel
theorem dL_law_614 : decode cL_law 614 = .ok (.iaload, 1) := by decide +kernel
theorem dL_law_615 : decode cL_law 615 = .ok (.invokevirtual 62, 3) := by decide +kernel
theorem dL_law_618 : decode cL_law 618 = .ok (.aload_n 2, 1) := by decide +kernel
theorem dL_law_619 : decode cL_law 619 = .ok (.aload_n 0, 1) := by decide +kernel
theorem dL_law_620 : decode cL_law 620 = .ok (.iload_n 3, 1) := by decide +kernel
theorem dL_law_621 : decode cL_law 621 = .ok (.iconst 1, 1) := by decide +kernel
theorem dL_law_622 : decode cL_law 622 = .ok (.iadd, 1) := by decide +kernel
theorem dL_law_623 : decode cL_law 623 = .ok (.iaload, 1) := by decide +kernel
theorem dL_law_624 : decode cL_law 624 = .ok (.aload_n 0, 1) := by decide +kernel
theorem dL_law_625 : decode cL_law 625 = .ok (.iload_n 3, 1) := by decide +kernel
theorem dL_law_626 : decode cL_law 626 = .ok (.iconst 2, 1) := by decide +kernel
theorem dL_law_627 : decode cL_law 627 = .ok (.iadd, 1) := by decide +kernel
theorem dL_law_628 : decode cL_law 628 = .ok (.iaload, 1) := by decide +kernel
theorem dL_law_629 : decode cL_law 629 = .ok (.aload_n 0, 1) := by decide +kernel
theorem dL_law_630 : decode cL_law 630 = .ok (.iload_n 3, 1) := by decide +kernel
theorem dL_law_631 : decode cL_law 631 = .ok (.iconst 3, 1) := by decide +kernel
theorem dL_law_632 : decode cL_law 632 = .ok (.iadd, 1) := by decide +kernel
theorem dL_law_633 : decode cL_law 633 = .ok (.iaload, 1) := by decide +kernel
theorem dL_law_634 : decode cL_law 634 = .ok (.invokevirtual 65, 3) := by decide +kernel
theorem dL_law_637 : decode cL_law 637 = .ok (.if_icmp .eq 160, 3) := by decide +kernel
theorem dL_law_640 : decode cL_law 640 = .ok (.iconst 0, 1) := by decide +kernel
theorem dL_law_641 : decode cL_law 641 = .ok (.ireturn, 1) := by decide +kernel
theorem dL_law_642 : decode cL_law 642 = .ok (.aload_n 1, 1) := by decide +kernel
theorem dL_law_643 : decode cL_law 643 = .ok (.aload_n 0, 1) := by decide +kernel
theorem dL_law_644 : decode cL_law 644 = .ok (.iload_n 3, 1) := by decide +kernel
theorem dL_law_645 : decode cL_law 645 = .ok (.iconst 1, 1) := by decide +kernel
theorem dL_law_646 : decode cL_law 646 = .ok (.iadd, 1) := by decide +kernel
theorem dL_law_647 : decode cL_law 647 = .ok (.iaload, 1) := by decide +kernel
theorem dL_law_648 : decode cL_law 648 = .ok (.aload_n 0, 1) := by decide +kernel
theorem dL_law_649 : decode cL_law 649 = .ok (.iload_n 3, 1) := by decide +kernel
theorem dL_law_650 : decode cL_law 650 = .ok (.iconst 2, 1) := by decide +kernel
theorem dL_law_651 : decode cL_law 651 = .ok (.iadd, 1) := by decide +kernel
theorem dL_law_652 : decode cL_law 652 = .ok (.iaload, 1) := by decide +kernel
theorem dL_law_653 : decode cL_law 653 = .ok (.invokevirtual 66, 3) := by decide +kernel
theorem dL_law_656 : decode cL_law 656 = .ok (.aload_n 2, 1) := by decide +kernel
theorem dL_law_657 : decode cL_law 657 = .ok (.aload_n 0, 1) := by decide +kernel
theorem dL_law_658 : decode cL_law 658 = .ok (.iload_n 3, 1) := by decide +kernel
theorem dL_law_659 : decode cL_law 659 = .ok (.iconst 1, 1) := by decide +kernel
theorem dL_law_660 : decode cL_law 660 = .ok (.iadd, 1) := by decide +kernel
theorem dL_law_661 : decode cL_law 661 = .ok (.iaload, 1) := by decide +kernel
theorem dL_law_662 : decode cL_law 662 = .ok (.aload_n 0, 1) := by decide +kernel
theorem dL_law_663 : decode cL_law 663 = .ok (.iload_n 3, 1) := by decide +kernel
theorem dL_law_664 : decode cL_law 664 = .ok (.iconst 2, 1) := by decide +kernel
theorem dL_law_665 : decode cL_law 665 = .ok (.iadd, 1) := by decide +kernel
theorem dL_law_666 : decode cL_law 666 = .ok (.iaload, 1) := by decide +kernel
theorem dL_law_667 : decode cL_law 667 = .ok (.invokevirtual 69, 3) := by decide +kernel
theorem dL_law_670 : decode cL_law 670 = .ok (.if_icmp .eq 127, 3) := by decide +kernel
theorem dL_law_673 : decode cL_law 673 = .ok (.iconst 0, 1) := by decide +kernel
theorem dL_law_674 : decode cL_law 674 = .ok (.ireturn, 1) := by decide +kernel
theorem dL_law_675 : decode cL_law 675 = .ok (.aload_n 1, 1) := by decide +kernel
theorem dL_law_676 : decode cL_law 676 = .ok (.aload_n 0, 1) := by decide +kernel
theorem dL_law_677 : decode cL_law 677 = .ok (.iload_n 3, 1) := by decide +kernel
theorem dL_law_678 : decode cL_law 678 = .ok (.iconst 1, 1) := by decide +kernel
theorem dL_law_679 : decode cL_law 679 = .ok (.iadd, 1) := by decide +kernel
theorem dL_law_680 : decode cL_law 680 = .ok (.iaload, 1) := by decide +kernel
theorem dL_law_681 : decode cL_law 681 = .ok (.aload_n 0, 1) := by decide +kernel
theorem dL_law_682 : decode cL_law 682 = .ok (.iload_n 3, 1) := by decide +kernel
theorem dL_law_683 : decode cL_law 683 = .ok (.iconst 2, 1) := by decide +kernel
theorem dL_law_684 : decode cL_law 684 = .ok (.iadd, 1) := by decide +kernel
theorem dL_law_685 : decode cL_law 685 = .ok (.iaload, 1) := by decide +kernel
theorem dL_law_686 : decode cL_law 686 = .ok (.invokevirtual 70, 3) := by decide +kernel
theorem dL_law_689 : decode cL_law 689 = .ok (.aload_n 2, 1) := by decide +kernel
theorem dL_law_690 : decode cL_law 690 = .ok (.aload_n 0, 1) := by decide +kernel
theorem dL_law_691 : decode cL_law 691 = .ok (.iload_n 3, 1) := by decide +kernel
theorem dL_law_692 : decode cL_law 692 = .ok (.iconst 1, 1) := by decide +kernel
theorem dL_law_693 : decode cL_law 693 = .ok (.iadd, 1) := by decide +kernel
theorem dL_law_694 : decode cL_law 694 = .ok (.iaload, 1) := by decide +kernel
theorem dL_law_695 : decode cL_law 695 = .ok (.aload_n 0, 1) := by decide +kernel
theorem dL_law_696 : decode cL_law 696 = .ok (.iload_n 3, 1) := by decide +kernel
theorem dL_law_697 : decode cL_law 697 = .ok (.iconst 2, 1) := by decide +kernel
theorem dL_law_698 : decode cL_law 698 = .ok (.iadd, 1) := by decide +kernel
theorem dL_law_699 : decode cL_law 699 = .ok (.iaload, 1) := by decide +kernel
theorem dL_law_700 : decode cL_law 700 = .ok (.invokevirtual 73, 3) := by decide +kernel
theorem dL_law_703 : decode cL_law 703 = .ok (.if_icmp .eq 94, 3) := by decide +kernel
theorem dL_law_706 : decode cL_law 706 = .ok (.iconst 0, 1) := by decide +kernel
theorem dL_law_707 : decode cL_law 707 = .ok (.ireturn, 1) := by decide +kernel
theorem dL_law_708 : decode cL_law 708 = .ok (.aload_n 1, 1) := by decide +kernel
theorem dL_law_709 : decode cL_law 709 = .ok (.aload_n 0, 1) := by decide +kernel
theorem dL_law_710 : decode cL_law 710 = .ok (.iload_n 3, 1) := by decide +kernel
theorem dL_law_711 : decode cL_law 711 = .ok (.iconst 1, 1) := by decide +kernel
theorem dL_law_712 : decode cL_law 712 = .ok (.iadd, 1) := by decide +kernel
theorem dL_law_713 : decode cL_law 713 = .ok (.iaload, 1) := by decide +kernel
theorem dL_law_714 : decode cL_law 714 = .ok (.aload_n 0, 1) := by decide +kernel
theorem dL_law_715 : decode cL_law 715 = .ok (.iload_n 3, 1) := by decide +kernel
theorem dL_law_716 : decode cL_law 716 = .ok (.iconst 2, 1) := by decide +kernel
theorem dL_law_717 : decode cL_law 717 = .ok (.iadd, 1) := by decide +kernel
theorem dL_law_718 : decode cL_law 718 = .ok (.iaload, 1) := by decide +kernel
theorem dL_law_719 : decode cL_law 719 = .ok (.aload_n 0, 1) := by decide +kernel
theorem dL_law_720 : decode cL_law 720 = .ok (.iload_n 3, 1) := by decide +kernel
theorem dL_law_721 : decode cL_law 721 = .ok (.iconst 3, 1) := by decide +kernel
theorem dL_law_722 : decode cL_law 722 = .ok (.iadd, 1) := by decide +kernel
theorem dL_law_723 : decode cL_law 723 = .ok (.iaload, 1) := by decide +kernel
theorem dL_law_724 : decode cL_law 724 = .ok (.aload_n 0, 1) := by decide +kernel
theorem dL_law_725 : decode cL_law 725 = .ok (.iload_n 3, 1) := by decide +kernel
theorem dL_law_726 : decode cL_law 726 = .ok (.iconst 4, 1) := by decide +kernel
theorem dL_law_727 : decode cL_law 727 = .ok (.iadd, 1) := by decide +kernel
theorem dL_law_728 : decode cL_law 728 = .ok (.iaload, 1) := by decide +kernel
theorem dL_law_729 : decode cL_law 729 = .ok (.invokevirtual 74, 3) := by decide +kernel
theorem dL_law_732 : decode cL_law 732 = .ok (.aload_n 2, 1) := by decide +kernel
theorem dL_law_733 : decode cL_law 733 = .ok (.aload_n 0, 1) := by decide +kernel
theorem dL_law_734 : decode cL_law 734 = .ok (.iload_n 3, 1) := by decide +kernel
theorem dL_law_735 : decode cL_law 735 = .ok (.iconst 1, 1) := by decide +kernel
theorem dL_law_736 : decode cL_law 736 = .ok (.iadd, 1) := by decide +kernel
theorem dL_law_737 : decode cL_law 737 = .ok (.iaload, 1) := by decide +kernel
theorem dL_law_738 : decode cL_law 738 = .ok (.aload_n 0, 1) := by decide +kernel
theorem dL_law_739 : decode cL_law 739 = .ok (.iload_n 3, 1) := by decide +kernel
theorem dL_law_740 : decode cL_law 740 = .ok (.iconst 2, 1) := by decide +kernel
theorem dL_law_741 : decode cL_law 741 = .ok (.iadd, 1) := by decide +kernel
theorem dL_law_742 : decode cL_law 742 = .ok (.iaload, 1) := by decide +kernel
theorem dL_law_743 : decode cL_law 743 = .ok (.aload_n 0, 1) := by decide +kernel
theorem dL_law_744 : decode cL_law 744 = .ok (.iload_n 3, 1) := by decide +kernel
theorem dL_law_745 : decode cL_law 745 = .ok (.iconst 3, 1) := by decide +kernel
theorem dL_law_746 : decode cL_law 746 = .ok (.iadd, 1) := by decide +kernel
theorem dL_law_747 : decode cL_law 747 = .ok (.iaload, 1) := by decide +kernel
theorem dL_law_748 : decode cL_law 748 = .ok (.aload_n 0, 1) := by decide +kernel
theorem dL_law_749 : decode cL_law 749 = .ok (.iload_n 3, 1) := by decide +kernel
theorem dL_law_750 : decode cL_law 750 = .ok (.iconst 4, 1) := by decide +kernel
theorem dL_law_751 : decode cL_law 751 = .ok (.iadd, 1) := by decide +kernel
theorem dL_law_752 : decode cL_law 752 = .ok (.iaload, 1) := by decide +kernel
theorem dL_law_753 : decode cL_law 753 = .ok (.invokevirtual 78, 3) := by decide +kernel
theorem dL_law_756 : decode cL_law 756 = .ok (.if_icmp .eq 41, 3) := by decide +kernel
theorem dL_law_759 : decode cL_law 759 = .ok (.iconst 0, 1) := by decide +kernel
theorem dL_law_760 : decode cL_law 760 = .ok (.ireturn, 1) := by decide +kernel
theorem dL_law_761 : decode cL_law 761 = .ok (.aload_n 1, 1) := by decide +kernel
theorem dL_law_762 : decode cL_law 762 = .ok (.aload_n 0, 1) := by decide +kernel
theorem dL_law_763 : decode cL_law 763 = .ok (.iload_n 3, 1) := by decide +kernel
theorem dL_law_764 : decode cL_law 764 = .ok (.iconst 1, 1) := by decide +kernel
theorem dL_law_765 : decode cL_law 765 = .ok (.iadd, 1) := by decide +kernel
theorem dL_law_766 : decode cL_law 766 = .ok (.iaload, 1) := by decide +kernel
theorem dL_law_767 : decode cL_law 767 = .ok (.invokevirtual 79, 3) := by decide +kernel
theorem dL_law_770 : decode cL_law 770 = .ok (.aload_n 2, 1) := by decide +kernel
theorem dL_law_771 : decode cL_law 771 = .ok (.aload_n 0, 1) := by decide +kernel
theorem dL_law_772 : decode cL_law 772 = .ok (.iload_n 3, 1) := by decide +kernel
theorem dL_law_773 : decode cL_law 773 = .ok (.iconst 1, 1) := by decide +kernel
theorem dL_law_774 : decode cL_law 774 = .ok (.iadd, 1) := by decide +kernel
theorem dL_law_775 : decode cL_law 775 = .ok (.iaload, 1) := by decide +kernel
theorem dL_law_776 : decode cL_law 776 = .ok (.invokevirtual 83, 3) := by decide +kernel
theorem dL_law_779 : decode cL_law 779 = .ok (.if_icmp .eq 18, 3) := by decide +kernel
theorem dL_law_782 : decode cL_law 782 = .ok (.iconst 0, 1) := by decide +kernel
theorem dL_law_783 : decode cL_law 783 = .ok (.ireturn, 1) := by decide +kernel
theorem dL_law_784 : decode cL_law 784 = .ok (.aload_n 1, 1) := by decide +kernel
theorem dL_law_785 : decode cL_law 785 = .ok (.invokevirtual 84, 3) := by decide +kernel
theorem dL_law_788 : decode cL_law 788 = .ok (.aload_n 2, 1) := by decide +kernel
theorem dL_law_789 : decode cL_law 789 = .ok (.invokevirtual 88, 3) := by decide +kernel
theorem dL_law_792 : decode cL_law 792 = .ok (.if_icmp .eq 5, 3) := by decide +kernel
theorem dL_law_795 : decode cL_law 795 = .ok (.iconst 0, 1) := by decide +kernel
theorem dL_law_796 : decode cL_law 796 = .ok (.ireturn, 1) := by decide +kernel
theorem dL_law_797 : decode cL_law 797 = .ok (.iinc 3 6, 3) := by decide +kernel
theorem dL_law_800 : decode cL_law 800 = .ok (.goto (-782), 3) := by decide +kernel
theorem dL_law_803 : decode cL_law 803 = .ok (.iconst 1, 1) := by decide +kernel
theorem dL_law_804 : decode cL_law 804 = .ok (.ireturn, 1) := by decide +kernel
