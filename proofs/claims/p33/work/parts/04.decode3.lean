theorem dL_grant_0 : decode cL_grant 0 = .ok (.aload 6, 2) := by decide +kernel
theorem dL_grant_2 : decode cL_grant 2 = .ok (.iconst 0, 1) := by decide +kernel
theorem dL_grant_3 : decode cL_grant 3 = .ok (.iload 7, 2) := by decide +kernel
theorem dL_grant_5 : decode cL_grant 5 = .ok (.iastore, 1) := by decide +kernel
theorem dL_grant_6 : decode cL_grant 6 = .ok (.aload 6, 2) := by decide +kernel
theorem dL_grant_8 : decode cL_grant 8 = .ok (.iconst 2, 1) := by decide +kernel
theorem dL_grant_9 : decode cL_grant 9 = .ok (.iaload, 1) := by decide +kernel
theorem dL_grant_10 : decode cL_grant 10 = .ok (.iconst 1, 1) := by decide +kernel
theorem dL_grant_11 : decode cL_grant 11 = .ok (.if_icmp .ne 35, 3) := by decide +kernel
theorem dL_grant_14 : decode cL_grant 14 = .ok (.aload 6, 2) := by decide +kernel
theorem dL_grant_16 : decode cL_grant 16 = .ok (.bipush 11, 2) := by decide +kernel
theorem dL_grant_18 : decode cL_grant 18 = .ok (.iaload, 1) := by decide +kernel
theorem dL_grant_19 : decode cL_grant 19 = .ok (.iload 7, 2) := by decide +kernel
theorem dL_grant_21 : decode cL_grant 21 = .ok (.if_icmp .le 23, 3) := by decide +kernel
theorem dL_grant_24 : decode cL_grant 24 = .ok (.aload_n 0, 1) := by decide +kernel
theorem dL_grant_25 : decode cL_grant 25 = .ok (.aload_n 1, 1) := by decide +kernel
theorem dL_grant_26 : decode cL_grant 26 = .ok (.aload_n 2, 1) := by decide +kernel
theorem dL_grant_27 : decode cL_grant 27 = .ok (.aload_n 3, 1) := by decide +kernel
theorem dL_grant_28 : decode cL_grant 28 = .ok (.aload 4, 2) := by decide +kernel
theorem dL_grant_30 : decode cL_grant 30 = .ok (.aload 5, 2) := by decide +kernel
theorem dL_grant_32 : decode cL_grant 32 = .ok (.aload 6, 2) := by decide +kernel
theorem dL_grant_34 : decode cL_grant 34 = .ok (.invokestatic 22, 3) := by decide +kernel
theorem dL_grant_37 : decode cL_grant 37 = .ok (.ifCond .lt 7, 3) := by decide +kernel
theorem dL_grant_40 : decode cL_grant 40 = .ok (.iconst 1, 1) := by decide +kernel
theorem dL_grant_41 : decode cL_grant 41 = .ok (.goto 4, 3) := by decide +kernel
theorem dL_grant_44 : decode cL_grant 44 = .ok (.iconst 0, 1) := by decide +kernel
theorem dL_grant_45 : decode cL_grant 45 = .ok (.ireturn, 1) := by decide +kernel
theorem dL_grant_46 : decode cL_grant 46 = .ok (.aload 6, 2) := by decide +kernel
theorem dL_grant_48 : decode cL_grant 48 = .ok (.iconst 5, 1) := by decide +kernel
theorem dL_grant_49 : decode cL_grant 49 = .ok (.iaload, 1) := by decide +kernel
theorem dL_grant_50 : decode cL_grant 50 = .ok (.ifCond .eq 20, 3) := by decide +kernel
theorem dL_grant_53 : decode cL_grant 53 = .ok (.aload_n 2, 1) := by decide +kernel
theorem dL_grant_54 : decode cL_grant 54 = .ok (.aload_n 3, 1) := by decide +kernel
theorem dL_grant_55 : decode cL_grant 55 = .ok (.aload 6, 2) := by decide +kernel
theorem dL_grant_57 : decode cL_grant 57 = .ok (.iconst 1, 1) := by decide +kernel
theorem dL_grant_58 : decode cL_grant 58 = .ok (.iconst 1, 1) := by decide +kernel
theorem dL_grant_59 : decode cL_grant 59 = .ok (.invokestatic 26, 3) := by decide +kernel
theorem dL_grant_62 : decode cL_grant 62 = .ok (.iload 7, 2) := by decide +kernel
theorem dL_grant_64 : decode cL_grant 64 = .ok (.invokestatic 30, 3) := by decide +kernel
theorem dL_grant_67 : decode cL_grant 67 = .ok (.if_icmp .gt 5, 3) := by decide +kernel
theorem dL_grant_70 : decode cL_grant 70 = .ok (.iconst 0, 1) := by decide +kernel
theorem dL_grant_71 : decode cL_grant 71 = .ok (.ireturn, 1) := by decide +kernel
theorem dL_grant_72 : decode cL_grant 72 = .ok (.aload 6, 2) := by decide +kernel
theorem dL_grant_74 : decode cL_grant 74 = .ok (.iconst 4, 1) := by decide +kernel
theorem dL_grant_75 : decode cL_grant 75 = .ok (.iaload, 1) := by decide +kernel
theorem dL_grant_76 : decode cL_grant 76 = .ok (.istore 8, 2) := by decide +kernel
theorem dL_grant_78 : decode cL_grant 78 = .ok (.aload 6, 2) := by decide +kernel
theorem dL_grant_80 : decode cL_grant 80 = .ok (.bipush 10, 2) := by decide +kernel
theorem dL_grant_82 : decode cL_grant 82 = .ok (.iaload, 1) := by decide +kernel
theorem dL_grant_83 : decode cL_grant 83 = .ok (.iconst 1, 1) := by decide +kernel
theorem dL_grant_84 : decode cL_grant 84 = .ok (.isub, 1) := by decide +kernel
theorem dL_grant_85 : decode cL_grant 85 = .ok (.istore 9, 2) := by decide +kernel
theorem dL_grant_87 : decode cL_grant 87 = .ok (.aload_n 2, 1) := by decide +kernel
theorem dL_grant_88 : decode cL_grant 88 = .ok (.iload 9, 2) := by decide +kernel
theorem dL_grant_90 : decode cL_grant 90 = .ok (.iaload, 1) := by decide +kernel
theorem dL_grant_91 : decode cL_grant 91 = .ok (.ifCond .le 19, 3) := by decide +kernel
theorem dL_grant_94 : decode cL_grant 94 = .ok (.aload_n 1, 1) := by decide +kernel
theorem dL_grant_95 : decode cL_grant 95 = .ok (.iload 9, 2) := by decide +kernel
theorem dL_grant_97 : decode cL_grant 97 = .ok (.aload 6, 2) := by decide +kernel
theorem dL_grant_99 : decode cL_grant 99 = .ok (.iconst 4, 1) := by decide +kernel
theorem dL_grant_100 : decode cL_grant 100 = .ok (.iaload, 1) := by decide +kernel
theorem dL_grant_101 : decode cL_grant 101 = .ok (.iastore, 1) := by decide +kernel
theorem dL_grant_102 : decode cL_grant 102 = .ok (.aload 6, 2) := by decide +kernel
theorem dL_grant_104 : decode cL_grant 104 = .ok (.iconst 4, 1) := by decide +kernel
theorem dL_grant_105 : decode cL_grant 105 = .ok (.dup2, 1) := by decide +kernel
theorem dL_grant_106 : decode cL_grant 106 = .ok (.iaload, 1) := by decide +kernel
theorem dL_grant_107 : decode cL_grant 107 = .ok (.iconst 1, 1) := by decide +kernel
theorem dL_grant_108 : decode cL_grant 108 = .ok (.iadd, 1) := by decide +kernel
theorem dL_grant_109 : decode cL_grant 109 = .ok (.iastore, 1) := by decide +kernel
theorem dL_grant_110 : decode cL_grant 110 = .ok (.aload_n 3, 1) := by decide +kernel
theorem dL_grant_111 : decode cL_grant 111 = .ok (.iload 9, 2) := by decide +kernel
theorem dL_grant_113 : decode cL_grant 113 = .ok (.iconst 0, 1) := by decide +kernel
theorem dL_grant_114 : decode cL_grant 114 = .ok (.iastore, 1) := by decide +kernel
theorem dL_grant_115 : decode cL_grant 115 = .ok (.aload_n 2, 1) := by decide +kernel
theorem dL_grant_116 : decode cL_grant 116 = .ok (.aload_n 3, 1) := by decide +kernel
theorem dL_grant_117 : decode cL_grant 117 = .ok (.aload 6, 2) := by decide +kernel
theorem dL_grant_119 : decode cL_grant 119 = .ok (.iconst 1, 1) := by decide +kernel
theorem dL_grant_120 : decode cL_grant 120 = .ok (.iconst 1, 1) := by decide +kernel
theorem dL_grant_121 : decode cL_grant 121 = .ok (.invokestatic 26, 3) := by decide +kernel
theorem dL_grant_124 : decode cL_grant 124 = .ok (.ifCond .le 89, 3) := by decide +kernel
theorem dL_grant_127 : decode cL_grant 127 = .ok (.iconst (-1), 1) := by decide +kernel
theorem dL_grant_128 : decode cL_grant 128 = .ok (.istore 10, 2) := by decide +kernel
theorem dL_grant_130 : decode cL_grant 130 = .ok (.iconst 0, 1) := by decide +kernel
theorem dL_grant_131 : decode cL_grant 131 = .ok (.istore 11, 2) := by decide +kernel
theorem dL_grant_133 : decode cL_grant 133 = .ok (.iload 11, 2) := by decide +kernel
theorem dL_grant_135 : decode cL_grant 135 = .ok (.aload 6, 2) := by decide +kernel
theorem dL_grant_137 : decode cL_grant 137 = .ok (.bipush 10, 2) := by decide +kernel
theorem dL_grant_139 : decode cL_grant 139 = .ok (.iaload, 1) := by decide +kernel
theorem dL_grant_140 : decode cL_grant 140 = .ok (.if_icmp .ge 49, 3) := by decide +kernel
theorem dL_grant_143 : decode cL_grant 143 = .ok (.aload_n 3, 1) := by decide +kernel
theorem dL_grant_144 : decode cL_grant 144 = .ok (.iload 11, 2) := by decide +kernel
theorem dL_grant_146 : decode cL_grant 146 = .ok (.iaload, 1) := by decide +kernel
theorem dL_grant_147 : decode cL_grant 147 = .ok (.iconst 1, 1) := by decide +kernel
theorem dL_grant_148 : decode cL_grant 148 = .ok (.if_icmp .ne 31, 3) := by decide +kernel
theorem dL_grant_151 : decode cL_grant 151 = .ok (.aload_n 2, 1) := by decide +kernel
theorem dL_grant_152 : decode cL_grant 152 = .ok (.iload 11, 2) := by decide +kernel
theorem dL_grant_154 : decode cL_grant 154 = .ok (.iaload, 1) := by decide +kernel
theorem dL_grant_155 : decode cL_grant 155 = .ok (.ifCond .le 24, 3) := by decide +kernel
theorem dL_grant_158 : decode cL_grant 158 = .ok (.iload 10, 2) := by decide +kernel
theorem dL_grant_160 : decode cL_grant 160 = .ok (.ifCond .lt 14, 3) := by decide +kernel
theorem dL_grant_163 : decode cL_grant 163 = .ok (.aload_n 1, 1) := by decide +kernel
theorem dL_grant_164 : decode cL_grant 164 = .ok (.iload 11, 2) := by decide +kernel
theorem dL_grant_166 : decode cL_grant 166 = .ok (.iaload, 1) := by decide +kernel
theorem dL_grant_167 : decode cL_grant 167 = .ok (.aload_n 1, 1) := by decide +kernel
theorem dL_grant_168 : decode cL_grant 168 = .ok (.iload 10, 2) := by decide +kernel
theorem dL_grant_170 : decode cL_grant 170 = .ok (.iaload, 1) := by decide +kernel
theorem dL_grant_171 : decode cL_grant 171 = .ok (.if_icmp .ge 8, 3) := by decide +kernel
theorem dL_grant_174 : decode cL_grant 174 = .ok (.iload 11, 2) := by decide +kernel
theorem dL_grant_176 : decode cL_grant 176 = .ok (.goto 5, 3) := by decide +kernel
theorem dL_grant_179 : decode cL_grant 179 = .ok (.iload 10, 2) := by decide +kernel
theorem dL_grant_181 : decode cL_grant 181 = .ok (.istore 10, 2) := by decide +kernel
theorem dL_grant_183 : decode cL_grant 183 = .ok (.iinc 11 1, 3) := by decide +kernel
theorem dL_grant_186 : decode cL_grant 186 = .ok (.goto (-53), 3) := by decide +kernel
theorem dL_grant_189 : decode cL_grant 189 = .ok (.aload_n 1, 1) := by decide +kernel
theorem dL_grant_190 : decode cL_grant 190 = .ok (.iload 10, 2) := by decide +kernel
theorem dL_grant_192 : decode cL_grant 192 = .ok (.aload 6, 2) := by decide +kernel
theorem dL_grant_194 : decode cL_grant 194 = .ok (.iconst 4, 1) := by decide +kernel
theorem dL_grant_195 : decode cL_grant 195 = .ok (.iaload, 1) := by decide +kernel
theorem dL_grant_196 : decode cL_grant 196 = .ok (.iastore, 1) := by decide +kernel
theorem dL_grant_197 : decode cL_grant 197 = .ok (.aload_n 3, 1) := by decide +kernel
theorem dL_grant_198 : decode cL_grant 198 = .ok (.iload 10, 2) := by decide +kernel
theorem dL_grant_200 : decode cL_grant 200 = .ok (.iconst 0, 1) := by decide +kernel
theorem dL_grant_201 : decode cL_grant 201 = .ok (.iastore, 1) := by decide +kernel
theorem dL_grant_202 : decode cL_grant 202 = .ok (.aload 6, 2) := by decide +kernel
theorem dL_grant_204 : decode cL_grant 204 = .ok (.iconst 4, 1) := by decide +kernel
theorem dL_grant_205 : decode cL_grant 205 = .ok (.dup2, 1) := by decide +kernel
theorem dL_grant_206 : decode cL_grant 206 = .ok (.iaload, 1) := by decide +kernel
theorem dL_grant_207 : decode cL_grant 207 = .ok (.iconst 1, 1) := by decide +kernel
theorem dL_grant_208 : decode cL_grant 208 = .ok (.iadd, 1) := by decide +kernel
theorem dL_grant_209 : decode cL_grant 209 = .ok (.iastore, 1) := by decide +kernel
theorem dL_grant_210 : decode cL_grant 210 = .ok (.goto (-95), 3) := by decide +kernel
theorem dL_grant_213 : decode cL_grant 213 = .ok (.aload_n 1, 1) := by decide +kernel
theorem dL_grant_214 : decode cL_grant 214 = .ok (.aload_n 2, 1) := by decide +kernel
theorem dL_grant_215 : decode cL_grant 215 = .ok (.aload_n 3, 1) := by decide +kernel
theorem dL_grant_216 : decode cL_grant 216 = .ok (.aload 6, 2) := by decide +kernel
theorem dL_grant_218 : decode cL_grant 218 = .ok (.invokestatic 34, 3) := by decide +kernel
theorem dL_grant_221 : decode cL_grant 221 = .ok (.aload 6, 2) := by decide +kernel
theorem dL_grant_223 : decode cL_grant 223 = .ok (.iconst 5, 1) := by decide +kernel
theorem dL_grant_224 : decode cL_grant 224 = .ok (.iconst 0, 1) := by decide +kernel
theorem dL_grant_225 : decode cL_grant 225 = .ok (.iastore, 1) := by decide +kernel
theorem dL_grant_226 : decode cL_grant 226 = .ok (.aload 6, 2) := by decide +kernel
theorem dL_grant_228 : decode cL_grant 228 = .ok (.bipush 9, 2) := by decide +kernel
theorem dL_grant_230 : decode cL_grant 230 = .ok (.dup2, 1) := by decide +kernel
theorem dL_grant_231 : decode cL_grant 231 = .ok (.iaload, 1) := by decide +kernel
theorem dL_grant_232 : decode cL_grant 232 = .ok (.iconst 1, 1) := by decide +kernel
theorem dL_grant_233 : decode cL_grant 233 = .ok (.iadd, 1) := by decide +kernel
theorem dL_grant_234 : decode cL_grant 234 = .ok (.iastore, 1) := by decide +kernel
theorem dL_grant_235 : decode cL_grant 235 = .ok (.aload 6, 2) := by decide +kernel
theorem dL_grant_237 : decode cL_grant 237 = .ok (.iconst 4, 1) := by decide +kernel
theorem dL_grant_238 : decode cL_grant 238 = .ok (.iaload, 1) := by decide +kernel
theorem dL_grant_239 : decode cL_grant 239 = .ok (.iload 8, 2) := by decide +kernel
theorem dL_grant_241 : decode cL_grant 241 = .ok (.isub, 1) := by decide +kernel
theorem dL_grant_242 : decode cL_grant 242 = .ok (.ireturn, 1) := by decide +kernel
def ck_wsL_run : List (List Cond) := [[.code yL_run cL_run 9 (some .int)], wsL_run_r1, wsL_run_r2]
theorem ck_wsL_run_m : ∀ c ∈ ck_wsL_run, ∀ w ∈ c, w ∈ wsL_run := List.forall_mem_cons.mpr ⟨fun w h => List.mem_cons.mpr (Or.inl (List.mem_singleton.mp h)), List.forall_mem_cons.mpr ⟨fun _ h => (List.mem_cons_of_mem _ (List.mem_append_left _ h)), List.forall_mem_cons.mpr ⟨fun _ h => (List.mem_cons_of_mem _ (List.mem_append_right _ h)), fun _ h => absurd h List.not_mem_nil⟩⟩⟩
set_option maxRecDepth 100000 in
theorem ck_wsL_run_g : ∀ w ∈ wsL_run, goodWord w = true := List.all_eq_true.mp (by decide +kernel)
set_option maxRecDepth 100000 in
theorem ggL_run_L_write : GoodIn wsL_run wsL_write := goodIn_2 ck_wsL_run [(1, 3), (1, 4), (1, 5), (1, 2), (1, 6), (1, 7), (1, 8), (1, 9)] ck_wsL_run_m ck_wsL_run_g rfl
set_option maxRecDepth 20000 in
theorem gL_run_L_write : GoodIn wsL_run (va_wsS RL 22 yL_write wsL_write) := goodIn_app (goodIn_of _ (by decide +kernel)) ggL_run_L_write
set_option maxRecDepth 100000 in
theorem ggL_run_L_ways : GoodIn wsL_run wsL_ways := goodIn_2 ck_wsL_run [(1, 12)] ck_wsL_run_m ck_wsL_run_g rfl
set_option maxRecDepth 20000 in
theorem gL_run_L_ways : GoodIn wsL_run (va_wsS RL 30 yL_ways wsL_ways) := goodIn_app (goodIn_of _ (by decide +kernel)) ggL_run_L_ways
set_option maxRecDepth 100000 in
theorem ggL_run_L_begin : GoodIn wsL_run wsL_begin := goodIn_2 ck_wsL_run [(1, 15), (1, 16), (1, 17), (1, 2), (1, 18), (1, 10), (1, 11), (1, 12)] ck_wsL_run_m ck_wsL_run_g rfl
set_option maxRecDepth 20000 in
theorem gL_run_L_begin : GoodIn wsL_run (va_wsS RL 38 yL_begin wsL_begin) := goodIn_app (goodIn_of _ (by decide +kernel)) ggL_run_L_begin
set_option maxRecDepth 100000 in
theorem ggL_run_L_step : GoodIn wsL_run wsL_step := goodIn_2 ck_wsL_run [(1, 21), (1, 4), (1, 5), (1, 2), (1, 6), (1, 7), (1, 8), (1, 9), (1, 16), (1, 17), (1, 18), (1, 22), (1, 23), (2, 0)] ck_wsL_run_m ck_wsL_run_g rfl
set_option maxRecDepth 20000 in
theorem gL_run_L_step : GoodIn wsL_run (va_wsS RL 41 yL_step wsL_step) := goodIn_app (goodIn_of _ (by decide +kernel)) ggL_run_L_step
theorem dL_run_0 : decode cL_run 0 = .ok (.aload 7, 2) := by decide +kernel
theorem dL_run_2 : decode cL_run 2 = .ok (.iconst 2, 1) := by decide +kernel
theorem dL_run_3 : decode cL_run 3 = .ok (.iaload, 1) := by decide +kernel
theorem dL_run_4 : decode cL_run 4 = .ok (.iconst 1, 1) := by decide +kernel
theorem dL_run_5 : decode cL_run 5 = .ok (.if_icmp .ne 22, 3) := by decide +kernel
theorem dL_run_8 : decode cL_run 8 = .ok (.aload_n 0, 1) := by decide +kernel
theorem dL_run_9 : decode cL_run 9 = .ok (.aload_n 1, 1) := by decide +kernel
theorem dL_run_10 : decode cL_run 10 = .ok (.aload_n 2, 1) := by decide +kernel
theorem dL_run_11 : decode cL_run 11 = .ok (.aload_n 3, 1) := by decide +kernel
theorem dL_run_12 : decode cL_run 12 = .ok (.aload 4, 2) := by decide +kernel
theorem dL_run_14 : decode cL_run 14 = .ok (.aload 5, 2) := by decide +kernel
theorem dL_run_16 : decode cL_run 16 = .ok (.aload 7, 2) := by decide +kernel
theorem dL_run_18 : decode cL_run 18 = .ok (.invokestatic 22, 3) := by decide +kernel
theorem dL_run_21 : decode cL_run 21 = .ok (.pop, 1) := by decide +kernel
theorem dL_run_22 : decode cL_run 22 = .ok (.aload 7, 2) := by decide +kernel
theorem dL_run_24 : decode cL_run 24 = .ok (.iconst 2, 1) := by decide +kernel
theorem dL_run_25 : decode cL_run 25 = .ok (.iconst 0, 1) := by decide +kernel
theorem dL_run_26 : decode cL_run 26 = .ok (.iastore, 1) := by decide +kernel
theorem dL_run_27 : decode cL_run 27 = .ok (.aload 7, 2) := by decide +kernel
theorem dL_run_29 : decode cL_run 29 = .ok (.bipush 8, 2) := by decide +kernel
theorem dL_run_31 : decode cL_run 31 = .ok (.iaload, 1) := by decide +kernel
theorem dL_run_32 : decode cL_run 32 = .ok (.istore 8, 2) := by decide +kernel
theorem dL_run_34 : decode cL_run 34 = .ok (.aload 7, 2) := by decide +kernel
theorem dL_run_36 : decode cL_run 36 = .ok (.iconst 5, 1) := by decide +kernel
theorem dL_run_37 : decode cL_run 37 = .ok (.iaload, 1) := by decide +kernel
theorem dL_run_38 : decode cL_run 38 = .ok (.iconst 1, 1) := by decide +kernel
theorem dL_run_39 : decode cL_run 39 = .ok (.if_icmp .eq 12, 3) := by decide +kernel
theorem dL_run_42 : decode cL_run 42 = .ok (.aload 7, 2) := by decide +kernel
theorem dL_run_44 : decode cL_run 44 = .ok (.bipush 10, 2) := by decide +kernel
theorem dL_run_46 : decode cL_run 46 = .ok (.iaload, 1) := by decide +kernel
theorem dL_run_47 : decode cL_run 47 = .ok (.iconst 1, 1) := by decide +kernel
theorem dL_run_48 : decode cL_run 48 = .ok (.if_icmp .le 55, 3) := by decide +kernel
theorem dL_run_51 : decode cL_run 51 = .ok (.aload 7, 2) := by decide +kernel
theorem dL_run_53 : decode cL_run 53 = .ok (.iconst 5, 1) := by decide +kernel
theorem dL_run_54 : decode cL_run 54 = .ok (.iaload, 1) := by decide +kernel
theorem dL_run_55 : decode cL_run 55 = .ok (.ifCond .ne 17, 3) := by decide +kernel
theorem dL_run_58 : decode cL_run 58 = .ok (.aload 7, 2) := by decide +kernel
theorem dL_run_60 : decode cL_run 60 = .ok (.iconst 0, 1) := by decide +kernel
theorem dL_run_61 : decode cL_run 61 = .ok (.iaload, 1) := by decide +kernel
theorem dL_run_62 : decode cL_run 62 = .ok (.invokestatic 30, 3) := by decide +kernel
theorem dL_run_65 : decode cL_run 65 = .ok (.iconst 2, 1) := by decide +kernel
theorem dL_run_66 : decode cL_run 66 = .ok (.if_icmp .ge 6, 3) := by decide +kernel
theorem dL_run_69 : decode cL_run 69 = .ok (.bipush (-3), 2) := by decide +kernel
theorem dL_run_71 : decode cL_run 71 = .ok (.ireturn, 1) := by decide +kernel
theorem dL_run_72 : decode cL_run 72 = .ok (.aload 7, 2) := by decide +kernel
theorem dL_run_74 : decode cL_run 74 = .ok (.iconst 5, 1) := by decide +kernel
theorem dL_run_75 : decode cL_run 75 = .ok (.iaload, 1) := by decide +kernel
theorem dL_run_76 : decode cL_run 76 = .ok (.ifCond .ne 11, 3) := by decide +kernel
theorem dL_run_79 : decode cL_run 79 = .ok (.aload_n 1, 1) := by decide +kernel
theorem dL_run_80 : decode cL_run 80 = .ok (.aload_n 2, 1) := by decide +kernel
theorem dL_run_81 : decode cL_run 81 = .ok (.aload_n 3, 1) := by decide +kernel
theorem dL_run_82 : decode cL_run 82 = .ok (.aload 7, 2) := by decide +kernel
theorem dL_run_84 : decode cL_run 84 = .ok (.invokestatic 38, 3) := by decide +kernel
theorem dL_run_87 : decode cL_run 87 = .ok (.aload_n 0, 1) := by decide +kernel
theorem dL_run_88 : decode cL_run 88 = .ok (.aload_n 1, 1) := by decide +kernel
theorem dL_run_89 : decode cL_run 89 = .ok (.aload_n 2, 1) := by decide +kernel
theorem dL_run_90 : decode cL_run 90 = .ok (.aload_n 3, 1) := by decide +kernel
theorem dL_run_91 : decode cL_run 91 = .ok (.aload 5, 2) := by decide +kernel
theorem dL_run_93 : decode cL_run 93 = .ok (.aload 6, 2) := by decide +kernel
theorem dL_run_95 : decode cL_run 95 = .ok (.aload 7, 2) := by decide +kernel
theorem dL_run_97 : decode cL_run 97 = .ok (.invokestatic 41, 3) := by decide +kernel
theorem dL_run_100 : decode cL_run 100 = .ok (.goto (-66), 3) := by decide +kernel
theorem dL_run_103 : decode cL_run 103 = .ok (.aload 7, 2) := by decide +kernel
theorem dL_run_105 : decode cL_run 105 = .ok (.bipush 8, 2) := by decide +kernel
theorem dL_run_107 : decode cL_run 107 = .ok (.iaload, 1) := by decide +kernel
theorem dL_run_108 : decode cL_run 108 = .ok (.iload 8, 2) := by decide +kernel
theorem dL_run_110 : decode cL_run 110 = .ok (.isub, 1) := by decide +kernel
theorem dL_run_111 : decode cL_run 111 = .ok (.ireturn, 1) := by decide +kernel
theorem dL_copy_0 : decode cL_copy 0 = .ok (.iconst 0, 1) := by decide +kernel
theorem dL_copy_1 : decode cL_copy 1 = .ok (.istore_n 2, 1) := by decide +kernel
theorem dL_copy_2 : decode cL_copy 2 = .ok (.iload_n 2, 1) := by decide +kernel
theorem dL_copy_3 : decode cL_copy 3 = .ok (.aload_n 0, 1) := by decide +kernel
theorem dL_copy_4 : decode cL_copy 4 = .ok (.arraylength, 1) := by decide +kernel
theorem dL_copy_5 : decode cL_copy 5 = .ok (.if_icmp .ge 15, 3) := by decide +kernel
theorem dL_copy_8 : decode cL_copy 8 = .ok (.aload_n 1, 1) := by decide +kernel
theorem dL_copy_9 : decode cL_copy 9 = .ok (.iload_n 2, 1) := by decide +kernel
theorem dL_copy_10 : decode cL_copy 10 = .ok (.aload_n 0, 1) := by decide +kernel
theorem dL_copy_11 : decode cL_copy 11 = .ok (.iload_n 2, 1) := by decide +kernel
theorem dL_copy_12 : decode cL_copy 12 = .ok (.iaload, 1) := by decide +kernel
theorem dL_copy_13 : decode cL_copy 13 = .ok (.iastore, 1) := by decide +kernel
theorem dL_copy_14 : decode cL_copy 14 = .ok (.iinc 2 1, 3) := by decide +kernel
theorem dL_copy_17 : decode cL_copy 17 = .ok (.goto (-15), 3) := by decide +kernel
theorem dL_copy_20 : decode cL_copy 20 = .ok (.aload_n 1, 1) := by decide +kernel
theorem dL_copy_21 : decode cL_copy 21 = .ok (.areturn, 1) := by decide +kernel
def ck_wsL_plan : List (List Cond) := [[.code yL_plan cL_plan 17 (some .int)], wsL_plan_r1, wsL_plan_r2]
theorem ck_wsL_plan_m : ∀ c ∈ ck_wsL_plan, ∀ w ∈ c, w ∈ wsL_plan := List.forall_mem_cons.mpr ⟨fun w h => List.mem_cons.mpr (Or.inl (List.mem_singleton.mp h)), List.forall_mem_cons.mpr ⟨fun _ h => (List.mem_cons_of_mem _ (List.mem_append_left _ h)), List.forall_mem_cons.mpr ⟨fun _ h => (List.mem_cons_of_mem _ (List.mem_append_right _ h)), fun _ h => absurd h List.not_mem_nil⟩⟩⟩
set_option maxRecDepth 100000 in
theorem ck_wsL_plan_g : ∀ w ∈ wsL_plan, goodWord w = true := List.all_eq_true.mp (by decide +kernel)
set_option maxRecDepth 100000 in
theorem ggL_plan_L_copy : GoodIn wsL_plan wsL_copy := goodIn_2 ck_wsL_plan [(1, 4)] ck_wsL_plan_m ck_wsL_plan_g rfl
set_option maxRecDepth 20000 in
theorem gL_plan_L_copy : GoodIn wsL_plan (va_wsS RL 45 yL_copy wsL_copy) := goodIn_app (goodIn_of _ (by decide +kernel)) ggL_plan_L_copy
set_option maxRecDepth 100000 in
theorem ggL_plan_L_grant : GoodIn wsL_plan wsL_grant := goodIn_2 ck_wsL_plan [(1, 7), (1, 8), (1, 9), (1, 3), (1, 10), (1, 11), (1, 12), (1, 13), (1, 14), (1, 15), (1, 16), (1, 17), (1, 18), (1, 19), (1, 20), (1, 21), (1, 22), (1, 23), (2, 0), (2, 1)] ck_wsL_plan_m ck_wsL_plan_g rfl
set_option maxRecDepth 20000 in
theorem gL_plan_L_grant : GoodIn wsL_plan (va_wsS RL 49 yL_grant wsL_grant) := goodIn_app (goodIn_of _ (by decide +kernel)) ggL_plan_L_grant
set_option maxRecDepth 100000 in
theorem ggL_plan_L_run : GoodIn wsL_plan wsL_run := goodIn_2 ck_wsL_plan [(2, 4), (1, 8), (1, 9), (1, 3), (1, 10), (1, 11), (1, 12), (1, 13), (1, 14), (1, 15), (1, 16), (1, 20), (1, 21), (1, 22), (2, 5), (2, 6), (2, 7), (1, 17), (1, 18), (1, 19), (2, 8), (2, 9), (2, 10), (1, 23), (2, 0), (2, 1)] ck_wsL_plan_m ck_wsL_plan_g rfl
set_option maxRecDepth 20000 in
theorem gL_plan_L_run : GoodIn wsL_plan (va_wsS RL 53 yL_run wsL_run) := goodIn_app (goodIn_of _ (by decide +kernel)) ggL_plan_L_run
theorem dL_plan_0 : decode cL_plan 0 = .ok (.aload_n 0, 1) := by decide +kernel
theorem dL_plan_1 : decode cL_plan 1 = .ok (.bipush 60, 2) := by decide +kernel
theorem dL_plan_3 : decode cL_plan 3 = .ok (.newarray .int, 2) := by decide +kernel
theorem dL_plan_5 : decode cL_plan 5 = .ok (.invokestatic 45, 3) := by decide +kernel
theorem dL_plan_8 : decode cL_plan 8 = .ok (.astore 10, 2) := by decide +kernel
theorem dL_plan_10 : decode cL_plan 10 = .ok (.aload_n 1, 1) := by decide +kernel
theorem dL_plan_11 : decode cL_plan 11 = .ok (.bipush 64, 2) := by decide +kernel
theorem dL_plan_13 : decode cL_plan 13 = .ok (.newarray .int, 2) := by decide +kernel
theorem dL_plan_15 : decode cL_plan 15 = .ok (.invokestatic 45, 3) := by decide +kernel
theorem dL_plan_18 : decode cL_plan 18 = .ok (.astore 11, 2) := by decide +kernel
theorem dL_plan_20 : decode cL_plan 20 = .ok (.aload_n 2, 1) := by decide +kernel
theorem dL_plan_21 : decode cL_plan 21 = .ok (.bipush 64, 2) := by decide +kernel
theorem dL_plan_23 : decode cL_plan 23 = .ok (.newarray .int, 2) := by decide +kernel
theorem dL_plan_25 : decode cL_plan 25 = .ok (.invokestatic 45, 3) := by decide +kernel
theorem dL_plan_28 : decode cL_plan 28 = .ok (.astore 12, 2) := by decide +kernel
theorem dL_plan_30 : decode cL_plan 30 = .ok (.aload_n 3, 1) := by decide +kernel
theorem dL_plan_31 : decode cL_plan 31 = .ok (.bipush 64, 2) := by decide +kernel
theorem dL_plan_33 : decode cL_plan 33 = .ok (.newarray .int, 2) := by decide +kernel
theorem dL_plan_35 : decode cL_plan 35 = .ok (.invokestatic 45, 3) := by decide +kernel
theorem dL_plan_38 : decode cL_plan 38 = .ok (.astore 13, 2) := by decide +kernel
theorem dL_plan_40 : decode cL_plan 40 = .ok (.aload 4, 2) := by decide +kernel
theorem dL_plan_42 : decode cL_plan 42 = .ok (.bipush 20, 2) := by decide +kernel
theorem dL_plan_44 : decode cL_plan 44 = .ok (.newarray .int, 2) := by decide +kernel
theorem dL_plan_46 : decode cL_plan 46 = .ok (.invokestatic 45, 3) := by decide +kernel
theorem dL_plan_49 : decode cL_plan 49 = .ok (.astore 14, 2) := by decide +kernel
theorem dL_plan_51 : decode cL_plan 51 = .ok (.aload 6, 2) := by decide +kernel
theorem dL_plan_53 : decode cL_plan 53 = .ok (.bipush 60, 2) := by decide +kernel
theorem dL_plan_55 : decode cL_plan 55 = .ok (.newarray .int, 2) := by decide +kernel
theorem dL_plan_57 : decode cL_plan 57 = .ok (.invokestatic 45, 3) := by decide +kernel
theorem dL_plan_60 : decode cL_plan 60 = .ok (.astore 15, 2) := by decide +kernel
theorem dL_plan_62 : decode cL_plan 62 = .ok (.aload 7, 2) := by decide +kernel
theorem dL_plan_64 : decode cL_plan 64 = .ok (.bipush 12, 2) := by decide +kernel
theorem dL_plan_66 : decode cL_plan 66 = .ok (.newarray .int, 2) := by decide +kernel
theorem dL_plan_68 : decode cL_plan 68 = .ok (.invokestatic 45, 3) := by decide +kernel
theorem dL_plan_71 : decode cL_plan 71 = .ok (.astore 16, 2) := by decide +kernel
theorem dL_plan_73 : decode cL_plan 73 = .ok (.aload 10, 2) := by decide +kernel
theorem dL_plan_75 : decode cL_plan 75 = .ok (.aload 11, 2) := by decide +kernel
theorem dL_plan_77 : decode cL_plan 77 = .ok (.aload 12, 2) := by decide +kernel
theorem dL_plan_79 : decode cL_plan 79 = .ok (.aload 13, 2) := by decide +kernel
theorem dL_plan_81 : decode cL_plan 81 = .ok (.aload 14, 2) := by decide +kernel
theorem dL_plan_83 : decode cL_plan 83 = .ok (.aload 5, 2) := by decide +kernel
theorem dL_plan_85 : decode cL_plan 85 = .ok (.aload 16, 2) := by decide +kernel
theorem dL_plan_87 : decode cL_plan 87 = .ok (.iload 8, 2) := by decide +kernel
theorem dL_plan_89 : decode cL_plan 89 = .ok (.invokestatic 49, 3) := by decide +kernel
theorem dL_plan_92 : decode cL_plan 92 = .ok (.pop, 1) := by decide +kernel
theorem dL_plan_93 : decode cL_plan 93 = .ok (.aload 10, 2) := by decide +kernel
theorem dL_plan_95 : decode cL_plan 95 = .ok (.aload 11, 2) := by decide +kernel
theorem dL_plan_97 : decode cL_plan 97 = .ok (.aload 12, 2) := by decide +kernel
theorem dL_plan_99 : decode cL_plan 99 = .ok (.aload 13, 2) := by decide +kernel
theorem dL_plan_101 : decode cL_plan 101 = .ok (.aload 14, 2) := by decide +kernel
theorem dL_plan_103 : decode cL_plan 103 = .ok (.aload 5, 2) := by decide +kernel
theorem dL_plan_105 : decode cL_plan 105 = .ok (.aload 15, 2) := by decide +kernel
theorem dL_plan_107 : decode cL_plan 107 = .ok (.aload 16, 2) := by decide +kernel
theorem dL_plan_109 : decode cL_plan 109 = .ok (.invokestatic 53, 3) := by decide +kernel
theorem dL_plan_112 : decode cL_plan 112 = .ok (.ifCond .ge 8, 3) := by decide +kernel
theorem dL_plan_115 : decode cL_plan 115 = .ok (.bipush (-3), 2) := by decide +kernel
theorem dL_plan_117 : decode cL_plan 117 = .ok (.goto 14, 3) := by decide +kernel
theorem dL_plan_120 : decode cL_plan 120 = .ok (.aload 16, 2) := by decide +kernel
theorem dL_plan_122 : decode cL_plan 122 = .ok (.iload 9, 2) := by decide +kernel
theorem dL_plan_124 : decode cL_plan 124 = .ok (.iaload, 1) := by decide +kernel
theorem dL_plan_125 : decode cL_plan 125 = .ok (.aload 7, 2) := by decide +kernel
theorem dL_plan_127 : decode cL_plan 127 = .ok (.iload 9, 2) := by decide +kernel
theorem dL_plan_129 : decode cL_plan 129 = .ok (.iaload, 1) := by decide +kernel
theorem dL_plan_130 : decode cL_plan 130 = .ok (.isub, 1) := by decide +kernel
theorem dL_plan_131 : decode cL_plan 131 = .ok (.ireturn, 1) := by decide +kernel
def ck_wsL_files : List (List Cond) := [[.code yL_files cL_files 15 (some .boolean)], wsL_files_r1, wsL_files_r2, wsL_files_r3, wsL_files_r4]
theorem ck_wsL_files_m : ∀ c ∈ ck_wsL_files, ∀ w ∈ c, w ∈ wsL_files := List.forall_mem_cons.mpr ⟨fun w h => List.mem_cons.mpr (Or.inl (List.mem_singleton.mp h)), List.forall_mem_cons.mpr ⟨fun _ h => (List.mem_cons_of_mem _ (List.mem_append_left _ (List.mem_append_left _ (List.mem_append_left _ (List.mem_append_left _ (List.mem_append_left _ h)))))), List.forall_mem_cons.mpr ⟨fun _ h => (List.mem_cons_of_mem _ (List.mem_append_left _ (List.mem_append_left _ (List.mem_append_left _ (List.mem_append_left _ (List.mem_append_right _ (List.mem_append_left _ h))))))), List.forall_mem_cons.mpr ⟨fun _ h => (List.mem_cons_of_mem _ (List.mem_append_left _ (List.mem_append_left _ (List.mem_append_left _ (List.mem_append_left _ (List.mem_append_right _ (List.mem_append_right _ (List.mem_append_left _ h)))))))), List.forall_mem_cons.mpr ⟨fun _ h => (List.mem_cons_of_mem _ (List.mem_append_left _ (List.mem_append_left _ (List.mem_append_left _ (List.mem_append_left _ (List.mem_append_right _ (List.mem_append_right _ (List.mem_append_right _ h)))))))), fun _ h => absurd h List.not_mem_nil⟩⟩⟩⟩⟩
set_option maxRecDepth 100000 in
theorem ck_wsL_files_g : ∀ w ∈ wsL_files, goodWord w = true := List.all_eq_true.mp (by decide +kernel)
set_option maxRecDepth 100000 in
theorem ggL_files_L_kinds : GoodIn wsL_files wsL_kinds := goodIn_2 ck_wsL_files [(1, 3)] ck_wsL_files_m ck_wsL_files_g rfl
set_option maxRecDepth 20000 in
theorem gL_files_L_kinds : GoodIn wsL_files (va_wsS RL 26 yL_kinds wsL_kinds) := goodIn_app (goodIn_of _ (by decide +kernel)) ggL_files_L_kinds
set_option maxRecDepth 100000 in
theorem ggL_files_X6_runAt : GoodIn wsL_files wsX6_runAt := goodIn_ca (goodIn_ca (goodIn_ca (goodIn_2 ck_wsL_files [(1, 8), (1, 9), (1, 10), (1, 11), (1, 12), (1, 13), (1, 14), (1, 15), (1, 16), (1, 17), (1, 18), (1, 19), (1, 20), (1, 21)] ck_wsL_files_m ck_wsL_files_g rfl) (goodIn_b (fun _ h => (List.mem_cons_of_mem _ (List.mem_append_left _ (List.mem_append_left _ (List.mem_append_left _ (List.mem_append_right _ h)))))) ck_wsL_files_g)) (goodIn_b (fun _ h => (List.mem_cons_of_mem _ (List.mem_append_left _ (List.mem_append_left _ (List.mem_append_right _ h))))) ck_wsL_files_g)) (goodIn_b (fun _ h => (List.mem_cons_of_mem _ (List.mem_append_left _ (List.mem_append_right _ h)))) ck_wsL_files_g)
set_option maxRecDepth 20000 in
theorem gL_files_X6_runAt : GoodIn wsL_files (wsV RL 57 RX6 yX6_runAt wsX6_runAt) := goodIn_app (goodIn_of _ (by decide +kernel)) ggL_files_X6_runAt
set_option maxRecDepth 100000 in
theorem ggL_files_X6_size : GoodIn wsL_files wsX6_size := goodIn_ca (goodIn_ca (goodIn_ca (goodIn_2 ck_wsL_files [(2, 1), (1, 9), (1, 10), (2, 2), (2, 3), (2, 4), (1, 14), (2, 5), (1, 16), (2, 6), (1, 18), (1, 19), (1, 20), (1, 21), (1, 11), (1, 12), (1, 13), (1, 15), (2, 7), (2, 8), (2, 9), (2, 10), (2, 11)] ck_wsL_files_m ck_wsL_files_g rfl) (goodIn_b (fun _ h => (List.mem_cons_of_mem _ (List.mem_append_left _ (List.mem_append_left _ (List.mem_append_left _ (List.mem_append_right _ h)))))) ck_wsL_files_g)) (goodIn_b (fun _ h => (List.mem_cons_of_mem _ (List.mem_append_left _ (List.mem_append_left _ (List.mem_append_right _ h))))) ck_wsL_files_g)) (goodIn_b (fun _ h => (List.mem_cons_of_mem _ (List.mem_append_left _ (List.mem_append_right _ h)))) ck_wsL_files_g)
set_option maxRecDepth 20000 in
theorem gL_files_X6_size : GoodIn wsL_files (wsV RL 60 RX6 yX6_size wsX6_size) := goodIn_app (goodIn_of _ (by decide +kernel)) ggL_files_X6_size
set_option maxRecDepth 100000 in
theorem ggL_files_L_low : GoodIn wsL_files wsL_low := goodIn_2 ck_wsL_files [(2, 14), (2, 15)] ck_wsL_files_m ck_wsL_files_g rfl
set_option maxRecDepth 20000 in
theorem gL_files_L_low : GoodIn wsL_files (va_wsS RL 63 yL_low wsL_low) := goodIn_app (goodIn_of _ (by decide +kernel)) ggL_files_L_low
set_option maxRecDepth 100000 in
theorem ggL_files_L_start : GoodIn wsL_files wsL_start := goodIn_2 ck_wsL_files [(2, 18)] ck_wsL_files_m ck_wsL_files_g rfl
set_option maxRecDepth 20000 in
theorem gL_files_L_start : GoodIn wsL_files (va_wsS RL 12 yL_start wsL_start) := goodIn_app (goodIn_of _ (by decide +kernel)) ggL_files_L_start
set_option maxRecDepth 100000 in
theorem ggL_files_X6_row : GoodIn wsL_files wsX6_row := goodIn_ca (goodIn_ca (goodIn_ca (goodIn_ca (goodIn_2 ck_wsL_files [(2, 22), (1, 9), (2, 23), (3, 0), (3, 1), (3, 2), (3, 3), (3, 4), (3, 5), (3, 6), (3, 7), (2, 3), (2, 4), (1, 14), (2, 5), (1, 16), (2, 6), (1, 18), (1, 19), (1, 20), (1, 21), (3, 8), (2, 8), (2, 9), (2, 10), (2, 11), (3, 9), (3, 10), (3, 11), (3, 12), (3, 13), (3, 14), (3, 15), (3, 16), (3, 17), (3, 18), (3, 19), (3, 20), (3, 21), (3, 22), (3, 23), (4, 0), (4, 1), (4, 2), (4, 3), (4, 4), (4, 5), (4, 6), (4, 7), (4, 8), (4, 9), (4, 10), (4, 11), (4, 12), (4, 13), (4, 14)] ck_wsL_files_m ck_wsL_files_g rfl) (goodIn_b (fun _ h => (List.mem_cons_of_mem _ (List.mem_append_left _ (List.mem_append_left _ (List.mem_append_left _ (List.mem_append_right _ h)))))) ck_wsL_files_g)) (goodIn_b (fun _ h => (List.mem_cons_of_mem _ (List.mem_append_left _ (List.mem_append_left _ (List.mem_append_right _ h))))) ck_wsL_files_g)) (goodIn_b (fun _ h => (List.mem_cons_of_mem _ (List.mem_append_left _ (List.mem_append_right _ h)))) ck_wsL_files_g)) (goodIn_b (fun _ h => (List.mem_cons_of_mem _ (List.mem_append_right _ h))) ck_wsL_files_g)
set_option maxRecDepth 20000 in
theorem gL_files_X6_row : GoodIn wsL_files (wsV RL 67 RX6 yX6_row wsX6_row) := goodIn_app (goodIn_of _ (by decide +kernel)) ggL_files_X6_row
set_option maxRecDepth 100000 in
theorem ggL_files_X6_runs : GoodIn wsL_files wsX6_runs := goodIn_ca (goodIn_ca (goodIn_ca (goodIn_2 ck_wsL_files [(4, 18), (1, 9), (1, 10), (4, 19)] ck_wsL_files_m ck_wsL_files_g rfl) (goodIn_b (fun _ h => (List.mem_cons_of_mem _ (List.mem_append_left _ (List.mem_append_left _ (List.mem_append_left _ (List.mem_append_right _ h)))))) ck_wsL_files_g)) (goodIn_b (fun _ h => (List.mem_cons_of_mem _ (List.mem_append_left _ (List.mem_append_left _ (List.mem_append_right _ h))))) ck_wsL_files_g)) (goodIn_b (fun _ h => (List.mem_cons_of_mem _ (List.mem_append_left _ (List.mem_append_right _ h)))) ck_wsL_files_g)
set_option maxRecDepth 20000 in
theorem gL_files_X6_runs : GoodIn wsL_files (wsV RL 71 RX6 yX6_runs wsX6_runs) := goodIn_app (goodIn_of _ (by decide +kernel)) ggL_files_X6_runs
theorem dL_files_0 : decode cL_files 0 = .ok (.aload_n 3, 1) := by decide +kernel
theorem dL_files_1 : decode cL_files 1 = .ok (.aload 4, 2) := by decide +kernel
theorem dL_files_3 : decode cL_files 3 = .ok (.aload 7, 2) := by decide +kernel
theorem dL_files_5 : decode cL_files 5 = .ok (.iconst 0, 1) := by decide +kernel
theorem dL_files_6 : decode cL_files 6 = .ok (.iconst 1, 1) := by decide +kernel
theorem dL_files_7 : decode cL_files 7 = .ok (.invokestatic 26, 3) := by decide +kernel
theorem dL_files_10 : decode cL_files 10 = .ok (.istore 9, 2) := by decide +kernel
theorem dL_files_12 : decode cL_files 12 = .ok (.iconst (-1), 1) := by decide +kernel
theorem dL_files_13 : decode cL_files 13 = .ok (.istore 10, 2) := by decide +kernel
theorem dL_files_15 : decode cL_files 15 = .ok (.iconst 0, 1) := by decide +kernel
theorem dL_files_16 : decode cL_files 16 = .ok (.istore 11, 2) := by decide +kernel
theorem dL_files_18 : decode cL_files 18 = .ok (.iload 11, 2) := by decide +kernel
theorem dL_files_20 : decode cL_files 20 = .ok (.iload 9, 2) := by decide +kernel
theorem dL_files_22 : decode cL_files 22 = .ok (.if_icmp .ge 194, 3) := by decide +kernel
theorem dL_files_25 : decode cL_files 25 = .ok (.iconst (-1), 1) := by decide +kernel
theorem dL_files_26 : decode cL_files 26 = .ok (.istore 12, 2) := by decide +kernel
theorem dL_files_28 : decode cL_files 28 = .ok (.iconst 0, 1) := by decide +kernel
theorem dL_files_29 : decode cL_files 29 = .ok (.istore 13, 2) := by decide +kernel
theorem dL_files_31 : decode cL_files 31 = .ok (.iload 13, 2) := by decide +kernel
theorem dL_files_33 : decode cL_files 33 = .ok (.aload 7, 2) := by decide +kernel
theorem dL_files_35 : decode cL_files 35 = .ok (.bipush 10, 2) := by decide +kernel
theorem dL_files_37 : decode cL_files 37 = .ok (.iaload, 1) := by decide +kernel
theorem dL_files_38 : decode cL_files 38 = .ok (.if_icmp .ge 51, 3) := by decide +kernel
theorem dL_files_41 : decode cL_files 41 = .ok (.aload 4, 2) := by decide +kernel
theorem dL_files_43 : decode cL_files 43 = .ok (.iload 13, 2) := by decide +kernel
theorem dL_files_45 : decode cL_files 45 = .ok (.iaload, 1) := by decide +kernel
theorem dL_files_46 : decode cL_files 46 = .ok (.ifCond .ne 33, 3) := by decide +kernel
theorem dL_files_49 : decode cL_files 49 = .ok (.aload_n 2, 1) := by decide +kernel
theorem dL_files_50 : decode cL_files 50 = .ok (.iload 13, 2) := by decide +kernel
theorem dL_files_52 : decode cL_files 52 = .ok (.iaload, 1) := by decide +kernel
theorem dL_files_53 : decode cL_files 53 = .ok (.iload 10, 2) := by decide +kernel
theorem dL_files_55 : decode cL_files 55 = .ok (.if_icmp .le 24, 3) := by decide +kernel
theorem dL_files_58 : decode cL_files 58 = .ok (.iload 12, 2) := by decide +kernel
theorem dL_files_60 : decode cL_files 60 = .ok (.ifCond .lt 14, 3) := by decide +kernel
theorem dL_files_63 : decode cL_files 63 = .ok (.aload_n 2, 1) := by decide +kernel
theorem dL_files_64 : decode cL_files 64 = .ok (.iload 13, 2) := by decide +kernel
theorem dL_files_66 : decode cL_files 66 = .ok (.iaload, 1) := by decide +kernel
theorem dL_files_67 : decode cL_files 67 = .ok (.aload_n 2, 1) := by decide +kernel
theorem dL_files_68 : decode cL_files 68 = .ok (.iload 12, 2) := by decide +kernel
theorem dL_files_70 : decode cL_files 70 = .ok (.iaload, 1) := by decide +kernel
theorem dL_files_71 : decode cL_files 71 = .ok (.if_icmp .ge 8, 3) := by decide +kernel
theorem dL_files_74 : decode cL_files 74 = .ok (.iload 13, 2) := by decide +kernel
theorem dL_files_76 : decode cL_files 76 = .ok (.goto 5, 3) := by decide +kernel
theorem dL_files_79 : decode cL_files 79 = .ok (.iload 12, 2) := by decide +kernel
theorem dL_files_81 : decode cL_files 81 = .ok (.istore 12, 2) := by decide +kernel
theorem dL_files_83 : decode cL_files 83 = .ok (.iinc 13 1, 3) := by decide +kernel
theorem dL_files_86 : decode cL_files 86 = .ok (.goto (-55), 3) := by decide +kernel
theorem dL_files_89 : decode cL_files 89 = .ok (.aload_n 2, 1) := by decide +kernel
theorem dL_files_90 : decode cL_files 90 = .ok (.iload 12, 2) := by decide +kernel
theorem dL_files_92 : decode cL_files 92 = .ok (.iaload, 1) := by decide +kernel
theorem dL_files_93 : decode cL_files 93 = .ok (.istore 10, 2) := by decide +kernel
theorem dL_files_95 : decode cL_files 95 = .ok (.aload_n 0, 1) := by decide +kernel
theorem dL_files_96 : decode cL_files 96 = .ok (.iload 11, 2) := by decide +kernel
theorem dL_files_98 : decode cL_files 98 = .ok (.invokevirtual 57, 3) := by decide +kernel
theorem dL_files_101 : decode cL_files 101 = .ok (.iload 10, 2) := by decide +kernel
theorem dL_files_103 : decode cL_files 103 = .ok (.if_icmp .ne 16, 3) := by decide +kernel
theorem dL_files_106 : decode cL_files 106 = .ok (.aload_n 0, 1) := by decide +kernel
theorem dL_files_107 : decode cL_files 107 = .ok (.iload 10, 2) := by decide +kernel
theorem dL_files_109 : decode cL_files 109 = .ok (.invokevirtual 60, 3) := by decide +kernel
theorem dL_files_112 : decode cL_files 112 = .ok (.aload_n 3, 1) := by decide +kernel
theorem dL_files_113 : decode cL_files 113 = .ok (.iload 12, 2) := by decide +kernel
theorem dL_files_115 : decode cL_files 115 = .ok (.iaload, 1) := by decide +kernel
theorem dL_files_116 : decode cL_files 116 = .ok (.if_icmp .eq 5, 3) := by decide +kernel
theorem dL_files_119 : decode cL_files 119 = .ok (.iconst 0, 1) := by decide +kernel
theorem dL_files_120 : decode cL_files 120 = .ok (.ireturn, 1) := by decide +kernel
theorem dL_files_121 : decode cL_files 121 = .ok (.iload 8, 2) := by decide +kernel
theorem dL_files_123 : decode cL_files 123 = .ok (.aload_n 3, 1) := by decide +kernel
theorem dL_files_124 : decode cL_files 124 = .ok (.iload 12, 2) := by decide +kernel
theorem dL_files_126 : decode cL_files 126 = .ok (.iaload, 1) := by decide +kernel
theorem dL_files_127 : decode cL_files 127 = .ok (.invokestatic 63, 3) := by decide +kernel
theorem dL_files_130 : decode cL_files 130 = .ok (.istore 13, 2) := by decide +kernel
theorem dL_files_132 : decode cL_files 132 = .ok (.aload_n 1, 1) := by decide +kernel
theorem dL_files_133 : decode cL_files 133 = .ok (.aload_n 3, 1) := by decide +kernel
theorem dL_files_134 : decode cL_files 134 = .ok (.iload 12, 2) := by decide +kernel
theorem dL_files_136 : decode cL_files 136 = .ok (.invokestatic 12, 3) := by decide +kernel
theorem dL_files_139 : decode cL_files 139 = .ok (.iload 13, 2) := by decide +kernel
theorem dL_files_141 : decode cL_files 141 = .ok (.iadd, 1) := by decide +kernel
theorem dL_files_142 : decode cL_files 142 = .ok (.iaload, 1) := by decide +kernel
theorem dL_files_143 : decode cL_files 143 = .ok (.istore 14, 2) := by decide +kernel
theorem dL_files_145 : decode cL_files 145 = .ok (.aload_n 0, 1) := by decide +kernel
theorem dL_files_146 : decode cL_files 146 = .ok (.iload 10, 2) := by decide +kernel
theorem dL_files_148 : decode cL_files 148 = .ok (.iload 13, 2) := by decide +kernel
theorem dL_files_150 : decode cL_files 150 = .ok (.iconst 0, 1) := by decide +kernel
theorem dL_files_151 : decode cL_files 151 = .ok (.invokevirtual 67, 3) := by decide +kernel
theorem dL_files_154 : decode cL_files 154 = .ok (.aload 5, 2) := by decide +kernel
theorem dL_files_156 : decode cL_files 156 = .ok (.iload 14, 2) := by decide +kernel
theorem dL_files_158 : decode cL_files 158 = .ok (.iaload, 1) := by decide +kernel
theorem dL_files_159 : decode cL_files 159 = .ok (.if_icmp .ne 49, 3) := by decide +kernel
theorem dL_files_162 : decode cL_files 162 = .ok (.aload_n 0, 1) := by decide +kernel
theorem dL_files_163 : decode cL_files 163 = .ok (.iload 10, 2) := by decide +kernel
theorem dL_files_165 : decode cL_files 165 = .ok (.iload 13, 2) := by decide +kernel
theorem dL_files_167 : decode cL_files 167 = .ok (.iconst 1, 1) := by decide +kernel
theorem dL_files_168 : decode cL_files 168 = .ok (.invokevirtual 67, 3) := by decide +kernel
theorem dL_files_171 : decode cL_files 171 = .ok (.iload 14, 2) := by decide +kernel
theorem dL_files_173 : decode cL_files 173 = .ok (.if_icmp .ne 35, 3) := by decide +kernel
theorem dL_files_176 : decode cL_files 176 = .ok (.aload_n 0, 1) := by decide +kernel
theorem dL_files_177 : decode cL_files 177 = .ok (.iload 10, 2) := by decide +kernel
theorem dL_files_179 : decode cL_files 179 = .ok (.iload 13, 2) := by decide +kernel
theorem dL_files_181 : decode cL_files 181 = .ok (.iconst 2, 1) := by decide +kernel
theorem dL_files_182 : decode cL_files 182 = .ok (.invokevirtual 67, 3) := by decide +kernel
theorem dL_files_185 : decode cL_files 185 = .ok (.aload 6, 2) := by decide +kernel
theorem dL_files_187 : decode cL_files 187 = .ok (.iload 14, 2) := by decide +kernel
theorem dL_files_189 : decode cL_files 189 = .ok (.iaload, 1) := by decide +kernel
theorem dL_files_190 : decode cL_files 190 = .ok (.if_icmp .ne 18, 3) := by decide +kernel
theorem dL_files_193 : decode cL_files 193 = .ok (.aload_n 0, 1) := by decide +kernel
theorem dL_files_194 : decode cL_files 194 = .ok (.iload 10, 2) := by decide +kernel
theorem dL_files_196 : decode cL_files 196 = .ok (.aload_n 3, 1) := by decide +kernel
theorem dL_files_197 : decode cL_files 197 = .ok (.iload 12, 2) := by decide +kernel
theorem dL_files_199 : decode cL_files 199 = .ok (.iaload, 1) := by decide +kernel
theorem dL_files_200 : decode cL_files 200 = .ok (.iconst 0, 1) := by decide +kernel
theorem dL_files_201 : decode cL_files 201 = .ok (.invokevirtual 67, 3) := by decide +kernel
theorem dL_files_204 : decode cL_files 204 = .ok (.iconst (-1), 1) := by decide +kernel
theorem dL_files_205 : decode cL_files 205 = .ok (.if_icmp .eq 5, 3) := by decide +kernel
theorem dL_files_208 : decode cL_files 208 = .ok (.iconst 0, 1) := by decide +kernel
theorem dL_files_209 : decode cL_files 209 = .ok (.ireturn, 1) := by decide +kernel
theorem dL_files_210 : decode cL_files 210 = .ok (.iinc 11 1, 3) := by decide +kernel
theorem dL_files_213 : decode cL_files 213 = .ok (.goto (-195), 3) := by decide +kernel
theorem dL_files_216 : decode cL_files 216 = .ok (.aload_n 0, 1) := by decide +kernel
theorem dL_files_217 : decode cL_files 217 = .ok (.invokevirtual 71, 3) := by decide +kernel
theorem dL_files_220 : decode cL_files 220 = .ok (.iload 9, 2) := by decide +kernel
theorem dL_files_222 : decode cL_files 222 = .ok (.if_icmp .ne 26, 3) := by decide +kernel
theorem dL_files_225 : decode cL_files 225 = .ok (.aload_n 0, 1) := by decide +kernel
theorem dL_files_226 : decode cL_files 226 = .ok (.iload 9, 2) := by decide +kernel
theorem dL_files_228 : decode cL_files 228 = .ok (.invokevirtual 57, 3) := by decide +kernel
theorem dL_files_231 : decode cL_files 231 = .ok (.iconst (-1), 1) := by decide +kernel
theorem dL_files_232 : decode cL_files 232 = .ok (.if_icmp .ne 16, 3) := by decide +kernel
theorem dL_files_235 : decode cL_files 235 = .ok (.aload_n 0, 1) := by decide +kernel
theorem dL_files_236 : decode cL_files 236 = .ok (.iconst (-1), 1) := by decide +kernel
theorem dL_files_237 : decode cL_files 237 = .ok (.invokevirtual 57, 3) := by decide +kernel
theorem dL_files_240 : decode cL_files 240 = .ok (.iconst (-1), 1) := by decide +kernel
theorem dL_files_241 : decode cL_files 241 = .ok (.if_icmp .ne 7, 3) := by decide +kernel
theorem dL_files_244 : decode cL_files 244 = .ok (.iconst 1, 1) := by decide +kernel
theorem dL_files_245 : decode cL_files 245 = .ok (.goto 4, 3) := by decide +kernel
theorem dL_files_248 : decode cL_files 248 = .ok (.iconst 0, 1) := by decide +kernel
theorem dL_files_249 : decode cL_files 249 = .ok (.ireturn, 1) := by decide +kernel
def ck_wsL_tells : List (List Cond) := [[.code yL_tells cL_tells 18 (some .boolean)], wsL_tells_r1, wsL_tells_r2, wsL_tells_r3, wsL_tells_r4, wsL_tells_r5, wsL_tells_r6]
theorem ck_wsL_tells_m : ∀ c ∈ ck_wsL_tells, ∀ w ∈ c, w ∈ wsL_tells := List.forall_mem_cons.mpr ⟨fun w h => List.mem_cons.mpr (Or.inl (List.mem_singleton.mp h)), List.forall_mem_cons.mpr ⟨fun _ h => (List.mem_cons_of_mem _ (List.mem_append_left _ (List.mem_append_left _ (List.mem_append_left _ (List.mem_append_left _ (List.mem_append_left _ h)))))), List.forall_mem_cons.mpr ⟨fun _ h => (List.mem_cons_of_mem _ (List.mem_append_left _ (List.mem_append_left _ (List.mem_append_left _ (List.mem_append_left _ (List.mem_append_right _ (List.mem_append_left _ h))))))), List.forall_mem_cons.mpr ⟨fun _ h => (List.mem_cons_of_mem _ (List.mem_append_left _ (List.mem_append_left _ (List.mem_append_left _ (List.mem_append_left _ (List.mem_append_right _ (List.mem_append_right _ (List.mem_append_left _ h)))))))), List.forall_mem_cons.mpr ⟨fun _ h => (List.mem_cons_of_mem _ (List.mem_append_left _ (List.mem_append_left _ (List.mem_append_left _ (List.mem_append_left _ (List.mem_append_right _ (List.mem_append_right _ (List.mem_append_right _ (List.mem_append_left _ h))))))))), List.forall_mem_cons.mpr ⟨fun _ h => (List.mem_cons_of_mem _ (List.mem_append_left _ (List.mem_append_left _ (List.mem_append_left _ (List.mem_append_left _ (List.mem_append_right _ (List.mem_append_right _ (List.mem_append_right _ (List.mem_append_right _ (List.mem_append_left _ h)))))))))), List.forall_mem_cons.mpr ⟨fun _ h => (List.mem_cons_of_mem _ (List.mem_append_left _ (List.mem_append_left _ (List.mem_append_left _ (List.mem_append_left _ (List.mem_append_right _ (List.mem_append_right _ (List.mem_append_right _ (List.mem_append_right _ (List.mem_append_right _ h)))))))))), fun _ h => absurd h List.not_mem_nil⟩⟩⟩⟩⟩⟩⟩
set_option maxRecDepth 100000 in
theorem ck_wsL_tells_g : ∀ w ∈ wsL_tells, goodWord w = true := List.all_eq_true.mp (by decide +kernel)
set_option maxRecDepth 100000 in
theorem ggL_tells_L_start : GoodIn wsL_tells wsL_start := goodIn_2 ck_wsL_tells [(1, 3)] ck_wsL_tells_m ck_wsL_tells_g rfl
set_option maxRecDepth 20000 in
theorem gL_tells_L_start : GoodIn wsL_tells (va_wsS RL 12 yL_start wsL_start) := goodIn_app (goodIn_of _ (by decide +kernel)) ggL_tells_L_start
set_option maxRecDepth 100000 in
theorem ggL_tells_L_low : GoodIn wsL_tells wsL_low := goodIn_2 ck_wsL_tells [(1, 6), (1, 7)] ck_wsL_tells_m ck_wsL_tells_g rfl
set_option maxRecDepth 20000 in
theorem gL_tells_L_low : GoodIn wsL_tells (va_wsS RL 63 yL_low wsL_low) := goodIn_app (goodIn_of _ (by decide +kernel)) ggL_tells_L_low
set_option maxRecDepth 100000 in
theorem ggL_tells_L_kinds : GoodIn wsL_tells wsL_kinds := goodIn_2 ck_wsL_tells [(1, 10)] ck_wsL_tells_m ck_wsL_tells_g rfl
set_option maxRecDepth 20000 in
theorem gL_tells_L_kinds : GoodIn wsL_tells (va_wsS RL 26 yL_kinds wsL_kinds) := goodIn_app (goodIn_of _ (by decide +kernel)) ggL_tells_L_kinds
set_option maxRecDepth 100000 in
theorem ggL_tells_X6_inMemory : GoodIn wsL_tells wsX6_inMemory := goodIn_ca (goodIn_ca (goodIn_ca (goodIn_2 ck_wsL_tells [(1, 15), (1, 16), (1, 17), (1, 18), (1, 19), (1, 20), (1, 21), (1, 22), (1, 23), (2, 0), (2, 1), (2, 2), (2, 3), (2, 4), (2, 5), (2, 6), (2, 7), (2, 8), (2, 9), (2, 10)] ck_wsL_tells_m ck_wsL_tells_g rfl) (goodIn_b (fun _ h => (List.mem_cons_of_mem _ (List.mem_append_left _ (List.mem_append_left _ (List.mem_append_left _ (List.mem_append_right _ h)))))) ck_wsL_tells_g)) (goodIn_b (fun _ h => (List.mem_cons_of_mem _ (List.mem_append_left _ (List.mem_append_left _ (List.mem_append_right _ h))))) ck_wsL_tells_g)) (goodIn_b (fun _ h => (List.mem_cons_of_mem _ (List.mem_append_left _ (List.mem_append_right _ h)))) ck_wsL_tells_g)
set_option maxRecDepth 20000 in
theorem gL_tells_X6_inMemory : GoodIn wsL_tells (wsV RL 75 RX6 yX6_inMemory wsX6_inMemory) := goodIn_app (goodIn_of _ (by decide +kernel)) ggL_tells_X6_inMemory
set_option maxRecDepth 100000 in
theorem ggL_tells_X6_isCollecting : GoodIn wsL_tells wsX6_isCollecting := goodIn_ca (goodIn_ca (goodIn_2 ck_wsL_tells [(2, 14), (1, 16), (2, 15), (2, 16), (2, 17), (1, 14), (2, 18)] ck_wsL_tells_m ck_wsL_tells_g rfl) (goodIn_b (fun _ h => (List.mem_cons_of_mem _ (List.mem_append_left _ (List.mem_append_left _ (List.mem_append_left _ (List.mem_append_right _ h)))))) ck_wsL_tells_g)) (goodIn_b (fun _ h => (List.mem_cons_of_mem _ (List.mem_append_left _ (List.mem_append_left _ (List.mem_append_right _ h))))) ck_wsL_tells_g)
set_option maxRecDepth 20000 in
theorem gL_tells_X6_isCollecting : GoodIn wsL_tells (wsV RL 78 RX6 yX6_isCollecting wsX6_isCollecting) := goodIn_app (goodIn_of _ (by decide +kernel)) ggL_tells_X6_isCollecting
set_option maxRecDepth 100000 in
theorem ggL_tells_X6_isMerging : GoodIn wsL_tells wsX6_isMerging := goodIn_ca (goodIn_ca (goodIn_ca (goodIn_2 ck_wsL_tells [(2, 22), (1, 16), (2, 23), (3, 0), (3, 1), (1, 21), (3, 2), (3, 3), (3, 4), (2, 16), (2, 17), (1, 14), (2, 18)] ck_wsL_tells_m ck_wsL_tells_g rfl) (goodIn_b (fun _ h => (List.mem_cons_of_mem _ (List.mem_append_left _ (List.mem_append_left _ (List.mem_append_left _ (List.mem_append_right _ h)))))) ck_wsL_tells_g)) (goodIn_b (fun _ h => (List.mem_cons_of_mem _ (List.mem_append_left _ (List.mem_append_left _ (List.mem_append_right _ h))))) ck_wsL_tells_g)) (goodIn_b (fun _ h => (List.mem_cons_of_mem _ (List.mem_append_right _ h))) ck_wsL_tells_g)
set_option maxRecDepth 20000 in
theorem gL_tells_X6_isMerging : GoodIn wsL_tells (wsV RL 81 RX6 yX6_isMerging wsX6_isMerging) := goodIn_app (goodIn_of _ (by decide +kernel)) ggL_tells_X6_isMerging
set_option maxRecDepth 100000 in
theorem ggL_tells_X6_isDone : GoodIn wsL_tells wsX6_isDone := goodIn_ca (goodIn_ca (goodIn_ca (goodIn_2 ck_wsL_tells [(3, 8), (1, 16), (3, 9), (3, 10), (3, 11), (1, 21), (3, 12), (3, 13), (3, 14), (3, 4), (3, 15), (3, 0), (3, 1), (3, 2), (3, 3), (2, 16), (2, 17), (1, 14), (2, 18)] ck_wsL_tells_m ck_wsL_tells_g rfl) (goodIn_b (fun _ h => (List.mem_cons_of_mem _ (List.mem_append_left _ (List.mem_append_left _ (List.mem_append_left _ (List.mem_append_right _ h)))))) ck_wsL_tells_g)) (goodIn_b (fun _ h => (List.mem_cons_of_mem _ (List.mem_append_left _ (List.mem_append_left _ (List.mem_append_right _ h))))) ck_wsL_tells_g)) (goodIn_b (fun _ h => (List.mem_cons_of_mem _ (List.mem_append_right _ h))) ck_wsL_tells_g)
set_option maxRecDepth 20000 in
theorem gL_tells_X6_isDone : GoodIn wsL_tells (wsV RL 84 RX6 yX6_isDone wsX6_isDone) := goodIn_app (goodIn_of _ (by decide +kernel)) ggL_tells_X6_isDone
set_option maxRecDepth 100000 in
theorem ggL_tells_X6_memory : GoodIn wsL_tells wsX6_memory := goodIn_ca (goodIn_ca (goodIn_ca (goodIn_2 ck_wsL_tells [(3, 19), (1, 16), (3, 20), (3, 21), (3, 22), (3, 23), (1, 21), (4, 0), (3, 13), (1, 23), (3, 3), (3, 4), (3, 15), (3, 0), (3, 1), (3, 2), (4, 1), (4, 2), (4, 3), (4, 4), (4, 5), (4, 6), (4, 7), (4, 8), (4, 9)] ck_wsL_tells_m ck_wsL_tells_g rfl) (goodIn_b (fun _ h => (List.mem_cons_of_mem _ (List.mem_append_left _ (List.mem_append_left _ (List.mem_append_left _ (List.mem_append_right _ h)))))) ck_wsL_tells_g)) (goodIn_b (fun _ h => (List.mem_cons_of_mem _ (List.mem_append_left _ (List.mem_append_left _ (List.mem_append_right _ h))))) ck_wsL_tells_g)) (goodIn_b (fun _ h => (List.mem_cons_of_mem _ (List.mem_append_right _ h))) ck_wsL_tells_g)
set_option maxRecDepth 20000 in
theorem gL_tells_X6_memory : GoodIn wsL_tells (wsV RL 87 RX6 yX6_memory wsX6_memory) := goodIn_app (goodIn_of _ (by decide +kernel)) ggL_tells_X6_memory
set_option maxRecDepth 100000 in
theorem ggL_tells_L_ways : GoodIn wsL_tells wsL_ways := goodIn_2 ck_wsL_tells [(4, 12)] ck_wsL_tells_m ck_wsL_tells_g rfl
set_option maxRecDepth 20000 in
theorem gL_tells_L_ways : GoodIn wsL_tells (va_wsS RL 30 yL_ways wsL_ways) := goodIn_app (goodIn_of _ (by decide +kernel)) ggL_tells_L_ways
set_option maxRecDepth 100000 in
theorem ggL_tells_X6_rank : GoodIn wsL_tells wsX6_rank := goodIn_ca (goodIn_ca (goodIn_ca (goodIn_2 ck_wsL_tells [(4, 16), (1, 16), (1, 17), (4, 17), (4, 18), (1, 14), (4, 19), (4, 20), (4, 21), (4, 22), (2, 8), (4, 23), (5, 0), (5, 1), (2, 6), (2, 7), (2, 9), (2, 10), (5, 2), (5, 3), (5, 4), (5, 5), (5, 6)] ck_wsL_tells_m ck_wsL_tells_g rfl) (goodIn_b (fun _ h => (List.mem_cons_of_mem _ (List.mem_append_left _ (List.mem_append_left _ (List.mem_append_left _ (List.mem_append_right _ h)))))) ck_wsL_tells_g)) (goodIn_b (fun _ h => (List.mem_cons_of_mem _ (List.mem_append_left _ (List.mem_append_left _ (List.mem_append_right _ h))))) ck_wsL_tells_g)) (goodIn_b (fun _ h => (List.mem_cons_of_mem _ (List.mem_append_left _ (List.mem_append_right _ h)))) ck_wsL_tells_g)
set_option maxRecDepth 20000 in
theorem gL_tells_X6_rank : GoodIn wsL_tells (wsV RL 90 RX6 yX6_rank wsX6_rank) := goodIn_app (goodIn_of _ (by decide +kernel)) ggL_tells_X6_rank
set_option maxRecDepth 100000 in
theorem ggL_tells_X6_count : GoodIn wsL_tells wsX6_count := goodIn_ca (goodIn_ca (goodIn_ca (goodIn_2 ck_wsL_tells [(5, 10), (1, 16), (1, 17), (5, 11), (5, 12), (5, 13), (5, 14), (5, 15), (5, 16), (5, 17), (5, 18), (2, 8), (5, 19), (5, 0), (5, 2), (5, 3), (5, 4), (5, 5), (5, 6), (4, 20), (4, 21), (4, 22), (4, 23), (5, 1), (2, 6), (2, 7), (2, 9), (2, 10)] ck_wsL_tells_m ck_wsL_tells_g rfl) (goodIn_b (fun _ h => (List.mem_cons_of_mem _ (List.mem_append_left _ (List.mem_append_left _ (List.mem_append_left _ (List.mem_append_right _ h)))))) ck_wsL_tells_g)) (goodIn_b (fun _ h => (List.mem_cons_of_mem _ (List.mem_append_left _ (List.mem_append_left _ (List.mem_append_right _ h))))) ck_wsL_tells_g)) (goodIn_b (fun _ h => (List.mem_cons_of_mem _ (List.mem_append_left _ (List.mem_append_right _ h)))) ck_wsL_tells_g)
set_option maxRecDepth 20000 in
theorem gL_tells_X6_count : GoodIn wsL_tells (wsV RL 93 RX6 yX6_count wsX6_count) := goodIn_app (goodIn_of _ (by decide +kernel)) ggL_tells_X6_count
set_option maxRecDepth 100000 in
theorem ggL_tells_X6_ofMerge : GoodIn wsL_tells wsX6_ofMerge := goodIn_ca (goodIn_ca (goodIn_ca (goodIn_2 ck_wsL_tells [(5, 23), (1, 16), (6, 0), (6, 1), (6, 2), (6, 3), (2, 23), (3, 0), (3, 1), (1, 21), (3, 2), (3, 3), (3, 4), (6, 4), (6, 5), (6, 6), (6, 7), (6, 8), (6, 9), (6, 10), (6, 11), (6, 12), (6, 13), (6, 14)] ck_wsL_tells_m ck_wsL_tells_g rfl) (goodIn_b (fun _ h => (List.mem_cons_of_mem _ (List.mem_append_left _ (List.mem_append_left _ (List.mem_append_left _ (List.mem_append_right _ h)))))) ck_wsL_tells_g)) (goodIn_b (fun _ h => (List.mem_cons_of_mem _ (List.mem_append_left _ (List.mem_append_left _ (List.mem_append_right _ h))))) ck_wsL_tells_g)) (goodIn_b (fun _ h => (List.mem_cons_of_mem _ (List.mem_append_right _ h))) ck_wsL_tells_g)
set_option maxRecDepth 20000 in
theorem gL_tells_X6_ofMerge : GoodIn wsL_tells (wsV RL 96 RX6 yX6_ofMerge wsX6_ofMerge) := goodIn_app (goodIn_of _ (by decide +kernel)) ggL_tells_X6_ofMerge
theorem dL_tells_0 : decode cL_tells 0 = .ok (.aload_n 3, 1) := by decide +kernel
theorem dL_tells_1 : decode cL_tells 1 = .ok (.aload 8, 2) := by decide +kernel
theorem dL_tells_3 : decode cL_tells 3 = .ok (.bipush 10, 2) := by decide +kernel
theorem dL_tells_5 : decode cL_tells 5 = .ok (.iaload, 1) := by decide +kernel
theorem dL_tells_6 : decode cL_tells 6 = .ok (.invokestatic 12, 3) := by decide +kernel
theorem dL_tells_9 : decode cL_tells 9 = .ok (.aload 8, 2) := by decide +kernel
theorem dL_tells_11 : decode cL_tells 11 = .ok (.bipush 11, 2) := by decide +kernel
theorem dL_tells_13 : decode cL_tells 13 = .ok (.iaload, 1) := by decide +kernel
theorem dL_tells_14 : decode cL_tells 14 = .ok (.iadd, 1) := by decide +kernel
theorem dL_tells_15 : decode cL_tells 15 = .ok (.istore 10, 2) := by decide +kernel
theorem dL_tells_17 : decode cL_tells 17 = .ok (.iconst 0, 1) := by decide +kernel
theorem dL_tells_18 : decode cL_tells 18 = .ok (.istore 11, 2) := by decide +kernel
theorem dL_tells_20 : decode cL_tells 20 = .ok (.iconst 0, 1) := by decide +kernel
theorem dL_tells_21 : decode cL_tells 21 = .ok (.istore 12, 2) := by decide +kernel
theorem dL_tells_23 : decode cL_tells 23 = .ok (.iload 9, 2) := by decide +kernel
theorem dL_tells_25 : decode cL_tells 25 = .ok (.iload 9, 2) := by decide +kernel
theorem dL_tells_27 : decode cL_tells 27 = .ok (.bipush 12, 2) := by decide +kernel
theorem dL_tells_29 : decode cL_tells 29 = .ok (.ishr, 1) := by decide +kernel
theorem dL_tells_30 : decode cL_tells 30 = .ok (.iconst 2, 1) := by decide +kernel
theorem dL_tells_31 : decode cL_tells 31 = .ok (.invokestatic 63, 3) := by decide +kernel
theorem dL_tells_34 : decode cL_tells 34 = .ok (.ifCond .ne 9, 3) := by decide +kernel
theorem dL_tells_37 : decode cL_tells 37 = .ok (.sipush 1000, 3) := by decide +kernel
theorem dL_tells_40 : decode cL_tells 40 = .ok (.goto 5, 3) := by decide +kernel
theorem dL_tells_43 : decode cL_tells 43 = .ok (.bipush 12, 2) := by decide +kernel
theorem dL_tells_45 : decode cL_tells 45 = .ok (.invokestatic 63, 3) := by decide +kernel
theorem dL_tells_48 : decode cL_tells 48 = .ok (.istore 13, 2) := by decide +kernel
theorem dL_tells_50 : decode cL_tells 50 = .ok (.iconst 0, 1) := by decide +kernel
theorem dL_tells_51 : decode cL_tells 51 = .ok (.istore 14, 2) := by decide +kernel
theorem dL_tells_53 : decode cL_tells 53 = .ok (.iload 14, 2) := by decide +kernel
theorem dL_tells_55 : decode cL_tells 55 = .ok (.aload 8, 2) := by decide +kernel
theorem dL_tells_57 : decode cL_tells 57 = .ok (.iconst 3, 1) := by decide +kernel
theorem dL_tells_58 : decode cL_tells 58 = .ok (.iaload, 1) := by decide +kernel
theorem dL_tells_59 : decode cL_tells 59 = .ok (.if_icmp .ge 43, 3) := by decide +kernel
theorem dL_tells_62 : decode cL_tells 62 = .ok (.iload 11, 2) := by decide +kernel
theorem dL_tells_64 : decode cL_tells 64 = .ok (.aload 7, 2) := by decide +kernel
theorem dL_tells_66 : decode cL_tells 66 = .ok (.iload 14, 2) := by decide +kernel
theorem dL_tells_68 : decode cL_tells 68 = .ok (.iaload, 1) := by decide +kernel
theorem dL_tells_69 : decode cL_tells 69 = .ok (.iadd, 1) := by decide +kernel
theorem dL_tells_70 : decode cL_tells 70 = .ok (.istore 11, 2) := by decide +kernel
theorem dL_tells_72 : decode cL_tells 72 = .ok (.iload 12, 2) := by decide +kernel
theorem dL_tells_74 : decode cL_tells 74 = .ok (.aload 6, 2) := by decide +kernel
theorem dL_tells_76 : decode cL_tells 76 = .ok (.iload 14, 2) := by decide +kernel
theorem dL_tells_78 : decode cL_tells 78 = .ok (.iaload, 1) := by decide +kernel
theorem dL_tells_79 : decode cL_tells 79 = .ok (.iload 13, 2) := by decide +kernel
theorem dL_tells_81 : decode cL_tells 81 = .ok (.if_icmp .ge 11, 3) := by decide +kernel
theorem dL_tells_84 : decode cL_tells 84 = .ok (.aload 7, 2) := by decide +kernel
theorem dL_tells_86 : decode cL_tells 86 = .ok (.iload 14, 2) := by decide +kernel
theorem dL_tells_88 : decode cL_tells 88 = .ok (.iaload, 1) := by decide +kernel
theorem dL_tells_89 : decode cL_tells 89 = .ok (.goto 4, 3) := by decide +kernel
theorem dL_tells_92 : decode cL_tells 92 = .ok (.iconst 0, 1) := by decide +kernel
theorem dL_tells_93 : decode cL_tells 93 = .ok (.iadd, 1) := by decide +kernel
theorem dL_tells_94 : decode cL_tells 94 = .ok (.istore 12, 2) := by decide +kernel
theorem dL_tells_96 : decode cL_tells 96 = .ok (.iinc 14 1, 3) := by decide +kernel
theorem dL_tells_99 : decode cL_tells 99 = .ok (.goto (-46), 3) := by decide +kernel
theorem dL_tells_102 : decode cL_tells 102 = .ok (.aload_n 3, 1) := by decide +kernel
theorem dL_tells_103 : decode cL_tells 103 = .ok (.aload 4, 2) := by decide +kernel
theorem dL_tells_105 : decode cL_tells 105 = .ok (.aload 8, 2) := by decide +kernel
theorem dL_tells_107 : decode cL_tells 107 = .ok (.iconst 1, 1) := by decide +kernel
theorem dL_tells_108 : decode cL_tells 108 = .ok (.iconst 1, 1) := by decide +kernel
theorem dL_tells_109 : decode cL_tells 109 = .ok (.invokestatic 26, 3) := by decide +kernel
theorem dL_tells_112 : decode cL_tells 112 = .ok (.istore 14, 2) := by decide +kernel
theorem dL_tells_114 : decode cL_tells 114 = .ok (.iconst 0, 1) := by decide +kernel
theorem dL_tells_115 : decode cL_tells 115 = .ok (.istore 15, 2) := by decide +kernel
theorem dL_tells_117 : decode cL_tells 117 = .ok (.iconst 0, 1) := by decide +kernel
theorem dL_tells_118 : decode cL_tells 118 = .ok (.istore 16, 2) := by decide +kernel
theorem dL_tells_120 : decode cL_tells 120 = .ok (.iload 16, 2) := by decide +kernel
theorem dL_tells_122 : decode cL_tells 122 = .ok (.aload 8, 2) := by decide +kernel
theorem dL_tells_124 : decode cL_tells 124 = .ok (.bipush 10, 2) := by decide +kernel
theorem dL_tells_126 : decode cL_tells 126 = .ok (.iaload, 1) := by decide +kernel
theorem dL_tells_127 : decode cL_tells 127 = .ok (.if_icmp .ge 31, 3) := by decide +kernel
theorem dL_tells_130 : decode cL_tells 130 = .ok (.iload 15, 2) := by decide +kernel
theorem dL_tells_132 : decode cL_tells 132 = .ok (.aload 4, 2) := by decide +kernel
theorem dL_tells_134 : decode cL_tells 134 = .ok (.iload 16, 2) := by decide +kernel
theorem dL_tells_136 : decode cL_tells 136 = .ok (.iaload, 1) := by decide +kernel
theorem dL_tells_137 : decode cL_tells 137 = .ok (.iconst 1, 1) := by decide +kernel
theorem dL_tells_138 : decode cL_tells 138 = .ok (.if_icmp .ne 10, 3) := by decide +kernel
theorem dL_tells_141 : decode cL_tells 141 = .ok (.aload_n 3, 1) := by decide +kernel
theorem dL_tells_142 : decode cL_tells 142 = .ok (.iload 16, 2) := by decide +kernel
theorem dL_tells_144 : decode cL_tells 144 = .ok (.iaload, 1) := by decide +kernel
theorem dL_tells_145 : decode cL_tells 145 = .ok (.goto 4, 3) := by decide +kernel
theorem dL_tells_148 : decode cL_tells 148 = .ok (.iconst 0, 1) := by decide +kernel
theorem dL_tells_149 : decode cL_tells 149 = .ok (.iadd, 1) := by decide +kernel
theorem dL_tells_150 : decode cL_tells 150 = .ok (.istore 15, 2) := by decide +kernel
theorem dL_tells_152 : decode cL_tells 152 = .ok (.iinc 16 1, 3) := by decide +kernel
theorem dL_tells_155 : decode cL_tells 155 = .ok (.goto (-35), 3) := by decide +kernel
theorem dL_tells_158 : decode cL_tells 158 = .ok (.iconst 0, 1) := by decide +kernel
theorem dL_tells_159 : decode cL_tells 159 = .ok (.istore 16, 2) := by decide +kernel
theorem dL_tells_161 : decode cL_tells 161 = .ok (.iload 16, 2) := by decide +kernel
theorem dL_tells_163 : decode cL_tells 163 = .ok (.aload 8, 2) := by decide +kernel
theorem dL_tells_165 : decode cL_tells 165 = .ok (.bipush 11, 2) := by decide +kernel
theorem dL_tells_167 : decode cL_tells 167 = .ok (.iaload, 1) := by decide +kernel
theorem dL_tells_168 : decode cL_tells 168 = .ok (.if_icmp .ge 28, 3) := by decide +kernel
theorem dL_tells_171 : decode cL_tells 171 = .ok (.aload_n 0, 1) := by decide +kernel
theorem dL_tells_172 : decode cL_tells 172 = .ok (.iload 16, 2) := by decide +kernel
theorem dL_tells_174 : decode cL_tells 174 = .ok (.invokevirtual 75, 3) := by decide +kernel
theorem dL_tells_177 : decode cL_tells 177 = .ok (.aload 6, 2) := by decide +kernel
theorem dL_tells_179 : decode cL_tells 179 = .ok (.aload 5, 2) := by decide +kernel
theorem dL_tells_181 : decode cL_tells 181 = .ok (.iload 16, 2) := by decide +kernel
theorem dL_tells_183 : decode cL_tells 183 = .ok (.iaload, 1) := by decide +kernel
theorem dL_tells_184 : decode cL_tells 184 = .ok (.iaload, 1) := by decide +kernel
theorem dL_tells_185 : decode cL_tells 185 = .ok (.if_icmp .eq 5, 3) := by decide +kernel
theorem dL_tells_188 : decode cL_tells 188 = .ok (.iconst 0, 1) := by decide +kernel
theorem dL_tells_189 : decode cL_tells 189 = .ok (.ireturn, 1) := by decide +kernel
theorem dL_tells_190 : decode cL_tells 190 = .ok (.iinc 16 1, 3) := by decide +kernel
theorem dL_tells_193 : decode cL_tells 193 = .ok (.goto (-32), 3) := by decide +kernel
theorem dL_tells_196 : decode cL_tells 196 = .ok (.aload_n 0, 1) := by decide +kernel
theorem dL_tells_197 : decode cL_tells 197 = .ok (.aload 8, 2) := by decide +kernel
theorem dL_tells_199 : decode cL_tells 199 = .ok (.bipush 11, 2) := by decide +kernel
theorem dL_tells_201 : decode cL_tells 201 = .ok (.iaload, 1) := by decide +kernel
theorem dL_tells_202 : decode cL_tells 202 = .ok (.invokevirtual 75, 3) := by decide +kernel
theorem dL_tells_205 : decode cL_tells 205 = .ok (.iconst (-1), 1) := by decide +kernel
theorem dL_tells_206 : decode cL_tells 206 = .ok (.if_icmp .ne 142, 3) := by decide +kernel
theorem dL_tells_209 : decode cL_tells 209 = .ok (.aload_n 0, 1) := by decide +kernel
theorem dL_tells_210 : decode cL_tells 210 = .ok (.invokevirtual 78, 3) := by decide +kernel
theorem dL_tells_213 : decode cL_tells 213 = .ok (.aload 8, 2) := by decide +kernel
theorem dL_tells_215 : decode cL_tells 215 = .ok (.iconst 2, 1) := by decide +kernel
theorem dL_tells_216 : decode cL_tells 216 = .ok (.iaload, 1) := by decide +kernel
theorem dL_tells_217 : decode cL_tells 217 = .ok (.if_icmp .ne 131, 3) := by decide +kernel
theorem dL_tells_220 : decode cL_tells 220 = .ok (.aload_n 0, 1) := by decide +kernel
theorem dL_tells_221 : decode cL_tells 221 = .ok (.invokevirtual 81, 3) := by decide +kernel
theorem dL_tells_224 : decode cL_tells 224 = .ok (.aload 8, 2) := by decide +kernel
theorem dL_tells_226 : decode cL_tells 226 = .ok (.iconst 5, 1) := by decide +kernel
theorem dL_tells_227 : decode cL_tells 227 = .ok (.iaload, 1) := by decide +kernel
theorem dL_tells_228 : decode cL_tells 228 = .ok (.if_icmp .ne 120, 3) := by decide +kernel
theorem dL_tells_231 : decode cL_tells 231 = .ok (.aload_n 0, 1) := by decide +kernel
theorem dL_tells_232 : decode cL_tells 232 = .ok (.invokevirtual 84, 3) := by decide +kernel
theorem dL_tells_235 : decode cL_tells 235 = .ok (.aload 8, 2) := by decide +kernel
theorem dL_tells_237 : decode cL_tells 237 = .ok (.iconst 2, 1) := by decide +kernel
theorem dL_tells_238 : decode cL_tells 238 = .ok (.iaload, 1) := by decide +kernel
theorem dL_tells_239 : decode cL_tells 239 = .ok (.ifCond .ne 23, 3) := by decide +kernel
theorem dL_tells_242 : decode cL_tells 242 = .ok (.aload 8, 2) := by decide +kernel
theorem dL_tells_244 : decode cL_tells 244 = .ok (.iconst 5, 1) := by decide +kernel
theorem dL_tells_245 : decode cL_tells 245 = .ok (.iaload, 1) := by decide +kernel
theorem dL_tells_246 : decode cL_tells 246 = .ok (.ifCond .ne 16, 3) := by decide +kernel
theorem dL_tells_249 : decode cL_tells 249 = .ok (.aload 8, 2) := by decide +kernel
theorem dL_tells_251 : decode cL_tells 251 = .ok (.bipush 10, 2) := by decide +kernel
theorem dL_tells_253 : decode cL_tells 253 = .ok (.iaload, 1) := by decide +kernel
theorem dL_tells_254 : decode cL_tells 254 = .ok (.iconst 2, 1) := by decide +kernel
theorem dL_tells_255 : decode cL_tells 255 = .ok (.if_icmp .ge 7, 3) := by decide +kernel
theorem dL_tells_258 : decode cL_tells 258 = .ok (.iconst 1, 1) := by decide +kernel
theorem dL_tells_259 : decode cL_tells 259 = .ok (.goto 4, 3) := by decide +kernel
theorem dL_tells_262 : decode cL_tells 262 = .ok (.iconst 0, 1) := by decide +kernel
theorem dL_tells_263 : decode cL_tells 263 = .ok (.if_icmp .ne 85, 3) := by decide +kernel
theorem dL_tells_266 : decode cL_tells 266 = .ok (.aload_n 0, 1) := by decide +kernel
theorem dL_tells_267 : decode cL_tells 267 = .ok (.iconst 0, 1) := by decide +kernel
theorem dL_tells_268 : decode cL_tells 268 = .ok (.invokevirtual 87, 3) := by decide +kernel
theorem dL_tells_271 : decode cL_tells 271 = .ok (.aload 8, 2) := by decide +kernel
theorem dL_tells_273 : decode cL_tells 273 = .ok (.iconst 0, 1) := by decide +kernel
theorem dL_tells_274 : decode cL_tells 274 = .ok (.iaload, 1) := by decide +kernel
theorem dL_tells_275 : decode cL_tells 275 = .ok (.if_icmp .ne 73, 3) := by decide +kernel
theorem dL_tells_278 : decode cL_tells 278 = .ok (.aload_n 0, 1) := by decide +kernel
theorem dL_tells_279 : decode cL_tells 279 = .ok (.iconst 1, 1) := by decide +kernel
theorem dL_tells_280 : decode cL_tells 280 = .ok (.invokevirtual 87, 3) := by decide +kernel
theorem dL_tells_283 : decode cL_tells 283 = .ok (.aload 8, 2) := by decide +kernel
theorem dL_tells_285 : decode cL_tells 285 = .ok (.iconst 2, 1) := by decide +kernel
theorem dL_tells_286 : decode cL_tells 286 = .ok (.iaload, 1) := by decide +kernel
theorem dL_tells_287 : decode cL_tells 287 = .ok (.iconst 1, 1) := by decide +kernel
theorem dL_tells_288 : decode cL_tells 288 = .ok (.if_icmp .ne 11, 3) := by decide +kernel
theorem dL_tells_291 : decode cL_tells 291 = .ok (.aload 8, 2) := by decide +kernel
theorem dL_tells_293 : decode cL_tells 293 = .ok (.bipush 11, 2) := by decide +kernel
theorem dL_tells_295 : decode cL_tells 295 = .ok (.iaload, 1) := by decide +kernel
theorem dL_tells_296 : decode cL_tells 296 = .ok (.goto 19, 3) := by decide +kernel
theorem dL_tells_299 : decode cL_tells 299 = .ok (.aload 8, 2) := by decide +kernel
theorem dL_tells_301 : decode cL_tells 301 = .ok (.iconst 5, 1) := by decide +kernel
theorem dL_tells_302 : decode cL_tells 302 = .ok (.iaload, 1) := by decide +kernel
theorem dL_tells_303 : decode cL_tells 303 = .ok (.iconst 1, 1) := by decide +kernel
theorem dL_tells_304 : decode cL_tells 304 = .ok (.if_icmp .ne 10, 3) := by decide +kernel
theorem dL_tells_307 : decode cL_tells 307 = .ok (.iload 14, 2) := by decide +kernel
theorem dL_tells_309 : decode cL_tells 309 = .ok (.iconst 1, 1) := by decide +kernel
theorem dL_tells_310 : decode cL_tells 310 = .ok (.iadd, 1) := by decide +kernel
theorem dL_tells_311 : decode cL_tells 311 = .ok (.goto 4, 3) := by decide +kernel
theorem dL_tells_314 : decode cL_tells 314 = .ok (.iconst 0, 1) := by decide +kernel
theorem dL_tells_315 : decode cL_tells 315 = .ok (.if_icmp .ne 33, 3) := by decide +kernel
theorem dL_tells_318 : decode cL_tells 318 = .ok (.aload_n 0, 1) := by decide +kernel
theorem dL_tells_319 : decode cL_tells 319 = .ok (.iconst 2, 1) := by decide +kernel
theorem dL_tells_320 : decode cL_tells 320 = .ok (.invokevirtual 87, 3) := by decide +kernel
theorem dL_tells_323 : decode cL_tells 323 = .ok (.aload 8, 2) := by decide +kernel
theorem dL_tells_325 : decode cL_tells 325 = .ok (.iconst 0, 1) := by decide +kernel
theorem dL_tells_326 : decode cL_tells 326 = .ok (.iaload, 1) := by decide +kernel
theorem dL_tells_327 : decode cL_tells 327 = .ok (.invokestatic 30, 3) := by decide +kernel
theorem dL_tells_330 : decode cL_tells 330 = .ok (.if_icmp .ne 18, 3) := by decide +kernel
theorem dL_tells_333 : decode cL_tells 333 = .ok (.aload_n 0, 1) := by decide +kernel
theorem dL_tells_334 : decode cL_tells 334 = .ok (.iload 13, 2) := by decide +kernel
theorem dL_tells_336 : decode cL_tells 336 = .ok (.invokevirtual 90, 3) := by decide +kernel
theorem dL_tells_339 : decode cL_tells 339 = .ok (.iload 12, 2) := by decide +kernel
theorem dL_tells_341 : decode cL_tells 341 = .ok (.if_icmp .ne 7, 3) := by decide +kernel
theorem dL_tells_344 : decode cL_tells 344 = .ok (.iconst 1, 1) := by decide +kernel
theorem dL_tells_345 : decode cL_tells 345 = .ok (.goto 4, 3) := by decide +kernel
theorem dL_tells_348 : decode cL_tells 348 = .ok (.iconst 0, 1) := by decide +kernel
theorem dL_tells_349 : decode cL_tells 349 = .ok (.istore 16, 2) := by decide +kernel
theorem dL_tells_351 : decode cL_tells 351 = .ok (.iload 16, 2) := by decide +kernel
theorem dL_tells_353 : decode cL_tells 353 = .ok (.ifCond .eq 91, 3) := by decide +kernel
theorem dL_tells_356 : decode cL_tells 356 = .ok (.aload_n 0, 1) := by decide +kernel
theorem dL_tells_357 : decode cL_tells 357 = .ok (.iconst 0, 1) := by decide +kernel
theorem dL_tells_358 : decode cL_tells 358 = .ok (.invokevirtual 93, 3) := by decide +kernel
theorem dL_tells_361 : decode cL_tells 361 = .ok (.aload 8, 2) := by decide +kernel
theorem dL_tells_363 : decode cL_tells 363 = .ok (.iconst 3, 1) := by decide +kernel
theorem dL_tells_364 : decode cL_tells 364 = .ok (.iaload, 1) := by decide +kernel
theorem dL_tells_365 : decode cL_tells 365 = .ok (.if_icmp .ne 79, 3) := by decide +kernel
theorem dL_tells_368 : decode cL_tells 368 = .ok (.aload_n 0, 1) := by decide +kernel
theorem dL_tells_369 : decode cL_tells 369 = .ok (.iconst 1, 1) := by decide +kernel
theorem dL_tells_370 : decode cL_tells 370 = .ok (.invokevirtual 93, 3) := by decide +kernel
theorem dL_tells_373 : decode cL_tells 373 = .ok (.iload 10, 2) := by decide +kernel
theorem dL_tells_375 : decode cL_tells 375 = .ok (.if_icmp .ne 69, 3) := by decide +kernel
theorem dL_tells_378 : decode cL_tells 378 = .ok (.aload_n 0, 1) := by decide +kernel
theorem dL_tells_379 : decode cL_tells 379 = .ok (.iconst 2, 1) := by decide +kernel
theorem dL_tells_380 : decode cL_tells 380 = .ok (.invokevirtual 93, 3) := by decide +kernel
theorem dL_tells_383 : decode cL_tells 383 = .ok (.iload 11, 2) := by decide +kernel
theorem dL_tells_385 : decode cL_tells 385 = .ok (.if_icmp .ne 59, 3) := by decide +kernel
theorem dL_tells_388 : decode cL_tells 388 = .ok (.aload_n 0, 1) := by decide +kernel
theorem dL_tells_389 : decode cL_tells 389 = .ok (.iconst 3, 1) := by decide +kernel
theorem dL_tells_390 : decode cL_tells 390 = .ok (.invokevirtual 93, 3) := by decide +kernel
theorem dL_tells_393 : decode cL_tells 393 = .ok (.aload 8, 2) := by decide +kernel
theorem dL_tells_395 : decode cL_tells 395 = .ok (.bipush 7, 2) := by decide +kernel
theorem dL_tells_397 : decode cL_tells 397 = .ok (.iaload, 1) := by decide +kernel
theorem dL_tells_398 : decode cL_tells 398 = .ok (.if_icmp .ne 46, 3) := by decide +kernel
theorem dL_tells_401 : decode cL_tells 401 = .ok (.aload_n 0, 1) := by decide +kernel
theorem dL_tells_402 : decode cL_tells 402 = .ok (.iconst 4, 1) := by decide +kernel
theorem dL_tells_403 : decode cL_tells 403 = .ok (.invokevirtual 93, 3) := by decide +kernel
theorem dL_tells_406 : decode cL_tells 406 = .ok (.aload 8, 2) := by decide +kernel
theorem dL_tells_408 : decode cL_tells 408 = .ok (.bipush 8, 2) := by decide +kernel
theorem dL_tells_410 : decode cL_tells 410 = .ok (.iaload, 1) := by decide +kernel
theorem dL_tells_411 : decode cL_tells 411 = .ok (.if_icmp .ne 33, 3) := by decide +kernel
theorem dL_tells_414 : decode cL_tells 414 = .ok (.aload_n 0, 1) := by decide +kernel
theorem dL_tells_415 : decode cL_tells 415 = .ok (.iconst 5, 1) := by decide +kernel
theorem dL_tells_416 : decode cL_tells 416 = .ok (.invokevirtual 93, 3) := by decide +kernel
theorem dL_tells_419 : decode cL_tells 419 = .ok (.aload 8, 2) := by decide +kernel
theorem dL_tells_421 : decode cL_tells 421 = .ok (.bipush 9, 2) := by decide +kernel
theorem dL_tells_423 : decode cL_tells 423 = .ok (.iaload, 1) := by decide +kernel
theorem dL_tells_424 : decode cL_tells 424 = .ok (.if_icmp .ne 20, 3) := by decide +kernel
theorem dL_tells_427 : decode cL_tells 427 = .ok (.aload_n 0, 1) := by decide +kernel
theorem dL_tells_428 : decode cL_tells 428 = .ok (.bipush 6, 2) := by decide +kernel
theorem dL_tells_430 : decode cL_tells 430 = .ok (.invokevirtual 93, 3) := by decide +kernel
theorem dL_tells_433 : decode cL_tells 433 = .ok (.aload 8, 2) := by decide +kernel
theorem dL_tells_435 : decode cL_tells 435 = .ok (.iconst 4, 1) := by decide +kernel
theorem dL_tells_436 : decode cL_tells 436 = .ok (.iaload, 1) := by decide +kernel
theorem dL_tells_437 : decode cL_tells 437 = .ok (.if_icmp .ne 7, 3) := by decide +kernel
theorem dL_tells_440 : decode cL_tells 440 = .ok (.iconst 1, 1) := by decide +kernel
theorem dL_tells_441 : decode cL_tells 441 = .ok (.goto 4, 3) := by decide +kernel
theorem dL_tells_444 : decode cL_tells 444 = .ok (.iconst 0, 1) := by decide +kernel
theorem dL_tells_445 : decode cL_tells 445 = .ok (.istore 16, 2) := by decide +kernel
theorem dL_tells_447 : decode cL_tells 447 = .ok (.bipush (-6), 2) := by decide +kernel
theorem dL_tells_449 : decode cL_tells 449 = .ok (.istore 17, 2) := by decide +kernel
theorem dL_tells_451 : decode cL_tells 451 = .ok (.iload 16, 2) := by decide +kernel
theorem dL_tells_453 : decode cL_tells 453 = .ok (.ifCond .eq 109, 3) := by decide +kernel
theorem dL_tells_456 : decode cL_tells 456 = .ok (.aload_n 0, 1) := by decide +kernel
theorem dL_tells_457 : decode cL_tells 457 = .ok (.iconst 0, 1) := by decide +kernel
theorem dL_tells_458 : decode cL_tells 458 = .ok (.invokevirtual 96, 3) := by decide +kernel
theorem dL_tells_461 : decode cL_tells 461 = .ok (.aload 8, 2) := by decide +kernel
theorem dL_tells_463 : decode cL_tells 463 = .ok (.iconst 5, 1) := by decide +kernel
theorem dL_tells_464 : decode cL_tells 464 = .ok (.iaload, 1) := by decide +kernel
theorem dL_tells_465 : decode cL_tells 465 = .ok (.iconst 1, 1) := by decide +kernel
theorem dL_tells_466 : decode cL_tells 466 = .ok (.if_icmp .ne 11, 3) := by decide +kernel
theorem dL_tells_469 : decode cL_tells 469 = .ok (.aload 8, 2) := by decide +kernel
theorem dL_tells_471 : decode cL_tells 471 = .ok (.bipush 6, 2) := by decide +kernel
theorem dL_tells_473 : decode cL_tells 473 = .ok (.iaload, 1) := by decide +kernel
theorem dL_tells_474 : decode cL_tells 474 = .ok (.goto 5, 3) := by decide +kernel
theorem dL_tells_477 : decode cL_tells 477 = .ok (.iload 17, 2) := by decide +kernel
theorem dL_tells_479 : decode cL_tells 479 = .ok (.if_icmp .ne 83, 3) := by decide +kernel
theorem dL_tells_482 : decode cL_tells 482 = .ok (.aload_n 0, 1) := by decide +kernel
theorem dL_tells_483 : decode cL_tells 483 = .ok (.iconst 1, 1) := by decide +kernel
theorem dL_tells_484 : decode cL_tells 484 = .ok (.invokevirtual 96, 3) := by decide +kernel
theorem dL_tells_487 : decode cL_tells 487 = .ok (.aload 8, 2) := by decide +kernel
theorem dL_tells_489 : decode cL_tells 489 = .ok (.iconst 5, 1) := by decide +kernel
theorem dL_tells_490 : decode cL_tells 490 = .ok (.iaload, 1) := by decide +kernel
theorem dL_tells_491 : decode cL_tells 491 = .ok (.iconst 1, 1) := by decide +kernel
theorem dL_tells_492 : decode cL_tells 492 = .ok (.if_icmp .ne 8, 3) := by decide +kernel
theorem dL_tells_495 : decode cL_tells 495 = .ok (.iload 14, 2) := by decide +kernel
theorem dL_tells_497 : decode cL_tells 497 = .ok (.goto 5, 3) := by decide +kernel
theorem dL_tells_500 : decode cL_tells 500 = .ok (.iload 17, 2) := by decide +kernel
theorem dL_tells_502 : decode cL_tells 502 = .ok (.if_icmp .ne 60, 3) := by decide +kernel
theorem dL_tells_505 : decode cL_tells 505 = .ok (.aload_n 0, 1) := by decide +kernel
theorem dL_tells_506 : decode cL_tells 506 = .ok (.iconst 2, 1) := by decide +kernel
theorem dL_tells_507 : decode cL_tells 507 = .ok (.invokevirtual 96, 3) := by decide +kernel
theorem dL_tells_510 : decode cL_tells 510 = .ok (.aload 8, 2) := by decide +kernel
theorem dL_tells_512 : decode cL_tells 512 = .ok (.iconst 5, 1) := by decide +kernel
theorem dL_tells_513 : decode cL_tells 513 = .ok (.iaload, 1) := by decide +kernel
theorem dL_tells_514 : decode cL_tells 514 = .ok (.iconst 1, 1) := by decide +kernel
theorem dL_tells_515 : decode cL_tells 515 = .ok (.if_icmp .ne 15, 3) := by decide +kernel
theorem dL_tells_518 : decode cL_tells 518 = .ok (.aload_n 3, 1) := by decide +kernel
theorem dL_tells_519 : decode cL_tells 519 = .ok (.aload 8, 2) := by decide +kernel
theorem dL_tells_521 : decode cL_tells 521 = .ok (.bipush 10, 2) := by decide +kernel
theorem dL_tells_523 : decode cL_tells 523 = .ok (.iaload, 1) := by decide +kernel
theorem dL_tells_524 : decode cL_tells 524 = .ok (.iconst 1, 1) := by decide +kernel
theorem dL_tells_525 : decode cL_tells 525 = .ok (.isub, 1) := by decide +kernel
theorem dL_tells_526 : decode cL_tells 526 = .ok (.iaload, 1) := by decide +kernel
theorem dL_tells_527 : decode cL_tells 527 = .ok (.goto 5, 3) := by decide +kernel
theorem dL_tells_530 : decode cL_tells 530 = .ok (.iload 17, 2) := by decide +kernel
theorem dL_tells_532 : decode cL_tells 532 = .ok (.if_icmp .ne 30, 3) := by decide +kernel
theorem dL_tells_535 : decode cL_tells 535 = .ok (.aload_n 0, 1) := by decide +kernel
theorem dL_tells_536 : decode cL_tells 536 = .ok (.iconst 3, 1) := by decide +kernel
theorem dL_tells_537 : decode cL_tells 537 = .ok (.invokevirtual 96, 3) := by decide +kernel
theorem dL_tells_540 : decode cL_tells 540 = .ok (.aload 8, 2) := by decide +kernel
theorem dL_tells_542 : decode cL_tells 542 = .ok (.iconst 5, 1) := by decide +kernel
theorem dL_tells_543 : decode cL_tells 543 = .ok (.iaload, 1) := by decide +kernel
theorem dL_tells_544 : decode cL_tells 544 = .ok (.iconst 1, 1) := by decide +kernel
theorem dL_tells_545 : decode cL_tells 545 = .ok (.if_icmp .ne 8, 3) := by decide +kernel
theorem dL_tells_548 : decode cL_tells 548 = .ok (.iload 15, 2) := by decide +kernel
theorem dL_tells_550 : decode cL_tells 550 = .ok (.goto 5, 3) := by decide +kernel
theorem dL_tells_553 : decode cL_tells 553 = .ok (.iload 17, 2) := by decide +kernel
theorem dL_tells_555 : decode cL_tells 555 = .ok (.if_icmp .ne 7, 3) := by decide +kernel
theorem dL_tells_558 : decode cL_tells 558 = .ok (.iconst 1, 1) := by decide +kernel
theorem dL_tells_559 : decode cL_tells 559 = .ok (.goto 4, 3) := by decide +kernel
theorem dL_tells_562 : decode cL_tells 562 = .ok (.iconst 0, 1) := by decide +kernel
theorem dL_tells_563 : decode cL_tells 563 = .ok (.ireturn, 1) := by decide +kernel
def ck_wsL_law : List (List Cond) := [wsL_law_r1, wsL_law_r2, wsL_law_r3, wsL_law_r4, wsL_law_r5, wsL_law_r6, wsL_law_r7, wsL_law_r8, wsL_law_r9, wsL_law_r10, wsL_law_r11, wsL_law_r12, wsL_law_r13, wsL_law_r14, wsL_law_r15, wsL_law_r16, wsL_law_r17, wsL_law_r18, wsL_law_r19, wsL_law_r20, wsL_law_r21]
theorem ck_wsL_law_m : ∀ c ∈ ck_wsL_law, ∀ w ∈ c, w ∈ wsL_law := List.forall_mem_cons.mpr ⟨fun _ h => (List.mem_append_left _ (List.mem_append_left _ (List.mem_append_left _ (List.mem_append_left _ (List.mem_append_left _ (List.mem_append_left _ (List.mem_append_left _ (List.mem_append_left _ (List.mem_append_left _ h))))))))), List.forall_mem_cons.mpr ⟨fun _ h => (List.mem_append_left _ (List.mem_append_left _ (List.mem_append_left _ (List.mem_append_left _ (List.mem_append_left _ (List.mem_append_left _ (List.mem_append_left _ (List.mem_append_left _ (List.mem_append_right _ (List.mem_append_left _ h)))))))))), List.forall_mem_cons.mpr ⟨fun _ h => (List.mem_append_left _ (List.mem_append_left _ (List.mem_append_left _ (List.mem_append_left _ (List.mem_append_left _ (List.mem_append_left _ (List.mem_append_left _ (List.mem_append_left _ (List.mem_append_right _ (List.mem_append_right _ (List.mem_append_left _ h))))))))))), List.forall_mem_cons.mpr ⟨fun _ h => (List.mem_append_left _ (List.mem_append_left _ (List.mem_append_left _ (List.mem_append_left _ (List.mem_append_left _ (List.mem_append_left _ (List.mem_append_left _ (List.mem_append_left _ (List.mem_append_right _ (List.mem_append_right _ (List.mem_append_right _ (List.mem_append_left _ h)))))))))))), List.forall_mem_cons.mpr ⟨fun _ h => (List.mem_append_left _ (List.mem_append_left _ (List.mem_append_left _ (List.mem_append_left _ (List.mem_append_left _ (List.mem_append_left _ (List.mem_append_left _ (List.mem_append_left _ (List.mem_append_right _ (List.mem_append_right _ (List.mem_append_right _ (List.mem_append_right _ (List.mem_append_left _ h))))))))))))), List.forall_mem_cons.mpr ⟨fun _ h => (List.mem_append_left _ (List.mem_append_left _ (List.mem_append_left _ (List.mem_append_left _ (List.mem_append_left _ (List.mem_append_left _ (List.mem_append_left _ (List.mem_append_left _ (List.mem_append_right _ (List.mem_append_right _ (List.mem_append_right _ (List.mem_append_right _ (List.mem_append_right _ (List.mem_append_left _ h)))))))))))))), List.forall_mem_cons.mpr ⟨fun _ h => (List.mem_append_left _ (List.mem_append_left _ (List.mem_append_left _ (List.mem_append_left _ (List.mem_append_left _ (List.mem_append_left _ (List.mem_append_left _ (List.mem_append_left _ (List.mem_append_right _ (List.mem_append_right _ (List.mem_append_right _ (List.mem_append_right _ (List.mem_append_right _ (List.mem_append_right _ (List.mem_append_left _ h))))))))))))))), List.forall_mem_cons.mpr ⟨fun _ h => (List.mem_append_left _ (List.mem_append_left _ (List.mem_append_left _ (List.mem_append_left _ (List.mem_append_left _ (List.mem_append_left _ (List.mem_append_left _ (List.mem_append_left _ (List.mem_append_right _ (List.mem_append_right _ (List.mem_append_right _ (List.mem_append_right _ (List.mem_append_right _ (List.mem_append_right _ (List.mem_append_right _ (List.mem_append_left _ h)))))))))))))))), List.forall_mem_cons.mpr ⟨fun _ h => (List.mem_append_left _ (List.mem_append_left _ (List.mem_append_left _ (List.mem_append_left _ (List.mem_append_left _ (List.mem_append_left _ (List.mem_append_left _ (List.mem_append_left _ (List.mem_append_right _ (List.mem_append_right _ (List.mem_append_right _ (List.mem_append_right _ (List.mem_append_right _ (List.mem_append_right _ (List.mem_append_right _ (List.mem_append_right _ (List.mem_append_left _ h))))))))))))))))), List.forall_mem_cons.mpr ⟨fun _ h => (List.mem_append_left _ (List.mem_append_left _ (List.mem_append_left _ (List.mem_append_left _ (List.mem_append_left _ (List.mem_append_left _ (List.mem_append_left _ (List.mem_append_left _ (List.mem_append_right _ (List.mem_append_right _ (List.mem_append_right _ (List.mem_append_right _ (List.mem_append_right _ (List.mem_append_right _ (List.mem_append_right _ (List.mem_append_right _ (List.mem_append_right _ (List.mem_append_left _ h)))))))))))))))))), List.forall_mem_cons.mpr ⟨fun _ h => (List.mem_append_left _ (List.mem_append_left _ (List.mem_append_left _ (List.mem_append_left _ (List.mem_append_left _ (List.mem_append_left _ (List.mem_append_left _ (List.mem_append_left _ (List.mem_append_right _ (List.mem_append_right _ (List.mem_append_right _ (List.mem_append_right _ (List.mem_append_right _ (List.mem_append_right _ (List.mem_append_right _ (List.mem_append_right _ (List.mem_append_right _ (List.mem_append_right _ (List.mem_append_left _ h))))))))))))))))))), List.forall_mem_cons.mpr ⟨fun _ h => (List.mem_append_left _ (List.mem_append_left _ (List.mem_append_left _ (List.mem_append_left _ (List.mem_append_left _ (List.mem_append_left _ (List.mem_append_left _ (List.mem_append_left _ (List.mem_append_right _ (List.mem_append_right _ (List.mem_append_right _ (List.mem_append_right _ (List.mem_append_right _ (List.mem_append_right _ (List.mem_append_right _ (List.mem_append_right _ (List.mem_append_right _ (List.mem_append_right _ (List.mem_append_right _ (List.mem_append_left _ h)))))))))))))))))))), List.forall_mem_cons.mpr ⟨fun _ h => (List.mem_append_left _ (List.mem_append_left _ (List.mem_append_left _ (List.mem_append_left _ (List.mem_append_left _ (List.mem_append_left _ (List.mem_append_left _ (List.mem_append_left _ (List.mem_append_right _ (List.mem_append_right _ (List.mem_append_right _ (List.mem_append_right _ (List.mem_append_right _ (List.mem_append_right _ (List.mem_append_right _ (List.mem_append_right _ (List.mem_append_right _ (List.mem_append_right _ (List.mem_append_right _ (List.mem_append_right _ (List.mem_append_left _ h))))))))))))))))))))), List.forall_mem_cons.mpr ⟨fun _ h => (List.mem_append_left _ (List.mem_append_left _ (List.mem_append_left _ (List.mem_append_left _ (List.mem_append_left _ (List.mem_append_left _ (List.mem_append_left _ (List.mem_append_left _ (List.mem_append_right _ (List.mem_append_right _ (List.mem_append_right _ (List.mem_append_right _ (List.mem_append_right _ (List.mem_append_right _ (List.mem_append_right _ (List.mem_append_right _ (List.mem_append_right _ (List.mem_append_right _ (List.mem_append_right _ (List.mem_append_right _ (List.mem_append_right _ (List.mem_append_left _ h)))))))))))))))))))))), List.forall_mem_cons.mpr ⟨fun _ h => (List.mem_append_left _ (List.mem_append_left _ (List.mem_append_left _ (List.mem_append_left _ (List.mem_append_left _ (List.mem_append_left _ (List.mem_append_left _ (List.mem_append_left _ (List.mem_append_right _ (List.mem_append_right _ (List.mem_append_right _ (List.mem_append_right _ (List.mem_append_right _ (List.mem_append_right _ (List.mem_append_right _ (List.mem_append_right _ (List.mem_append_right _ (List.mem_append_right _ (List.mem_append_right _ (List.mem_append_right _ (List.mem_append_right _ (List.mem_append_right _ (List.mem_append_left _ h))))))))))))))))))))))), List.forall_mem_cons.mpr ⟨fun _ h => (List.mem_append_left _ (List.mem_append_left _ (List.mem_append_left _ (List.mem_append_left _ (List.mem_append_left _ (List.mem_append_left _ (List.mem_append_left _ (List.mem_append_left _ (List.mem_append_right _ (List.mem_append_right _ (List.mem_append_right _ (List.mem_append_right _ (List.mem_append_right _ (List.mem_append_right _ (List.mem_append_right _ (List.mem_append_right _ (List.mem_append_right _ (List.mem_append_right _ (List.mem_append_right _ (List.mem_append_right _ (List.mem_append_right _ (List.mem_append_right _ (List.mem_append_right _ (List.mem_append_left _ h)))))))))))))))))))))))), List.forall_mem_cons.mpr ⟨fun _ h => (List.mem_append_left _ (List.mem_append_left _ (List.mem_append_left _ (List.mem_append_left _ (List.mem_append_left _ (List.mem_append_left _ (List.mem_append_left _ (List.mem_append_left _ (List.mem_append_right _ (List.mem_append_right _ (List.mem_append_right _ (List.mem_append_right _ (List.mem_append_right _ (List.mem_append_right _ (List.mem_append_right _ (List.mem_append_right _ (List.mem_append_right _ (List.mem_append_right _ (List.mem_append_right _ (List.mem_append_right _ (List.mem_append_right _ (List.mem_append_right _ (List.mem_append_right _ (List.mem_append_right _ (List.mem_append_left _ h))))))))))))))))))))))))), List.forall_mem_cons.mpr ⟨fun _ h => (List.mem_append_left _ (List.mem_append_left _ (List.mem_append_left _ (List.mem_append_left _ (List.mem_append_left _ (List.mem_append_left _ (List.mem_append_left _ (List.mem_append_left _ (List.mem_append_right _ (List.mem_append_right _ (List.mem_append_right _ (List.mem_append_right _ (List.mem_append_right _ (List.mem_append_right _ (List.mem_append_right _ (List.mem_append_right _ (List.mem_append_right _ (List.mem_append_right _ (List.mem_append_right _ (List.mem_append_right _ (List.mem_append_right _ (List.mem_append_right _ (List.mem_append_right _ (List.mem_append_right _ (List.mem_append_right _ (List.mem_append_left _ h)))))))))))))))))))))))))), List.forall_mem_cons.mpr ⟨fun _ h => (List.mem_append_left _ (List.mem_append_left _ (List.mem_append_left _ (List.mem_append_left _ (List.mem_append_left _ (List.mem_append_left _ (List.mem_append_left _ (List.mem_append_left _ (List.mem_append_right _ (List.mem_append_right _ (List.mem_append_right _ (List.mem_append_right _ (List.mem_append_right _ (List.mem_append_right _ (List.mem_append_right _ (List.mem_append_right _ (List.mem_append_right _ (List.mem_append_right _ (List.mem_append_right _ (List.mem_append_right _ (List.mem_append_right _ (List.mem_append_right _ (List.mem_append_right _ (List.mem_append_right _ (List.mem_append_right _ (List.mem_append_right _ (List.mem_append_left _ h))))))))))))))))))))))))))), List.forall_mem_cons.mpr ⟨fun _ h => (List.mem_append_left _ (List.mem_append_left _ (List.mem_append_left _ (List.mem_append_left _ (List.mem_append_left _ (List.mem_append_left _ (List.mem_append_left _ (List.mem_append_left _ (List.mem_append_right _ (List.mem_append_right _ (List.mem_append_right _ (List.mem_append_right _ (List.mem_append_right _ (List.mem_append_right _ (List.mem_append_right _ (List.mem_append_right _ (List.mem_append_right _ (List.mem_append_right _ (List.mem_append_right _ (List.mem_append_right _ (List.mem_append_right _ (List.mem_append_right _ (List.mem_append_right _ (List.mem_append_right _ (List.mem_append_right _ (List.mem_append_right _ (List.mem_append_right _ (List.mem_append_left _ h)))))))))))))))))))))))))))), List.forall_mem_cons.mpr ⟨fun _ h => (List.mem_append_left _ (List.mem_append_left _ (List.mem_append_left _ (List.mem_append_left _ (List.mem_append_left _ (List.mem_append_left _ (List.mem_append_left _ (List.mem_append_left _ (List.mem_append_right _ (List.mem_append_right _ (List.mem_append_right _ (List.mem_append_right _ (List.mem_append_right _ (List.mem_append_right _ (List.mem_append_right _ (List.mem_append_right _ (List.mem_append_right _ (List.mem_append_right _ (List.mem_append_right _ (List.mem_append_right _ (List.mem_append_right _ (List.mem_append_right _ (List.mem_append_right _ (List.mem_append_right _ (List.mem_append_right _ (List.mem_append_right _ (List.mem_append_right _ (List.mem_append_right _ h)))))))))))))))))))))))))))), fun _ h => absurd h List.not_mem_nil⟩⟩⟩⟩⟩⟩⟩⟩⟩⟩⟩⟩⟩⟩⟩⟩⟩⟩⟩⟩⟩
set_option maxRecDepth 100000 in
theorem ck_wsL_law_g : ∀ w ∈ wsL_law, goodWord w = true := List.all_eq_true.mp (by decide +kernel)
set_option maxRecDepth 100000 in
theorem ggL_law_X6_init : GoodIn wsL_law wsX6_init := goodIn_ca (goodIn_ca (goodIn_ca (goodIn_ca (goodIn_ca (goodIn_ca (goodIn_ca (goodIn_2 ck_wsL_law [(0, 6), (0, 7), (0, 8), (0, 9), (0, 10), (0, 11), (0, 12), (0, 13), (0, 14), (0, 15), (0, 16), (0, 17), (0, 18), (0, 19), (0, 20), (0, 21), (0, 22), (0, 23), (1, 0), (1, 1), (1, 2), (1, 3), (1, 4), (1, 5), (1, 6), (1, 7), (1, 8), (1, 9), (1, 10), (1, 11), (1, 12), (1, 13), (1, 14), (1, 15), (1, 16), (0, 3), (1, 17), (1, 18), (1, 19), (1, 20), (1, 21), (1, 22), (1, 23), (2, 0), (2, 1), (2, 2), (2, 3), (2, 4), (2, 5), (2, 6), (2, 7), (2, 8), (2, 9), (2, 10), (2, 11), (2, 12), (2, 13), (2, 14), (2, 15), (2, 16), (2, 17), (2, 18), (2, 19)] ck_wsL_law_m ck_wsL_law_g rfl) (goodIn_b (fun _ h => (List.mem_append_left _ (List.mem_append_left _ (List.mem_append_left _ (List.mem_append_left _ (List.mem_append_left _ (List.mem_append_left _ (List.mem_append_right _ h)))))))) ck_wsL_law_g)) (goodIn_b (fun _ h => (List.mem_append_left _ (List.mem_append_left _ (List.mem_append_left _ (List.mem_append_left _ (List.mem_append_left _ (List.mem_append_left _ (List.mem_append_left _ (List.mem_append_right _ h))))))))) ck_wsL_law_g)) (goodIn_b (fun _ h => (List.mem_append_left _ (List.mem_append_left _ (List.mem_append_left _ (List.mem_append_left _ (List.mem_append_left _ (List.mem_append_right _ h))))))) ck_wsL_law_g)) (goodIn_b (fun _ h => (List.mem_append_left _ (List.mem_append_left _ (List.mem_append_left _ (List.mem_append_left _ (List.mem_append_right _ h)))))) ck_wsL_law_g)) (goodIn_b (fun _ h => (List.mem_append_left _ (List.mem_append_left _ (List.mem_append_left _ (List.mem_append_right _ h))))) ck_wsL_law_g)) (goodIn_b (fun _ h => (List.mem_append_left _ (List.mem_append_left _ (List.mem_append_right _ h)))) ck_wsL_law_g)) (goodIn_b (fun _ h => (List.mem_append_left _ (List.mem_append_right _ h))) ck_wsL_law_g)
set_option maxRecDepth 20000 in
theorem gL_law_X6_init : GoodIn wsL_law (wsX6_init) := ggL_law_X6_init
set_option maxRecDepth 100000 in
theorem ggL_law_L_cell : GoodIn wsL_law wsL_cell := goodIn_2 ck_wsL_law [(2, 23), (3, 0), (3, 1)] ck_wsL_law_m ck_wsL_law_g rfl
set_option maxRecDepth 20000 in
theorem gL_law_L_cell : GoodIn wsL_law (va_wsS RL 100 yL_cell wsL_cell) := goodIn_app (goodIn_of _ (by decide +kernel)) ggL_law_L_cell
set_option maxRecDepth 100000 in
theorem ggL_law_L_low : GoodIn wsL_law wsL_low := goodIn_2 ck_wsL_law [(3, 4), (3, 5)] ck_wsL_law_m ck_wsL_law_g rfl
set_option maxRecDepth 20000 in
theorem gL_law_L_low : GoodIn wsL_law (va_wsS RL 63 yL_low wsL_low) := goodIn_app (goodIn_of _ (by decide +kernel)) ggL_law_L_low
set_option maxRecDepth 100000 in
theorem ggL_law_X6_combine : GoodIn wsL_law wsX6_combine := goodIn_ca (goodIn_ca (goodIn_ca (goodIn_ca (goodIn_ca (goodIn_2 ck_wsL_law [(3, 9), (0, 13), (3, 10), (3, 11), (0, 19), (3, 12), (3, 13), (3, 14), (3, 15), (0, 18), (3, 16), (3, 17), (3, 18), (3, 19), (3, 20), (3, 21), (3, 22), (2, 12), (3, 23), (4, 0), (4, 1), (4, 2), (4, 3), (4, 4), (4, 5), (0, 12), (4, 6), (1, 10), (1, 14), (4, 7), (1, 15), (1, 16), (1, 17), (4, 8), (4, 9), (4, 10), (4, 11), (4, 12), (1, 18), (4, 13), (4, 14), (4, 15), (4, 16), (4, 17), (4, 18), (4, 19), (4, 20), (4, 21), (4, 22), (4, 23), (1, 9), (5, 0), (1, 22), (5, 1), (1, 23), (2, 0), (5, 2), (5, 3), (5, 4), (5, 5), (1, 13), (5, 6), (2, 4), (5, 7), (2, 5), (2, 6), (5, 8), (5, 9), (5, 10), (0, 2), (5, 11)] ck_wsL_law_m ck_wsL_law_g rfl) (goodIn_b (fun _ h => (List.mem_append_left _ (List.mem_append_left _ (List.mem_append_left _ (List.mem_append_left _ (List.mem_append_left _ (List.mem_append_left _ (List.mem_append_left _ (List.mem_append_right _ h))))))))) ck_wsL_law_g)) (goodIn_b (fun _ h => (List.mem_append_left _ (List.mem_append_left _ (List.mem_append_left _ (List.mem_append_left _ (List.mem_append_left _ (List.mem_append_left _ (List.mem_append_right _ h)))))))) ck_wsL_law_g)) (goodIn_b (fun _ h => (List.mem_append_left _ (List.mem_append_left _ (List.mem_append_right _ h)))) ck_wsL_law_g)) (goodIn_b (fun _ h => (List.mem_append_left _ (List.mem_append_left _ (List.mem_append_left _ (List.mem_append_left _ (List.mem_append_left _ (List.mem_append_right _ h))))))) ck_wsL_law_g)) (goodIn_b (fun _ h => (List.mem_append_left _ (List.mem_append_right _ h))) ck_wsL_law_g)
set_option maxRecDepth 20000 in
theorem gL_law_X6_combine : GoodIn wsL_law (wsV RL 103 RX6 yX6_combine wsX6_combine) := goodIn_app (goodIn_of _ (by decide +kernel)) ggL_law_X6_combine
set_option maxRecDepth 100000 in
theorem ggL_law_L_add : GoodIn wsL_law wsL_add := goodIn_2 ck_wsL_law [(5, 14), (5, 15), (5, 16), (2, 22), (5, 17), (5, 18), (5, 19), (5, 20), (5, 21), (5, 22), (5, 23)] ck_wsL_law_m ck_wsL_law_g rfl
set_option maxRecDepth 20000 in
theorem gL_law_L_add : GoodIn wsL_law (va_wsS RL 107 yL_add wsL_add) := goodIn_app (goodIn_of _ (by decide +kernel)) ggL_law_L_add
set_option maxRecDepth 100000 in
theorem ggL_law_X6_add : GoodIn wsL_law wsX6_add := goodIn_ca (goodIn_ca (goodIn_ca (goodIn_ca (goodIn_ca (goodIn_2 ck_wsL_law [(6, 3), (0, 13), (6, 4), (3, 10), (0, 19), (6, 5), (6, 6), (0, 2), (6, 7), (6, 8), (6, 9), (6, 10), (1, 9), (6, 11), (5, 2), (3, 13), (3, 14), (3, 15), (0, 18), (3, 16), (3, 17), (3, 18), (3, 19), (3, 20), (3, 21), (3, 22), (2, 12), (3, 23), (4, 0), (4, 1), (4, 2), (4, 3), (4, 4), (4, 5), (0, 12), (4, 6), (1, 10), (1, 14), (4, 7), (1, 15), (1, 16), (1, 17), (4, 8), (4, 9), (4, 10), (4, 11), (4, 12), (1, 18), (4, 13), (4, 14), (4, 15), (4, 16), (4, 17), (4, 18), (4, 19), (4, 20), (4, 21), (4, 22), (4, 23), (5, 0), (1, 22), (5, 1), (1, 23), (2, 0), (5, 3), (5, 4), (5, 5), (1, 13), (5, 6), (2, 4), (5, 7), (2, 5), (2, 6), (5, 8), (6, 12), (6, 13), (6, 14), (6, 15), (6, 16), (6, 17), (6, 18), (6, 19), (6, 20), (6, 21), (6, 22), (6, 23), (7, 0), (7, 1), (7, 2), (7, 3), (7, 4), (7, 5), (7, 6), (7, 7), (7, 8), (7, 9), (7, 10), (7, 11), (7, 12), (7, 13), (7, 14), (7, 15), (7, 16), (7, 17), (7, 18), (7, 19), (7, 20), (7, 21), (7, 22), (7, 23), (8, 0), (8, 1), (8, 2), (8, 3), (8, 4), (8, 5), (8, 6), (8, 7), (8, 8), (8, 9), (8, 10), (8, 11), (8, 12), (8, 13), (8, 14), (8, 15), (8, 16), (8, 17), (8, 18), (8, 19), (8, 20)] ck_wsL_law_m ck_wsL_law_g rfl) (goodIn_b (fun _ h => (List.mem_append_left _ (List.mem_append_left _ (List.mem_append_left _ (List.mem_append_left _ (List.mem_append_left _ (List.mem_append_left _ (List.mem_append_left _ (List.mem_append_right _ h))))))))) ck_wsL_law_g)) (goodIn_b (fun _ h => (List.mem_append_left _ (List.mem_append_left _ (List.mem_append_left _ (List.mem_append_left _ (List.mem_append_left _ (List.mem_append_left _ (List.mem_append_right _ h)))))))) ck_wsL_law_g)) (goodIn_b (fun _ h => (List.mem_append_left _ (List.mem_append_left _ (List.mem_append_right _ h)))) ck_wsL_law_g)) (goodIn_b (fun _ h => (List.mem_append_left _ (List.mem_append_left _ (List.mem_append_left _ (List.mem_append_left _ (List.mem_append_left _ (List.mem_append_right _ h))))))) ck_wsL_law_g)) (goodIn_b (fun _ h => (List.mem_append_left _ (List.mem_append_right _ h))) ck_wsL_law_g)
set_option maxRecDepth 20000 in
theorem gL_law_X6_add : GoodIn wsL_law (wsV RL 111 RX6 yX6_add wsX6_add) := goodIn_app (goodIn_of _ (by decide +kernel)) ggL_law_X6_add
set_option maxRecDepth 100000 in
theorem ggL_law_X6_flush : GoodIn wsL_law wsX6_flush := goodIn_ca (goodIn_ca (goodIn_ca (goodIn_ca (goodIn_ca (goodIn_2 ck_wsL_law [(9, 0), (0, 13), (6, 4), (0, 19), (3, 13), (3, 14), (3, 15), (0, 18), (3, 16), (3, 17), (3, 18), (3, 19), (3, 20), (3, 21), (3, 22), (2, 12), (3, 23), (4, 0), (4, 1), (4, 2), (4, 3), (4, 4), (4, 5), (0, 12), (4, 6), (1, 10), (1, 14), (4, 7), (1, 15), (1, 16), (1, 17), (4, 8), (4, 9), (4, 10), (4, 11), (4, 12), (1, 18), (4, 13), (4, 14), (4, 15), (4, 16), (4, 17), (4, 18), (4, 19), (4, 20), (4, 21), (4, 22), (4, 23), (1, 9), (5, 0), (1, 22), (5, 1), (1, 23), (2, 0), (5, 2), (5, 3), (5, 4), (5, 5), (1, 13), (5, 6), (2, 4), (5, 7), (2, 5), (2, 6), (5, 8), (9, 1), (7, 18), (7, 19), (7, 20), (7, 21), (7, 22), (7, 23), (8, 0), (6, 20), (6, 21), (6, 22), (6, 23), (8, 1), (8, 2), (8, 3), (8, 4), (8, 5), (8, 6), (8, 7), (8, 8), (8, 9), (8, 10), (8, 11), (8, 12), (8, 13), (8, 14), (8, 15), (8, 16), (8, 17), (8, 18), (8, 19), (8, 20)] ck_wsL_law_m ck_wsL_law_g rfl) (goodIn_b (fun _ h => (List.mem_append_left _ (List.mem_append_left _ (List.mem_append_left _ (List.mem_append_left _ (List.mem_append_left _ (List.mem_append_left _ (List.mem_append_left _ (List.mem_append_right _ h))))))))) ck_wsL_law_g)) (goodIn_b (fun _ h => (List.mem_append_left _ (List.mem_append_left _ (List.mem_append_left _ (List.mem_append_left _ (List.mem_append_left _ (List.mem_append_left _ (List.mem_append_right _ h)))))))) ck_wsL_law_g)) (goodIn_b (fun _ h => (List.mem_append_left _ (List.mem_append_left _ (List.mem_append_left _ (List.mem_append_left _ (List.mem_append_left _ (List.mem_append_right _ h))))))) ck_wsL_law_g)) (goodIn_b (fun _ h => (List.mem_append_left _ (List.mem_append_left _ (List.mem_append_right _ h)))) ck_wsL_law_g)) (goodIn_b (fun _ h => (List.mem_append_left _ (List.mem_append_right _ h))) ck_wsL_law_g)
set_option maxRecDepth 20000 in
theorem gL_law_X6_flush : GoodIn wsL_law (wsV RL 113 RX6 yX6_flush wsX6_flush) := goodIn_app (goodIn_of _ (by decide +kernel)) ggL_law_X6_flush
set_option maxRecDepth 100000 in
theorem ggL_law_L_write : GoodIn wsL_law wsL_write := goodIn_2 ck_wsL_law [(5, 17), (5, 18), (5, 19), (2, 22), (5, 20), (5, 21), (5, 22), (5, 23)] ck_wsL_law_m ck_wsL_law_g rfl
set_option maxRecDepth 20000 in
theorem gL_law_L_write : GoodIn wsL_law (va_wsS RL 22 yL_write wsL_write) := goodIn_app (goodIn_of _ (by decide +kernel)) ggL_law_L_write
set_option maxRecDepth 100000 in
theorem ggL_law_X6_merge : GoodIn wsL_law wsX6_merge := goodIn_ca (goodIn_ca (goodIn_ca (goodIn_ca (goodIn_ca (goodIn_2 ck_wsL_law [(9, 5), (0, 13), (0, 19), (9, 6), (9, 7), (9, 8), (0, 12), (9, 9), (1, 15), (1, 14), (9, 10), (9, 11), (9, 12), (9, 13), (9, 14), (1, 18), (9, 15), (9, 16), (9, 17), (9, 18), (1, 16), (9, 19), (9, 20), (9, 21), (9, 22), (3, 13), (3, 14), (3, 15), (0, 18), (3, 16), (3, 17), (3, 18), (3, 19), (3, 20), (3, 21), (3, 22), (2, 12), (3, 23), (4, 0), (4, 1), (4, 2), (4, 3), (4, 4), (4, 5), (4, 6), (1, 10), (4, 7), (1, 17), (4, 8), (4, 9), (4, 10), (4, 11), (4, 12), (4, 13), (4, 14), (4, 15), (4, 16), (4, 17), (4, 18), (4, 19), (4, 20), (4, 21), (4, 22), (4, 23), (1, 9), (5, 0), (1, 22), (5, 1), (1, 23), (2, 0), (5, 2), (5, 3), (5, 4), (5, 5), (1, 13), (5, 6), (2, 4), (5, 7), (2, 5), (2, 6), (5, 8), (9, 23), (10, 0), (10, 1), (10, 2), (10, 3), (10, 4), (10, 5), (10, 6), (10, 7), (10, 8), (10, 9), (10, 10), (10, 11), (10, 12), (10, 13), (10, 14), (10, 15), (10, 16), (10, 17), (10, 18), (10, 19), (8, 17), (8, 18), (8, 19), (8, 20), (10, 20), (10, 21), (10, 22), (10, 23)] ck_wsL_law_m ck_wsL_law_g rfl) (goodIn_b (fun _ h => (List.mem_append_left _ (List.mem_append_left _ (List.mem_append_left _ (List.mem_append_left _ (List.mem_append_left _ (List.mem_append_left _ (List.mem_append_left _ (List.mem_append_right _ h))))))))) ck_wsL_law_g)) (goodIn_b (fun _ h => (List.mem_append_left _ (List.mem_append_left _ (List.mem_append_left _ (List.mem_append_left _ (List.mem_append_left _ (List.mem_append_left _ (List.mem_append_right _ h)))))))) ck_wsL_law_g)) (goodIn_b (fun _ h => (List.mem_append_left _ (List.mem_append_right _ h))) ck_wsL_law_g)) (goodIn_b (fun _ h => (List.mem_append_left _ (List.mem_append_left _ (List.mem_append_left _ (List.mem_append_left _ (List.mem_append_left _ (List.mem_append_right _ h))))))) ck_wsL_law_g)) (goodIn_b (fun _ h => (List.mem_append_left _ (List.mem_append_left _ (List.mem_append_right _ h)))) ck_wsL_law_g)
set_option maxRecDepth 20000 in
theorem gL_law_X6_merge : GoodIn wsL_law (wsV RL 116 RX6 yX6_merge wsX6_merge) := goodIn_app (goodIn_of _ (by decide +kernel)) ggL_law_X6_merge
set_option maxRecDepth 100000 in
theorem ggL_law_X6_step : GoodIn wsL_law wsX6_step := goodIn_ca (goodIn_ca (goodIn_ca (goodIn_ca (goodIn_ca (goodIn_2 ck_wsL_law [(11, 3), (0, 13), (0, 19), (11, 4), (9, 12), (9, 13), (0, 12), (9, 14), (1, 18), (9, 10), (3, 13), (3, 14), (3, 15), (0, 18), (3, 16), (3, 17), (3, 18), (3, 19), (3, 20), (3, 21), (3, 22), (2, 12), (3, 23), (4, 0), (4, 1), (4, 2), (4, 3), (4, 4), (4, 5), (4, 6), (1, 10), (1, 14), (4, 7), (1, 15), (1, 16), (1, 17), (4, 8), (4, 9), (4, 10), (4, 11), (4, 12), (4, 13), (4, 14), (4, 15), (4, 16), (4, 17), (4, 18), (4, 19), (4, 20), (4, 21), (4, 22), (4, 23), (1, 9), (5, 0), (1, 22), (5, 1), (1, 23), (2, 0), (5, 2), (5, 3), (5, 4), (5, 5), (1, 13), (5, 6), (2, 4), (5, 7), (2, 5), (2, 6), (5, 8), (11, 5), (11, 6), (11, 7), (11, 8), (9, 11), (11, 9), (11, 10), (11, 11), (11, 12), (11, 13), (11, 14), (11, 15), (11, 16), (10, 15), (10, 16), (10, 17), (10, 18), (8, 1), (8, 2), (8, 3), (8, 4), (10, 19), (10, 8), (10, 9), (10, 10), (11, 17), (11, 18), (11, 19), (11, 20), (11, 21), (11, 22), (11, 23), (12, 0), (10, 20), (10, 21), (10, 22), (10, 23), (7, 0), (7, 1), (7, 2), (7, 3), (7, 13), (7, 14), (7, 15), (7, 16), (8, 9), (8, 10), (8, 11), (8, 12), (12, 1), (12, 2), (12, 3), (12, 4), (8, 13), (8, 14), (8, 15), (8, 16), (8, 17), (8, 18), (8, 19), (8, 20)] ck_wsL_law_m ck_wsL_law_g rfl) (goodIn_b (fun _ h => (List.mem_append_left _ (List.mem_append_left _ (List.mem_append_left _ (List.mem_append_left _ (List.mem_append_left _ (List.mem_append_left _ (List.mem_append_left _ (List.mem_append_right _ h))))))))) ck_wsL_law_g)) (goodIn_b (fun _ h => (List.mem_append_left _ (List.mem_append_left _ (List.mem_append_left _ (List.mem_append_left _ (List.mem_append_left _ (List.mem_append_left _ (List.mem_append_right _ h)))))))) ck_wsL_law_g)) (goodIn_b (fun _ h => (List.mem_append_left _ (List.mem_append_right _ h))) ck_wsL_law_g)) (goodIn_b (fun _ h => (List.mem_append_left _ (List.mem_append_left _ (List.mem_append_left _ (List.mem_append_left _ (List.mem_append_left _ (List.mem_append_right _ h))))))) ck_wsL_law_g)) (goodIn_b (fun _ h => (List.mem_append_left _ (List.mem_append_left _ (List.mem_append_right _ h)))) ck_wsL_law_g)
set_option maxRecDepth 20000 in
theorem gL_law_X6_step : GoodIn wsL_law (wsV RL 119 RX6 yX6_step wsX6_step) := goodIn_app (goodIn_of _ (by decide +kernel)) ggL_law_X6_step
set_option maxRecDepth 100000 in
theorem ggL_law_X6_grant : GoodIn wsL_law wsX6_grant := goodIn_ca (goodIn_ca (goodIn_ca (goodIn_ca (goodIn_ca (goodIn_2 ck_wsL_law [(12, 8), (0, 19), (0, 13), (12, 9), (12, 10), (0, 2), (12, 11), (3, 13), (3, 14), (3, 15), (0, 18), (3, 16), (3, 17), (3, 18), (3, 19), (3, 20), (3, 21), (3, 22), (2, 12), (3, 23), (4, 0), (4, 1), (4, 2), (4, 3), (4, 4), (4, 5), (0, 12), (4, 6), (1, 10), (1, 14), (4, 7), (1, 15), (1, 16), (1, 17), (4, 8), (4, 9), (4, 10), (4, 11), (4, 12), (1, 18), (4, 13), (4, 14), (4, 15), (4, 16), (4, 17), (4, 18), (4, 19), (4, 20), (4, 21), (4, 22), (4, 23), (1, 9), (5, 0), (1, 22), (5, 1), (1, 23), (2, 0), (5, 2), (5, 3), (5, 4), (5, 5), (1, 13), (5, 6), (2, 4), (5, 7), (2, 5), (2, 6), (5, 8), (12, 12), (12, 13), (12, 14), (12, 15), (9, 10), (7, 17), (7, 18), (7, 19), (7, 20), (7, 21), (7, 22), (7, 23), (8, 0), (6, 20), (6, 21), (6, 22), (6, 23), (8, 1), (8, 2), (8, 3), (8, 4), (8, 5), (8, 6), (8, 7), (8, 8), (8, 9), (8, 10), (8, 11), (8, 12), (8, 13), (8, 14), (8, 15), (8, 16), (8, 17), (8, 18), (8, 19), (8, 20), (9, 15), (9, 16), (9, 17), (9, 18), (9, 19), (9, 20), (9, 21), (9, 22), (12, 16), (12, 17), (12, 18), (12, 19), (12, 1), (12, 2), (12, 3), (12, 4), (10, 15), (10, 16), (10, 17), (10, 18), (10, 19), (10, 8), (10, 9), (10, 10), (12, 20), (12, 21), (12, 22), (12, 23)] ck_wsL_law_m ck_wsL_law_g rfl) (goodIn_b (fun _ h => (List.mem_append_left _ (List.mem_append_left _ (List.mem_append_left _ (List.mem_append_left _ (List.mem_append_left _ (List.mem_append_left _ (List.mem_append_left _ (List.mem_append_right _ h))))))))) ck_wsL_law_g)) (goodIn_b (fun _ h => (List.mem_append_left _ (List.mem_append_left _ (List.mem_append_left _ (List.mem_append_left _ (List.mem_append_left _ (List.mem_append_right _ h))))))) ck_wsL_law_g)) (goodIn_b (fun _ h => (List.mem_append_left _ (List.mem_append_left _ (List.mem_append_left _ (List.mem_append_left _ (List.mem_append_left _ (List.mem_append_left _ (List.mem_append_right _ h)))))))) ck_wsL_law_g)) (goodIn_b (fun _ h => (List.mem_append_left _ (List.mem_append_left _ (List.mem_append_right _ h)))) ck_wsL_law_g)) (goodIn_b (fun _ h => (List.mem_append_left _ (List.mem_append_right _ h))) ck_wsL_law_g)
set_option maxRecDepth 20000 in
theorem gL_law_X6_grant : GoodIn wsL_law (wsV RL 121 RX6 yX6_grant wsX6_grant) := goodIn_app (goodIn_of _ (by decide +kernel)) ggL_law_X6_grant
set_option maxRecDepth 100000 in
theorem ggL_law_L_grant : GoodIn wsL_law wsL_grant := goodIn_2 ck_wsL_law [(13, 2), (5, 15), (5, 16), (2, 22), (5, 17), (5, 18), (5, 19), (5, 20), (5, 21), (5, 22), (5, 23), (13, 3), (13, 4), (13, 5), (13, 6), (13, 7), (13, 8), (13, 9), (13, 10), (13, 11)] ck_wsL_law_m ck_wsL_law_g rfl
set_option maxRecDepth 20000 in
theorem gL_law_L_grant : GoodIn wsL_law (va_wsS RL 49 yL_grant wsL_grant) := goodIn_app (goodIn_of _ (by decide +kernel)) ggL_law_L_grant
set_option maxRecDepth 100000 in
theorem ggL_law_X6_finish : GoodIn wsL_law wsX6_finish := goodIn_ca (goodIn_ca (goodIn_ca (goodIn_ca (goodIn_ca (goodIn_2 ck_wsL_law [(13, 15), (0, 13), (6, 4), (0, 19), (13, 16), (13, 17), (3, 13), (3, 14), (3, 15), (0, 18), (3, 16), (3, 17), (3, 18), (3, 19), (3, 20), (3, 21), (3, 22), (2, 12), (3, 23), (4, 0), (4, 1), (4, 2), (4, 3), (4, 4), (4, 5), (0, 12), (4, 6), (1, 10), (1, 14), (4, 7), (1, 15), (1, 16), (1, 17), (4, 8), (4, 9), (4, 10), (4, 11), (4, 12), (1, 18), (4, 13), (4, 14), (4, 15), (4, 16), (4, 17), (4, 18), (4, 19), (4, 20), (4, 21), (4, 22), (4, 23), (1, 9), (5, 0), (1, 22), (5, 1), (1, 23), (2, 0), (5, 2), (5, 3), (5, 4), (5, 5), (1, 13), (5, 6), (2, 4), (5, 7), (2, 5), (2, 6), (5, 8), (13, 18), (13, 19), (13, 20), (13, 21), (7, 17), (7, 18), (7, 19), (7, 20), (7, 21), (7, 22), (7, 23), (8, 0), (6, 20), (6, 21), (6, 22), (6, 23), (8, 1), (8, 2), (8, 3), (8, 4), (8, 5), (8, 6), (8, 7), (8, 8), (8, 9), (8, 10), (8, 11), (8, 12), (8, 13), (8, 14), (8, 15), (8, 16), (8, 17), (8, 18), (8, 19), (8, 20)] ck_wsL_law_m ck_wsL_law_g rfl) (goodIn_b (fun _ h => (List.mem_append_left _ (List.mem_append_left _ (List.mem_append_left _ (List.mem_append_left _ (List.mem_append_left _ (List.mem_append_left _ (List.mem_append_left _ (List.mem_append_right _ h))))))))) ck_wsL_law_g)) (goodIn_b (fun _ h => (List.mem_append_left _ (List.mem_append_left _ (List.mem_append_left _ (List.mem_append_left _ (List.mem_append_left _ (List.mem_append_left _ (List.mem_append_right _ h)))))))) ck_wsL_law_g)) (goodIn_b (fun _ h => (List.mem_append_left _ (List.mem_append_right _ h))) ck_wsL_law_g)) (goodIn_b (fun _ h => (List.mem_append_left _ (List.mem_append_left _ (List.mem_append_left _ (List.mem_append_left _ (List.mem_append_left _ (List.mem_append_right _ h))))))) ck_wsL_law_g)) (goodIn_b (fun _ h => (List.mem_append_left _ (List.mem_append_left _ (List.mem_append_right _ h)))) ck_wsL_law_g)
set_option maxRecDepth 20000 in
theorem gL_law_X6_finish : GoodIn wsL_law (wsV RL 123 RX6 yX6_finish wsX6_finish) := goodIn_app (goodIn_of _ (by decide +kernel)) ggL_law_X6_finish
set_option maxRecDepth 100000 in
theorem ggL_law_L_ways : GoodIn wsL_law wsL_ways := goodIn_2 ck_wsL_law [(13, 8)] ck_wsL_law_m ck_wsL_law_g rfl
set_option maxRecDepth 20000 in
theorem gL_law_L_ways : GoodIn wsL_law (va_wsS RL 30 yL_ways wsL_ways) := goodIn_app (goodIn_of _ (by decide +kernel)) ggL_law_L_ways
set_option maxRecDepth 100000 in
theorem ggL_law_L_begin : GoodIn wsL_law wsL_begin := goodIn_2 ck_wsL_law [(14, 0), (13, 3), (13, 4), (2, 22), (13, 5), (13, 6), (13, 7), (13, 8)] ck_wsL_law_m ck_wsL_law_g rfl
set_option maxRecDepth 20000 in
theorem gL_law_L_begin : GoodIn wsL_law (va_wsS RL 38 yL_begin wsL_begin) := goodIn_app (goodIn_of _ (by decide +kernel)) ggL_law_L_begin
set_option maxRecDepth 100000 in
theorem ggL_law_L_step : GoodIn wsL_law wsL_step := goodIn_2 ck_wsL_law [(14, 3), (5, 18), (5, 19), (2, 22), (5, 20), (5, 21), (5, 22), (5, 23), (13, 3), (13, 4), (13, 5), (13, 9), (13, 10), (13, 11)] ck_wsL_law_m ck_wsL_law_g rfl
set_option maxRecDepth 20000 in
theorem gL_law_L_step : GoodIn wsL_law (va_wsS RL 41 yL_step wsL_step) := goodIn_app (goodIn_of _ (by decide +kernel)) ggL_law_L_step
set_option maxRecDepth 100000 in
theorem ggL_law_L_plan : GoodIn wsL_law wsL_plan := goodIn_2 ck_wsL_law [(14, 6), (0, 3), (14, 7), (14, 8), (2, 22), (14, 9), (13, 0), (13, 1), (13, 2), (5, 15), (5, 16), (5, 17), (5, 18), (5, 19), (5, 20), (5, 21), (5, 22), (5, 23), (13, 3), (13, 4), (13, 5), (13, 6), (13, 7), (13, 8), (13, 9), (13, 10), (13, 11), (14, 10), (14, 11), (14, 12), (13, 22), (13, 23), (14, 0), (14, 1), (14, 2), (14, 3)] ck_wsL_law_m ck_wsL_law_g rfl
set_option maxRecDepth 20000 in
theorem gL_law_L_plan : GoodIn wsL_law (va_wsS RL 126 yL_plan wsL_plan) := goodIn_app (goodIn_of _ (by decide +kernel)) ggL_law_L_plan
set_option maxRecDepth 100000 in
theorem ggL_law_X6_run : GoodIn wsL_law wsX6_run := goodIn_ca (goodIn_ca (goodIn_ca (goodIn_ca (goodIn_ca (goodIn_2 ck_wsL_law [(14, 16), (0, 13), (0, 19), (14, 17), (14, 18), (14, 19), (0, 12), (14, 20), (1, 14), (9, 10), (4, 12), (9, 11), (9, 12), (9, 13), (9, 14), (1, 18), (9, 15), (9, 16), (9, 17), (9, 18), (1, 16), (9, 19), (9, 20), (9, 21), (9, 22), (3, 13), (3, 14), (3, 15), (0, 18), (3, 16), (3, 17), (3, 18), (3, 19), (3, 20), (3, 21), (3, 22), (2, 12), (3, 23), (4, 0), (4, 1), (4, 2), (4, 3), (4, 4), (4, 5), (4, 6), (1, 10), (4, 7), (1, 15), (1, 17), (4, 8), (4, 9), (4, 10), (4, 11), (4, 13), (4, 14), (4, 15), (4, 16), (4, 17), (4, 18), (4, 19), (4, 20), (4, 21), (4, 22), (4, 23), (1, 9), (5, 0), (1, 22), (5, 1), (1, 23), (2, 0), (5, 2), (5, 3), (5, 4), (5, 5), (1, 13), (5, 6), (2, 4), (5, 7), (2, 5), (2, 6), (5, 8), (14, 21), (14, 22), (14, 23), (15, 0), (15, 1), (13, 19), (13, 20), (13, 21), (7, 17), (7, 18), (7, 19), (7, 20), (7, 21), (7, 22), (7, 23), (8, 0), (6, 20), (6, 21), (6, 22), (6, 23), (8, 1), (8, 2), (8, 3), (8, 4), (8, 5), (8, 6), (8, 7), (8, 8), (8, 9), (8, 10), (8, 11), (8, 12), (8, 13), (8, 14), (8, 15), (8, 16), (8, 17), (8, 18), (8, 19), (8, 20), (15, 2), (11, 6), (11, 7), (11, 8), (11, 9), (11, 10), (11, 11), (11, 12), (11, 13), (11, 14), (11, 15), (11, 16), (10, 15), (10, 16), (10, 17), (10, 18), (10, 19), (10, 8), (10, 9), (10, 10), (11, 17), (11, 18), (11, 19), (11, 20), (11, 21), (11, 22), (11, 23), (12, 0), (10, 20), (10, 21), (10, 22), (10, 23), (7, 0), (7, 1), (7, 2), (7, 3), (7, 13), (7, 14), (7, 15), (7, 16), (12, 1), (12, 2), (12, 3), (12, 4), (15, 3), (9, 7), (9, 8), (9, 9), (15, 4), (10, 0), (10, 1), (10, 2), (10, 3), (10, 4), (10, 5), (10, 6), (10, 7), (10, 11), (10, 12), (10, 13), (10, 14)] ck_wsL_law_m ck_wsL_law_g rfl) (goodIn_b (fun _ h => (List.mem_append_left _ (List.mem_append_left _ (List.mem_append_left _ (List.mem_append_left _ (List.mem_append_left _ (List.mem_append_left _ (List.mem_append_left _ (List.mem_append_right _ h))))))))) ck_wsL_law_g)) (goodIn_b (fun _ h => (List.mem_append_left _ (List.mem_append_left _ (List.mem_append_left _ (List.mem_append_left _ (List.mem_append_left _ (List.mem_append_left _ (List.mem_append_right _ h)))))))) ck_wsL_law_g)) (goodIn_b (fun _ h => (List.mem_append_left _ (List.mem_append_right _ h))) ck_wsL_law_g)) (goodIn_b (fun _ h => (List.mem_append_left _ (List.mem_append_left _ (List.mem_append_left _ (List.mem_append_left _ (List.mem_append_left _ (List.mem_append_right _ h))))))) ck_wsL_law_g)) (goodIn_b (fun _ h => (List.mem_append_left _ (List.mem_append_left _ (List.mem_append_right _ h)))) ck_wsL_law_g)
set_option maxRecDepth 20000 in
theorem gL_law_X6_run : GoodIn wsL_law (wsV RL 130 RX6 yX6_run wsX6_run) := goodIn_app (goodIn_of _ (by decide +kernel)) ggL_law_X6_run
set_option maxRecDepth 100000 in
theorem ggL_law_L_run : GoodIn wsL_law wsL_run := goodIn_2 ck_wsL_law [(14, 12), (5, 15), (5, 16), (2, 22), (5, 17), (5, 18), (5, 19), (5, 20), (5, 21), (5, 22), (5, 23), (13, 6), (13, 7), (13, 8), (13, 22), (13, 23), (14, 0), (13, 3), (13, 4), (13, 5), (14, 1), (14, 2), (14, 3), (13, 9), (13, 10), (13, 11)] ck_wsL_law_m ck_wsL_law_g rfl
set_option maxRecDepth 20000 in
theorem gL_law_L_run : GoodIn wsL_law (va_wsS RL 53 yL_run wsL_run) := goodIn_app (goodIn_of _ (by decide +kernel)) ggL_law_L_run
set_option maxRecDepth 100000 in
theorem ggL_law_L_tells : GoodIn wsL_law wsL_tells := goodIn_ca (goodIn_ca (goodIn_ca (goodIn_ca (goodIn_2 ck_wsL_law [(15, 7), (5, 18), (5, 19), (2, 22), (5, 20), (3, 2), (3, 3), (3, 4), (3, 5), (13, 3), (13, 4), (13, 5), (15, 8), (15, 9), (15, 10), (0, 2), (15, 11), (0, 13), (3, 10), (15, 12), (15, 13), (15, 14), (0, 12), (15, 15), (4, 12), (15, 16), (6, 21), (6, 22), (6, 23), (1, 17), (15, 17), (7, 1), (7, 2), (1, 9), (7, 3), (1, 22), (15, 18), (15, 19), (15, 20), (15, 21), (6, 4), (5, 9), (5, 10), (5, 11), (15, 22), (15, 23), (16, 0), (16, 1), (11, 4), (9, 12), (9, 13), (9, 14), (1, 18), (9, 10), (16, 2), (16, 3), (16, 4), (16, 5), (16, 6), (16, 7), (16, 8), (16, 9), (1, 15), (1, 14), (9, 11), (16, 10), (16, 11), (16, 12), (16, 13), (16, 14), (16, 15), (16, 16), (16, 17), (16, 18), (16, 19), (9, 16), (9, 17), (9, 18), (1, 16), (9, 19), (9, 20), (9, 21), (9, 22), (13, 6), (13, 7), (13, 8), (16, 20), (16, 21), (16, 22), (16, 23), (6, 5), (6, 6), (6, 7), (17, 0), (17, 1), (17, 2), (17, 3), (5, 2), (17, 4), (17, 5), (17, 6), (17, 7), (17, 8), (1, 23), (17, 9), (17, 10), (17, 11), (17, 12), (3, 11), (17, 13), (17, 14), (17, 15), (17, 16), (17, 17), (17, 18), (17, 19), (17, 20), (17, 21), (17, 22), (17, 23), (18, 0), (18, 1), (18, 2), (13, 17), (18, 3), (18, 4), (18, 5), (18, 6), (1, 13), (18, 7), (5, 8), (10, 7), (10, 8), (10, 9), (10, 10), (2, 6)] ck_wsL_law_m ck_wsL_law_g rfl) (goodIn_b (fun _ h => (List.mem_append_left _ (List.mem_append_left _ (List.mem_append_left _ (List.mem_append_left _ (List.mem_append_left _ (List.mem_append_left _ (List.mem_append_left _ (List.mem_append_right _ h))))))))) ck_wsL_law_g)) (goodIn_b (fun _ h => (List.mem_append_left _ (List.mem_append_left _ (List.mem_append_left _ (List.mem_append_left _ (List.mem_append_left _ (List.mem_append_left _ (List.mem_append_right _ h)))))))) ck_wsL_law_g)) (goodIn_b (fun _ h => (List.mem_append_left _ (List.mem_append_left _ (List.mem_append_right _ h)))) ck_wsL_law_g)) (goodIn_b (fun _ h => (List.mem_append_left _ (List.mem_append_right _ h))) ck_wsL_law_g)
set_option maxRecDepth 20000 in
theorem gL_law_L_tells : GoodIn wsL_law (va_wsS RL 132 yL_tells wsL_tells) := goodIn_app (goodIn_of _ (by decide +kernel)) ggL_law_L_tells
set_option maxRecDepth 100000 in
theorem ggL_law_L_files : GoodIn wsL_law wsL_files := goodIn_ca (goodIn_ca (goodIn_ca (goodIn_ca (goodIn_2 ck_wsL_law [(18, 10), (13, 3), (13, 4), (2, 22), (13, 5), (18, 11), (18, 12), (18, 13), (0, 2), (18, 14), (0, 13), (13, 16), (18, 15), (18, 16), (18, 17), (1, 13), (18, 18), (5, 8), (18, 19), (10, 12), (10, 13), (10, 14), (2, 4), (18, 20), (18, 21), (18, 22), (18, 23), (19, 0), (19, 1), (19, 2), (19, 3), (19, 4), (19, 5), (10, 8), (10, 9), (10, 10), (2, 6), (3, 2), (3, 3), (3, 4), (3, 5), (5, 18), (5, 19), (5, 20), (19, 6), (19, 7), (19, 8), (19, 9), (3, 10), (19, 10), (19, 11), (19, 12), (0, 12), (19, 13), (1, 14), (1, 10), (19, 14), (10, 19), (10, 15), (10, 16), (10, 17), (10, 18), (2, 5), (19, 15), (19, 16), (19, 17), (1, 9), (19, 18), (19, 19), (11, 18), (11, 19), (11, 20), (2, 0), (19, 20), (7, 10), (7, 11), (7, 12), (5, 2), (15, 17), (7, 1), (7, 2), (7, 3), (1, 22), (19, 21), (17, 6), (17, 7), (17, 8), (1, 23), (19, 22), (19, 23), (20, 0), (20, 1), (13, 17)] ck_wsL_law_m ck_wsL_law_g rfl) (goodIn_b (fun _ h => (List.mem_append_left _ (List.mem_append_left _ (List.mem_append_left _ (List.mem_append_left _ (List.mem_append_left _ (List.mem_append_left _ (List.mem_append_left _ (List.mem_append_right _ h))))))))) ck_wsL_law_g)) (goodIn_b (fun _ h => (List.mem_append_left _ (List.mem_append_left _ (List.mem_append_left _ (List.mem_append_left _ (List.mem_append_left _ (List.mem_append_left _ (List.mem_append_right _ h)))))))) ck_wsL_law_g)) (goodIn_b (fun _ h => (List.mem_append_left _ (List.mem_append_right _ h))) ck_wsL_law_g)) (goodIn_b (fun _ h => (List.mem_append_left _ (List.mem_append_left _ (List.mem_append_right _ h)))) ck_wsL_law_g)
set_option maxRecDepth 20000 in
theorem gL_law_L_files : GoodIn wsL_law (va_wsS RL 136 yL_files wsL_files) := goodIn_app (goodIn_of _ (by decide +kernel)) ggL_law_L_files
set_option maxRecDepth 100000 in
theorem ggL_law_X6_costsWith : GoodIn wsL_law wsX6_costsWith := goodIn_ca (goodIn_ca (goodIn_ca (goodIn_ca (goodIn_2 ck_wsL_law [(20, 5), (0, 14), (17, 13), (0, 13), (12, 9), (12, 10), (0, 2), (12, 11), (20, 6), (20, 7), (20, 8), (20, 9), (20, 10), (4, 4), (4, 5), (0, 12), (4, 6), (1, 10), (1, 14), (4, 7), (1, 15), (1, 16), (1, 17), (4, 8), (4, 9), (4, 10), (4, 11), (4, 12), (1, 18), (4, 13), (4, 14), (4, 15), (4, 16), (4, 17), (4, 18), (4, 19), (4, 20), (4, 21), (4, 22), (4, 23), (1, 9), (5, 0), (1, 22), (5, 1), (1, 23), (2, 0), (5, 2), (5, 3), (5, 4), (5, 5), (1, 13), (5, 6), (2, 4), (5, 7), (2, 5), (2, 6), (5, 8), (12, 12), (12, 13), (12, 14), (12, 15), (9, 10), (7, 17), (7, 18), (7, 19), (7, 20), (7, 21), (7, 22), (7, 23), (8, 0), (6, 20), (6, 21), (6, 22), (6, 23), (8, 1), (8, 2), (8, 3), (8, 4), (8, 5), (8, 6), (8, 7), (8, 8), (8, 9), (8, 10), (8, 11), (8, 12), (8, 13), (8, 14), (8, 15), (8, 16), (8, 17), (8, 18), (8, 19), (8, 20), (9, 15), (9, 16), (9, 17), (9, 18), (9, 19), (9, 20), (9, 21), (9, 22), (12, 16), (12, 17), (12, 18), (12, 19), (12, 1), (12, 2), (12, 3), (12, 4), (10, 15), (10, 16), (10, 17), (10, 18), (10, 19), (10, 8), (10, 9), (10, 10), (12, 20), (12, 21), (12, 22), (12, 23), (14, 17), (14, 18), (14, 19), (14, 20), (9, 11), (9, 12), (9, 13), (9, 14), (14, 21), (14, 22), (14, 23), (15, 0), (15, 1), (13, 19), (13, 20), (13, 21), (15, 2), (11, 6), (11, 7), (11, 8), (11, 9), (11, 10), (11, 11), (11, 12), (11, 13), (11, 14), (11, 15), (11, 16), (11, 17), (11, 18), (11, 19), (11, 20), (11, 21), (11, 22), (11, 23), (12, 0), (10, 20), (10, 21), (10, 22), (10, 23), (7, 0), (7, 1), (7, 2), (7, 3), (7, 13), (7, 14), (7, 15), (7, 16), (15, 3), (9, 7), (9, 8), (9, 9), (15, 4), (10, 0), (10, 1), (10, 2), (10, 3), (10, 4), (10, 5), (10, 6), (10, 7), (10, 11), (10, 12), (10, 13), (10, 14)] ck_wsL_law_m ck_wsL_law_g rfl) (goodIn_b (fun _ h => (List.mem_append_left _ (List.mem_append_left _ (List.mem_append_left _ (List.mem_append_left _ (List.mem_append_left _ (List.mem_append_left _ (List.mem_append_left _ (List.mem_append_right _ h))))))))) ck_wsL_law_g)) (goodIn_b (fun _ h => (List.mem_append_left _ (List.mem_append_left _ (List.mem_append_left _ (List.mem_append_left _ (List.mem_append_left _ (List.mem_append_left _ (List.mem_append_right _ h)))))))) ck_wsL_law_g)) (goodIn_b (fun _ h => (List.mem_append_left _ (List.mem_append_left _ (List.mem_append_right _ h)))) ck_wsL_law_g)) (goodIn_b (fun _ h => (List.mem_append_left _ (List.mem_append_right _ h))) ck_wsL_law_g)
set_option maxRecDepth 20000 in
theorem gL_law_X6_costsWith : GoodIn wsL_law (wsV RL 140 RX6 yX6_costsWith wsX6_costsWith) := goodIn_app (goodIn_of _ (by decide +kernel)) ggL_law_X6_costsWith
set_option maxRecDepth 100000 in
theorem ggL_law_X6_mergesWith : GoodIn wsL_law wsX6_mergesWith := goodIn_ca (goodIn_ca (goodIn_ca (goodIn_ca (goodIn_2 ck_wsL_law [(20, 14), (0, 14), (17, 14), (0, 13), (12, 9), (12, 10), (0, 2), (12, 11), (20, 6), (20, 7), (20, 8), (20, 9), (20, 10), (4, 4), (4, 5), (0, 12), (4, 6), (1, 10), (1, 14), (4, 7), (1, 15), (1, 16), (1, 17), (4, 8), (4, 9), (4, 10), (4, 11), (4, 12), (1, 18), (4, 13), (4, 14), (4, 15), (4, 16), (4, 17), (4, 18), (4, 19), (4, 20), (4, 21), (4, 22), (4, 23), (1, 9), (5, 0), (1, 22), (5, 1), (1, 23), (2, 0), (5, 2), (5, 3), (5, 4), (5, 5), (1, 13), (5, 6), (2, 4), (5, 7), (2, 5), (2, 6), (5, 8), (12, 12), (12, 13), (12, 14), (12, 15), (9, 10), (7, 17), (7, 18), (7, 19), (7, 20), (7, 21), (7, 22), (7, 23), (8, 0), (6, 20), (6, 21), (6, 22), (6, 23), (8, 1), (8, 2), (8, 3), (8, 4), (8, 5), (8, 6), (8, 7), (8, 8), (8, 9), (8, 10), (8, 11), (8, 12), (8, 13), (8, 14), (8, 15), (8, 16), (8, 17), (8, 18), (8, 19), (8, 20), (9, 15), (9, 16), (9, 17), (9, 18), (9, 19), (9, 20), (9, 21), (9, 22), (12, 16), (12, 17), (12, 18), (12, 19), (12, 1), (12, 2), (12, 3), (12, 4), (10, 15), (10, 16), (10, 17), (10, 18), (10, 19), (10, 8), (10, 9), (10, 10), (12, 20), (12, 21), (12, 22), (12, 23), (14, 17), (14, 18), (14, 19), (14, 20), (9, 11), (9, 12), (9, 13), (9, 14), (14, 21), (14, 22), (14, 23), (15, 0), (15, 1), (13, 19), (13, 20), (13, 21), (15, 2), (11, 6), (11, 7), (11, 8), (11, 9), (11, 10), (11, 11), (11, 12), (11, 13), (11, 14), (11, 15), (11, 16), (11, 17), (11, 18), (11, 19), (11, 20), (11, 21), (11, 22), (11, 23), (12, 0), (10, 20), (10, 21), (10, 22), (10, 23), (7, 0), (7, 1), (7, 2), (7, 3), (7, 13), (7, 14), (7, 15), (7, 16), (15, 3), (9, 7), (9, 8), (9, 9), (15, 4), (10, 0), (10, 1), (10, 2), (10, 3), (10, 4), (10, 5), (10, 6), (10, 7), (10, 11), (10, 12), (10, 13), (10, 14)] ck_wsL_law_m ck_wsL_law_g rfl) (goodIn_b (fun _ h => (List.mem_append_left _ (List.mem_append_left _ (List.mem_append_left _ (List.mem_append_left _ (List.mem_append_left _ (List.mem_append_left _ (List.mem_append_left _ (List.mem_append_right _ h))))))))) ck_wsL_law_g)) (goodIn_b (fun _ h => (List.mem_append_left _ (List.mem_append_left _ (List.mem_append_left _ (List.mem_append_left _ (List.mem_append_left _ (List.mem_append_left _ (List.mem_append_right _ h)))))))) ck_wsL_law_g)) (goodIn_b (fun _ h => (List.mem_append_left _ (List.mem_append_left _ (List.mem_append_right _ h)))) ck_wsL_law_g)) (goodIn_b (fun _ h => (List.mem_append_left _ (List.mem_append_right _ h))) ck_wsL_law_g)
set_option maxRecDepth 20000 in
theorem gL_law_X6_mergesWith : GoodIn wsL_law (wsV RL 143 RX6 yX6_mergesWith wsX6_mergesWith) := goodIn_app (goodIn_of _ (by decide +kernel)) ggL_law_X6_mergesWith
set_option maxRecDepth 100000 in
theorem ggL_law_X6_bestSize : GoodIn wsL_law wsX6_bestSize := goodIn_ca (goodIn_ca (goodIn_ca (goodIn_ca (goodIn_2 ck_wsL_law [(20, 18), (0, 14), (17, 13), (20, 6), (20, 7), (20, 8), (0, 2), (20, 9), (0, 13), (20, 10), (4, 4), (4, 5), (0, 12), (4, 6), (1, 10), (1, 14), (4, 7), (1, 15), (1, 16), (1, 17), (4, 8), (4, 9), (4, 10), (4, 11), (4, 12), (1, 18), (4, 13), (4, 14), (4, 15), (4, 16), (4, 17), (4, 18), (4, 19), (4, 20), (4, 21), (4, 22), (4, 23), (1, 9), (5, 0), (1, 22), (5, 1), (1, 23), (2, 0), (5, 2), (5, 3), (5, 4), (5, 5), (1, 13), (5, 6), (2, 4), (5, 7), (2, 5), (2, 6), (5, 8), (12, 12), (12, 13), (12, 14), (12, 15), (9, 10), (7, 17), (7, 18), (7, 19), (7, 20), (7, 21), (7, 22), (7, 23), (8, 0), (6, 20), (6, 21), (6, 22), (6, 23), (8, 1), (8, 2), (8, 3), (8, 4), (8, 5), (8, 6), (8, 7), (8, 8), (8, 9), (8, 10), (8, 11), (8, 12), (8, 13), (8, 14), (8, 15), (8, 16), (8, 17), (8, 18), (8, 19), (8, 20), (9, 15), (9, 16), (9, 17), (9, 18), (9, 19), (9, 20), (9, 21), (9, 22), (12, 16), (12, 17), (12, 18), (12, 19), (12, 1), (12, 2), (12, 3), (12, 4), (10, 15), (10, 16), (10, 17), (10, 18), (10, 19), (10, 8), (10, 9), (10, 10), (12, 20), (12, 21), (12, 22), (12, 23), (14, 17), (14, 18), (14, 19), (14, 20), (9, 11), (9, 12), (9, 13), (9, 14), (14, 21), (14, 22), (14, 23), (15, 0), (15, 1), (13, 19), (13, 20), (13, 21), (15, 2), (11, 6), (11, 7), (11, 8), (11, 9), (11, 10), (11, 11), (11, 12), (11, 13), (11, 14), (11, 15), (11, 16), (11, 17), (11, 18), (11, 19), (11, 20), (11, 21), (11, 22), (11, 23), (12, 0), (10, 20), (10, 21), (10, 22), (10, 23), (7, 0), (7, 1), (7, 2), (7, 3), (7, 13), (7, 14), (7, 15), (7, 16), (15, 3), (9, 7), (9, 8), (9, 9), (15, 4), (10, 0), (10, 1), (10, 2), (10, 3), (10, 4), (10, 5), (10, 6), (10, 7), (10, 11), (10, 12), (10, 13), (10, 14)] ck_wsL_law_m ck_wsL_law_g rfl) (goodIn_b (fun _ h => (List.mem_append_left _ (List.mem_append_left _ (List.mem_append_left _ (List.mem_append_left _ (List.mem_append_left _ (List.mem_append_left _ (List.mem_append_left _ (List.mem_append_right _ h))))))))) ck_wsL_law_g)) (goodIn_b (fun _ h => (List.mem_append_left _ (List.mem_append_left _ (List.mem_append_left _ (List.mem_append_left _ (List.mem_append_left _ (List.mem_append_left _ (List.mem_append_right _ h)))))))) ck_wsL_law_g)) (goodIn_b (fun _ h => (List.mem_append_left _ (List.mem_append_left _ (List.mem_append_right _ h)))) ck_wsL_law_g)) (goodIn_b (fun _ h => (List.mem_append_left _ (List.mem_append_right _ h))) ck_wsL_law_g)
set_option maxRecDepth 20000 in
theorem gL_law_X6_bestSize : GoodIn wsL_law (wsV RL 146 RX6 yX6_bestSize wsX6_bestSize) := goodIn_app (goodIn_of _ (by decide +kernel)) ggL_law_X6_bestSize
theorem dL_law_0 : decode cL_law 0 = .ok (.new 10, 3) := by decide +kernel
theorem dL_law_3 : decode cL_law 3 = .ok (.dup, 1) := by decide +kernel
theorem dL_law_4 : decode cL_law 4 = .ok (.invokespecial 99, 3) := by decide +kernel
theorem dL_law_7 : decode cL_law 7 = .ok (.astore_n 1, 1) := by decide +kernel
theorem dL_law_8 : decode cL_law 8 = .ok (.bipush 60, 2) := by decide +kernel
theorem dL_law_10 : decode cL_law 10 = .ok (.newarray .int, 2) := by decide +kernel
theorem dL_law_12 : decode cL_law 12 = .ok (.astore_n 2, 1) := by decide +kernel
theorem dL_law_13 : decode cL_law 13 = .ok (.bipush 64, 2) := by decide +kernel
theorem dL_law_15 : decode cL_law 15 = .ok (.newarray .int, 2) := by decide +kernel
theorem dL_law_17 : decode cL_law 17 = .ok (.astore_n 3, 1) := by decide +kernel
theorem dL_law_18 : decode cL_law 18 = .ok (.bipush 64, 2) := by decide +kernel
theorem dL_law_20 : decode cL_law 20 = .ok (.newarray .int, 2) := by decide +kernel
theorem dL_law_22 : decode cL_law 22 = .ok (.astore 4, 2) := by decide +kernel
theorem dL_law_24 : decode cL_law 24 = .ok (.bipush 64, 2) := by decide +kernel
theorem dL_law_26 : decode cL_law 26 = .ok (.newarray .int, 2) := by decide +kernel
theorem dL_law_28 : decode cL_law 28 = .ok (.astore 5, 2) := by decide +kernel
theorem dL_law_30 : decode cL_law 30 = .ok (.bipush 20, 2) := by decide +kernel
theorem dL_law_32 : decode cL_law 32 = .ok (.newarray .int, 2) := by decide +kernel
theorem dL_law_34 : decode cL_law 34 = .ok (.astore 6, 2) := by decide +kernel
theorem dL_law_36 : decode cL_law 36 = .ok (.bipush 60, 2) := by decide +kernel
theorem dL_law_38 : decode cL_law 38 = .ok (.newarray .int, 2) := by decide +kernel
theorem dL_law_40 : decode cL_law 40 = .ok (.astore 7, 2) := by decide +kernel
theorem dL_law_42 : decode cL_law 42 = .ok (.bipush 60, 2) := by decide +kernel
theorem dL_law_44 : decode cL_law 44 = .ok (.newarray .int, 2) := by decide +kernel
theorem dL_law_46 : decode cL_law 46 = .ok (.astore 8, 2) := by decide +kernel
theorem dL_law_48 : decode cL_law 48 = .ok (.bipush 12, 2) := by decide +kernel
theorem dL_law_50 : decode cL_law 50 = .ok (.newarray .int, 2) := by decide +kernel
theorem dL_law_52 : decode cL_law 52 = .ok (.astore 9, 2) := by decide +kernel
theorem dL_law_54 : decode cL_law 54 = .ok (.aload 9, 2) := by decide +kernel
theorem dL_law_56 : decode cL_law 56 = .ok (.iconst 0, 1) := by decide +kernel
theorem dL_law_57 : decode cL_law 57 = .ok (.bipush 6, 2) := by decide +kernel
theorem dL_law_59 : decode cL_law 59 = .ok (.iastore, 1) := by decide +kernel
theorem dL_law_60 : decode cL_law 60 = .ok (.aload 9, 2) := by decide +kernel
theorem dL_law_62 : decode cL_law 62 = .ok (.iconst 1, 1) := by decide +kernel
theorem dL_law_63 : decode cL_law 63 = .ok (.aload_n 0, 1) := by decide +kernel
theorem dL_law_64 : decode cL_law 64 = .ok (.bipush 95, 2) := by decide +kernel
theorem dL_law_66 : decode cL_law 66 = .ok (.invokestatic 100, 3) := by decide +kernel
theorem dL_law_69 : decode cL_law 69 = .ok (.iconst 2, 1) := by decide +kernel
theorem dL_law_70 : decode cL_law 70 = .ok (.invokestatic 63, 3) := by decide +kernel
theorem dL_law_73 : decode cL_law 73 = .ok (.iastore, 1) := by decide +kernel
theorem dL_law_74 : decode cL_law 74 = .ok (.aload 9, 2) := by decide +kernel
theorem dL_law_76 : decode cL_law 76 = .ok (.iconst 2, 1) := by decide +kernel
theorem dL_law_77 : decode cL_law 77 = .ok (.iconst 1, 1) := by decide +kernel
theorem dL_law_78 : decode cL_law 78 = .ok (.iastore, 1) := by decide +kernel
theorem dL_law_79 : decode cL_law 79 = .ok (.aload_n 1, 1) := by decide +kernel
theorem dL_law_80 : decode cL_law 80 = .ok (.aload 9, 2) := by decide +kernel
theorem dL_law_82 : decode cL_law 82 = .ok (.iconst 1, 1) := by decide +kernel
theorem dL_law_83 : decode cL_law 83 = .ok (.iaload, 1) := by decide +kernel
theorem dL_law_84 : decode cL_law 84 = .ok (.iconst 1, 1) := by decide +kernel
theorem dL_law_85 : decode cL_law 85 = .ok (.if_icmp .ne 7, 3) := by decide +kernel
theorem dL_law_88 : decode cL_law 88 = .ok (.iconst 1, 1) := by decide +kernel
theorem dL_law_89 : decode cL_law 89 = .ok (.goto 4, 3) := by decide +kernel
theorem dL_law_92 : decode cL_law 92 = .ok (.iconst 0, 1) := by decide +kernel
theorem dL_law_93 : decode cL_law 93 = .ok (.invokevirtual 103, 3) := by decide +kernel
theorem dL_law_96 : decode cL_law 96 = .ok (.ifCond .eq 5, 3) := by decide +kernel
theorem dL_law_99 : decode cL_law 99 = .ok (.iconst 0, 1) := by decide +kernel
theorem dL_law_100 : decode cL_law 100 = .ok (.ireturn, 1) := by decide +kernel
theorem dL_law_101 : decode cL_law 101 = .ok (.iconst 0, 1) := by decide +kernel
theorem dL_law_102 : decode cL_law 102 = .ok (.istore 10, 2) := by decide +kernel
theorem dL_law_104 : decode cL_law 104 = .ok (.iload 10, 2) := by decide +kernel
theorem dL_law_106 : decode cL_law 106 = .ok (.bipush 90, 2) := by decide +kernel
theorem dL_law_108 : decode cL_law 108 = .ok (.if_icmp .ge 810, 3) := by decide +kernel
theorem dL_law_111 : decode cL_law 111 = .ok (.aload_n 0, 1) := by decide +kernel
theorem dL_law_112 : decode cL_law 112 = .ok (.iload 10, 2) := by decide +kernel
theorem dL_law_114 : decode cL_law 114 = .ok (.invokestatic 100, 3) := by decide +kernel
theorem dL_law_117 : decode cL_law 117 = .ok (.istore 11, 2) := by decide +kernel
theorem dL_law_119 : decode cL_law 119 = .ok (.iload 11, 2) := by decide +kernel
theorem dL_law_121 : decode cL_law 121 = .ok (.bipush 20, 2) := by decide +kernel
theorem dL_law_123 : decode cL_law 123 = .ok (.invokestatic 63, 3) := by decide +kernel
theorem dL_law_126 : decode cL_law 126 = .ok (.istore 12, 2) := by decide +kernel
theorem dL_law_128 : decode cL_law 128 = .ok (.iconst 1, 1) := by decide +kernel
theorem dL_law_129 : decode cL_law 129 = .ok (.istore 13, 2) := by decide +kernel
theorem dL_law_131 : decode cL_law 131 = .ok (.aload 9, 2) := by decide +kernel
theorem dL_law_133 : decode cL_law 133 = .ok (.iconst 2, 1) := by decide +kernel
theorem dL_law_134 : decode cL_law 134 = .ok (.iaload, 1) := by decide +kernel
theorem dL_law_135 : decode cL_law 135 = .ok (.iconst 1, 1) := by decide +kernel
theorem dL_law_136 : decode cL_law 136 = .ok (.if_icmp .ne 92, 3) := by decide +kernel
theorem dL_law_139 : decode cL_law 139 = .ok (.aload 9, 2) := by decide +kernel
theorem dL_law_141 : decode cL_law 141 = .ok (.iconst 3, 1) := by decide +kernel
theorem dL_law_142 : decode cL_law 142 = .ok (.iaload, 1) := by decide +kernel
theorem dL_law_143 : decode cL_law 143 = .ok (.bipush 56, 2) := by decide +kernel
theorem dL_law_145 : decode cL_law 145 = .ok (.if_icmp .ge 83, 3) := by decide +kernel
theorem dL_law_148 : decode cL_law 148 = .ok (.iload 12, 2) := by decide +kernel
theorem dL_law_150 : decode cL_law 150 = .ok (.bipush 15, 2) := by decide +kernel
theorem dL_law_152 : decode cL_law 152 = .ok (.if_icmp .ge 76, 3) := by decide +kernel
theorem dL_law_155 : decode cL_law 155 = .ok (.iload 11, 2) := by decide +kernel
theorem dL_law_157 : decode cL_law 157 = .ok (.iconst 5, 1) := by decide +kernel
theorem dL_law_158 : decode cL_law 158 = .ok (.ishr, 1) := by decide +kernel
theorem dL_law_159 : decode cL_law 159 = .ok (.iload 11, 2) := by decide +kernel
theorem dL_law_161 : decode cL_law 161 = .ok (.bipush 25, 2) := by decide +kernel
theorem dL_law_163 : decode cL_law 163 = .ok (.ishr, 1) := by decide +kernel
theorem dL_law_164 : decode cL_law 164 = .ok (.iconst 2, 1) := by decide +kernel
theorem dL_law_165 : decode cL_law 165 = .ok (.invokestatic 63, 3) := by decide +kernel
theorem dL_law_168 : decode cL_law 168 = .ok (.ifCond .ne 9, 3) := by decide +kernel
theorem dL_law_171 : decode cL_law 171 = .ok (.sipush 1000, 3) := by decide +kernel
theorem dL_law_174 : decode cL_law 174 = .ok (.goto 5, 3) := by decide +kernel
theorem dL_law_177 : decode cL_law 177 = .ok (.bipush 12, 2) := by decide +kernel
theorem dL_law_179 : decode cL_law 179 = .ok (.invokestatic 63, 3) := by decide +kernel
theorem dL_law_182 : decode cL_law 182 = .ok (.istore 14, 2) := by decide +kernel
theorem dL_law_184 : decode cL_law 184 = .ok (.aload_n 2, 1) := by decide +kernel
theorem dL_law_185 : decode cL_law 185 = .ok (.aload_n 3, 1) := by decide +kernel
theorem dL_law_186 : decode cL_law 186 = .ok (.aload 4, 2) := by decide +kernel
theorem dL_law_188 : decode cL_law 188 = .ok (.aload 5, 2) := by decide +kernel
theorem dL_law_190 : decode cL_law 190 = .ok (.aload 6, 2) := by decide +kernel
theorem dL_law_192 : decode cL_law 192 = .ok (.aload 7, 2) := by decide +kernel
theorem dL_law_194 : decode cL_law 194 = .ok (.aload 8, 2) := by decide +kernel
theorem dL_law_196 : decode cL_law 196 = .ok (.aload 9, 2) := by decide +kernel
theorem dL_law_198 : decode cL_law 198 = .ok (.iload 14, 2) := by decide +kernel
theorem dL_law_200 : decode cL_law 200 = .ok (.invokestatic 107, 3) := by decide +kernel
theorem dL_law_203 : decode cL_law 203 = .ok (.aload_n 1, 1) := by decide +kernel
theorem dL_law_204 : decode cL_law 204 = .ok (.iload 14, 2) := by decide +kernel
theorem dL_law_206 : decode cL_law 206 = .ok (.invokevirtual 111, 3) := by decide +kernel
theorem dL_law_209 : decode cL_law 209 = .ok (.aload 9, 2) := by decide +kernel
theorem dL_law_211 : decode cL_law 211 = .ok (.iconst 3, 1) := by decide +kernel
theorem dL_law_212 : decode cL_law 212 = .ok (.iaload, 1) := by decide +kernel
theorem dL_law_213 : decode cL_law 213 = .ok (.iconst 1, 1) := by decide +kernel
theorem dL_law_214 : decode cL_law 214 = .ok (.isub, 1) := by decide +kernel
theorem dL_law_215 : decode cL_law 215 = .ok (.if_icmp .ne 7, 3) := by decide +kernel
theorem dL_law_218 : decode cL_law 218 = .ok (.iconst 1, 1) := by decide +kernel
theorem dL_law_219 : decode cL_law 219 = .ok (.goto 4, 3) := by decide +kernel
theorem dL_law_222 : decode cL_law 222 = .ok (.iconst 0, 1) := by decide +kernel
theorem dL_law_223 : decode cL_law 223 = .ok (.istore 13, 2) := by decide +kernel
theorem dL_law_225 : decode cL_law 225 = .ok (.goto 542, 3) := by decide +kernel
theorem dL_law_228 : decode cL_law 228 = .ok (.aload 9, 2) := by decide +kernel
theorem dL_law_230 : decode cL_law 230 = .ok (.iconst 2, 1) := by decide +kernel
theorem dL_law_231 : decode cL_law 231 = .ok (.iaload, 1) := by decide +kernel
theorem dL_law_232 : decode cL_law 232 = .ok (.iconst 1, 1) := by decide +kernel
theorem dL_law_233 : decode cL_law 233 = .ok (.if_icmp .ne 61, 3) := by decide +kernel
theorem dL_law_236 : decode cL_law 236 = .ok (.iload 12, 2) := by decide +kernel
theorem dL_law_238 : decode cL_law 238 = .ok (.bipush 17, 2) := by decide +kernel
theorem dL_law_240 : decode cL_law 240 = .ok (.if_icmp .ge 54, 3) := by decide +kernel
theorem dL_law_243 : decode cL_law 243 = .ok (.aload_n 1, 1) := by decide +kernel
theorem dL_law_244 : decode cL_law 244 = .ok (.invokevirtual 113, 3) := by decide +kernel
theorem dL_law_247 : decode cL_law 247 = .ok (.aload_n 2, 1) := by decide +kernel
theorem dL_law_248 : decode cL_law 248 = .ok (.aload_n 3, 1) := by decide +kernel
theorem dL_law_249 : decode cL_law 249 = .ok (.aload 4, 2) := by decide +kernel
theorem dL_law_251 : decode cL_law 251 = .ok (.aload 5, 2) := by decide +kernel
theorem dL_law_253 : decode cL_law 253 = .ok (.aload 6, 2) := by decide +kernel
theorem dL_law_255 : decode cL_law 255 = .ok (.aload 7, 2) := by decide +kernel
theorem dL_law_257 : decode cL_law 257 = .ok (.aload 9, 2) := by decide +kernel
theorem dL_law_259 : decode cL_law 259 = .ok (.invokestatic 22, 3) := by decide +kernel
theorem dL_law_262 : decode cL_law 262 = .ok (.if_icmp .ne 26, 3) := by decide +kernel
theorem dL_law_265 : decode cL_law 265 = .ok (.aload_n 1, 1) := by decide +kernel
theorem dL_law_266 : decode cL_law 266 = .ok (.invokevirtual 116, 3) := by decide +kernel
theorem dL_law_269 : decode cL_law 269 = .ok (.bipush (-3), 2) := by decide +kernel
theorem dL_law_271 : decode cL_law 271 = .ok (.if_icmp .ne 17, 3) := by decide +kernel
theorem dL_law_274 : decode cL_law 274 = .ok (.aload_n 1, 1) := by decide +kernel
theorem dL_law_275 : decode cL_law 275 = .ok (.iconst 1, 1) := by decide +kernel
theorem dL_law_276 : decode cL_law 276 = .ok (.invokevirtual 119, 3) := by decide +kernel
theorem dL_law_279 : decode cL_law 279 = .ok (.bipush (-3), 2) := by decide +kernel
theorem dL_law_281 : decode cL_law 281 = .ok (.if_icmp .ne 7, 3) := by decide +kernel
theorem dL_law_284 : decode cL_law 284 = .ok (.iconst 1, 1) := by decide +kernel
theorem dL_law_285 : decode cL_law 285 = .ok (.goto 4, 3) := by decide +kernel
theorem dL_law_288 : decode cL_law 288 = .ok (.iconst 0, 1) := by decide +kernel
theorem dL_law_289 : decode cL_law 289 = .ok (.istore 13, 2) := by decide +kernel
theorem dL_law_291 : decode cL_law 291 = .ok (.goto 476, 3) := by decide +kernel
theorem dL_law_294 : decode cL_law 294 = .ok (.iload 12, 2) := by decide +kernel
theorem dL_law_296 : decode cL_law 296 = .ok (.iconst 4, 1) := by decide +kernel
theorem dL_law_297 : decode cL_law 297 = .ok (.if_icmp .lt 10, 3) := by decide +kernel
theorem dL_law_300 : decode cL_law 300 = .ok (.iload 12, 2) := by decide +kernel
theorem dL_law_302 : decode cL_law 302 = .ok (.bipush 17, 2) := by decide +kernel
theorem dL_law_304 : decode cL_law 304 = .ok (.if_icmp .ne 68, 3) := by decide +kernel
theorem dL_law_307 : decode cL_law 307 = .ok (.iconst 2, 1) := by decide +kernel
theorem dL_law_308 : decode cL_law 308 = .ok (.iload 11, 2) := by decide +kernel
theorem dL_law_310 : decode cL_law 310 = .ok (.iconst 5, 1) := by decide +kernel
theorem dL_law_311 : decode cL_law 311 = .ok (.ishr, 1) := by decide +kernel
theorem dL_law_312 : decode cL_law 312 = .ok (.iload 11, 2) := by decide +kernel
theorem dL_law_314 : decode cL_law 314 = .ok (.bipush 25, 2) := by decide +kernel
theorem dL_law_316 : decode cL_law 316 = .ok (.ishr, 1) := by decide +kernel
theorem dL_law_317 : decode cL_law 317 = .ok (.iconst 2, 1) := by decide +kernel
theorem dL_law_318 : decode cL_law 318 = .ok (.invokestatic 63, 3) := by decide +kernel
theorem dL_law_321 : decode cL_law 321 = .ok (.ifCond .ne 8, 3) := by decide +kernel
theorem dL_law_324 : decode cL_law 324 = .ok (.bipush 19, 2) := by decide +kernel
theorem dL_law_326 : decode cL_law 326 = .ok (.goto 4, 3) := by decide +kernel
theorem dL_law_329 : decode cL_law 329 = .ok (.iconst 5, 1) := by decide +kernel
theorem dL_law_330 : decode cL_law 330 = .ok (.invokestatic 63, 3) := by decide +kernel
theorem dL_law_333 : decode cL_law 333 = .ok (.iadd, 1) := by decide +kernel
theorem dL_law_334 : decode cL_law 334 = .ok (.istore 14, 2) := by decide +kernel
theorem dL_law_336 : decode cL_law 336 = .ok (.aload_n 1, 1) := by decide +kernel
theorem dL_law_337 : decode cL_law 337 = .ok (.iload 14, 2) := by decide +kernel
theorem dL_law_339 : decode cL_law 339 = .ok (.invokevirtual 121, 3) := by decide +kernel
theorem dL_law_342 : decode cL_law 342 = .ok (.aload_n 2, 1) := by decide +kernel
theorem dL_law_343 : decode cL_law 343 = .ok (.aload_n 3, 1) := by decide +kernel
theorem dL_law_344 : decode cL_law 344 = .ok (.aload 4, 2) := by decide +kernel
theorem dL_law_346 : decode cL_law 346 = .ok (.aload 5, 2) := by decide +kernel
theorem dL_law_348 : decode cL_law 348 = .ok (.aload 6, 2) := by decide +kernel
theorem dL_law_350 : decode cL_law 350 = .ok (.aload 7, 2) := by decide +kernel
theorem dL_law_352 : decode cL_law 352 = .ok (.aload 9, 2) := by decide +kernel
theorem dL_law_354 : decode cL_law 354 = .ok (.iload 14, 2) := by decide +kernel
theorem dL_law_356 : decode cL_law 356 = .ok (.invokestatic 49, 3) := by decide +kernel
theorem dL_law_359 : decode cL_law 359 = .ok (.if_icmp .ne 7, 3) := by decide +kernel
theorem dL_law_362 : decode cL_law 362 = .ok (.iconst 1, 1) := by decide +kernel
theorem dL_law_363 : decode cL_law 363 = .ok (.goto 4, 3) := by decide +kernel
theorem dL_law_366 : decode cL_law 366 = .ok (.iconst 0, 1) := by decide +kernel
theorem dL_law_367 : decode cL_law 367 = .ok (.istore 13, 2) := by decide +kernel
theorem dL_law_369 : decode cL_law 369 = .ok (.goto 398, 3) := by decide +kernel
theorem dL_law_372 : decode cL_law 372 = .ok (.aload 9, 2) := by decide +kernel
theorem dL_law_374 : decode cL_law 374 = .ok (.iconst 2, 1) := by decide +kernel
theorem dL_law_375 : decode cL_law 375 = .ok (.iaload, 1) := by decide +kernel
theorem dL_law_376 : decode cL_law 376 = .ok (.iconst 1, 1) := by decide +kernel
theorem dL_law_377 : decode cL_law 377 = .ok (.if_icmp .ne 90, 3) := by decide +kernel
theorem dL_law_380 : decode cL_law 380 = .ok (.iload 12, 2) := by decide +kernel
theorem dL_law_382 : decode cL_law 382 = .ok (.bipush 18, 2) := by decide +kernel
theorem dL_law_384 : decode cL_law 384 = .ok (.if_icmp .eq 12, 3) := by decide +kernel
theorem dL_law_387 : decode cL_law 387 = .ok (.aload 9, 2) := by decide +kernel
theorem dL_law_389 : decode cL_law 389 = .ok (.iconst 3, 1) := by decide +kernel
theorem dL_law_390 : decode cL_law 390 = .ok (.iaload, 1) := by decide +kernel
theorem dL_law_391 : decode cL_law 391 = .ok (.bipush 40, 2) := by decide +kernel
theorem dL_law_393 : decode cL_law 393 = .ok (.if_icmp .le 74, 3) := by decide +kernel
theorem dL_law_396 : decode cL_law 396 = .ok (.aload_n 2, 1) := by decide +kernel
theorem dL_law_397 : decode cL_law 397 = .ok (.aload_n 3, 1) := by decide +kernel
theorem dL_law_398 : decode cL_law 398 = .ok (.aload 4, 2) := by decide +kernel
theorem dL_law_400 : decode cL_law 400 = .ok (.aload 5, 2) := by decide +kernel
theorem dL_law_402 : decode cL_law 402 = .ok (.aload 6, 2) := by decide +kernel
theorem dL_law_404 : decode cL_law 404 = .ok (.aload 7, 2) := by decide +kernel
theorem dL_law_406 : decode cL_law 406 = .ok (.aload 9, 2) := by decide +kernel
theorem dL_law_408 : decode cL_law 408 = .ok (.invokestatic 22, 3) := by decide +kernel
theorem dL_law_411 : decode cL_law 411 = .ok (.pop, 1) := by decide +kernel
theorem dL_law_412 : decode cL_law 412 = .ok (.aload 9, 2) := by decide +kernel
theorem dL_law_414 : decode cL_law 414 = .ok (.iconst 2, 1) := by decide +kernel
theorem dL_law_415 : decode cL_law 415 = .ok (.iconst 0, 1) := by decide +kernel
theorem dL_law_416 : decode cL_law 416 = .ok (.iastore, 1) := by decide +kernel
theorem dL_law_417 : decode cL_law 417 = .ok (.aload_n 1, 1) := by decide +kernel
theorem dL_law_418 : decode cL_law 418 = .ok (.invokevirtual 123, 3) := by decide +kernel
theorem dL_law_421 : decode cL_law 421 = .ok (.aload 9, 2) := by decide +kernel
theorem dL_law_423 : decode cL_law 423 = .ok (.bipush 10, 2) := by decide +kernel
theorem dL_law_425 : decode cL_law 425 = .ok (.iaload, 1) := by decide +kernel
theorem dL_law_426 : decode cL_law 426 = .ok (.if_icmp .ne 35, 3) := by decide +kernel
theorem dL_law_429 : decode cL_law 429 = .ok (.aload_n 1, 1) := by decide +kernel
theorem dL_law_430 : decode cL_law 430 = .ok (.iconst 1, 1) := by decide +kernel
theorem dL_law_431 : decode cL_law 431 = .ok (.invokevirtual 111, 3) := by decide +kernel
theorem dL_law_434 : decode cL_law 434 = .ok (.bipush (-3), 2) := by decide +kernel
theorem dL_law_436 : decode cL_law 436 = .ok (.if_icmp .ne 25, 3) := by decide +kernel
theorem dL_law_439 : decode cL_law 439 = .ok (.aload_n 1, 1) := by decide +kernel
theorem dL_law_440 : decode cL_law 440 = .ok (.invokevirtual 113, 3) := by decide +kernel
theorem dL_law_443 : decode cL_law 443 = .ok (.bipush (-3), 2) := by decide +kernel
theorem dL_law_445 : decode cL_law 445 = .ok (.if_icmp .ne 16, 3) := by decide +kernel
theorem dL_law_448 : decode cL_law 448 = .ok (.aload_n 1, 1) := by decide +kernel
theorem dL_law_449 : decode cL_law 449 = .ok (.invokevirtual 123, 3) := by decide +kernel
theorem dL_law_452 : decode cL_law 452 = .ok (.bipush (-3), 2) := by decide +kernel
theorem dL_law_454 : decode cL_law 454 = .ok (.if_icmp .ne 7, 3) := by decide +kernel
theorem dL_law_457 : decode cL_law 457 = .ok (.iconst 1, 1) := by decide +kernel
theorem dL_law_458 : decode cL_law 458 = .ok (.goto 4, 3) := by decide +kernel
theorem dL_law_461 : decode cL_law 461 = .ok (.iconst 0, 1) := by decide +kernel
theorem dL_law_462 : decode cL_law 462 = .ok (.istore 13, 2) := by decide +kernel
theorem dL_law_464 : decode cL_law 464 = .ok (.goto 303, 3) := by decide +kernel
theorem dL_law_467 : decode cL_law 467 = .ok (.aload 9, 2) := by decide +kernel
theorem dL_law_469 : decode cL_law 469 = .ok (.iconst 2, 1) := by decide +kernel
theorem dL_law_470 : decode cL_law 470 = .ok (.iaload, 1) := by decide +kernel
theorem dL_law_471 : decode cL_law 471 = .ok (.ifCond .ne 106, 3) := by decide +kernel
theorem dL_law_474 : decode cL_law 474 = .ok (.aload 9, 2) := by decide +kernel
theorem dL_law_476 : decode cL_law 476 = .ok (.iconst 5, 1) := by decide +kernel
theorem dL_law_477 : decode cL_law 477 = .ok (.iaload, 1) := by decide +kernel
theorem dL_law_478 : decode cL_law 478 = .ok (.ifCond .ne 99, 3) := by decide +kernel
theorem dL_law_481 : decode cL_law 481 = .ok (.iload 12, 2) := by decide +kernel
theorem dL_law_483 : decode cL_law 483 = .ok (.bipush 14, 2) := by decide +kernel
theorem dL_law_485 : decode cL_law 485 = .ok (.if_icmp .ge 92, 3) := by decide +kernel
theorem dL_law_488 : decode cL_law 488 = .ok (.aload 9, 2) := by decide +kernel
theorem dL_law_490 : decode cL_law 490 = .ok (.bipush 10, 2) := by decide +kernel
theorem dL_law_492 : decode cL_law 492 = .ok (.iaload, 1) := by decide +kernel
theorem dL_law_493 : decode cL_law 493 = .ok (.iconst 1, 1) := by decide +kernel
theorem dL_law_494 : decode cL_law 494 = .ok (.if_icmp .le 18, 3) := by decide +kernel
theorem dL_law_497 : decode cL_law 497 = .ok (.aload 9, 2) := by decide +kernel
theorem dL_law_499 : decode cL_law 499 = .ok (.iconst 0, 1) := by decide +kernel
theorem dL_law_500 : decode cL_law 500 = .ok (.iaload, 1) := by decide +kernel
theorem dL_law_501 : decode cL_law 501 = .ok (.invokestatic 30, 3) := by decide +kernel
theorem dL_law_504 : decode cL_law 504 = .ok (.iconst 1, 1) := by decide +kernel
theorem dL_law_505 : decode cL_law 505 = .ok (.if_icmp .le 7, 3) := by decide +kernel
theorem dL_law_508 : decode cL_law 508 = .ok (.iconst 1, 1) := by decide +kernel
theorem dL_law_509 : decode cL_law 509 = .ok (.goto 4, 3) := by decide +kernel
theorem dL_law_512 : decode cL_law 512 = .ok (.iconst 0, 1) := by decide +kernel
theorem dL_law_513 : decode cL_law 513 = .ok (.istore 14, 2) := by decide +kernel
theorem dL_law_515 : decode cL_law 515 = .ok (.iload 14, 2) := by decide +kernel
theorem dL_law_517 : decode cL_law 517 = .ok (.ifCond .eq 13, 3) := by decide +kernel
theorem dL_law_520 : decode cL_law 520 = .ok (.aload_n 3, 1) := by decide +kernel
theorem dL_law_521 : decode cL_law 521 = .ok (.aload 4, 2) := by decide +kernel
theorem dL_law_523 : decode cL_law 523 = .ok (.aload 5, 2) := by decide +kernel
theorem dL_law_525 : decode cL_law 525 = .ok (.aload 9, 2) := by decide +kernel
theorem dL_law_527 : decode cL_law 527 = .ok (.invokestatic 38, 3) := by decide +kernel
theorem dL_law_530 : decode cL_law 530 = .ok (.aload_n 1, 1) := by decide +kernel
theorem dL_law_531 : decode cL_law 531 = .ok (.invokevirtual 116, 3) := by decide +kernel
theorem dL_law_534 : decode cL_law 534 = .ok (.iload 14, 2) := by decide +kernel
theorem dL_law_536 : decode cL_law 536 = .ok (.ifCond .eq 11, 3) := by decide +kernel
theorem dL_law_539 : decode cL_law 539 = .ok (.aload 9, 2) := by decide +kernel
theorem dL_law_541 : decode cL_law 541 = .ok (.bipush 6, 2) := by decide +kernel
theorem dL_law_543 : decode cL_law 543 = .ok (.iaload, 1) := by decide +kernel
theorem dL_law_544 : decode cL_law 544 = .ok (.goto 5, 3) := by decide +kernel
theorem dL_law_547 : decode cL_law 547 = .ok (.bipush (-3), 2) := by decide +kernel
theorem dL_law_549 : decode cL_law 549 = .ok (.if_icmp .ne 22, 3) := by decide +kernel
theorem dL_law_552 : decode cL_law 552 = .ok (.iload 14, 2) := by decide +kernel
theorem dL_law_554 : decode cL_law 554 = .ok (.ifCond .ne 13, 3) := by decide +kernel
theorem dL_law_557 : decode cL_law 557 = .ok (.aload_n 1, 1) := by decide +kernel
theorem dL_law_558 : decode cL_law 558 = .ok (.iconst 5, 1) := by decide +kernel
theorem dL_law_559 : decode cL_law 559 = .ok (.invokevirtual 119, 3) := by decide +kernel
theorem dL_law_562 : decode cL_law 562 = .ok (.bipush (-3), 2) := by decide +kernel
theorem dL_law_564 : decode cL_law 564 = .ok (.if_icmp .ne 7, 3) := by decide +kernel
theorem dL_law_567 : decode cL_law 567 = .ok (.iconst 1, 1) := by decide +kernel
theorem dL_law_568 : decode cL_law 568 = .ok (.goto 4, 3) := by decide +kernel
theorem dL_law_571 : decode cL_law 571 = .ok (.iconst 0, 1) := by decide +kernel
theorem dL_law_572 : decode cL_law 572 = .ok (.istore 13, 2) := by decide +kernel
theorem dL_law_574 : decode cL_law 574 = .ok (.goto 193, 3) := by decide +kernel
theorem dL_law_577 : decode cL_law 577 = .ok (.aload 9, 2) := by decide +kernel
theorem dL_law_579 : decode cL_law 579 = .ok (.iconst 5, 1) := by decide +kernel
theorem dL_law_580 : decode cL_law 580 = .ok (.iaload, 1) := by decide +kernel
theorem dL_law_581 : decode cL_law 581 = .ok (.iconst 1, 1) := by decide +kernel
theorem dL_law_582 : decode cL_law 582 = .ok (.if_icmp .ne 93, 3) := by decide +kernel
theorem dL_law_585 : decode cL_law 585 = .ok (.iconst 1, 1) := by decide +kernel
theorem dL_law_586 : decode cL_law 586 = .ok (.iload 11, 2) := by decide +kernel
theorem dL_law_588 : decode cL_law 588 = .ok (.iconst 5, 1) := by decide +kernel
theorem dL_law_589 : decode cL_law 589 = .ok (.ishr, 1) := by decide +kernel
theorem dL_law_590 : decode cL_law 590 = .ok (.iload 11, 2) := by decide +kernel
theorem dL_law_592 : decode cL_law 592 = .ok (.bipush 25, 2) := by decide +kernel
theorem dL_law_594 : decode cL_law 594 = .ok (.ishr, 1) := by decide +kernel
theorem dL_law_595 : decode cL_law 595 = .ok (.iconst 3, 1) := by decide +kernel
theorem dL_law_596 : decode cL_law 596 = .ok (.invokestatic 63, 3) := by decide +kernel
theorem dL_law_599 : decode cL_law 599 = .ok (.ifCond .ne 8, 3) := by decide +kernel
theorem dL_law_602 : decode cL_law 602 = .ok (.bipush 40, 2) := by decide +kernel
theorem dL_law_604 : decode cL_law 604 = .ok (.goto 5, 3) := by decide +kernel
theorem dL_law_607 : decode cL_law 607 = .ok (.bipush 6, 2) := by decide +kernel
theorem dL_law_609 : decode cL_law 609 = .ok (.invokestatic 63, 3) := by decide +kernel
theorem dL_law_612 : decode cL_law 612 = .ok (.iadd, 1) := by decide +kernel
theorem dL_law_613 : decode cL_law 613 = .ok (.istore 14, 2) := by decide +kernel
theorem dL_law_615 : decode cL_law 615 = .ok (.iconst 0, 1) := by decide +kernel
theorem dL_law_616 : decode cL_law 616 = .ok (.istore 15, 2) := by decide +kernel
theorem dL_law_618 : decode cL_law 618 = .ok (.iload 15, 2) := by decide +kernel
theorem dL_law_620 : decode cL_law 620 = .ok (.iload 14, 2) := by decide +kernel
theorem dL_law_622 : decode cL_law 622 = .ok (.if_icmp .ge 32, 3) := by decide +kernel
theorem dL_law_625 : decode cL_law 625 = .ok (.aload 9, 2) := by decide +kernel
theorem dL_law_627 : decode cL_law 627 = .ok (.iconst 5, 1) := by decide +kernel
theorem dL_law_628 : decode cL_law 628 = .ok (.iaload, 1) := by decide +kernel
theorem dL_law_629 : decode cL_law 629 = .ok (.iconst 1, 1) := by decide +kernel
theorem dL_law_630 : decode cL_law 630 = .ok (.if_icmp .ne 24, 3) := by decide +kernel
theorem dL_law_633 : decode cL_law 633 = .ok (.aload_n 2, 1) := by decide +kernel
theorem dL_law_634 : decode cL_law 634 = .ok (.aload_n 3, 1) := by decide +kernel
theorem dL_law_635 : decode cL_law 635 = .ok (.aload 4, 2) := by decide +kernel
theorem dL_law_637 : decode cL_law 637 = .ok (.aload 5, 2) := by decide +kernel
theorem dL_law_639 : decode cL_law 639 = .ok (.aload 7, 2) := by decide +kernel
theorem dL_law_641 : decode cL_law 641 = .ok (.aload 8, 2) := by decide +kernel
theorem dL_law_643 : decode cL_law 643 = .ok (.aload 9, 2) := by decide +kernel
theorem dL_law_645 : decode cL_law 645 = .ok (.invokestatic 41, 3) := by decide +kernel
theorem dL_law_648 : decode cL_law 648 = .ok (.iinc 15 1, 3) := by decide +kernel
theorem dL_law_651 : decode cL_law 651 = .ok (.goto (-33), 3) := by decide +kernel
theorem dL_law_654 : decode cL_law 654 = .ok (.aload_n 1, 1) := by decide +kernel
theorem dL_law_655 : decode cL_law 655 = .ok (.iload 14, 2) := by decide +kernel
theorem dL_law_657 : decode cL_law 657 = .ok (.invokevirtual 119, 3) := by decide +kernel
theorem dL_law_660 : decode cL_law 660 = .ok (.iload 15, 2) := by decide +kernel
theorem dL_law_662 : decode cL_law 662 = .ok (.if_icmp .ne 7, 3) := by decide +kernel
theorem dL_law_665 : decode cL_law 665 = .ok (.iconst 1, 1) := by decide +kernel
theorem dL_law_666 : decode cL_law 666 = .ok (.goto 4, 3) := by decide +kernel
theorem dL_law_669 : decode cL_law 669 = .ok (.iconst 0, 1) := by decide +kernel
theorem dL_law_670 : decode cL_law 670 = .ok (.istore 13, 2) := by decide +kernel
theorem dL_law_672 : decode cL_law 672 = .ok (.goto 95, 3) := by decide +kernel
theorem dL_law_675 : decode cL_law 675 = .ok (.iload 12, 2) := by decide +kernel
theorem dL_law_677 : decode cL_law 677 = .ok (.bipush 19, 2) := by decide +kernel
theorem dL_law_679 : decode cL_law 679 = .ok (.if_icmp .ne 88, 3) := by decide +kernel
theorem dL_law_682 : decode cL_law 682 = .ok (.iload 11, 2) := by decide +kernel
theorem dL_law_684 : decode cL_law 684 = .ok (.iconst 5, 1) := by decide +kernel
theorem dL_law_685 : decode cL_law 685 = .ok (.ishr, 1) := by decide +kernel
theorem dL_law_686 : decode cL_law 686 = .ok (.iconst 3, 1) := by decide +kernel
theorem dL_law_687 : decode cL_law 687 = .ok (.invokestatic 63, 3) := by decide +kernel
theorem dL_law_690 : decode cL_law 690 = .ok (.ifCond .ne 77, 3) := by decide +kernel
theorem dL_law_693 : decode cL_law 693 = .ok (.aload_n 2, 1) := by decide +kernel
theorem dL_law_694 : decode cL_law 694 = .ok (.aload_n 3, 1) := by decide +kernel
theorem dL_law_695 : decode cL_law 695 = .ok (.aload 4, 2) := by decide +kernel
theorem dL_law_697 : decode cL_law 697 = .ok (.aload 5, 2) := by decide +kernel
theorem dL_law_699 : decode cL_law 699 = .ok (.aload 6, 2) := by decide +kernel
theorem dL_law_701 : decode cL_law 701 = .ok (.aload 7, 2) := by decide +kernel
theorem dL_law_703 : decode cL_law 703 = .ok (.aload 8, 2) := by decide +kernel
theorem dL_law_705 : decode cL_law 705 = .ok (.aload 9, 2) := by decide +kernel
theorem dL_law_707 : decode cL_law 707 = .ok (.aload 9, 2) := by decide +kernel
theorem dL_law_709 : decode cL_law 709 = .ok (.iconst 0, 1) := by decide +kernel
theorem dL_law_710 : decode cL_law 710 = .ok (.iaload, 1) := by decide +kernel
theorem dL_law_711 : decode cL_law 711 = .ok (.bipush 7, 2) := by decide +kernel
theorem dL_law_713 : decode cL_law 713 = .ok (.invokestatic 126, 3) := by decide +kernel
theorem dL_law_716 : decode cL_law 716 = .ok (.ifCond .lt 7, 3) := by decide +kernel
theorem dL_law_719 : decode cL_law 719 = .ok (.iconst 1, 1) := by decide +kernel
theorem dL_law_720 : decode cL_law 720 = .ok (.goto 4, 3) := by decide +kernel
theorem dL_law_723 : decode cL_law 723 = .ok (.iconst 0, 1) := by decide +kernel
theorem dL_law_724 : decode cL_law 724 = .ok (.istore 14, 2) := by decide +kernel
theorem dL_law_726 : decode cL_law 726 = .ok (.aload_n 1, 1) := by decide +kernel
theorem dL_law_727 : decode cL_law 727 = .ok (.invokevirtual 130, 3) := by decide +kernel
theorem dL_law_730 : decode cL_law 730 = .ok (.iload 14, 2) := by decide +kernel
theorem dL_law_732 : decode cL_law 732 = .ok (.ifCond .eq 23, 3) := by decide +kernel
theorem dL_law_735 : decode cL_law 735 = .ok (.aload_n 2, 1) := by decide +kernel
theorem dL_law_736 : decode cL_law 736 = .ok (.aload_n 3, 1) := by decide +kernel
theorem dL_law_737 : decode cL_law 737 = .ok (.aload 4, 2) := by decide +kernel
theorem dL_law_739 : decode cL_law 739 = .ok (.aload 5, 2) := by decide +kernel
theorem dL_law_741 : decode cL_law 741 = .ok (.aload 6, 2) := by decide +kernel
theorem dL_law_743 : decode cL_law 743 = .ok (.aload 7, 2) := by decide +kernel
theorem dL_law_745 : decode cL_law 745 = .ok (.aload 8, 2) := by decide +kernel
theorem dL_law_747 : decode cL_law 747 = .ok (.aload 9, 2) := by decide +kernel
theorem dL_law_749 : decode cL_law 749 = .ok (.invokestatic 53, 3) := by decide +kernel
theorem dL_law_752 : decode cL_law 752 = .ok (.goto 5, 3) := by decide +kernel
theorem dL_law_755 : decode cL_law 755 = .ok (.bipush (-3), 2) := by decide +kernel
theorem dL_law_757 : decode cL_law 757 = .ok (.if_icmp .ne 7, 3) := by decide +kernel
theorem dL_law_760 : decode cL_law 760 = .ok (.iconst 1, 1) := by decide +kernel
theorem dL_law_761 : decode cL_law 761 = .ok (.goto 4, 3) := by decide +kernel
theorem dL_law_764 : decode cL_law 764 = .ok (.iconst 0, 1) := by decide +kernel
theorem dL_law_765 : decode cL_law 765 = .ok (.istore 13, 2) := by decide +kernel
theorem dL_law_767 : decode cL_law 767 = .ok (.aload_n 0, 1) := by decide +kernel
theorem dL_law_768 : decode cL_law 768 = .ok (.bipush 100, 2) := by decide +kernel
theorem dL_law_770 : decode cL_law 770 = .ok (.iload 10, 2) := by decide +kernel
theorem dL_law_772 : decode cL_law 772 = .ok (.iadd, 1) := by decide +kernel
theorem dL_law_773 : decode cL_law 773 = .ok (.invokestatic 100, 3) := by decide +kernel
theorem dL_law_776 : decode cL_law 776 = .ok (.istore 14, 2) := by decide +kernel
theorem dL_law_778 : decode cL_law 778 = .ok (.iconst 2, 1) := by decide +kernel
theorem dL_law_779 : decode cL_law 779 = .ok (.iload 14, 2) := by decide +kernel
theorem dL_law_781 : decode cL_law 781 = .ok (.iconst 4, 1) := by decide +kernel
theorem dL_law_782 : decode cL_law 782 = .ok (.ishr, 1) := by decide +kernel
theorem dL_law_783 : decode cL_law 783 = .ok (.bipush 19, 2) := by decide +kernel
theorem dL_law_785 : decode cL_law 785 = .ok (.invokestatic 63, 3) := by decide +kernel
theorem dL_law_788 : decode cL_law 788 = .ok (.iadd, 1) := by decide +kernel
theorem dL_law_789 : decode cL_law 789 = .ok (.istore 15, 2) := by decide +kernel
theorem dL_law_791 : decode cL_law 791 = .ok (.iload 13, 2) := by decide +kernel
theorem dL_law_793 : decode cL_law 793 = .ok (.ifCond .eq 117, 3) := by decide +kernel
theorem dL_law_796 : decode cL_law 796 = .ok (.aload_n 1, 1) := by decide +kernel
theorem dL_law_797 : decode cL_law 797 = .ok (.aload_n 2, 1) := by decide +kernel
theorem dL_law_798 : decode cL_law 798 = .ok (.aload_n 3, 1) := by decide +kernel
theorem dL_law_799 : decode cL_law 799 = .ok (.aload 4, 2) := by decide +kernel
theorem dL_law_801 : decode cL_law 801 = .ok (.aload 5, 2) := by decide +kernel
theorem dL_law_803 : decode cL_law 803 = .ok (.aload 6, 2) := by decide +kernel
theorem dL_law_805 : decode cL_law 805 = .ok (.aload 7, 2) := by decide +kernel
theorem dL_law_807 : decode cL_law 807 = .ok (.aload 8, 2) := by decide +kernel
theorem dL_law_809 : decode cL_law 809 = .ok (.aload 9, 2) := by decide +kernel
theorem dL_law_811 : decode cL_law 811 = .ok (.iload 14, 2) := by decide +kernel
theorem dL_law_813 : decode cL_law 813 = .ok (.bipush 9, 2) := by decide +kernel
theorem dL_law_815 : decode cL_law 815 = .ok (.ishr, 1) := by decide +kernel
theorem dL_law_816 : decode cL_law 816 = .ok (.invokestatic 132, 3) := by decide +kernel
theorem dL_law_819 : decode cL_law 819 = .ok (.ifCond .eq 91, 3) := by decide +kernel
theorem dL_law_822 : decode cL_law 822 = .ok (.aload_n 1, 1) := by decide +kernel
theorem dL_law_823 : decode cL_law 823 = .ok (.aload_n 2, 1) := by decide +kernel
theorem dL_law_824 : decode cL_law 824 = .ok (.aload_n 3, 1) := by decide +kernel
theorem dL_law_825 : decode cL_law 825 = .ok (.aload 4, 2) := by decide +kernel
theorem dL_law_827 : decode cL_law 827 = .ok (.aload 5, 2) := by decide +kernel
theorem dL_law_829 : decode cL_law 829 = .ok (.aload 7, 2) := by decide +kernel
theorem dL_law_831 : decode cL_law 831 = .ok (.aload 8, 2) := by decide +kernel
theorem dL_law_833 : decode cL_law 833 = .ok (.aload 9, 2) := by decide +kernel
theorem dL_law_835 : decode cL_law 835 = .ok (.iload 14, 2) := by decide +kernel
theorem dL_law_837 : decode cL_law 837 = .ok (.invokestatic 136, 3) := by decide +kernel
theorem dL_law_840 : decode cL_law 840 = .ok (.ifCond .eq 70, 3) := by decide +kernel
theorem dL_law_843 : decode cL_law 843 = .ok (.iload 10, 2) := by decide +kernel
theorem dL_law_845 : decode cL_law 845 = .ok (.iconst 3, 1) := by decide +kernel
theorem dL_law_846 : decode cL_law 846 = .ok (.irem, 1) := by decide +kernel
theorem dL_law_847 : decode cL_law 847 = .ok (.ifCond .ne 65, 3) := by decide +kernel
theorem dL_law_850 : decode cL_law 850 = .ok (.aload_n 1, 1) := by decide +kernel
theorem dL_law_851 : decode cL_law 851 = .ok (.iload 15, 2) := by decide +kernel
theorem dL_law_853 : decode cL_law 853 = .ok (.invokevirtual 140, 3) := by decide +kernel
theorem dL_law_856 : decode cL_law 856 = .ok (.aload_n 2, 1) := by decide +kernel
theorem dL_law_857 : decode cL_law 857 = .ok (.aload_n 3, 1) := by decide +kernel
theorem dL_law_858 : decode cL_law 858 = .ok (.aload 4, 2) := by decide +kernel
theorem dL_law_860 : decode cL_law 860 = .ok (.aload 5, 2) := by decide +kernel
theorem dL_law_862 : decode cL_law 862 = .ok (.aload 6, 2) := by decide +kernel
theorem dL_law_864 : decode cL_law 864 = .ok (.aload 7, 2) := by decide +kernel
theorem dL_law_866 : decode cL_law 866 = .ok (.aload 8, 2) := by decide +kernel
theorem dL_law_868 : decode cL_law 868 = .ok (.aload 9, 2) := by decide +kernel
theorem dL_law_870 : decode cL_law 870 = .ok (.iload 15, 2) := by decide +kernel
theorem dL_law_872 : decode cL_law 872 = .ok (.bipush 7, 2) := by decide +kernel
theorem dL_law_874 : decode cL_law 874 = .ok (.invokestatic 126, 3) := by decide +kernel
theorem dL_law_877 : decode cL_law 877 = .ok (.if_icmp .ne 33, 3) := by decide +kernel
theorem dL_law_880 : decode cL_law 880 = .ok (.aload_n 1, 1) := by decide +kernel
theorem dL_law_881 : decode cL_law 881 = .ok (.iload 15, 2) := by decide +kernel
theorem dL_law_883 : decode cL_law 883 = .ok (.invokevirtual 143, 3) := by decide +kernel
theorem dL_law_886 : decode cL_law 886 = .ok (.aload_n 2, 1) := by decide +kernel
theorem dL_law_887 : decode cL_law 887 = .ok (.aload_n 3, 1) := by decide +kernel
theorem dL_law_888 : decode cL_law 888 = .ok (.aload 4, 2) := by decide +kernel
theorem dL_law_890 : decode cL_law 890 = .ok (.aload 5, 2) := by decide +kernel
theorem dL_law_892 : decode cL_law 892 = .ok (.aload 6, 2) := by decide +kernel
theorem dL_law_894 : decode cL_law 894 = .ok (.aload 7, 2) := by decide +kernel
theorem dL_law_896 : decode cL_law 896 = .ok (.aload 8, 2) := by decide +kernel
theorem dL_law_898 : decode cL_law 898 = .ok (.aload 9, 2) := by decide +kernel
theorem dL_law_900 : decode cL_law 900 = .ok (.iload 15, 2) := by decide +kernel
theorem dL_law_902 : decode cL_law 902 = .ok (.bipush 8, 2) := by decide +kernel
theorem dL_law_904 : decode cL_law 904 = .ok (.invokestatic 126, 3) := by decide +kernel
theorem dL_law_907 : decode cL_law 907 = .ok (.if_icmp .eq 5, 3) := by decide +kernel
theorem dL_law_910 : decode cL_law 910 = .ok (.iconst 0, 1) := by decide +kernel
theorem dL_law_911 : decode cL_law 911 = .ok (.ireturn, 1) := by decide +kernel
theorem dL_law_912 : decode cL_law 912 = .ok (.iinc 10 1, 3) := by decide +kernel
theorem dL_law_915 : decode cL_law 915 = .ok (.goto (-811), 3) := by decide +kernel
theorem dL_law_918 : decode cL_law 918 = .ok (.iconst (-1), 1) := by decide +kernel
theorem dL_law_919 : decode cL_law 919 = .ok (.istore 10, 2) := by decide +kernel
theorem dL_law_921 : decode cL_law 921 = .ok (.iconst 0, 1) := by decide +kernel
theorem dL_law_922 : decode cL_law 922 = .ok (.istore 11, 2) := by decide +kernel
theorem dL_law_924 : decode cL_law 924 = .ok (.bipush 20, 2) := by decide +kernel
theorem dL_law_926 : decode cL_law 926 = .ok (.istore 12, 2) := by decide +kernel
theorem dL_law_928 : decode cL_law 928 = .ok (.iload 12, 2) := by decide +kernel
theorem dL_law_930 : decode cL_law 930 = .ok (.iconst 1, 1) := by decide +kernel
theorem dL_law_931 : decode cL_law 931 = .ok (.if_icmp .le 74, 3) := by decide +kernel
theorem dL_law_934 : decode cL_law 934 = .ok (.aload_n 2, 1) := by decide +kernel
theorem dL_law_935 : decode cL_law 935 = .ok (.aload_n 3, 1) := by decide +kernel
theorem dL_law_936 : decode cL_law 936 = .ok (.aload 4, 2) := by decide +kernel
theorem dL_law_938 : decode cL_law 938 = .ok (.aload 5, 2) := by decide +kernel
theorem dL_law_940 : decode cL_law 940 = .ok (.aload 6, 2) := by decide +kernel
theorem dL_law_942 : decode cL_law 942 = .ok (.aload 7, 2) := by decide +kernel
theorem dL_law_944 : decode cL_law 944 = .ok (.aload 8, 2) := by decide +kernel
theorem dL_law_946 : decode cL_law 946 = .ok (.aload 9, 2) := by decide +kernel
theorem dL_law_948 : decode cL_law 948 = .ok (.iload 12, 2) := by decide +kernel
theorem dL_law_950 : decode cL_law 950 = .ok (.bipush 7, 2) := by decide +kernel
theorem dL_law_952 : decode cL_law 952 = .ok (.invokestatic 126, 3) := by decide +kernel
theorem dL_law_955 : decode cL_law 955 = .ok (.istore 13, 2) := by decide +kernel
theorem dL_law_957 : decode cL_law 957 = .ok (.iload 13, 2) := by decide +kernel
theorem dL_law_959 : decode cL_law 959 = .ok (.ifCond .lt 20, 3) := by decide +kernel
theorem dL_law_962 : decode cL_law 962 = .ok (.iload 10, 2) := by decide +kernel
theorem dL_law_964 : decode cL_law 964 = .ok (.ifCond .lt 10, 3) := by decide +kernel
theorem dL_law_967 : decode cL_law 967 = .ok (.iload 13, 2) := by decide +kernel
theorem dL_law_969 : decode cL_law 969 = .ok (.iload 11, 2) := by decide +kernel
theorem dL_law_971 : decode cL_law 971 = .ok (.if_icmp .gt 8, 3) := by decide +kernel
theorem dL_law_974 : decode cL_law 974 = .ok (.iload 12, 2) := by decide +kernel
theorem dL_law_976 : decode cL_law 976 = .ok (.goto 5, 3) := by decide +kernel
theorem dL_law_979 : decode cL_law 979 = .ok (.iload 10, 2) := by decide +kernel
theorem dL_law_981 : decode cL_law 981 = .ok (.istore 10, 2) := by decide +kernel
theorem dL_law_983 : decode cL_law 983 = .ok (.iload 10, 2) := by decide +kernel
theorem dL_law_985 : decode cL_law 985 = .ok (.iload 12, 2) := by decide +kernel
theorem dL_law_987 : decode cL_law 987 = .ok (.if_icmp .ne 8, 3) := by decide +kernel
theorem dL_law_990 : decode cL_law 990 = .ok (.iload 13, 2) := by decide +kernel
theorem dL_law_992 : decode cL_law 992 = .ok (.goto 5, 3) := by decide +kernel
theorem dL_law_995 : decode cL_law 995 = .ok (.iload 11, 2) := by decide +kernel
theorem dL_law_997 : decode cL_law 997 = .ok (.istore 11, 2) := by decide +kernel
theorem dL_law_999 : decode cL_law 999 = .ok (.iinc 12 (-1), 3) := by decide +kernel
theorem dL_law_1002 : decode cL_law 1002 = .ok (.goto (-74), 3) := by decide +kernel
theorem dL_law_1005 : decode cL_law 1005 = .ok (.aload_n 1, 1) := by decide +kernel
theorem dL_law_1006 : decode cL_law 1006 = .ok (.invokevirtual 146, 3) := by decide +kernel
theorem dL_law_1009 : decode cL_law 1009 = .ok (.iload 10, 2) := by decide +kernel
theorem dL_law_1011 : decode cL_law 1011 = .ok (.if_icmp .ne 7, 3) := by decide +kernel
theorem dL_law_1014 : decode cL_law 1014 = .ok (.iconst 1, 1) := by decide +kernel
theorem dL_law_1015 : decode cL_law 1015 = .ok (.goto 4, 3) := by decide +kernel
theorem dL_law_1018 : decode cL_law 1018 = .ok (.iconst 0, 1) := by decide +kernel
theorem dL_law_1019 : decode cL_law 1019 = .ok (.ireturn, 1) := by decide +kernel
abbrev vwCl : List vw_C := [(RX0, TX0, 2), (RX1, TX1, 3), (RX2, TX2, 6), (RX3, TX3, 4), (RX4, TX4, 4), (RX5, TX5, 16), (RX6, TX6, 7)]
