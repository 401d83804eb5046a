set_option maxRecDepth 20000 in
theorem ggL_areAlike_X4_bestFirst : GoodIn wsL_areAlike wsX4_bestFirst := goodIn_r _ [5, 6, 7, 8, 9, 10, 11, 12, 13, 14, 15, 16, 17, 18, 19, 20, 21, 22, 23, 4, 24, 25, 26, 27, 28, 29, 30, 31, 32, 33, 34, 35, 36, 37, 38, 39, 40, 41, 42, 43, 44, 45, 46, 47, 48, 49, 50, 51, 52, 53, 54, 55, 56, 57, 58, 59, 60, 61, 62, 63, 64, 65, 66, 67, 68, 69, 70, 71, 72, 73, 74, 75, 76, 77, 78, 79, 80, 81, 82, 83, 84, 85, 86, 87, 88, 89, 90, 175, 176, 177, 178, 179, 180, 181, 182, 183, 184, 185, 186, 187, 188, 189, 190, 191, 192, 193, 194, 195, 196, 197, 198, 199, 200, 201, 202] (by decide +kernel) (by decide +kernel)
set_option maxRecDepth 20000 in
theorem gL_areAlike_X4_bestFirst : GoodIn wsL_areAlike (wsV RL 91 RX4 yX4_bestFirst wsX4_bestFirst) := goodIn_app (goodIn_of _ (by decide +kernel)) ggL_areAlike_X4_bestFirst
set_option maxRecDepth 20000 in
theorem ggL_areAlike_X4_leastRacks : GoodIn wsL_areAlike wsX4_leastRacks := goodIn_r _ [94, 7, 34, 95, 96, 83, 84, 85, 97, 33, 98, 99, 100, 101, 12, 102, 20, 19, 103, 75, 4, 76, 36, 37, 38, 39, 40, 41, 42, 43, 44, 45, 46, 47, 48, 49, 50, 51, 52, 53, 54, 55, 56, 57, 58, 59, 60, 61, 62, 63, 64, 65, 66, 67, 68, 69, 70, 71, 72, 73, 74, 77, 78, 79, 80, 81, 82, 86, 87, 88, 89, 90, 175, 176, 177, 178, 179, 180, 181, 182, 183, 184, 185, 186, 187, 188, 189, 190, 191, 192, 193, 194, 195, 196, 197, 198, 199, 200, 201, 202] (by decide +kernel) (by decide +kernel)
set_option maxRecDepth 20000 in
theorem gL_areAlike_X4_leastRacks : GoodIn wsL_areAlike (wsV RL 94 RX4 yX4_leastRacks wsX4_leastRacks) := goodIn_app (goodIn_of _ (by decide +kernel)) ggL_areAlike_X4_leastRacks
set_option maxRecDepth 20000 in
theorem ggL_areAlike_X4_bestExchange : GoodIn wsL_areAlike wsX4_bestExchange := goodIn_r _ [107, 6, 7, 8, 108, 109, 4, 110, 9, 10, 11, 12, 13, 14, 15, 16, 17, 18, 19, 20, 29, 30, 31, 32, 33, 34, 35, 36, 37, 38, 39, 40, 41, 42, 43, 44, 45, 46, 47, 48, 49, 50, 51, 52, 53, 54, 55, 56, 57, 58, 59, 60, 61, 62, 63, 64, 65, 66, 67, 68, 69, 70, 71, 72, 73, 74, 75, 76, 77, 78, 79, 80, 81, 82, 83, 84, 85, 86, 87, 88, 89, 90, 111, 112, 113, 114, 115, 116, 117, 118, 175, 176, 177, 178, 179, 180, 181, 182, 183, 184, 185, 186, 187, 188, 189, 190, 191, 192, 193, 194, 195, 196, 197, 198, 199, 200, 201, 202] (by decide +kernel) (by decide +kernel)
set_option maxRecDepth 20000 in
theorem gL_areAlike_X4_bestExchange : GoodIn wsL_areAlike (wsV RL 97 RX4 yX4_bestExchange wsX4_bestExchange) := goodIn_app (goodIn_of _ (by decide +kernel)) ggL_areAlike_X4_bestExchange
set_option maxRecDepth 20000 in
theorem ggL_areAlike_L_twice : GoodIn wsL_areAlike wsL_twice := goodIn_r _ [122] (by decide +kernel) (by decide +kernel)
set_option maxRecDepth 20000 in
theorem gL_areAlike_L_twice : GoodIn wsL_areAlike (va_wsS RL 47 yL_twice wsL_twice) := goodIn_app (goodIn_of _ (by decide +kernel)) ggL_areAlike_L_twice
set_option maxRecDepth 20000 in
theorem ggL_areAlike_X4_count : GoodIn wsL_areAlike wsX4_count := goodIn_r _ [126, 7, 34, 33, 8, 127, 128, 129, 35, 130, 131, 132, 98, 133, 134, 135, 136, 137, 108, 109, 4, 110, 36, 37, 38, 39, 40, 41, 42, 43, 44, 45, 46, 47, 48, 49, 50, 51, 52, 53, 54, 55, 56, 57, 58, 59, 60, 61, 62, 63, 64, 65, 66, 67, 68, 69, 70, 71, 72, 73, 74, 75, 76, 77, 78, 79, 80, 81, 82, 83, 84, 85, 86, 87, 88, 89, 90, 138, 139, 140, 12, 141, 20, 19, 142, 143, 144, 145, 175, 176, 177, 178, 179, 180, 181, 182, 183, 184, 185, 186, 187, 188, 189, 190, 191, 192, 193, 194, 195, 196, 197, 198, 199, 200, 201, 202, 203, 204, 205, 206, 207, 208, 209, 210, 211, 212, 213] (by decide +kernel) (by decide +kernel)
set_option maxRecDepth 20000 in
theorem gL_areAlike_X4_count : GoodIn wsL_areAlike (wsV RL 36 RX4 yX4_count wsX4_count) := goodIn_app (goodIn_of _ (by decide +kernel)) ggL_areAlike_X4_count
set_option maxRecDepth 20000 in
theorem ggL_areAlike_X4_jobOf : GoodIn wsL_areAlike wsX4_jobOf := goodIn_r _ [149, 7, 150, 33, 34, 151, 152, 127, 128, 153, 154, 155, 156, 157, 158, 159, 4, 160, 8, 108, 109, 110, 36, 37, 38, 39, 40, 41, 42, 43, 44, 45, 46, 47, 48, 49, 50, 51, 52, 53, 54, 55, 56, 57, 58, 59, 60, 61, 62, 63, 64, 65, 66, 67, 68, 69, 70, 71, 72, 73, 74, 75, 76, 77, 78, 79, 80, 81, 82, 83, 84, 85, 86, 87, 88, 89, 90, 175, 176, 177, 178, 179, 180, 181, 182, 183, 184, 185, 186, 187, 188, 189, 190, 191, 192, 193, 194, 195, 196, 197, 198, 199, 200, 201, 202] (by decide +kernel) (by decide +kernel)
set_option maxRecDepth 20000 in
theorem gL_areAlike_X4_jobOf : GoodIn wsL_areAlike (wsV RL 53 RX4 yX4_jobOf wsX4_jobOf) := goodIn_app (goodIn_of _ (by decide +kernel)) ggL_areAlike_X4_jobOf
set_option maxRecDepth 20000 in
theorem ggL_areAlike_X4_ifOrdered : GoodIn wsL_areAlike wsX4_ifOrdered := goodIn_r _ [164, 6, 7, 165, 33, 34, 128, 35, 131, 132, 108, 109, 4, 110, 166, 167, 168, 12, 169, 20, 19, 170, 10, 11, 13, 14, 15, 16, 17, 18, 171, 172, 173, 174, 36, 37, 38, 39, 40, 41, 42, 43, 44, 45, 46, 47, 48, 49, 50, 51, 52, 53, 54, 55, 56, 57, 58, 59, 60, 61, 62, 63, 64, 65, 66, 67, 68, 69, 70, 71, 72, 73, 74, 75, 76, 77, 78, 79, 80, 81, 82, 83, 84, 85, 86, 87, 88, 89, 90, 142, 143, 144, 145, 175, 176, 177, 178, 179, 180, 181, 182, 183, 184, 185, 186, 187, 188, 189, 190, 191, 192, 193, 194, 195, 196, 197, 198, 199, 200, 201, 202] (by decide +kernel) (by decide +kernel)
set_option maxRecDepth 20000 in
theorem gL_areAlike_X4_ifOrdered : GoodIn wsL_areAlike (wsV RL 62 RX4 yX4_ifOrdered wsX4_ifOrdered) := goodIn_app (goodIn_of _ (by decide +kernel)) ggL_areAlike_X4_ifOrdered
theorem dL_areAlike_0 : decode cL_areAlike 0 = .ok (.aload_n 0, 1) := by decide +kernel
theorem dL_areAlike_1 : decode cL_areAlike 1 = .ok (.invokevirtual 91, 3) := by decide +kernel
theorem dL_areAlike_4 : decode cL_areAlike 4 = .ok (.aload_n 1, 1) := by decide +kernel
theorem dL_areAlike_5 : decode cL_areAlike 5 = .ok (.invokevirtual 91, 3) := by decide +kernel
theorem dL_areAlike_8 : decode cL_areAlike 8 = .ok (.if_icmp .ne 60, 3) := by decide +kernel
theorem dL_areAlike_11 : decode cL_areAlike 11 = .ok (.aload_n 0, 1) := by decide +kernel
theorem dL_areAlike_12 : decode cL_areAlike 12 = .ok (.invokevirtual 94, 3) := by decide +kernel
theorem dL_areAlike_15 : decode cL_areAlike 15 = .ok (.aload_n 1, 1) := by decide +kernel
theorem dL_areAlike_16 : decode cL_areAlike 16 = .ok (.invokevirtual 94, 3) := by decide +kernel
theorem dL_areAlike_19 : decode cL_areAlike 19 = .ok (.if_icmp .ne 49, 3) := by decide +kernel
theorem dL_areAlike_22 : decode cL_areAlike 22 = .ok (.aload_n 0, 1) := by decide +kernel
theorem dL_areAlike_23 : decode cL_areAlike 23 = .ok (.iconst 0, 1) := by decide +kernel
theorem dL_areAlike_24 : decode cL_areAlike 24 = .ok (.invokevirtual 97, 3) := by decide +kernel
theorem dL_areAlike_27 : decode cL_areAlike 27 = .ok (.aload_n 1, 1) := by decide +kernel
theorem dL_areAlike_28 : decode cL_areAlike 28 = .ok (.iconst 0, 1) := by decide +kernel
theorem dL_areAlike_29 : decode cL_areAlike 29 = .ok (.invokevirtual 97, 3) := by decide +kernel
theorem dL_areAlike_32 : decode cL_areAlike 32 = .ok (.if_icmp .ne 36, 3) := by decide +kernel
theorem dL_areAlike_35 : decode cL_areAlike 35 = .ok (.aload_n 0, 1) := by decide +kernel
theorem dL_areAlike_36 : decode cL_areAlike 36 = .ok (.iconst 1, 1) := by decide +kernel
theorem dL_areAlike_37 : decode cL_areAlike 37 = .ok (.invokevirtual 97, 3) := by decide +kernel
theorem dL_areAlike_40 : decode cL_areAlike 40 = .ok (.aload_n 1, 1) := by decide +kernel
theorem dL_areAlike_41 : decode cL_areAlike 41 = .ok (.iconst 1, 1) := by decide +kernel
theorem dL_areAlike_42 : decode cL_areAlike 42 = .ok (.invokevirtual 97, 3) := by decide +kernel
theorem dL_areAlike_45 : decode cL_areAlike 45 = .ok (.if_icmp .ne 23, 3) := by decide +kernel
theorem dL_areAlike_48 : decode cL_areAlike 48 = .ok (.aload_n 0, 1) := by decide +kernel
theorem dL_areAlike_49 : decode cL_areAlike 49 = .ok (.iconst 2, 1) := by decide +kernel
theorem dL_areAlike_50 : decode cL_areAlike 50 = .ok (.invokevirtual 97, 3) := by decide +kernel
theorem dL_areAlike_53 : decode cL_areAlike 53 = .ok (.invokestatic 47, 3) := by decide +kernel
theorem dL_areAlike_56 : decode cL_areAlike 56 = .ok (.aload_n 1, 1) := by decide +kernel
theorem dL_areAlike_57 : decode cL_areAlike 57 = .ok (.iconst 2, 1) := by decide +kernel
theorem dL_areAlike_58 : decode cL_areAlike 58 = .ok (.invokevirtual 97, 3) := by decide +kernel
theorem dL_areAlike_61 : decode cL_areAlike 61 = .ok (.if_icmp .ne 7, 3) := by decide +kernel
theorem dL_areAlike_64 : decode cL_areAlike 64 = .ok (.iconst 1, 1) := by decide +kernel
theorem dL_areAlike_65 : decode cL_areAlike 65 = .ok (.goto 4, 3) := by decide +kernel
theorem dL_areAlike_68 : decode cL_areAlike 68 = .ok (.iconst 0, 1) := by decide +kernel
theorem dL_areAlike_69 : decode cL_areAlike 69 = .ok (.istore_n 2, 1) := by decide +kernel
theorem dL_areAlike_70 : decode cL_areAlike 70 = .ok (.iconst 0, 1) := by decide +kernel
theorem dL_areAlike_71 : decode cL_areAlike 71 = .ok (.istore_n 3, 1) := by decide +kernel
theorem dL_areAlike_72 : decode cL_areAlike 72 = .ok (.iload_n 3, 1) := by decide +kernel
theorem dL_areAlike_73 : decode cL_areAlike 73 = .ok (.bipush 18, 2) := by decide +kernel
theorem dL_areAlike_75 : decode cL_areAlike 75 = .ok (.if_icmp .ge 95, 3) := by decide +kernel
theorem dL_areAlike_78 : decode cL_areAlike 78 = .ok (.iload_n 3, 1) := by decide +kernel
theorem dL_areAlike_79 : decode cL_areAlike 79 = .ok (.iconst 5, 1) := by decide +kernel
theorem dL_areAlike_80 : decode cL_areAlike 80 = .ok (.if_icmp .lt 39, 3) := by decide +kernel
theorem dL_areAlike_83 : decode cL_areAlike 83 = .ok (.iload_n 3, 1) := by decide +kernel
theorem dL_areAlike_84 : decode cL_areAlike 84 = .ok (.bipush 9, 2) := by decide +kernel
theorem dL_areAlike_86 : decode cL_areAlike 86 = .ok (.if_icmp .eq 33, 3) := by decide +kernel
theorem dL_areAlike_89 : decode cL_areAlike 89 = .ok (.iload_n 3, 1) := by decide +kernel
theorem dL_areAlike_90 : decode cL_areAlike 90 = .ok (.bipush 10, 2) := by decide +kernel
theorem dL_areAlike_92 : decode cL_areAlike 92 = .ok (.if_icmp .eq 27, 3) := by decide +kernel
theorem dL_areAlike_95 : decode cL_areAlike 95 = .ok (.iload_n 3, 1) := by decide +kernel
theorem dL_areAlike_96 : decode cL_areAlike 96 = .ok (.bipush 12, 2) := by decide +kernel
theorem dL_areAlike_98 : decode cL_areAlike 98 = .ok (.if_icmp .eq 21, 3) := by decide +kernel
theorem dL_areAlike_101 : decode cL_areAlike 101 = .ok (.iload_n 3, 1) := by decide +kernel
theorem dL_areAlike_102 : decode cL_areAlike 102 = .ok (.bipush 13, 2) := by decide +kernel
theorem dL_areAlike_104 : decode cL_areAlike 104 = .ok (.if_icmp .eq 15, 3) := by decide +kernel
theorem dL_areAlike_107 : decode cL_areAlike 107 = .ok (.iload_n 3, 1) := by decide +kernel
theorem dL_areAlike_108 : decode cL_areAlike 108 = .ok (.bipush 14, 2) := by decide +kernel
theorem dL_areAlike_110 : decode cL_areAlike 110 = .ok (.if_icmp .eq 9, 3) := by decide +kernel
theorem dL_areAlike_113 : decode cL_areAlike 113 = .ok (.iload_n 3, 1) := by decide +kernel
theorem dL_areAlike_114 : decode cL_areAlike 114 = .ok (.bipush 16, 2) := by decide +kernel
theorem dL_areAlike_116 : decode cL_areAlike 116 = .ok (.if_icmp .ne 7, 3) := by decide +kernel
theorem dL_areAlike_119 : decode cL_areAlike 119 = .ok (.iconst 1, 1) := by decide +kernel
theorem dL_areAlike_120 : decode cL_areAlike 120 = .ok (.goto 4, 3) := by decide +kernel
theorem dL_areAlike_123 : decode cL_areAlike 123 = .ok (.iconst 0, 1) := by decide +kernel
theorem dL_areAlike_124 : decode cL_areAlike 124 = .ok (.istore 4, 2) := by decide +kernel
theorem dL_areAlike_126 : decode cL_areAlike 126 = .ok (.iload_n 2, 1) := by decide +kernel
theorem dL_areAlike_127 : decode cL_areAlike 127 = .ok (.ifCond .eq 35, 3) := by decide +kernel
theorem dL_areAlike_130 : decode cL_areAlike 130 = .ok (.iload 4, 2) := by decide +kernel
theorem dL_areAlike_132 : decode cL_areAlike 132 = .ok (.ifCond .eq 13, 3) := by decide +kernel
theorem dL_areAlike_135 : decode cL_areAlike 135 = .ok (.iconst 2, 1) := by decide +kernel
theorem dL_areAlike_136 : decode cL_areAlike 136 = .ok (.aload_n 0, 1) := by decide +kernel
theorem dL_areAlike_137 : decode cL_areAlike 137 = .ok (.iload_n 3, 1) := by decide +kernel
theorem dL_areAlike_138 : decode cL_areAlike 138 = .ok (.invokevirtual 36, 3) := by decide +kernel
theorem dL_areAlike_141 : decode cL_areAlike 141 = .ok (.imul, 1) := by decide +kernel
theorem dL_areAlike_142 : decode cL_areAlike 142 = .ok (.goto 8, 3) := by decide +kernel
theorem dL_areAlike_145 : decode cL_areAlike 145 = .ok (.aload_n 0, 1) := by decide +kernel
theorem dL_areAlike_146 : decode cL_areAlike 146 = .ok (.iload_n 3, 1) := by decide +kernel
theorem dL_areAlike_147 : decode cL_areAlike 147 = .ok (.invokevirtual 36, 3) := by decide +kernel
theorem dL_areAlike_150 : decode cL_areAlike 150 = .ok (.aload_n 1, 1) := by decide +kernel
theorem dL_areAlike_151 : decode cL_areAlike 151 = .ok (.iload_n 3, 1) := by decide +kernel
theorem dL_areAlike_152 : decode cL_areAlike 152 = .ok (.invokevirtual 36, 3) := by decide +kernel
theorem dL_areAlike_155 : decode cL_areAlike 155 = .ok (.if_icmp .ne 7, 3) := by decide +kernel
theorem dL_areAlike_158 : decode cL_areAlike 158 = .ok (.iconst 1, 1) := by decide +kernel
theorem dL_areAlike_159 : decode cL_areAlike 159 = .ok (.goto 4, 3) := by decide +kernel
theorem dL_areAlike_162 : decode cL_areAlike 162 = .ok (.iconst 0, 1) := by decide +kernel
theorem dL_areAlike_163 : decode cL_areAlike 163 = .ok (.istore_n 2, 1) := by decide +kernel
theorem dL_areAlike_164 : decode cL_areAlike 164 = .ok (.iinc 3 1, 3) := by decide +kernel
theorem dL_areAlike_167 : decode cL_areAlike 167 = .ok (.goto (-95), 3) := by decide +kernel
theorem dL_areAlike_170 : decode cL_areAlike 170 = .ok (.iconst 0, 1) := by decide +kernel
theorem dL_areAlike_171 : decode cL_areAlike 171 = .ok (.istore_n 3, 1) := by decide +kernel
theorem dL_areAlike_172 : decode cL_areAlike 172 = .ok (.iload_n 3, 1) := by decide +kernel
theorem dL_areAlike_173 : decode cL_areAlike 173 = .ok (.bipush 12, 2) := by decide +kernel
theorem dL_areAlike_175 : decode cL_areAlike 175 = .ok (.aload_n 0, 1) := by decide +kernel
theorem dL_areAlike_176 : decode cL_areAlike 176 = .ok (.bipush 7, 2) := by decide +kernel
theorem dL_areAlike_178 : decode cL_areAlike 178 = .ok (.invokevirtual 36, 3) := by decide +kernel
theorem dL_areAlike_181 : decode cL_areAlike 181 = .ok (.imul, 1) := by decide +kernel
theorem dL_areAlike_182 : decode cL_areAlike 182 = .ok (.if_icmp .ge 85, 3) := by decide +kernel
theorem dL_areAlike_185 : decode cL_areAlike 185 = .ok (.iload_n 3, 1) := by decide +kernel
theorem dL_areAlike_186 : decode cL_areAlike 186 = .ok (.bipush 12, 2) := by decide +kernel
theorem dL_areAlike_188 : decode cL_areAlike 188 = .ok (.irem, 1) := by decide +kernel
theorem dL_areAlike_189 : decode cL_areAlike 189 = .ok (.iconst 3, 1) := by decide +kernel
theorem dL_areAlike_190 : decode cL_areAlike 190 = .ok (.if_icmp .eq 11, 3) := by decide +kernel
theorem dL_areAlike_193 : decode cL_areAlike 193 = .ok (.iload_n 3, 1) := by decide +kernel
theorem dL_areAlike_194 : decode cL_areAlike 194 = .ok (.bipush 12, 2) := by decide +kernel
theorem dL_areAlike_196 : decode cL_areAlike 196 = .ok (.irem, 1) := by decide +kernel
theorem dL_areAlike_197 : decode cL_areAlike 197 = .ok (.iconst 4, 1) := by decide +kernel
theorem dL_areAlike_198 : decode cL_areAlike 198 = .ok (.if_icmp .le 7, 3) := by decide +kernel
theorem dL_areAlike_201 : decode cL_areAlike 201 = .ok (.iconst 1, 1) := by decide +kernel
theorem dL_areAlike_202 : decode cL_areAlike 202 = .ok (.goto 4, 3) := by decide +kernel
theorem dL_areAlike_205 : decode cL_areAlike 205 = .ok (.iconst 0, 1) := by decide +kernel
theorem dL_areAlike_206 : decode cL_areAlike 206 = .ok (.istore 4, 2) := by decide +kernel
theorem dL_areAlike_208 : decode cL_areAlike 208 = .ok (.aload_n 0, 1) := by decide +kernel
theorem dL_areAlike_209 : decode cL_areAlike 209 = .ok (.iload_n 3, 1) := by decide +kernel
theorem dL_areAlike_210 : decode cL_areAlike 210 = .ok (.bipush 12, 2) := by decide +kernel
theorem dL_areAlike_212 : decode cL_areAlike 212 = .ok (.idiv, 1) := by decide +kernel
theorem dL_areAlike_213 : decode cL_areAlike 213 = .ok (.iload_n 3, 1) := by decide +kernel
theorem dL_areAlike_214 : decode cL_areAlike 214 = .ok (.bipush 12, 2) := by decide +kernel
theorem dL_areAlike_216 : decode cL_areAlike 216 = .ok (.irem, 1) := by decide +kernel
theorem dL_areAlike_217 : decode cL_areAlike 217 = .ok (.invokevirtual 53, 3) := by decide +kernel
theorem dL_areAlike_220 : decode cL_areAlike 220 = .ok (.istore 5, 2) := by decide +kernel
theorem dL_areAlike_222 : decode cL_areAlike 222 = .ok (.iload_n 2, 1) := by decide +kernel
theorem dL_areAlike_223 : decode cL_areAlike 223 = .ok (.ifCond .eq 36, 3) := by decide +kernel
theorem dL_areAlike_226 : decode cL_areAlike 226 = .ok (.iload 4, 2) := by decide +kernel
theorem dL_areAlike_228 : decode cL_areAlike 228 = .ok (.ifCond .eq 10, 3) := by decide +kernel
theorem dL_areAlike_231 : decode cL_areAlike 231 = .ok (.iconst 2, 1) := by decide +kernel
theorem dL_areAlike_232 : decode cL_areAlike 232 = .ok (.iload 5, 2) := by decide +kernel
theorem dL_areAlike_234 : decode cL_areAlike 234 = .ok (.imul, 1) := by decide +kernel
theorem dL_areAlike_235 : decode cL_areAlike 235 = .ok (.goto 5, 3) := by decide +kernel
theorem dL_areAlike_238 : decode cL_areAlike 238 = .ok (.iload 5, 2) := by decide +kernel
theorem dL_areAlike_240 : decode cL_areAlike 240 = .ok (.aload_n 1, 1) := by decide +kernel
theorem dL_areAlike_241 : decode cL_areAlike 241 = .ok (.iload_n 3, 1) := by decide +kernel
theorem dL_areAlike_242 : decode cL_areAlike 242 = .ok (.bipush 12, 2) := by decide +kernel
theorem dL_areAlike_244 : decode cL_areAlike 244 = .ok (.idiv, 1) := by decide +kernel
theorem dL_areAlike_245 : decode cL_areAlike 245 = .ok (.iload_n 3, 1) := by decide +kernel
theorem dL_areAlike_246 : decode cL_areAlike 246 = .ok (.bipush 12, 2) := by decide +kernel
theorem dL_areAlike_248 : decode cL_areAlike 248 = .ok (.irem, 1) := by decide +kernel
theorem dL_areAlike_249 : decode cL_areAlike 249 = .ok (.invokevirtual 53, 3) := by decide +kernel
theorem dL_areAlike_252 : decode cL_areAlike 252 = .ok (.if_icmp .ne 7, 3) := by decide +kernel
theorem dL_areAlike_255 : decode cL_areAlike 255 = .ok (.iconst 1, 1) := by decide +kernel
theorem dL_areAlike_256 : decode cL_areAlike 256 = .ok (.goto 4, 3) := by decide +kernel
theorem dL_areAlike_259 : decode cL_areAlike 259 = .ok (.iconst 0, 1) := by decide +kernel
theorem dL_areAlike_260 : decode cL_areAlike 260 = .ok (.istore_n 2, 1) := by decide +kernel
theorem dL_areAlike_261 : decode cL_areAlike 261 = .ok (.iinc 3 1, 3) := by decide +kernel
theorem dL_areAlike_264 : decode cL_areAlike 264 = .ok (.goto (-92), 3) := by decide +kernel
theorem dL_areAlike_267 : decode cL_areAlike 267 = .ok (.iconst 0, 1) := by decide +kernel
theorem dL_areAlike_268 : decode cL_areAlike 268 = .ok (.istore_n 3, 1) := by decide +kernel
theorem dL_areAlike_269 : decode cL_areAlike 269 = .ok (.iload_n 3, 1) := by decide +kernel
theorem dL_areAlike_270 : decode cL_areAlike 270 = .ok (.iconst 4, 1) := by decide +kernel
theorem dL_areAlike_271 : decode cL_areAlike 271 = .ok (.if_icmp .ge 85, 3) := by decide +kernel
theorem dL_areAlike_274 : decode cL_areAlike 274 = .ok (.iload_n 2, 1) := by decide +kernel
theorem dL_areAlike_275 : decode cL_areAlike 275 = .ok (.ifCond .eq 73, 3) := by decide +kernel
theorem dL_areAlike_278 : decode cL_areAlike 278 = .ok (.iconst 2, 1) := by decide +kernel
theorem dL_areAlike_279 : decode cL_areAlike 279 = .ok (.aload_n 0, 1) := by decide +kernel
theorem dL_areAlike_280 : decode cL_areAlike 280 = .ok (.iload_n 3, 1) := by decide +kernel
theorem dL_areAlike_281 : decode cL_areAlike 281 = .ok (.iconst 0, 1) := by decide +kernel
theorem dL_areAlike_282 : decode cL_areAlike 282 = .ok (.invokevirtual 62, 3) := by decide +kernel
theorem dL_areAlike_285 : decode cL_areAlike 285 = .ok (.imul, 1) := by decide +kernel
theorem dL_areAlike_286 : decode cL_areAlike 286 = .ok (.aload_n 1, 1) := by decide +kernel
theorem dL_areAlike_287 : decode cL_areAlike 287 = .ok (.iload_n 3, 1) := by decide +kernel
theorem dL_areAlike_288 : decode cL_areAlike 288 = .ok (.iconst 0, 1) := by decide +kernel
theorem dL_areAlike_289 : decode cL_areAlike 289 = .ok (.invokevirtual 62, 3) := by decide +kernel
theorem dL_areAlike_292 : decode cL_areAlike 292 = .ok (.if_icmp .ne 56, 3) := by decide +kernel
theorem dL_areAlike_295 : decode cL_areAlike 295 = .ok (.iconst 2, 1) := by decide +kernel
theorem dL_areAlike_296 : decode cL_areAlike 296 = .ok (.aload_n 0, 1) := by decide +kernel
theorem dL_areAlike_297 : decode cL_areAlike 297 = .ok (.iload_n 3, 1) := by decide +kernel
theorem dL_areAlike_298 : decode cL_areAlike 298 = .ok (.iconst 1, 1) := by decide +kernel
theorem dL_areAlike_299 : decode cL_areAlike 299 = .ok (.invokevirtual 62, 3) := by decide +kernel
theorem dL_areAlike_302 : decode cL_areAlike 302 = .ok (.imul, 1) := by decide +kernel
theorem dL_areAlike_303 : decode cL_areAlike 303 = .ok (.aload_n 1, 1) := by decide +kernel
theorem dL_areAlike_304 : decode cL_areAlike 304 = .ok (.iload_n 3, 1) := by decide +kernel
theorem dL_areAlike_305 : decode cL_areAlike 305 = .ok (.iconst 1, 1) := by decide +kernel
theorem dL_areAlike_306 : decode cL_areAlike 306 = .ok (.invokevirtual 62, 3) := by decide +kernel
theorem dL_areAlike_309 : decode cL_areAlike 309 = .ok (.if_icmp .ne 39, 3) := by decide +kernel
theorem dL_areAlike_312 : decode cL_areAlike 312 = .ok (.iconst 2, 1) := by decide +kernel
theorem dL_areAlike_313 : decode cL_areAlike 313 = .ok (.aload_n 0, 1) := by decide +kernel
theorem dL_areAlike_314 : decode cL_areAlike 314 = .ok (.iload_n 3, 1) := by decide +kernel
theorem dL_areAlike_315 : decode cL_areAlike 315 = .ok (.iconst 2, 1) := by decide +kernel
theorem dL_areAlike_316 : decode cL_areAlike 316 = .ok (.invokevirtual 62, 3) := by decide +kernel
theorem dL_areAlike_319 : decode cL_areAlike 319 = .ok (.imul, 1) := by decide +kernel
theorem dL_areAlike_320 : decode cL_areAlike 320 = .ok (.aload_n 1, 1) := by decide +kernel
theorem dL_areAlike_321 : decode cL_areAlike 321 = .ok (.iload_n 3, 1) := by decide +kernel
theorem dL_areAlike_322 : decode cL_areAlike 322 = .ok (.iconst 2, 1) := by decide +kernel
theorem dL_areAlike_323 : decode cL_areAlike 323 = .ok (.invokevirtual 62, 3) := by decide +kernel
theorem dL_areAlike_326 : decode cL_areAlike 326 = .ok (.if_icmp .ne 22, 3) := by decide +kernel
theorem dL_areAlike_329 : decode cL_areAlike 329 = .ok (.aload_n 0, 1) := by decide +kernel
theorem dL_areAlike_330 : decode cL_areAlike 330 = .ok (.iload_n 3, 1) := by decide +kernel
theorem dL_areAlike_331 : decode cL_areAlike 331 = .ok (.iconst 3, 1) := by decide +kernel
theorem dL_areAlike_332 : decode cL_areAlike 332 = .ok (.invokevirtual 62, 3) := by decide +kernel
theorem dL_areAlike_335 : decode cL_areAlike 335 = .ok (.aload_n 1, 1) := by decide +kernel
theorem dL_areAlike_336 : decode cL_areAlike 336 = .ok (.iload_n 3, 1) := by decide +kernel
theorem dL_areAlike_337 : decode cL_areAlike 337 = .ok (.iconst 3, 1) := by decide +kernel
theorem dL_areAlike_338 : decode cL_areAlike 338 = .ok (.invokevirtual 62, 3) := by decide +kernel
theorem dL_areAlike_341 : decode cL_areAlike 341 = .ok (.if_icmp .ne 7, 3) := by decide +kernel
theorem dL_areAlike_344 : decode cL_areAlike 344 = .ok (.iconst 1, 1) := by decide +kernel
theorem dL_areAlike_345 : decode cL_areAlike 345 = .ok (.goto 4, 3) := by decide +kernel
theorem dL_areAlike_348 : decode cL_areAlike 348 = .ok (.iconst 0, 1) := by decide +kernel
theorem dL_areAlike_349 : decode cL_areAlike 349 = .ok (.istore_n 2, 1) := by decide +kernel
theorem dL_areAlike_350 : decode cL_areAlike 350 = .ok (.iinc 3 1, 3) := by decide +kernel
theorem dL_areAlike_353 : decode cL_areAlike 353 = .ok (.goto (-84), 3) := by decide +kernel
theorem dL_areAlike_356 : decode cL_areAlike 356 = .ok (.iload_n 2, 1) := by decide +kernel
theorem dL_areAlike_357 : decode cL_areAlike 357 = .ok (.ireturn, 1) := by decide +kernel
set_option maxRecDepth 20000 in
theorem ggL_isWell_X4_count : GoodIn wsL_isWell wsX4_count := goodIn_r _ [5, 6, 7, 8, 9, 10, 11, 12, 13, 14, 15, 16, 17, 18, 19, 20, 21, 22, 23, 24, 4, 25, 26, 27, 28, 29, 30, 31, 32, 33, 34, 35, 36, 37, 38, 39, 40, 41, 42, 43, 44, 45, 46, 47, 48, 49, 50, 51, 52, 53, 54, 55, 56, 57, 58, 59, 60, 61, 62, 63, 64, 65, 66, 67, 68, 69, 70, 71, 72, 73, 74, 75, 76, 77, 78, 79, 80, 81, 82, 83, 84, 85, 86, 87, 88, 89, 90, 91, 136, 137, 138, 139, 140, 141, 142, 143, 144, 145, 146, 147, 148, 149, 150, 151, 152, 153, 154, 155, 156, 157, 158, 159, 160, 161, 162, 163, 164, 165, 166, 167, 168, 169, 170, 171, 172, 173, 174] (by decide +kernel) (by decide +kernel)
set_option maxRecDepth 20000 in
theorem gL_isWell_X4_count : GoodIn wsL_isWell (wsV RL 36 RX4 yX4_count wsX4_count) := goodIn_app (goodIn_of _ (by decide +kernel)) ggL_isWell_X4_count
set_option maxRecDepth 20000 in
theorem ggL_isWell_X4_jobOf : GoodIn wsL_isWell wsX4_jobOf := goodIn_r _ [95, 6, 96, 8, 7, 97, 98, 10, 11, 99, 100, 101, 102, 103, 104, 105, 4, 106, 9, 23, 24, 25, 26, 27, 28, 29, 30, 31, 32, 33, 34, 35, 36, 37, 38, 39, 40, 41, 42, 43, 44, 45, 46, 47, 48, 49, 50, 51, 52, 53, 54, 55, 56, 57, 58, 59, 60, 61, 62, 63, 64, 65, 66, 67, 68, 69, 70, 71, 72, 73, 74, 75, 76, 77, 78, 79, 80, 136, 137, 138, 139, 140, 141, 142, 143, 144, 145, 146, 147, 148, 149, 150, 151, 152, 153, 154, 155, 156, 157, 158, 159, 160, 161, 162, 163] (by decide +kernel) (by decide +kernel)
set_option maxRecDepth 20000 in
theorem gL_isWell_X4_jobOf : GoodIn wsL_isWell (wsV RL 53 RX4 yX4_jobOf wsX4_jobOf) := goodIn_app (goodIn_of _ (by decide +kernel)) ggL_isWell_X4_jobOf
set_option maxRecDepth 20000 in
theorem ggL_isWell_X4_at : GoodIn wsL_isWell wsX4_at := goodIn_r _ [110, 111, 8, 6, 7, 10, 11, 23, 24, 4, 25, 26, 27, 28, 29, 30, 31, 32, 33, 34, 35, 36, 37, 38, 39, 40, 41, 42, 43, 44, 45, 46, 47, 48, 49, 50, 51, 52, 53, 54, 55, 56, 57, 58, 59, 60, 61, 62, 63, 64, 65, 66, 67, 68, 69, 70, 71, 72, 73, 74, 75, 76, 77, 78, 79, 80, 112, 113, 114, 115, 116, 117, 118, 119, 120, 121, 122, 123, 136, 137, 138, 139, 140, 141, 142, 143, 144, 145, 146, 147, 148, 149, 150, 151, 152, 153, 154, 155, 156, 157, 158, 159, 160, 161, 162, 163] (by decide +kernel) (by decide +kernel)
set_option maxRecDepth 20000 in
theorem gL_isWell_X4_at : GoodIn wsL_isWell (wsV RL 84 RX4 yX4_at wsX4_at) := goodIn_app (goodIn_of _ (by decide +kernel)) ggL_isWell_X4_at
set_option maxRecDepth 20000 in
theorem ggL_isWell_X4_leastRacks : GoodIn wsL_isWell wsX4_leastRacks := goodIn_r _ [127, 6, 7, 128, 129, 73, 74, 75, 130, 8, 17, 131, 132, 133, 84, 134, 86, 87, 135, 65, 4, 66, 26, 27, 28, 29, 30, 31, 32, 33, 34, 35, 36, 37, 38, 39, 40, 41, 42, 43, 44, 45, 46, 47, 48, 49, 50, 51, 52, 53, 54, 55, 56, 57, 58, 59, 60, 61, 62, 63, 64, 67, 68, 69, 70, 71, 72, 76, 77, 78, 79, 80, 136, 137, 138, 139, 140, 141, 142, 143, 144, 145, 146, 147, 148, 149, 150, 151, 152, 153, 154, 155, 156, 157, 158, 159, 160, 161, 162, 163] (by decide +kernel) (by decide +kernel)
set_option maxRecDepth 20000 in
theorem gL_isWell_X4_leastRacks : GoodIn wsL_isWell (wsV RL 94 RX4 yX4_leastRacks wsX4_leastRacks) := goodIn_app (goodIn_of _ (by decide +kernel)) ggL_isWell_X4_leastRacks
theorem dL_isWell_0 : decode cL_isWell 0 = .ok (.aload_n 0, 1) := by decide +kernel
theorem dL_isWell_1 : decode cL_isWell 1 = .ok (.bipush 7, 2) := by decide +kernel
theorem dL_isWell_3 : decode cL_isWell 3 = .ok (.invokevirtual 36, 3) := by decide +kernel
theorem dL_isWell_6 : decode cL_isWell 6 = .ok (.istore_n 1, 1) := by decide +kernel
theorem dL_isWell_7 : decode cL_isWell 7 = .ok (.iconst 0, 1) := by decide +kernel
theorem dL_isWell_8 : decode cL_isWell 8 = .ok (.istore_n 2, 1) := by decide +kernel
theorem dL_isWell_9 : decode cL_isWell 9 = .ok (.iconst 0, 1) := by decide +kernel
theorem dL_isWell_10 : decode cL_isWell 10 = .ok (.istore_n 3, 1) := by decide +kernel
theorem dL_isWell_11 : decode cL_isWell 11 = .ok (.iconst 0, 1) := by decide +kernel
theorem dL_isWell_12 : decode cL_isWell 12 = .ok (.istore 4, 2) := by decide +kernel
theorem dL_isWell_14 : decode cL_isWell 14 = .ok (.iconst 0, 1) := by decide +kernel
theorem dL_isWell_15 : decode cL_isWell 15 = .ok (.istore 5, 2) := by decide +kernel
theorem dL_isWell_17 : decode cL_isWell 17 = .ok (.iconst 0, 1) := by decide +kernel
theorem dL_isWell_18 : decode cL_isWell 18 = .ok (.istore 6, 2) := by decide +kernel
theorem dL_isWell_20 : decode cL_isWell 20 = .ok (.iconst 1, 1) := by decide +kernel
theorem dL_isWell_21 : decode cL_isWell 21 = .ok (.istore 7, 2) := by decide +kernel
theorem dL_isWell_23 : decode cL_isWell 23 = .ok (.iconst 0, 1) := by decide +kernel
theorem dL_isWell_24 : decode cL_isWell 24 = .ok (.istore 8, 2) := by decide +kernel
theorem dL_isWell_26 : decode cL_isWell 26 = .ok (.iload 8, 2) := by decide +kernel
theorem dL_isWell_28 : decode cL_isWell 28 = .ok (.iload_n 1, 1) := by decide +kernel
theorem dL_isWell_29 : decode cL_isWell 29 = .ok (.if_icmp .ge 320, 3) := by decide +kernel
theorem dL_isWell_32 : decode cL_isWell 32 = .ok (.aload_n 0, 1) := by decide +kernel
theorem dL_isWell_33 : decode cL_isWell 33 = .ok (.iload 8, 2) := by decide +kernel
theorem dL_isWell_35 : decode cL_isWell 35 = .ok (.iconst 5, 1) := by decide +kernel
theorem dL_isWell_36 : decode cL_isWell 36 = .ok (.invokevirtual 53, 3) := by decide +kernel
theorem dL_isWell_39 : decode cL_isWell 39 = .ok (.istore 9, 2) := by decide +kernel
theorem dL_isWell_41 : decode cL_isWell 41 = .ok (.aload_n 0, 1) := by decide +kernel
theorem dL_isWell_42 : decode cL_isWell 42 = .ok (.iload 8, 2) := by decide +kernel
theorem dL_isWell_44 : decode cL_isWell 44 = .ok (.bipush 6, 2) := by decide +kernel
theorem dL_isWell_46 : decode cL_isWell 46 = .ok (.invokevirtual 53, 3) := by decide +kernel
theorem dL_isWell_49 : decode cL_isWell 49 = .ok (.istore 10, 2) := by decide +kernel
theorem dL_isWell_51 : decode cL_isWell 51 = .ok (.aload_n 0, 1) := by decide +kernel
theorem dL_isWell_52 : decode cL_isWell 52 = .ok (.iload 10, 2) := by decide +kernel
theorem dL_isWell_54 : decode cL_isWell 54 = .ok (.iconst 1, 1) := by decide +kernel
theorem dL_isWell_55 : decode cL_isWell 55 = .ok (.invokevirtual 84, 3) := by decide +kernel
theorem dL_isWell_58 : decode cL_isWell 58 = .ok (.istore 11, 2) := by decide +kernel
theorem dL_isWell_60 : decode cL_isWell 60 = .ok (.aload_n 0, 1) := by decide +kernel
theorem dL_isWell_61 : decode cL_isWell 61 = .ok (.iload 8, 2) := by decide +kernel
theorem dL_isWell_63 : decode cL_isWell 63 = .ok (.bipush 7, 2) := by decide +kernel
theorem dL_isWell_65 : decode cL_isWell 65 = .ok (.invokevirtual 53, 3) := by decide +kernel
theorem dL_isWell_68 : decode cL_isWell 68 = .ok (.aload_n 0, 1) := by decide +kernel
theorem dL_isWell_69 : decode cL_isWell 69 = .ok (.iload 8, 2) := by decide +kernel
theorem dL_isWell_71 : decode cL_isWell 71 = .ok (.iconst 3, 1) := by decide +kernel
theorem dL_isWell_72 : decode cL_isWell 72 = .ok (.invokevirtual 53, 3) := by decide +kernel
theorem dL_isWell_75 : decode cL_isWell 75 = .ok (.isub, 1) := by decide +kernel
theorem dL_isWell_76 : decode cL_isWell 76 = .ok (.istore 12, 2) := by decide +kernel
theorem dL_isWell_78 : decode cL_isWell 78 = .ok (.iload 4, 2) := by decide +kernel
theorem dL_isWell_80 : decode cL_isWell 80 = .ok (.aload_n 0, 1) := by decide +kernel
theorem dL_isWell_81 : decode cL_isWell 81 = .ok (.iload 8, 2) := by decide +kernel
theorem dL_isWell_83 : decode cL_isWell 83 = .ok (.bipush 9, 2) := by decide +kernel
theorem dL_isWell_85 : decode cL_isWell 85 = .ok (.invokevirtual 53, 3) := by decide +kernel
theorem dL_isWell_88 : decode cL_isWell 88 = .ok (.iadd, 1) := by decide +kernel
theorem dL_isWell_89 : decode cL_isWell 89 = .ok (.istore 4, 2) := by decide +kernel
theorem dL_isWell_91 : decode cL_isWell 91 = .ok (.iload 5, 2) := by decide +kernel
theorem dL_isWell_93 : decode cL_isWell 93 = .ok (.aload_n 0, 1) := by decide +kernel
theorem dL_isWell_94 : decode cL_isWell 94 = .ok (.iload 8, 2) := by decide +kernel
theorem dL_isWell_96 : decode cL_isWell 96 = .ok (.bipush 8, 2) := by decide +kernel
theorem dL_isWell_98 : decode cL_isWell 98 = .ok (.invokevirtual 53, 3) := by decide +kernel
theorem dL_isWell_101 : decode cL_isWell 101 = .ok (.iadd, 1) := by decide +kernel
theorem dL_isWell_102 : decode cL_isWell 102 = .ok (.istore 5, 2) := by decide +kernel
theorem dL_isWell_104 : decode cL_isWell 104 = .ok (.iload 6, 2) := by decide +kernel
theorem dL_isWell_106 : decode cL_isWell 106 = .ok (.aload_n 0, 1) := by decide +kernel
theorem dL_isWell_107 : decode cL_isWell 107 = .ok (.iload 8, 2) := by decide +kernel
theorem dL_isWell_109 : decode cL_isWell 109 = .ok (.bipush 11, 2) := by decide +kernel
theorem dL_isWell_111 : decode cL_isWell 111 = .ok (.invokevirtual 53, 3) := by decide +kernel
theorem dL_isWell_114 : decode cL_isWell 114 = .ok (.iadd, 1) := by decide +kernel
theorem dL_isWell_115 : decode cL_isWell 115 = .ok (.istore 6, 2) := by decide +kernel
theorem dL_isWell_117 : decode cL_isWell 117 = .ok (.iload 11, 2) := by decide +kernel
theorem dL_isWell_119 : decode cL_isWell 119 = .ok (.iload_n 3, 1) := by decide +kernel
theorem dL_isWell_120 : decode cL_isWell 120 = .ok (.if_icmp .le 8, 3) := by decide +kernel
theorem dL_isWell_123 : decode cL_isWell 123 = .ok (.iload 11, 2) := by decide +kernel
theorem dL_isWell_125 : decode cL_isWell 125 = .ok (.goto 4, 3) := by decide +kernel
theorem dL_isWell_128 : decode cL_isWell 128 = .ok (.iload_n 3, 1) := by decide +kernel
theorem dL_isWell_129 : decode cL_isWell 129 = .ok (.istore_n 3, 1) := by decide +kernel
theorem dL_isWell_130 : decode cL_isWell 130 = .ok (.iload 7, 2) := by decide +kernel
theorem dL_isWell_132 : decode cL_isWell 132 = .ok (.ifCond .eq 143, 3) := by decide +kernel
theorem dL_isWell_135 : decode cL_isWell 135 = .ok (.iload 9, 2) := by decide +kernel
theorem dL_isWell_137 : decode cL_isWell 137 = .ok (.iload_n 2, 1) := by decide +kernel
theorem dL_isWell_138 : decode cL_isWell 138 = .ok (.aload_n 0, 1) := by decide +kernel
theorem dL_isWell_139 : decode cL_isWell 139 = .ok (.iload 8, 2) := by decide +kernel
theorem dL_isWell_141 : decode cL_isWell 141 = .ok (.bipush 9, 2) := by decide +kernel
theorem dL_isWell_143 : decode cL_isWell 143 = .ok (.invokevirtual 53, 3) := by decide +kernel
theorem dL_isWell_146 : decode cL_isWell 146 = .ok (.iadd, 1) := by decide +kernel
theorem dL_isWell_147 : decode cL_isWell 147 = .ok (.if_icmp .ne 128, 3) := by decide +kernel
theorem dL_isWell_150 : decode cL_isWell 150 = .ok (.iload 10, 2) := by decide +kernel
theorem dL_isWell_152 : decode cL_isWell 152 = .ok (.iload 9, 2) := by decide +kernel
theorem dL_isWell_154 : decode cL_isWell 154 = .ok (.aload_n 0, 1) := by decide +kernel
theorem dL_isWell_155 : decode cL_isWell 155 = .ok (.iload 8, 2) := by decide +kernel
theorem dL_isWell_157 : decode cL_isWell 157 = .ok (.bipush 10, 2) := by decide +kernel
theorem dL_isWell_159 : decode cL_isWell 159 = .ok (.invokevirtual 53, 3) := by decide +kernel
theorem dL_isWell_162 : decode cL_isWell 162 = .ok (.iadd, 1) := by decide +kernel
theorem dL_isWell_163 : decode cL_isWell 163 = .ok (.aload_n 0, 1) := by decide +kernel
theorem dL_isWell_164 : decode cL_isWell 164 = .ok (.iconst 3, 1) := by decide +kernel
theorem dL_isWell_165 : decode cL_isWell 165 = .ok (.invokevirtual 36, 3) := by decide +kernel
theorem dL_isWell_168 : decode cL_isWell 168 = .ok (.aload_n 0, 1) := by decide +kernel
theorem dL_isWell_169 : decode cL_isWell 169 = .ok (.iload 8, 2) := by decide +kernel
theorem dL_isWell_171 : decode cL_isWell 171 = .ok (.iconst 2, 1) := by decide +kernel
theorem dL_isWell_172 : decode cL_isWell 172 = .ok (.invokevirtual 53, 3) := by decide +kernel
theorem dL_isWell_175 : decode cL_isWell 175 = .ok (.imul, 1) := by decide +kernel
theorem dL_isWell_176 : decode cL_isWell 176 = .ok (.iadd, 1) := by decide +kernel
theorem dL_isWell_177 : decode cL_isWell 177 = .ok (.if_icmp .ne 98, 3) := by decide +kernel
theorem dL_isWell_180 : decode cL_isWell 180 = .ok (.aload_n 0, 1) := by decide +kernel
theorem dL_isWell_181 : decode cL_isWell 181 = .ok (.iload 8, 2) := by decide +kernel
theorem dL_isWell_183 : decode cL_isWell 183 = .ok (.bipush 7, 2) := by decide +kernel
theorem dL_isWell_185 : decode cL_isWell 185 = .ok (.invokevirtual 53, 3) := by decide +kernel
theorem dL_isWell_188 : decode cL_isWell 188 = .ok (.iload 10, 2) := by decide +kernel
theorem dL_isWell_190 : decode cL_isWell 190 = .ok (.aload_n 0, 1) := by decide +kernel
theorem dL_isWell_191 : decode cL_isWell 191 = .ok (.iconst 4, 1) := by decide +kernel
theorem dL_isWell_192 : decode cL_isWell 192 = .ok (.invokevirtual 36, 3) := by decide +kernel
theorem dL_isWell_195 : decode cL_isWell 195 = .ok (.iadd, 1) := by decide +kernel
theorem dL_isWell_196 : decode cL_isWell 196 = .ok (.if_icmp .ne 79, 3) := by decide +kernel
theorem dL_isWell_199 : decode cL_isWell 199 = .ok (.iload 11, 2) := by decide +kernel
theorem dL_isWell_201 : decode cL_isWell 201 = .ok (.aload_n 0, 1) := by decide +kernel
theorem dL_isWell_202 : decode cL_isWell 202 = .ok (.iconst 5, 1) := by decide +kernel
theorem dL_isWell_203 : decode cL_isWell 203 = .ok (.invokevirtual 36, 3) := by decide +kernel
theorem dL_isWell_206 : decode cL_isWell 206 = .ok (.if_icmp .gt 69, 3) := by decide +kernel
theorem dL_isWell_209 : decode cL_isWell 209 = .ok (.aload_n 0, 1) := by decide +kernel
theorem dL_isWell_210 : decode cL_isWell 210 = .ok (.iload 8, 2) := by decide +kernel
theorem dL_isWell_212 : decode cL_isWell 212 = .ok (.bipush 8, 2) := by decide +kernel
theorem dL_isWell_214 : decode cL_isWell 214 = .ok (.invokevirtual 53, 3) := by decide +kernel
theorem dL_isWell_217 : decode cL_isWell 217 = .ok (.iload 12, 2) := by decide +kernel
theorem dL_isWell_219 : decode cL_isWell 219 = .ok (.ifCond .ge 7, 3) := by decide +kernel
theorem dL_isWell_222 : decode cL_isWell 222 = .ok (.iconst 0, 1) := by decide +kernel
theorem dL_isWell_223 : decode cL_isWell 223 = .ok (.goto 5, 3) := by decide +kernel
theorem dL_isWell_226 : decode cL_isWell 226 = .ok (.iload 12, 2) := by decide +kernel
theorem dL_isWell_228 : decode cL_isWell 228 = .ok (.if_icmp .ne 47, 3) := by decide +kernel
theorem dL_isWell_231 : decode cL_isWell 231 = .ok (.aload_n 0, 1) := by decide +kernel
theorem dL_isWell_232 : decode cL_isWell 232 = .ok (.iload 9, 2) := by decide +kernel
theorem dL_isWell_234 : decode cL_isWell 234 = .ok (.iconst 0, 1) := by decide +kernel
theorem dL_isWell_235 : decode cL_isWell 235 = .ok (.invokevirtual 84, 3) := by decide +kernel
theorem dL_isWell_238 : decode cL_isWell 238 = .ok (.iload 8, 2) := by decide +kernel
theorem dL_isWell_240 : decode cL_isWell 240 = .ok (.if_icmp .ne 35, 3) := by decide +kernel
theorem dL_isWell_243 : decode cL_isWell 243 = .ok (.aload_n 0, 1) := by decide +kernel
theorem dL_isWell_244 : decode cL_isWell 244 = .ok (.iload 10, 2) := by decide +kernel
theorem dL_isWell_246 : decode cL_isWell 246 = .ok (.iconst 1, 1) := by decide +kernel
theorem dL_isWell_247 : decode cL_isWell 247 = .ok (.isub, 1) := by decide +kernel
theorem dL_isWell_248 : decode cL_isWell 248 = .ok (.iconst 0, 1) := by decide +kernel
theorem dL_isWell_249 : decode cL_isWell 249 = .ok (.invokevirtual 84, 3) := by decide +kernel
theorem dL_isWell_252 : decode cL_isWell 252 = .ok (.iload 8, 2) := by decide +kernel
theorem dL_isWell_254 : decode cL_isWell 254 = .ok (.if_icmp .ne 21, 3) := by decide +kernel
theorem dL_isWell_257 : decode cL_isWell 257 = .ok (.aload_n 0, 1) := by decide +kernel
theorem dL_isWell_258 : decode cL_isWell 258 = .ok (.iload 10, 2) := by decide +kernel
theorem dL_isWell_260 : decode cL_isWell 260 = .ok (.iconst 2, 1) := by decide +kernel
theorem dL_isWell_261 : decode cL_isWell 261 = .ok (.invokevirtual 84, 3) := by decide +kernel
theorem dL_isWell_264 : decode cL_isWell 264 = .ok (.iload 8, 2) := by decide +kernel
theorem dL_isWell_266 : decode cL_isWell 266 = .ok (.iconst 1, 1) := by decide +kernel
theorem dL_isWell_267 : decode cL_isWell 267 = .ok (.iadd, 1) := by decide +kernel
theorem dL_isWell_268 : decode cL_isWell 268 = .ok (.if_icmp .ne 7, 3) := by decide +kernel
theorem dL_isWell_271 : decode cL_isWell 271 = .ok (.iconst 1, 1) := by decide +kernel
theorem dL_isWell_272 : decode cL_isWell 272 = .ok (.goto 4, 3) := by decide +kernel
theorem dL_isWell_275 : decode cL_isWell 275 = .ok (.iconst 0, 1) := by decide +kernel
theorem dL_isWell_276 : decode cL_isWell 276 = .ok (.istore 7, 2) := by decide +kernel
theorem dL_isWell_278 : decode cL_isWell 278 = .ok (.iload 7, 2) := by decide +kernel
theorem dL_isWell_280 : decode cL_isWell 280 = .ok (.ifCond .eq 57, 3) := by decide +kernel
theorem dL_isWell_283 : decode cL_isWell 283 = .ok (.aload_n 0, 1) := by decide +kernel
theorem dL_isWell_284 : decode cL_isWell 284 = .ok (.iload 8, 2) := by decide +kernel
theorem dL_isWell_286 : decode cL_isWell 286 = .ok (.bipush 9, 2) := by decide +kernel
theorem dL_isWell_288 : decode cL_isWell 288 = .ok (.invokevirtual 53, 3) := by decide +kernel
theorem dL_isWell_291 : decode cL_isWell 291 = .ok (.ifCond .eq 42, 3) := by decide +kernel
theorem dL_isWell_294 : decode cL_isWell 294 = .ok (.aload_n 0, 1) := by decide +kernel
theorem dL_isWell_295 : decode cL_isWell 295 = .ok (.iload 10, 2) := by decide +kernel
theorem dL_isWell_297 : decode cL_isWell 297 = .ok (.iconst 1, 1) := by decide +kernel
theorem dL_isWell_298 : decode cL_isWell 298 = .ok (.isub, 1) := by decide +kernel
theorem dL_isWell_299 : decode cL_isWell 299 = .ok (.iconst 1, 1) := by decide +kernel
theorem dL_isWell_300 : decode cL_isWell 300 = .ok (.invokevirtual 84, 3) := by decide +kernel
theorem dL_isWell_303 : decode cL_isWell 303 = .ok (.aload_n 0, 1) := by decide +kernel
theorem dL_isWell_304 : decode cL_isWell 304 = .ok (.iload 8, 2) := by decide +kernel
theorem dL_isWell_306 : decode cL_isWell 306 = .ok (.iconst 4, 1) := by decide +kernel
theorem dL_isWell_307 : decode cL_isWell 307 = .ok (.invokevirtual 53, 3) := by decide +kernel
theorem dL_isWell_310 : decode cL_isWell 310 = .ok (.iadd, 1) := by decide +kernel
theorem dL_isWell_311 : decode cL_isWell 311 = .ok (.aload_n 0, 1) := by decide +kernel
theorem dL_isWell_312 : decode cL_isWell 312 = .ok (.iconst 5, 1) := by decide +kernel
theorem dL_isWell_313 : decode cL_isWell 313 = .ok (.invokevirtual 36, 3) := by decide +kernel
theorem dL_isWell_316 : decode cL_isWell 316 = .ok (.if_icmp .le 21, 3) := by decide +kernel
theorem dL_isWell_319 : decode cL_isWell 319 = .ok (.aload_n 0, 1) := by decide +kernel
theorem dL_isWell_320 : decode cL_isWell 320 = .ok (.iload 9, 2) := by decide +kernel
theorem dL_isWell_322 : decode cL_isWell 322 = .ok (.iconst 1, 1) := by decide +kernel
theorem dL_isWell_323 : decode cL_isWell 323 = .ok (.isub, 1) := by decide +kernel
theorem dL_isWell_324 : decode cL_isWell 324 = .ok (.iconst 0, 1) := by decide +kernel
theorem dL_isWell_325 : decode cL_isWell 325 = .ok (.invokevirtual 84, 3) := by decide +kernel
theorem dL_isWell_328 : decode cL_isWell 328 = .ok (.bipush (-6), 2) := by decide +kernel
theorem dL_isWell_330 : decode cL_isWell 330 = .ok (.if_icmp .ne 7, 3) := by decide +kernel
theorem dL_isWell_333 : decode cL_isWell 333 = .ok (.iconst 1, 1) := by decide +kernel
theorem dL_isWell_334 : decode cL_isWell 334 = .ok (.goto 4, 3) := by decide +kernel
theorem dL_isWell_337 : decode cL_isWell 337 = .ok (.iconst 0, 1) := by decide +kernel
theorem dL_isWell_338 : decode cL_isWell 338 = .ok (.istore 7, 2) := by decide +kernel
theorem dL_isWell_340 : decode cL_isWell 340 = .ok (.iload 10, 2) := by decide +kernel
theorem dL_isWell_342 : decode cL_isWell 342 = .ok (.istore_n 2, 1) := by decide +kernel
theorem dL_isWell_343 : decode cL_isWell 343 = .ok (.iinc 8 1, 3) := by decide +kernel
theorem dL_isWell_346 : decode cL_isWell 346 = .ok (.goto (-320), 3) := by decide +kernel
theorem dL_isWell_349 : decode cL_isWell 349 = .ok (.iload 7, 2) := by decide +kernel
theorem dL_isWell_351 : decode cL_isWell 351 = .ok (.ifCond .eq 106, 3) := by decide +kernel
theorem dL_isWell_354 : decode cL_isWell 354 = .ok (.iload_n 2, 1) := by decide +kernel
theorem dL_isWell_355 : decode cL_isWell 355 = .ok (.aload_n 0, 1) := by decide +kernel
theorem dL_isWell_356 : decode cL_isWell 356 = .ok (.bipush 9, 2) := by decide +kernel
theorem dL_isWell_358 : decode cL_isWell 358 = .ok (.invokevirtual 36, 3) := by decide +kernel
theorem dL_isWell_361 : decode cL_isWell 361 = .ok (.if_icmp .ne 96, 3) := by decide +kernel
theorem dL_isWell_364 : decode cL_isWell 364 = .ok (.iload_n 3, 1) := by decide +kernel
theorem dL_isWell_365 : decode cL_isWell 365 = .ok (.aload_n 0, 1) := by decide +kernel
theorem dL_isWell_366 : decode cL_isWell 366 = .ok (.bipush 17, 2) := by decide +kernel
theorem dL_isWell_368 : decode cL_isWell 368 = .ok (.invokevirtual 36, 3) := by decide +kernel
theorem dL_isWell_371 : decode cL_isWell 371 = .ok (.if_icmp .ne 86, 3) := by decide +kernel
theorem dL_isWell_374 : decode cL_isWell 374 = .ok (.iload 4, 2) := by decide +kernel
theorem dL_isWell_376 : decode cL_isWell 376 = .ok (.aload_n 0, 1) := by decide +kernel
theorem dL_isWell_377 : decode cL_isWell 377 = .ok (.bipush 16, 2) := by decide +kernel
theorem dL_isWell_379 : decode cL_isWell 379 = .ok (.invokevirtual 36, 3) := by decide +kernel
theorem dL_isWell_382 : decode cL_isWell 382 = .ok (.if_icmp .ne 75, 3) := by decide +kernel
theorem dL_isWell_385 : decode cL_isWell 385 = .ok (.iload 5, 2) := by decide +kernel
theorem dL_isWell_387 : decode cL_isWell 387 = .ok (.aload_n 0, 1) := by decide +kernel
theorem dL_isWell_388 : decode cL_isWell 388 = .ok (.bipush 12, 2) := by decide +kernel
theorem dL_isWell_390 : decode cL_isWell 390 = .ok (.invokevirtual 36, 3) := by decide +kernel
theorem dL_isWell_393 : decode cL_isWell 393 = .ok (.if_icmp .ne 64, 3) := by decide +kernel
theorem dL_isWell_396 : decode cL_isWell 396 = .ok (.iload 6, 2) := by decide +kernel
theorem dL_isWell_398 : decode cL_isWell 398 = .ok (.aload_n 0, 1) := by decide +kernel
theorem dL_isWell_399 : decode cL_isWell 399 = .ok (.bipush 14, 2) := by decide +kernel
theorem dL_isWell_401 : decode cL_isWell 401 = .ok (.invokevirtual 36, 3) := by decide +kernel
theorem dL_isWell_404 : decode cL_isWell 404 = .ok (.if_icmp .ne 53, 3) := by decide +kernel
theorem dL_isWell_407 : decode cL_isWell 407 = .ok (.aload_n 0, 1) := by decide +kernel
theorem dL_isWell_408 : decode cL_isWell 408 = .ok (.aload_n 0, 1) := by decide +kernel
theorem dL_isWell_409 : decode cL_isWell 409 = .ok (.bipush 10, 2) := by decide +kernel
theorem dL_isWell_411 : decode cL_isWell 411 = .ok (.invokevirtual 36, 3) := by decide +kernel
theorem dL_isWell_414 : decode cL_isWell 414 = .ok (.iconst 3, 1) := by decide +kernel
theorem dL_isWell_415 : decode cL_isWell 415 = .ok (.invokevirtual 84, 3) := by decide +kernel
theorem dL_isWell_418 : decode cL_isWell 418 = .ok (.iload_n 1, 1) := by decide +kernel
theorem dL_isWell_419 : decode cL_isWell 419 = .ok (.if_icmp .ne 38, 3) := by decide +kernel
theorem dL_isWell_422 : decode cL_isWell 422 = .ok (.aload_n 0, 1) := by decide +kernel
theorem dL_isWell_423 : decode cL_isWell 423 = .ok (.aload_n 0, 1) := by decide +kernel
theorem dL_isWell_424 : decode cL_isWell 424 = .ok (.bipush 10, 2) := by decide +kernel
theorem dL_isWell_426 : decode cL_isWell 426 = .ok (.invokevirtual 36, 3) := by decide +kernel
theorem dL_isWell_429 : decode cL_isWell 429 = .ok (.iconst 1, 1) := by decide +kernel
theorem dL_isWell_430 : decode cL_isWell 430 = .ok (.invokevirtual 84, 3) := by decide +kernel
theorem dL_isWell_433 : decode cL_isWell 433 = .ok (.ifCond .ne 24, 3) := by decide +kernel
theorem dL_isWell_436 : decode cL_isWell 436 = .ok (.iload 4, 2) := by decide +kernel
theorem dL_isWell_438 : decode cL_isWell 438 = .ok (.ifCond .gt 15, 3) := by decide +kernel
theorem dL_isWell_441 : decode cL_isWell 441 = .ok (.aload_n 0, 1) := by decide +kernel
theorem dL_isWell_442 : decode cL_isWell 442 = .ok (.invokevirtual 94, 3) := by decide +kernel
theorem dL_isWell_445 : decode cL_isWell 445 = .ok (.aload_n 0, 1) := by decide +kernel
theorem dL_isWell_446 : decode cL_isWell 446 = .ok (.iconst 5, 1) := by decide +kernel
theorem dL_isWell_447 : decode cL_isWell 447 = .ok (.invokevirtual 36, 3) := by decide +kernel
theorem dL_isWell_450 : decode cL_isWell 450 = .ok (.if_icmp .gt 7, 3) := by decide +kernel
theorem dL_isWell_453 : decode cL_isWell 453 = .ok (.iconst 1, 1) := by decide +kernel
theorem dL_isWell_454 : decode cL_isWell 454 = .ok (.goto 4, 3) := by decide +kernel
theorem dL_isWell_457 : decode cL_isWell 457 = .ok (.iconst 0, 1) := by decide +kernel
theorem dL_isWell_458 : decode cL_isWell 458 = .ok (.ireturn, 1) := by decide +kernel
set_option maxRecDepth 20000 in
theorem ggL_law_X4_init : GoodIn wsL_law wsX4_init := goodIn_r _ [5, 6, 7, 8, 9, 10, 11, 12, 13, 14, 15, 16, 17, 18, 19, 20, 21, 22, 23, 24, 25, 26, 27, 28, 29, 30, 31, 32, 33, 34, 35, 36, 37, 38, 39, 40, 41, 42, 43, 44, 45, 46, 47, 48, 49, 50, 51, 52, 53, 54, 55, 56, 57, 58, 59, 60, 61, 62, 63, 64, 65, 395, 396, 397, 388, 389, 390, 391, 392, 393, 394, 398, 399, 400, 401, 402, 403, 404, 405, 406, 407, 408, 409, 410, 411, 412, 413, 414, 415, 416, 417, 418, 419, 420, 421, 422, 423, 424, 425, 426] (by decide +kernel) (by decide +kernel)
set_option maxRecDepth 20000 in
theorem gL_law_X4_init : GoodIn wsL_law (wsX4_init) := ggL_law_X4_init
set_option maxRecDepth 20000 in
theorem ggL_law_X4_set : GoodIn wsL_law wsX4_set := goodIn_r _ [69, 70, 71, 12, 72, 25, 73, 74, 2, 75, 76, 77, 78, 11, 79, 80, 40, 81, 82, 83, 84, 85, 86, 87, 88, 89, 24, 90, 64, 91, 92, 93, 94, 95, 96, 97, 98, 99, 34, 35, 36, 37, 38, 388, 389, 390, 391, 392, 393, 394, 395, 396, 397, 424, 425, 426] (by decide +kernel) (by decide +kernel)
set_option maxRecDepth 20000 in
theorem gL_law_X4_set : GoodIn wsL_law (wsV RL 44 RX4 yX4_set wsX4_set) := goodIn_app (goodIn_of _ (by decide +kernel)) ggL_law_X4_set
set_option maxRecDepth 20000 in
theorem ggL_law_X4_save : GoodIn wsL_law wsX4_save := goodIn_r _ [103, 26, 12, 28, 104, 73, 74, 2, 75, 105, 97, 98, 11, 99, 34, 35, 36, 37, 38, 40, 80, 388, 389, 390, 391, 392, 393, 394, 395, 396, 397] (by decide +kernel) (by decide +kernel)
set_option maxRecDepth 20000 in
theorem gL_law_X4_save : GoodIn wsL_law (wsV RL 78 RX4 yX4_save wsX4_save) := goodIn_app (goodIn_of _ (by decide +kernel)) ggL_law_X4_save
set_option maxRecDepth 20000 in
theorem ggL_law_L_cell : GoodIn wsL_law wsL_cell := goodIn_r _ [109, 110] (by decide +kernel) (by decide +kernel)
set_option maxRecDepth 20000 in
theorem gL_law_L_cell : GoodIn wsL_law (va_wsS RL 101 yL_cell wsL_cell) := goodIn_app (goodIn_of _ (by decide +kernel)) ggL_law_L_cell
theorem dL_law_0 : decode cL_law 0 = .ok (.new 10, 3) := by decide +kernel
theorem dL_law_3 : decode cL_law 3 = .ok (.dup, 1) := by decide +kernel
theorem dL_law_4 : decode cL_law 4 = .ok (.invokespecial 100, 3) := by decide +kernel
theorem dL_law_7 : decode cL_law 7 = .ok (.astore_n 1, 1) := by decide +kernel
theorem dL_law_8 : decode cL_law 8 = .ok (.new 10, 3) := by decide +kernel
theorem dL_law_11 : decode cL_law 11 = .ok (.dup, 1) := by decide +kernel
theorem dL_law_12 : decode cL_law 12 = .ok (.invokespecial 100, 3) := by decide +kernel
theorem dL_law_15 : decode cL_law 15 = .ok (.astore_n 2, 1) := by decide +kernel
theorem dL_law_16 : decode cL_law 16 = .ok (.aload_n 2, 1) := by decide +kernel
theorem dL_law_17 : decode cL_law 17 = .ok (.iconst 0, 1) := by decide +kernel
theorem dL_law_18 : decode cL_law 18 = .ok (.bipush 20, 2) := by decide +kernel
theorem dL_law_20 : decode cL_law 20 = .ok (.invokevirtual 44, 3) := by decide +kernel
theorem dL_law_23 : decode cL_law 23 = .ok (.bipush 10, 2) := by decide +kernel
theorem dL_law_25 : decode cL_law 25 = .ok (.if_icmp .ne 52, 3) := by decide +kernel
theorem dL_law_28 : decode cL_law 28 = .ok (.aload_n 2, 1) := by decide +kernel
theorem dL_law_29 : decode cL_law 29 = .ok (.iconst 1, 1) := by decide +kernel
theorem dL_law_30 : decode cL_law 30 = .ok (.bipush 30, 2) := by decide +kernel
theorem dL_law_32 : decode cL_law 32 = .ok (.invokevirtual 44, 3) := by decide +kernel
theorem dL_law_35 : decode cL_law 35 = .ok (.bipush 15, 2) := by decide +kernel
theorem dL_law_37 : decode cL_law 37 = .ok (.if_icmp .ne 40, 3) := by decide +kernel
theorem dL_law_40 : decode cL_law 40 = .ok (.aload_n 2, 1) := by decide +kernel
theorem dL_law_41 : decode cL_law 41 = .ok (.iconst 2, 1) := by decide +kernel
theorem dL_law_42 : decode cL_law 42 = .ok (.iconst 4, 1) := by decide +kernel
theorem dL_law_43 : decode cL_law 43 = .ok (.invokevirtual 44, 3) := by decide +kernel
theorem dL_law_46 : decode cL_law 46 = .ok (.iconst 2, 1) := by decide +kernel
theorem dL_law_47 : decode cL_law 47 = .ok (.if_icmp .ne 30, 3) := by decide +kernel
theorem dL_law_50 : decode cL_law 50 = .ok (.aload_n 2, 1) := by decide +kernel
theorem dL_law_51 : decode cL_law 51 = .ok (.iconst 3, 1) := by decide +kernel
theorem dL_law_52 : decode cL_law 52 = .ok (.bipush 8, 2) := by decide +kernel
theorem dL_law_54 : decode cL_law 54 = .ok (.invokevirtual 44, 3) := by decide +kernel
theorem dL_law_57 : decode cL_law 57 = .ok (.iconst 4, 1) := by decide +kernel
theorem dL_law_58 : decode cL_law 58 = .ok (.if_icmp .ne 19, 3) := by decide +kernel
theorem dL_law_61 : decode cL_law 61 = .ok (.aload_n 2, 1) := by decide +kernel
theorem dL_law_62 : decode cL_law 62 = .ok (.iconst 4, 1) := by decide +kernel
theorem dL_law_63 : decode cL_law 63 = .ok (.bipush 120, 2) := by decide +kernel
theorem dL_law_65 : decode cL_law 65 = .ok (.invokevirtual 44, 3) := by decide +kernel
theorem dL_law_68 : decode cL_law 68 = .ok (.bipush 60, 2) := by decide +kernel
theorem dL_law_70 : decode cL_law 70 = .ok (.if_icmp .ne 7, 3) := by decide +kernel
theorem dL_law_73 : decode cL_law 73 = .ok (.iconst 1, 1) := by decide +kernel
theorem dL_law_74 : decode cL_law 74 = .ok (.goto 4, 3) := by decide +kernel
theorem dL_law_77 : decode cL_law 77 = .ok (.iconst 0, 1) := by decide +kernel
theorem dL_law_78 : decode cL_law 78 = .ok (.istore_n 3, 1) := by decide +kernel
theorem dL_law_79 : decode cL_law 79 = .ok (.iload_n 3, 1) := by decide +kernel
theorem dL_law_80 : decode cL_law 80 = .ok (.ifCond .eq 93, 3) := by decide +kernel
theorem dL_law_83 : decode cL_law 83 = .ok (.aload_n 1, 1) := by decide +kernel
theorem dL_law_84 : decode cL_law 84 = .ok (.iconst 0, 1) := by decide +kernel
theorem dL_law_85 : decode cL_law 85 = .ok (.bipush 10, 2) := by decide +kernel
theorem dL_law_87 : decode cL_law 87 = .ok (.invokevirtual 44, 3) := by decide +kernel
theorem dL_law_90 : decode cL_law 90 = .ok (.bipush 10, 2) := by decide +kernel
theorem dL_law_92 : decode cL_law 92 = .ok (.if_icmp .ne 81, 3) := by decide +kernel
theorem dL_law_95 : decode cL_law 95 = .ok (.aload_n 1, 1) := by decide +kernel
theorem dL_law_96 : decode cL_law 96 = .ok (.iconst 0, 1) := by decide +kernel
theorem dL_law_97 : decode cL_law 97 = .ok (.bipush 10, 2) := by decide +kernel
theorem dL_law_99 : decode cL_law 99 = .ok (.invokevirtual 44, 3) := by decide +kernel
theorem dL_law_102 : decode cL_law 102 = .ok (.bipush 10, 2) := by decide +kernel
theorem dL_law_104 : decode cL_law 104 = .ok (.if_icmp .ne 69, 3) := by decide +kernel
theorem dL_law_107 : decode cL_law 107 = .ok (.aload_n 1, 1) := by decide +kernel
theorem dL_law_108 : decode cL_law 108 = .ok (.iconst 0, 1) := by decide +kernel
theorem dL_law_109 : decode cL_law 109 = .ok (.bipush 10, 2) := by decide +kernel
theorem dL_law_111 : decode cL_law 111 = .ok (.invokevirtual 44, 3) := by decide +kernel
theorem dL_law_114 : decode cL_law 114 = .ok (.bipush 10, 2) := by decide +kernel
theorem dL_law_116 : decode cL_law 116 = .ok (.if_icmp .ne 57, 3) := by decide +kernel
theorem dL_law_119 : decode cL_law 119 = .ok (.aload_n 1, 1) := by decide +kernel
theorem dL_law_120 : decode cL_law 120 = .ok (.iconst 0, 1) := by decide +kernel
theorem dL_law_121 : decode cL_law 121 = .ok (.bipush 10, 2) := by decide +kernel
theorem dL_law_123 : decode cL_law 123 = .ok (.invokevirtual 44, 3) := by decide +kernel
theorem dL_law_126 : decode cL_law 126 = .ok (.bipush 10, 2) := by decide +kernel
theorem dL_law_128 : decode cL_law 128 = .ok (.if_icmp .ne 45, 3) := by decide +kernel
theorem dL_law_131 : decode cL_law 131 = .ok (.aload_n 1, 1) := by decide +kernel
theorem dL_law_132 : decode cL_law 132 = .ok (.iconst 0, 1) := by decide +kernel
theorem dL_law_133 : decode cL_law 133 = .ok (.bipush 10, 2) := by decide +kernel
theorem dL_law_135 : decode cL_law 135 = .ok (.invokevirtual 44, 3) := by decide +kernel
theorem dL_law_138 : decode cL_law 138 = .ok (.bipush 10, 2) := by decide +kernel
theorem dL_law_140 : decode cL_law 140 = .ok (.if_icmp .ne 33, 3) := by decide +kernel
theorem dL_law_143 : decode cL_law 143 = .ok (.aload_n 1, 1) := by decide +kernel
theorem dL_law_144 : decode cL_law 144 = .ok (.iconst 0, 1) := by decide +kernel
theorem dL_law_145 : decode cL_law 145 = .ok (.invokevirtual 78, 3) := by decide +kernel
theorem dL_law_148 : decode cL_law 148 = .ok (.aload_n 2, 1) := by decide +kernel
theorem dL_law_149 : decode cL_law 149 = .ok (.iconst 0, 1) := by decide +kernel
theorem dL_law_150 : decode cL_law 150 = .ok (.invokevirtual 78, 3) := by decide +kernel
theorem dL_law_153 : decode cL_law 153 = .ok (.if_icmp .ne 20, 3) := by decide +kernel
theorem dL_law_156 : decode cL_law 156 = .ok (.aload_n 1, 1) := by decide +kernel
theorem dL_law_157 : decode cL_law 157 = .ok (.iconst 1, 1) := by decide +kernel
theorem dL_law_158 : decode cL_law 158 = .ok (.invokevirtual 78, 3) := by decide +kernel
theorem dL_law_161 : decode cL_law 161 = .ok (.aload_n 2, 1) := by decide +kernel
theorem dL_law_162 : decode cL_law 162 = .ok (.iconst 1, 1) := by decide +kernel
theorem dL_law_163 : decode cL_law 163 = .ok (.invokevirtual 78, 3) := by decide +kernel
theorem dL_law_166 : decode cL_law 166 = .ok (.if_icmp .ne 7, 3) := by decide +kernel
theorem dL_law_169 : decode cL_law 169 = .ok (.iconst 1, 1) := by decide +kernel
theorem dL_law_170 : decode cL_law 170 = .ok (.goto 4, 3) := by decide +kernel
theorem dL_law_173 : decode cL_law 173 = .ok (.iconst 0, 1) := by decide +kernel
theorem dL_law_174 : decode cL_law 174 = .ok (.istore_n 3, 1) := by decide +kernel
theorem dL_law_175 : decode cL_law 175 = .ok (.iconst 0, 1) := by decide +kernel
theorem dL_law_176 : decode cL_law 176 = .ok (.istore 4, 2) := by decide +kernel
theorem dL_law_178 : decode cL_law 178 = .ok (.iload 4, 2) := by decide +kernel
theorem dL_law_180 : decode cL_law 180 = .ok (.bipush 6, 2) := by decide +kernel
theorem dL_law_182 : decode cL_law 182 = .ok (.if_icmp .ge 43, 3) := by decide +kernel
theorem dL_law_185 : decode cL_law 185 = .ok (.iload_n 3, 1) := by decide +kernel
theorem dL_law_186 : decode cL_law 186 = .ok (.ifCond .eq 31, 3) := by decide +kernel
theorem dL_law_189 : decode cL_law 189 = .ok (.aload_n 1, 1) := by decide +kernel
theorem dL_law_190 : decode cL_law 190 = .ok (.iconst 0, 1) := by decide +kernel
theorem dL_law_191 : decode cL_law 191 = .ok (.bipush 10, 2) := by decide +kernel
theorem dL_law_193 : decode cL_law 193 = .ok (.invokevirtual 44, 3) := by decide +kernel
theorem dL_law_196 : decode cL_law 196 = .ok (.bipush 10, 2) := by decide +kernel
theorem dL_law_198 : decode cL_law 198 = .ok (.if_icmp .ne 19, 3) := by decide +kernel
theorem dL_law_201 : decode cL_law 201 = .ok (.aload_n 2, 1) := by decide +kernel
theorem dL_law_202 : decode cL_law 202 = .ok (.iconst 0, 1) := by decide +kernel
theorem dL_law_203 : decode cL_law 203 = .ok (.bipush 20, 2) := by decide +kernel
theorem dL_law_205 : decode cL_law 205 = .ok (.invokevirtual 44, 3) := by decide +kernel
theorem dL_law_208 : decode cL_law 208 = .ok (.bipush 20, 2) := by decide +kernel
theorem dL_law_210 : decode cL_law 210 = .ok (.if_icmp .ne 7, 3) := by decide +kernel
theorem dL_law_213 : decode cL_law 213 = .ok (.iconst 1, 1) := by decide +kernel
theorem dL_law_214 : decode cL_law 214 = .ok (.goto 4, 3) := by decide +kernel
theorem dL_law_217 : decode cL_law 217 = .ok (.iconst 0, 1) := by decide +kernel
theorem dL_law_218 : decode cL_law 218 = .ok (.istore_n 3, 1) := by decide +kernel
theorem dL_law_219 : decode cL_law 219 = .ok (.iinc 4 1, 3) := by decide +kernel
theorem dL_law_222 : decode cL_law 222 = .ok (.goto (-44), 3) := by decide +kernel
theorem dL_law_225 : decode cL_law 225 = .ok (.iconst 0, 1) := by decide +kernel
theorem dL_law_226 : decode cL_law 226 = .ok (.istore 4, 2) := by decide +kernel
theorem dL_law_228 : decode cL_law 228 = .ok (.iload 4, 2) := by decide +kernel
theorem dL_law_230 : decode cL_law 230 = .ok (.bipush 48, 2) := by decide +kernel
theorem dL_law_232 : decode cL_law 232 = .ok (.if_icmp .ge 57, 3) := by decide +kernel
theorem dL_law_235 : decode cL_law 235 = .ok (.iload_n 3, 1) := by decide +kernel
theorem dL_law_236 : decode cL_law 236 = .ok (.ifCond .eq 53, 3) := by decide +kernel
theorem dL_law_239 : decode cL_law 239 = .ok (.aload_n 1, 1) := by decide +kernel
theorem dL_law_240 : decode cL_law 240 = .ok (.aload_n 2, 1) := by decide +kernel
theorem dL_law_241 : decode cL_law 241 = .ok (.aload_n 0, 1) := by decide +kernel
theorem dL_law_242 : decode cL_law 242 = .ok (.iload 4, 2) := by decide +kernel
theorem dL_law_244 : decode cL_law 244 = .ok (.invokestatic 101, 3) := by decide +kernel
theorem dL_law_247 : decode cL_law 247 = .ok (.aload_n 0, 1) := by decide +kernel
theorem dL_law_248 : decode cL_law 248 = .ok (.iload 4, 2) := by decide +kernel
theorem dL_law_250 : decode cL_law 250 = .ok (.iconst 1, 1) := by decide +kernel
theorem dL_law_251 : decode cL_law 251 = .ok (.iadd, 1) := by decide +kernel
theorem dL_law_252 : decode cL_law 252 = .ok (.invokestatic 101, 3) := by decide +kernel
theorem dL_law_255 : decode cL_law 255 = .ok (.iconst 2, 1) := by decide +kernel
theorem dL_law_256 : decode cL_law 256 = .ok (.ishr, 1) := by decide +kernel
theorem dL_law_257 : decode cL_law 257 = .ok (.invokestatic 105, 3) := by decide +kernel
theorem dL_law_260 : decode cL_law 260 = .ok (.ifCond .eq 21, 3) := by decide +kernel
theorem dL_law_263 : decode cL_law 263 = .ok (.iload 4, 2) := by decide +kernel
theorem dL_law_265 : decode cL_law 265 = .ok (.iconst 4, 1) := by decide +kernel
theorem dL_law_266 : decode cL_law 266 = .ok (.irem, 1) := by decide +kernel
theorem dL_law_267 : decode cL_law 267 = .ok (.ifCond .gt 10, 3) := by decide +kernel
theorem dL_law_270 : decode cL_law 270 = .ok (.aload_n 1, 1) := by decide +kernel
theorem dL_law_271 : decode cL_law 271 = .ok (.invokestatic 109, 3) := by decide +kernel
theorem dL_law_274 : decode cL_law 274 = .ok (.ifCond .eq 7, 3) := by decide +kernel
theorem dL_law_277 : decode cL_law 277 = .ok (.iconst 1, 1) := by decide +kernel
theorem dL_law_278 : decode cL_law 278 = .ok (.goto 4, 3) := by decide +kernel
theorem dL_law_281 : decode cL_law 281 = .ok (.iconst 0, 1) := by decide +kernel
theorem dL_law_282 : decode cL_law 282 = .ok (.istore_n 3, 1) := by decide +kernel
theorem dL_law_283 : decode cL_law 283 = .ok (.iinc 4 1, 3) := by decide +kernel
theorem dL_law_286 : decode cL_law 286 = .ok (.goto (-58), 3) := by decide +kernel
theorem dL_law_289 : decode cL_law 289 = .ok (.iload_n 3, 1) := by decide +kernel
theorem dL_law_290 : decode cL_law 290 = .ok (.ifCond .eq 22, 3) := by decide +kernel
theorem dL_law_293 : decode cL_law 293 = .ok (.aload_n 1, 1) := by decide +kernel
theorem dL_law_294 : decode cL_law 294 = .ok (.invokestatic 109, 3) := by decide +kernel
theorem dL_law_297 : decode cL_law 297 = .ok (.ifCond .eq 15, 3) := by decide +kernel
theorem dL_law_300 : decode cL_law 300 = .ok (.aload_n 1, 1) := by decide +kernel
theorem dL_law_301 : decode cL_law 301 = .ok (.aload_n 2, 1) := by decide +kernel
theorem dL_law_302 : decode cL_law 302 = .ok (.invokestatic 113, 3) := by decide +kernel
theorem dL_law_305 : decode cL_law 305 = .ok (.ifCond .eq 7, 3) := by decide +kernel
theorem dL_law_308 : decode cL_law 308 = .ok (.iconst 1, 1) := by decide +kernel
theorem dL_law_309 : decode cL_law 309 = .ok (.goto 4, 3) := by decide +kernel
theorem dL_law_312 : decode cL_law 312 = .ok (.iconst 0, 1) := by decide +kernel
theorem dL_law_313 : decode cL_law 313 = .ok (.ireturn, 1) := by decide +kernel
