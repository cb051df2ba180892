theorem dL_lists_0 : decode cL_lists 0 = .ok (.iload_n 2, 1) := by decide +kernel
theorem dL_lists_1 : decode cL_lists 1 = .ok (.bipush 6, 2) := by decide +kernel
theorem dL_lists_3 : decode cL_lists 3 = .ok (.irem, 1) := by decide +kernel
theorem dL_lists_4 : decode cL_lists 4 = .ok (.istore 4, 2) := by decide +kernel
theorem dL_lists_6 : decode cL_lists 6 = .ok (.aload_n 1, 1) := by decide +kernel
theorem dL_lists_7 : decode cL_lists 7 = .ok (.bipush 34, 2) := by decide +kernel
theorem dL_lists_9 : decode cL_lists 9 = .ok (.iload 4, 2) := by decide +kernel
theorem dL_lists_11 : decode cL_lists 11 = .ok (.iadd, 1) := by decide +kernel
theorem dL_lists_12 : decode cL_lists 12 = .ok (.iaload, 1) := by decide +kernel
theorem dL_lists_13 : decode cL_lists 13 = .ok (.istore 5, 2) := by decide +kernel
theorem dL_lists_15 : decode cL_lists 15 = .ok (.iload 5, 2) := by decide +kernel
theorem dL_lists_17 : decode cL_lists 17 = .ok (.ifCond .le 9, 3) := by decide +kernel
theorem dL_lists_20 : decode cL_lists 20 = .ok (.iload_n 3, 1) := by decide +kernel
theorem dL_lists_21 : decode cL_lists 21 = .ok (.iconst 4, 1) := by decide +kernel
theorem dL_lists_22 : decode cL_lists 22 = .ok (.irem, 1) := by decide +kernel
theorem dL_lists_23 : decode cL_lists 23 = .ok (.ifCond .eq 10, 3) := by decide +kernel
theorem dL_lists_26 : decode cL_lists 26 = .ok (.iload 5, 2) := by decide +kernel
theorem dL_lists_28 : decode cL_lists 28 = .ok (.bipush 12, 2) := by decide +kernel
theorem dL_lists_30 : decode cL_lists 30 = .ok (.if_icmp .ne 40, 3) := by decide +kernel
theorem dL_lists_33 : decode cL_lists 33 = .ok (.aload_n 1, 1) := by decide +kernel
theorem dL_lists_34 : decode cL_lists 34 = .ok (.bipush 34, 2) := by decide +kernel
theorem dL_lists_36 : decode cL_lists 36 = .ok (.iload 4, 2) := by decide +kernel
theorem dL_lists_38 : decode cL_lists 38 = .ok (.iadd, 1) := by decide +kernel
theorem dL_lists_39 : decode cL_lists 39 = .ok (.dup2, 1) := by decide +kernel
theorem dL_lists_40 : decode cL_lists 40 = .ok (.iaload, 1) := by decide +kernel
theorem dL_lists_41 : decode cL_lists 41 = .ok (.iconst 1, 1) := by decide +kernel
theorem dL_lists_42 : decode cL_lists 42 = .ok (.isub, 1) := by decide +kernel
theorem dL_lists_43 : decode cL_lists 43 = .ok (.iastore, 1) := by decide +kernel
theorem dL_lists_44 : decode cL_lists 44 = .ok (.aload_n 0, 1) := by decide +kernel
theorem dL_lists_45 : decode cL_lists 45 = .ok (.iload 4, 2) := by decide +kernel
theorem dL_lists_47 : decode cL_lists 47 = .ok (.iload_n 2, 1) := by decide +kernel
theorem dL_lists_48 : decode cL_lists 48 = .ok (.bipush 6, 2) := by decide +kernel
theorem dL_lists_50 : decode cL_lists 50 = .ok (.idiv, 1) := by decide +kernel
theorem dL_lists_51 : decode cL_lists 51 = .ok (.iload 5, 2) := by decide +kernel
theorem dL_lists_53 : decode cL_lists 53 = .ok (.irem, 1) := by decide +kernel
theorem dL_lists_54 : decode cL_lists 54 = .ok (.invokevirtual 69, 3) := by decide +kernel
theorem dL_lists_57 : decode cL_lists 57 = .ok (.iload 5, 2) := by decide +kernel
theorem dL_lists_59 : decode cL_lists 59 = .ok (.iconst 1, 1) := by decide +kernel
theorem dL_lists_60 : decode cL_lists 60 = .ok (.isub, 1) := by decide +kernel
theorem dL_lists_61 : decode cL_lists 61 = .ok (.if_icmp .ne 7, 3) := by decide +kernel
theorem dL_lists_64 : decode cL_lists 64 = .ok (.iconst 1, 1) := by decide +kernel
theorem dL_lists_65 : decode cL_lists 65 = .ok (.goto 4, 3) := by decide +kernel
theorem dL_lists_68 : decode cL_lists 68 = .ok (.iconst 0, 1) := by decide +kernel
theorem dL_lists_69 : decode cL_lists 69 = .ok (.ireturn, 1) := by decide +kernel
theorem dL_lists_70 : decode cL_lists 70 = .ok (.iload_n 3, 1) := by decide +kernel
theorem dL_lists_71 : decode cL_lists 71 = .ok (.iconst 4, 1) := by decide +kernel
theorem dL_lists_72 : decode cL_lists 72 = .ok (.idiv, 1) := by decide +kernel
theorem dL_lists_73 : decode cL_lists 73 = .ok (.bipush 11, 2) := by decide +kernel
theorem dL_lists_75 : decode cL_lists 75 = .ok (.irem, 1) := by decide +kernel
theorem dL_lists_76 : decode cL_lists 76 = .ok (.istore 6, 2) := by decide +kernel
theorem dL_lists_78 : decode cL_lists 78 = .ok (.iload_n 3, 1) := by decide +kernel
theorem dL_lists_79 : decode cL_lists 79 = .ok (.bipush 44, 2) := by decide +kernel
theorem dL_lists_81 : decode cL_lists 81 = .ok (.idiv, 1) := by decide +kernel
theorem dL_lists_82 : decode cL_lists 82 = .ok (.sipush 1024, 3) := by decide +kernel
theorem dL_lists_85 : decode cL_lists 85 = .ok (.irem, 1) := by decide +kernel
theorem dL_lists_86 : decode cL_lists 86 = .ok (.iload 6, 2) := by decide +kernel
theorem dL_lists_88 : decode cL_lists 88 = .ok (.ishr, 1) := by decide +kernel
theorem dL_lists_89 : decode cL_lists 89 = .ok (.iload 6, 2) := by decide +kernel
theorem dL_lists_91 : decode cL_lists 91 = .ok (.ishl, 1) := by decide +kernel
theorem dL_lists_92 : decode cL_lists 92 = .ok (.istore 7, 2) := by decide +kernel
theorem dL_lists_94 : decode cL_lists 94 = .ok (.iload_n 3, 1) := by decide +kernel
theorem dL_lists_95 : decode cL_lists 95 = .ok (.ldc 72, 2) := by decide +kernel
theorem dL_lists_97 : decode cL_lists 97 = .ok (.idiv, 1) := by decide +kernel
theorem dL_lists_98 : decode cL_lists 98 = .ok (.bipush 16, 2) := by decide +kernel
theorem dL_lists_100 : decode cL_lists 100 = .ok (.irem, 1) := by decide +kernel
theorem dL_lists_101 : decode cL_lists 101 = .ok (.istore 8, 2) := by decide +kernel
theorem dL_lists_103 : decode cL_lists 103 = .ok (.aload_n 0, 1) := by decide +kernel
theorem dL_lists_104 : decode cL_lists 104 = .ok (.iload 4, 2) := by decide +kernel
theorem dL_lists_106 : decode cL_lists 106 = .ok (.invokevirtual 73, 3) := by decide +kernel
theorem dL_lists_109 : decode cL_lists 109 = .ok (.istore 9, 2) := by decide +kernel
theorem dL_lists_111 : decode cL_lists 111 = .ok (.aload_n 1, 1) := by decide +kernel
theorem dL_lists_112 : decode cL_lists 112 = .ok (.bipush 34, 2) := by decide +kernel
theorem dL_lists_114 : decode cL_lists 114 = .ok (.iload 4, 2) := by decide +kernel
theorem dL_lists_116 : decode cL_lists 116 = .ok (.iadd, 1) := by decide +kernel
theorem dL_lists_117 : decode cL_lists 117 = .ok (.dup2, 1) := by decide +kernel
theorem dL_lists_118 : decode cL_lists 118 = .ok (.iaload, 1) := by decide +kernel
theorem dL_lists_119 : decode cL_lists 119 = .ok (.iconst 1, 1) := by decide +kernel
theorem dL_lists_120 : decode cL_lists 120 = .ok (.iadd, 1) := by decide +kernel
theorem dL_lists_121 : decode cL_lists 121 = .ok (.iastore, 1) := by decide +kernel
theorem dL_lists_122 : decode cL_lists 122 = .ok (.aload_n 0, 1) := by decide +kernel
theorem dL_lists_123 : decode cL_lists 123 = .ok (.iload 4, 2) := by decide +kernel
theorem dL_lists_125 : decode cL_lists 125 = .ok (.iload 5, 2) := by decide +kernel
theorem dL_lists_127 : decode cL_lists 127 = .ok (.iload_n 2, 1) := by decide +kernel
theorem dL_lists_128 : decode cL_lists 128 = .ok (.bipush 6, 2) := by decide +kernel
theorem dL_lists_130 : decode cL_lists 130 = .ok (.idiv, 1) := by decide +kernel
theorem dL_lists_131 : decode cL_lists 131 = .ok (.iconst 2, 1) := by decide +kernel
theorem dL_lists_132 : decode cL_lists 132 = .ok (.irem, 1) := by decide +kernel
theorem dL_lists_133 : decode cL_lists 133 = .ok (.ifCond .ne 7, 3) := by decide +kernel
theorem dL_lists_136 : decode cL_lists 136 = .ok (.iconst 1, 1) := by decide +kernel
theorem dL_lists_137 : decode cL_lists 137 = .ok (.goto 4, 3) := by decide +kernel
theorem dL_lists_140 : decode cL_lists 140 = .ok (.iconst 0, 1) := by decide +kernel
theorem dL_lists_141 : decode cL_lists 141 = .ok (.iload_n 2, 1) := by decide +kernel
theorem dL_lists_142 : decode cL_lists 142 = .ok (.bipush 12, 2) := by decide +kernel
theorem dL_lists_144 : decode cL_lists 144 = .ok (.idiv, 1) := by decide +kernel
theorem dL_lists_145 : decode cL_lists 145 = .ok (.iconst 2, 1) := by decide +kernel
theorem dL_lists_146 : decode cL_lists 146 = .ok (.irem, 1) := by decide +kernel
theorem dL_lists_147 : decode cL_lists 147 = .ok (.ifCond .ne 7, 3) := by decide +kernel
theorem dL_lists_150 : decode cL_lists 150 = .ok (.iconst 1, 1) := by decide +kernel
theorem dL_lists_151 : decode cL_lists 151 = .ok (.goto 4, 3) := by decide +kernel
theorem dL_lists_154 : decode cL_lists 154 = .ok (.iconst 0, 1) := by decide +kernel
theorem dL_lists_155 : decode cL_lists 155 = .ok (.iload 7, 2) := by decide +kernel
theorem dL_lists_157 : decode cL_lists 157 = .ok (.iload 6, 2) := by decide +kernel
theorem dL_lists_159 : decode cL_lists 159 = .ok (.iload 8, 2) := by decide +kernel
theorem dL_lists_161 : decode cL_lists 161 = .ok (.iload 8, 2) := by decide +kernel
theorem dL_lists_163 : decode cL_lists 163 = .ok (.iload_n 2, 1) := by decide +kernel
theorem dL_lists_164 : decode cL_lists 164 = .ok (.bipush 24, 2) := by decide +kernel
theorem dL_lists_166 : decode cL_lists 166 = .ok (.idiv, 1) := by decide +kernel
theorem dL_lists_167 : decode cL_lists 167 = .ok (.bipush 16, 2) := by decide +kernel
theorem dL_lists_169 : decode cL_lists 169 = .ok (.iload 8, 2) := by decide +kernel
theorem dL_lists_171 : decode cL_lists 171 = .ok (.isub, 1) := by decide +kernel
theorem dL_lists_172 : decode cL_lists 172 = .ok (.irem, 1) := by decide +kernel
theorem dL_lists_173 : decode cL_lists 173 = .ok (.iadd, 1) := by decide +kernel
theorem dL_lists_174 : decode cL_lists 174 = .ok (.invokevirtual 76, 3) := by decide +kernel
theorem dL_lists_177 : decode cL_lists 177 = .ok (.iload 5, 2) := by decide +kernel
theorem dL_lists_179 : decode cL_lists 179 = .ok (.iconst 1, 1) := by decide +kernel
theorem dL_lists_180 : decode cL_lists 180 = .ok (.iadd, 1) := by decide +kernel
theorem dL_lists_181 : decode cL_lists 181 = .ok (.if_icmp .ne 7, 3) := by decide +kernel
theorem dL_lists_184 : decode cL_lists 184 = .ok (.iconst 1, 1) := by decide +kernel
theorem dL_lists_185 : decode cL_lists 185 = .ok (.goto 4, 3) := by decide +kernel
theorem dL_lists_188 : decode cL_lists 188 = .ok (.iconst 0, 1) := by decide +kernel
theorem dL_lists_189 : decode cL_lists 189 = .ok (.istore 10, 2) := by decide +kernel
theorem dL_lists_191 : decode cL_lists 191 = .ok (.aload_n 0, 1) := by decide +kernel
theorem dL_lists_192 : decode cL_lists 192 = .ok (.iload 4, 2) := by decide +kernel
theorem dL_lists_194 : decode cL_lists 194 = .ok (.invokevirtual 73, 3) := by decide +kernel
theorem dL_lists_197 : decode cL_lists 197 = .ok (.istore 11, 2) := by decide +kernel
theorem dL_lists_199 : decode cL_lists 199 = .ok (.iload 10, 2) := by decide +kernel
theorem dL_lists_201 : decode cL_lists 201 = .ok (.ifCond .eq 30, 3) := by decide +kernel
theorem dL_lists_204 : decode cL_lists 204 = .ok (.iload 11, 2) := by decide +kernel
theorem dL_lists_206 : decode cL_lists 206 = .ok (.iload 9, 2) := by decide +kernel
theorem dL_lists_208 : decode cL_lists 208 = .ok (.if_icmp .eq 12, 3) := by decide +kernel
theorem dL_lists_211 : decode cL_lists 211 = .ok (.iload 11, 2) := by decide +kernel
theorem dL_lists_213 : decode cL_lists 213 = .ok (.iload 9, 2) := by decide +kernel
theorem dL_lists_215 : decode cL_lists 215 = .ok (.iconst 1, 1) := by decide +kernel
theorem dL_lists_216 : decode cL_lists 216 = .ok (.iadd, 1) := by decide +kernel
theorem dL_lists_217 : decode cL_lists 217 = .ok (.if_icmp .ne 14, 3) := by decide +kernel
theorem dL_lists_220 : decode cL_lists 220 = .ok (.iload 11, 2) := by decide +kernel
theorem dL_lists_222 : decode cL_lists 222 = .ok (.iload 5, 2) := by decide +kernel
theorem dL_lists_224 : decode cL_lists 224 = .ok (.if_icmp .gt 7, 3) := by decide +kernel
theorem dL_lists_227 : decode cL_lists 227 = .ok (.iconst 1, 1) := by decide +kernel
theorem dL_lists_228 : decode cL_lists 228 = .ok (.goto 4, 3) := by decide +kernel
theorem dL_lists_231 : decode cL_lists 231 = .ok (.iconst 0, 1) := by decide +kernel
theorem dL_lists_232 : decode cL_lists 232 = .ok (.ireturn, 1) := by decide +kernel
set_option maxRecDepth 20000 in
theorem ggL_lists_X7_removeRule : GoodIn wsL_lists wsX7_removeRule := goodIn_ca (goodIn_r _ [6, 7, 8, 9, 10, 5, 11, 12, 13, 14, 15, 16, 17, 18, 19, 20, 21, 22, 23, 24, 25, 26, 27, 28, 29, 30, 31, 32, 33, 34, 35, 36, 37, 38, 39, 40, 41, 42, 43, 44, 45, 46, 47, 48, 49, 50, 51, 52, 53, 54, 55, 178, 179, 180, 181, 182, 183, 184, 185, 186, 187, 188, 189] (by decide +kernel) (by decide +kernel)) (goodIn_sub (fun _ h => List.mem_cons_of_mem _ (List.mem_append_left _ (List.mem_append_left _ (List.mem_append_right _ h)))) (by decide +kernel))
set_option maxRecDepth 20000 in
theorem gL_lists_X7_removeRule : GoodIn wsL_lists (wsV RL 69 RX7 yX7_removeRule wsX7_removeRule) := goodIn_app (goodIn_of _ (by decide +kernel)) ggL_lists_X7_removeRule
set_option maxRecDepth 20000 in
theorem ggL_lists_X7_idleRules : GoodIn wsL_lists wsX7_idleRules := goodIn_ca (goodIn_r _ [59, 8, 9, 10, 5, 11, 12, 13, 14, 15, 16, 17, 18, 19, 20, 21, 22, 23, 24, 25, 26, 27, 28, 29, 30, 31, 32, 33, 34, 35, 36, 37, 38, 39, 40, 41, 60, 61, 62, 63, 64, 65, 66, 67, 68, 69, 70, 71, 72, 73, 74, 75, 76, 77, 78, 79, 80, 81, 82, 83, 84, 85, 86, 87, 88, 89, 90, 91, 92, 93, 94, 95, 96, 97, 98, 99, 182, 183, 184, 185, 186, 187, 188, 189, 178, 179, 180, 181, 190, 191, 192, 193, 194, 195] (by decide +kernel) (by decide +kernel)) (goodIn_sub (fun _ h => List.mem_cons_of_mem _ (List.mem_append_left _ (List.mem_append_left _ (List.mem_append_right _ h)))) (by decide +kernel))
set_option maxRecDepth 20000 in
theorem gL_lists_X7_idleRules : GoodIn wsL_lists (wsV RL 73 RX7 yX7_idleRules wsX7_idleRules) := goodIn_app (goodIn_of _ (by decide +kernel)) ggL_lists_X7_idleRules
set_option maxRecDepth 20000 in
theorem ggL_lists_X7_putRule : GoodIn wsL_lists wsX7_putRule := goodIn_ca (goodIn_ca (goodIn_ca (goodIn_r _ [103, 23, 24, 104, 105, 7, 106, 107, 91, 8, 9, 10, 5, 11, 12, 13, 14, 15, 16, 17, 18, 19, 20, 21, 22, 25, 26, 27, 28, 29, 30, 31, 32, 33, 34, 35, 36, 37, 38, 39, 40, 41, 108, 109, 110, 111, 112, 113, 114, 84, 115, 116, 117, 118, 119, 120, 87, 86, 121, 122, 123, 124, 125, 126, 127, 93, 128, 94, 129, 130, 131, 132, 133, 50, 51, 52, 53, 54, 55, 134, 135, 136, 137, 138, 139, 140, 141, 142, 143, 144, 145, 146, 147, 148, 149, 150, 151, 152, 153, 154, 155, 156, 157, 158, 159, 160, 161, 162, 163, 164, 165, 166, 167, 168, 169, 170, 171, 172, 173, 174, 175, 176, 177, 178, 179, 180, 181, 190, 191, 192, 193, 182, 183, 184, 185, 186, 187, 188, 189, 194, 195] (by decide +kernel) (by decide +kernel)) (goodIn_sub (fun _ h => List.mem_cons_of_mem _ (List.mem_append_left _ (List.mem_append_left _ (List.mem_append_right _ h)))) (by decide +kernel))) (goodIn_sub (fun _ h => List.mem_cons_of_mem _ (List.mem_append_left _ (List.mem_append_right _ h))) (by decide +kernel))) (goodIn_sub (fun _ h => List.mem_cons_of_mem _ (List.mem_append_right _ h)) (by decide +kernel))
set_option maxRecDepth 20000 in
theorem gL_lists_X7_putRule : GoodIn wsL_lists (wsV RL 76 RX7 yX7_putRule wsX7_putRule) := goodIn_app (goodIn_of _ (by decide +kernel)) ggL_lists_X7_putRule
