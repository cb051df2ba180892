theorem dL_rules_0 : decode cL_rules 0 = .ok (.aload_n 1, 1) := by decide +kernel
theorem dL_rules_1 : decode cL_rules 1 = .ok (.iconst 1, 1) := by decide +kernel
theorem dL_rules_2 : decode cL_rules 2 = .ok (.iaload, 1) := by decide +kernel
theorem dL_rules_3 : decode cL_rules 3 = .ok (.ifCond .ne 7, 3) := by decide +kernel
theorem dL_rules_6 : decode cL_rules 6 = .ok (.iconst 0, 1) := by decide +kernel
theorem dL_rules_7 : decode cL_rules 7 = .ok (.goto 8, 3) := by decide +kernel
theorem dL_rules_10 : decode cL_rules 10 = .ok (.iload_n 2, 1) := by decide +kernel
theorem dL_rules_11 : decode cL_rules 11 = .ok (.aload_n 1, 1) := by decide +kernel
theorem dL_rules_12 : decode cL_rules 12 = .ok (.iconst 1, 1) := by decide +kernel
theorem dL_rules_13 : decode cL_rules 13 = .ok (.iaload, 1) := by decide +kernel
theorem dL_rules_14 : decode cL_rules 14 = .ok (.irem, 1) := by decide +kernel
theorem dL_rules_15 : decode cL_rules 15 = .ok (.istore 4, 2) := by decide +kernel
theorem dL_rules_17 : decode cL_rules 17 = .ok (.aload_n 1, 1) := by decide +kernel
theorem dL_rules_18 : decode cL_rules 18 = .ok (.iconst 1, 1) := by decide +kernel
theorem dL_rules_19 : decode cL_rules 19 = .ok (.iaload, 1) := by decide +kernel
theorem dL_rules_20 : decode cL_rules 20 = .ok (.ifCond .eq 22, 3) := by decide +kernel
theorem dL_rules_23 : decode cL_rules 23 = .ok (.aload_n 1, 1) := by decide +kernel
theorem dL_rules_24 : decode cL_rules 24 = .ok (.bipush 28, 2) := by decide +kernel
theorem dL_rules_26 : decode cL_rules 26 = .ok (.iload 4, 2) := by decide +kernel
theorem dL_rules_28 : decode cL_rules 28 = .ok (.iadd, 1) := by decide +kernel
theorem dL_rules_29 : decode cL_rules 29 = .ok (.iaload, 1) := by decide +kernel
theorem dL_rules_30 : decode cL_rules 30 = .ok (.bipush 10, 2) := by decide +kernel
theorem dL_rules_32 : decode cL_rules 32 = .ok (.if_icmp .eq 10, 3) := by decide +kernel
theorem dL_rules_35 : decode cL_rules 35 = .ok (.aload_n 1, 1) := by decide +kernel
theorem dL_rules_36 : decode cL_rules 36 = .ok (.iconst 0, 1) := by decide +kernel
theorem dL_rules_37 : decode cL_rules 37 = .ok (.iaload, 1) := by decide +kernel
theorem dL_rules_38 : decode cL_rules 38 = .ok (.iconst 2, 1) := by decide +kernel
theorem dL_rules_39 : decode cL_rules 39 = .ok (.if_icmp .ge 21, 3) := by decide +kernel
theorem dL_rules_42 : decode cL_rules 42 = .ok (.aload_n 1, 1) := by decide +kernel
theorem dL_rules_43 : decode cL_rules 43 = .ok (.bipush 28, 2) := by decide +kernel
theorem dL_rules_45 : decode cL_rules 45 = .ok (.iload 4, 2) := by decide +kernel
theorem dL_rules_47 : decode cL_rules 47 = .ok (.iadd, 1) := by decide +kernel
theorem dL_rules_48 : decode cL_rules 48 = .ok (.iaload, 1) := by decide +kernel
theorem dL_rules_49 : decode cL_rules 49 = .ok (.bipush 10, 2) := by decide +kernel
theorem dL_rules_51 : decode cL_rules 51 = .ok (.if_icmp .gt 7, 3) := by decide +kernel
theorem dL_rules_54 : decode cL_rules 54 = .ok (.iconst 1, 1) := by decide +kernel
theorem dL_rules_55 : decode cL_rules 55 = .ok (.goto 4, 3) := by decide +kernel
theorem dL_rules_58 : decode cL_rules 58 = .ok (.iconst 0, 1) := by decide +kernel
theorem dL_rules_59 : decode cL_rules 59 = .ok (.ireturn, 1) := by decide +kernel
theorem dL_rules_60 : decode cL_rules 60 = .ok (.iload_n 3, 1) := by decide +kernel
theorem dL_rules_61 : decode cL_rules 61 = .ok (.iload_n 2, 1) := by decide +kernel
theorem dL_rules_62 : decode cL_rules 62 = .ok (.iconst 2, 1) := by decide +kernel
theorem dL_rules_63 : decode cL_rules 63 = .ok (.irem, 1) := by decide +kernel
theorem dL_rules_64 : decode cL_rules 64 = .ok (.ifCond .ne 8, 3) := by decide +kernel
theorem dL_rules_67 : decode cL_rules 67 = .ok (.bipush 11, 2) := by decide +kernel
theorem dL_rules_69 : decode cL_rules 69 = .ok (.goto 4, 3) := by decide +kernel
theorem dL_rules_72 : decode cL_rules 72 = .ok (.iconst 4, 1) := by decide +kernel
theorem dL_rules_73 : decode cL_rules 73 = .ok (.irem, 1) := by decide +kernel
theorem dL_rules_74 : decode cL_rules 74 = .ok (.iload_n 2, 1) := by decide +kernel
theorem dL_rules_75 : decode cL_rules 75 = .ok (.iconst 2, 1) := by decide +kernel
theorem dL_rules_76 : decode cL_rules 76 = .ok (.irem, 1) := by decide +kernel
theorem dL_rules_77 : decode cL_rules 77 = .ok (.ifCond .ne 7, 3) := by decide +kernel
theorem dL_rules_80 : decode cL_rules 80 = .ok (.iconst 0, 1) := by decide +kernel
theorem dL_rules_81 : decode cL_rules 81 = .ok (.goto 5, 3) := by decide +kernel
theorem dL_rules_84 : decode cL_rules 84 = .ok (.bipush 7, 2) := by decide +kernel
theorem dL_rules_86 : decode cL_rules 86 = .ok (.iadd, 1) := by decide +kernel
theorem dL_rules_87 : decode cL_rules 87 = .ok (.istore 5, 2) := by decide +kernel
theorem dL_rules_89 : decode cL_rules 89 = .ok (.iload_n 3, 1) := by decide +kernel
theorem dL_rules_90 : decode cL_rules 90 = .ok (.bipush 11, 2) := by decide +kernel
theorem dL_rules_92 : decode cL_rules 92 = .ok (.idiv, 1) := by decide +kernel
theorem dL_rules_93 : decode cL_rules 93 = .ok (.sipush 1024, 3) := by decide +kernel
theorem dL_rules_96 : decode cL_rules 96 = .ok (.irem, 1) := by decide +kernel
theorem dL_rules_97 : decode cL_rules 97 = .ok (.iload 5, 2) := by decide +kernel
theorem dL_rules_99 : decode cL_rules 99 = .ok (.ishr, 1) := by decide +kernel
theorem dL_rules_100 : decode cL_rules 100 = .ok (.iload 5, 2) := by decide +kernel
theorem dL_rules_102 : decode cL_rules 102 = .ok (.ishl, 1) := by decide +kernel
theorem dL_rules_103 : decode cL_rules 103 = .ok (.istore 6, 2) := by decide +kernel
theorem dL_rules_105 : decode cL_rules 105 = .ok (.iload_n 3, 1) := by decide +kernel
theorem dL_rules_106 : decode cL_rules 106 = .ok (.sipush 11264, 3) := by decide +kernel
theorem dL_rules_109 : decode cL_rules 109 = .ok (.idiv, 1) := by decide +kernel
theorem dL_rules_110 : decode cL_rules 110 = .ok (.bipush 16, 2) := by decide +kernel
theorem dL_rules_112 : decode cL_rules 112 = .ok (.irem, 1) := by decide +kernel
theorem dL_rules_113 : decode cL_rules 113 = .ok (.istore 7, 2) := by decide +kernel
theorem dL_rules_115 : decode cL_rules 115 = .ok (.iload_n 2, 1) := by decide +kernel
theorem dL_rules_116 : decode cL_rules 116 = .ok (.aload_n 1, 1) := by decide +kernel
theorem dL_rules_117 : decode cL_rules 117 = .ok (.iconst 0, 1) := by decide +kernel
theorem dL_rules_118 : decode cL_rules 118 = .ok (.iaload, 1) := by decide +kernel
theorem dL_rules_119 : decode cL_rules 119 = .ok (.irem, 1) := by decide +kernel
theorem dL_rules_120 : decode cL_rules 120 = .ok (.istore 8, 2) := by decide +kernel
theorem dL_rules_122 : decode cL_rules 122 = .ok (.iload 8, 2) := by decide +kernel
theorem dL_rules_124 : decode cL_rules 124 = .ok (.iconst 1, 1) := by decide +kernel
theorem dL_rules_125 : decode cL_rules 125 = .ok (.iadd, 1) := by decide +kernel
theorem dL_rules_126 : decode cL_rules 126 = .ok (.iload_n 3, 1) := by decide +kernel
theorem dL_rules_127 : decode cL_rules 127 = .ok (.aload_n 1, 1) := by decide +kernel
theorem dL_rules_128 : decode cL_rules 128 = .ok (.iconst 0, 1) := by decide +kernel
theorem dL_rules_129 : decode cL_rules 129 = .ok (.iaload, 1) := by decide +kernel
theorem dL_rules_130 : decode cL_rules 130 = .ok (.iconst 1, 1) := by decide +kernel
theorem dL_rules_131 : decode cL_rules 131 = .ok (.isub, 1) := by decide +kernel
theorem dL_rules_132 : decode cL_rules 132 = .ok (.irem, 1) := by decide +kernel
theorem dL_rules_133 : decode cL_rules 133 = .ok (.iadd, 1) := by decide +kernel
theorem dL_rules_134 : decode cL_rules 134 = .ok (.aload_n 1, 1) := by decide +kernel
theorem dL_rules_135 : decode cL_rules 135 = .ok (.iconst 0, 1) := by decide +kernel
theorem dL_rules_136 : decode cL_rules 136 = .ok (.iaload, 1) := by decide +kernel
theorem dL_rules_137 : decode cL_rules 137 = .ok (.irem, 1) := by decide +kernel
theorem dL_rules_138 : decode cL_rules 138 = .ok (.istore 9, 2) := by decide +kernel
theorem dL_rules_140 : decode cL_rules 140 = .ok (.aload_n 0, 1) := by decide +kernel
theorem dL_rules_141 : decode cL_rules 141 = .ok (.iload 8, 2) := by decide +kernel
theorem dL_rules_143 : decode cL_rules 143 = .ok (.iload 9, 2) := by decide +kernel
theorem dL_rules_145 : decode cL_rules 145 = .ok (.invokevirtual 58, 3) := by decide +kernel
theorem dL_rules_148 : decode cL_rules 148 = .ok (.istore 10, 2) := by decide +kernel
theorem dL_rules_150 : decode cL_rules 150 = .ok (.aload_n 1, 1) := by decide +kernel
theorem dL_rules_151 : decode cL_rules 151 = .ok (.bipush 28, 2) := by decide +kernel
theorem dL_rules_153 : decode cL_rules 153 = .ok (.iload 4, 2) := by decide +kernel
theorem dL_rules_155 : decode cL_rules 155 = .ok (.iadd, 1) := by decide +kernel
theorem dL_rules_156 : decode cL_rules 156 = .ok (.dup2, 1) := by decide +kernel
theorem dL_rules_157 : decode cL_rules 157 = .ok (.iaload, 1) := by decide +kernel
theorem dL_rules_158 : decode cL_rules 158 = .ok (.iconst 1, 1) := by decide +kernel
theorem dL_rules_159 : decode cL_rules 159 = .ok (.iadd, 1) := by decide +kernel
theorem dL_rules_160 : decode cL_rules 160 = .ok (.iastore, 1) := by decide +kernel
theorem dL_rules_161 : decode cL_rules 161 = .ok (.aload_n 0, 1) := by decide +kernel
theorem dL_rules_162 : decode cL_rules 162 = .ok (.iload 4, 2) := by decide +kernel
theorem dL_rules_164 : decode cL_rules 164 = .ok (.iload_n 2, 1) := by decide +kernel
theorem dL_rules_165 : decode cL_rules 165 = .ok (.bipush 6, 2) := by decide +kernel
theorem dL_rules_167 : decode cL_rules 167 = .ok (.idiv, 1) := by decide +kernel
theorem dL_rules_168 : decode cL_rules 168 = .ok (.iconst 2, 1) := by decide +kernel
theorem dL_rules_169 : decode cL_rules 169 = .ok (.irem, 1) := by decide +kernel
theorem dL_rules_170 : decode cL_rules 170 = .ok (.ifCond .ne 7, 3) := by decide +kernel
theorem dL_rules_173 : decode cL_rules 173 = .ok (.iconst 1, 1) := by decide +kernel
theorem dL_rules_174 : decode cL_rules 174 = .ok (.goto 4, 3) := by decide +kernel
theorem dL_rules_177 : decode cL_rules 177 = .ok (.iconst 0, 1) := by decide +kernel
theorem dL_rules_178 : decode cL_rules 178 = .ok (.iload 6, 2) := by decide +kernel
theorem dL_rules_180 : decode cL_rules 180 = .ok (.iload 5, 2) := by decide +kernel
theorem dL_rules_182 : decode cL_rules 182 = .ok (.iload 7, 2) := by decide +kernel
theorem dL_rules_184 : decode cL_rules 184 = .ok (.iload 7, 2) := by decide +kernel
theorem dL_rules_186 : decode cL_rules 186 = .ok (.iload_n 2, 1) := by decide +kernel
theorem dL_rules_187 : decode cL_rules 187 = .ok (.bipush 12, 2) := by decide +kernel
theorem dL_rules_189 : decode cL_rules 189 = .ok (.idiv, 1) := by decide +kernel
theorem dL_rules_190 : decode cL_rules 190 = .ok (.bipush 16, 2) := by decide +kernel
theorem dL_rules_192 : decode cL_rules 192 = .ok (.iload 7, 2) := by decide +kernel
theorem dL_rules_194 : decode cL_rules 194 = .ok (.isub, 1) := by decide +kernel
theorem dL_rules_195 : decode cL_rules 195 = .ok (.irem, 1) := by decide +kernel
theorem dL_rules_196 : decode cL_rules 196 = .ok (.iadd, 1) := by decide +kernel
theorem dL_rules_197 : decode cL_rules 197 = .ok (.invokevirtual 65, 3) := by decide +kernel
theorem dL_rules_200 : decode cL_rules 200 = .ok (.aload_n 1, 1) := by decide +kernel
theorem dL_rules_201 : decode cL_rules 201 = .ok (.bipush 28, 2) := by decide +kernel
theorem dL_rules_203 : decode cL_rules 203 = .ok (.iload 4, 2) := by decide +kernel
theorem dL_rules_205 : decode cL_rules 205 = .ok (.iadd, 1) := by decide +kernel
theorem dL_rules_206 : decode cL_rules 206 = .ok (.iaload, 1) := by decide +kernel
theorem dL_rules_207 : decode cL_rules 207 = .ok (.if_icmp .ne 7, 3) := by decide +kernel
theorem dL_rules_210 : decode cL_rules 210 = .ok (.iconst 1, 1) := by decide +kernel
theorem dL_rules_211 : decode cL_rules 211 = .ok (.goto 4, 3) := by decide +kernel
theorem dL_rules_214 : decode cL_rules 214 = .ok (.iconst 0, 1) := by decide +kernel
theorem dL_rules_215 : decode cL_rules 215 = .ok (.istore 11, 2) := by decide +kernel
theorem dL_rules_217 : decode cL_rules 217 = .ok (.iload 11, 2) := by decide +kernel
theorem dL_rules_219 : decode cL_rules 219 = .ok (.ifCond .eq 23, 3) := by decide +kernel
theorem dL_rules_222 : decode cL_rules 222 = .ok (.iload 10, 2) := by decide +kernel
theorem dL_rules_224 : decode cL_rules 224 = .ok (.aload_n 0, 1) := by decide +kernel
theorem dL_rules_225 : decode cL_rules 225 = .ok (.iload 8, 2) := by decide +kernel
theorem dL_rules_227 : decode cL_rules 227 = .ok (.iload 9, 2) := by decide +kernel
theorem dL_rules_229 : decode cL_rules 229 = .ok (.invokevirtual 58, 3) := by decide +kernel
theorem dL_rules_232 : decode cL_rules 232 = .ok (.iconst (-1), 1) := by decide +kernel
theorem dL_rules_233 : decode cL_rules 233 = .ok (.ixor, 1) := by decide +kernel
theorem dL_rules_234 : decode cL_rules 234 = .ok (.iand, 1) := by decide +kernel
theorem dL_rules_235 : decode cL_rules 235 = .ok (.ifCond .ne 7, 3) := by decide +kernel
theorem dL_rules_238 : decode cL_rules 238 = .ok (.iconst 1, 1) := by decide +kernel
theorem dL_rules_239 : decode cL_rules 239 = .ok (.goto 4, 3) := by decide +kernel
theorem dL_rules_242 : decode cL_rules 242 = .ok (.iconst 0, 1) := by decide +kernel
theorem dL_rules_243 : decode cL_rules 243 = .ok (.ireturn, 1) := by decide +kernel
set_option maxRecDepth 20000 in
theorem ggL_rules_X7_ports : GoodIn wsL_rules wsX7_ports := goodIn_ca (goodIn_ca (goodIn_r _ [5, 6, 7, 8, 4, 9, 10, 11, 12, 13, 14, 15, 16, 17, 18, 19, 20, 21, 22, 23, 24, 25, 26, 27, 28, 29, 30, 31, 32, 33, 34, 35, 36, 37, 38, 39, 40, 41, 42, 43, 44, 45, 46, 47, 48, 49, 50, 51, 52, 53, 54, 55, 56, 57, 58, 59, 60, 61, 62, 63, 64, 65, 66, 67, 68, 69, 70, 71, 72, 73, 74, 75, 76, 77, 78, 79, 80, 81, 82, 83, 84, 85, 86, 87, 88, 89, 90, 91, 92, 93, 94, 95, 96, 97, 98, 99, 100, 101, 102, 103, 104, 105, 106, 107, 108, 109, 110, 111, 112, 113, 114, 115, 116, 117, 118, 119, 120, 121, 122, 123, 124, 125, 126, 127, 128, 129, 130, 131, 132, 133, 134, 135, 136, 137, 224, 225, 226, 227, 228, 229, 230, 231, 232, 233, 234, 235, 236, 237, 238, 239, 240, 241, 242, 243, 244, 245, 246, 247, 248, 249] (by decide +kernel) (by decide +kernel)) (goodIn_sub (fun _ h => List.mem_cons_of_mem _ (List.mem_append_left _ (List.mem_append_left _ (List.mem_append_right _ h)))) (by decide +kernel))) (goodIn_sub (fun _ h => List.mem_cons_of_mem _ (List.mem_append_left _ (List.mem_append_right _ h))) (by decide +kernel))
set_option maxRecDepth 20000 in
theorem gL_rules_X7_ports : GoodIn wsL_rules (wsV RL 58 RX7 yX7_ports wsX7_ports) := goodIn_app (goodIn_of _ (by decide +kernel)) ggL_rules_X7_ports
set_option maxRecDepth 20000 in
theorem ggL_rules_X7_allow : GoodIn wsL_rules wsX7_allow := goodIn_ca (goodIn_ca (goodIn_ca (goodIn_r _ [141, 142, 143, 144, 145, 146, 81, 147, 148, 149, 4, 150, 60, 61, 12, 13, 14, 15, 16, 17, 18, 19, 20, 21, 22, 23, 24, 25, 26, 27, 28, 29, 30, 31, 32, 33, 34, 35, 36, 37, 38, 39, 151, 152, 153, 43, 44, 154, 155, 88, 156, 157, 158, 159, 160, 161, 91, 90, 162, 163, 164, 165, 166, 167, 168, 83, 169, 84, 170, 171, 172, 173, 174, 175, 176, 177, 178, 179, 180, 181, 182, 183, 184, 185, 186, 187, 188, 189, 190, 191, 192, 193, 194, 195, 196, 197, 198, 199, 200, 201, 202, 203, 204, 205, 206, 207, 208, 209, 210, 211, 212, 213, 214, 215, 216, 217, 218, 219, 220, 221, 222, 223, 235, 236, 237, 238, 239, 224, 225, 226, 227, 228, 229, 230, 231, 240, 241] (by decide +kernel) (by decide +kernel)) (goodIn_sub (fun _ h => List.mem_cons_of_mem _ (List.mem_append_right _ h)) (by decide +kernel))) (goodIn_sub (fun _ h => List.mem_cons_of_mem _ (List.mem_append_left _ (List.mem_append_left _ (List.mem_append_right _ h)))) (by decide +kernel))) (goodIn_sub (fun _ h => List.mem_cons_of_mem _ (List.mem_append_left _ (List.mem_append_right _ h))) (by decide +kernel))
set_option maxRecDepth 20000 in
theorem gL_rules_X7_allow : GoodIn wsL_rules (wsV RL 65 RX7 yX7_allow wsX7_allow) := goodIn_app (goodIn_of _ (by decide +kernel)) ggL_rules_X7_allow
