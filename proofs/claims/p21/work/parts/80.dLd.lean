theorem dL_routes_0 : decode cL_routes 0 = .ok (.aload_n 1, 1) := by decide +kernel
theorem dL_routes_1 : decode cL_routes 1 = .ok (.iconst 2, 1) := by decide +kernel
theorem dL_routes_2 : decode cL_routes 2 = .ok (.iaload, 1) := by decide +kernel
theorem dL_routes_3 : decode cL_routes 3 = .ok (.ifCond .ne 49, 3) := by decide +kernel
theorem dL_routes_6 : decode cL_routes 6 = .ok (.aload_n 0, 1) := by decide +kernel
theorem dL_routes_7 : decode cL_routes 7 = .ok (.iload_n 2, 1) := by decide +kernel
theorem dL_routes_8 : decode cL_routes 8 = .ok (.bipush 6, 2) := by decide +kernel
theorem dL_routes_10 : decode cL_routes 10 = .ok (.irem, 1) := by decide +kernel
theorem dL_routes_11 : decode cL_routes 11 = .ok (.iload_n 3, 1) := by decide +kernel
theorem dL_routes_12 : decode cL_routes 12 = .ok (.sipush 1024, 3) := by decide +kernel
theorem dL_routes_15 : decode cL_routes 15 = .ok (.irem, 1) := by decide +kernel
theorem dL_routes_16 : decode cL_routes 16 = .ok (.invokevirtual 39, 3) := by decide +kernel
theorem dL_routes_19 : decode cL_routes 19 = .ok (.iload_n 3, 1) := by decide +kernel
theorem dL_routes_20 : decode cL_routes 20 = .ok (.sipush 1024, 3) := by decide +kernel
theorem dL_routes_23 : decode cL_routes 23 = .ok (.irem, 1) := by decide +kernel
theorem dL_routes_24 : decode cL_routes 24 = .ok (.sipush 256, 3) := by decide +kernel
theorem dL_routes_27 : decode cL_routes 27 = .ok (.idiv, 1) := by decide +kernel
theorem dL_routes_28 : decode cL_routes 28 = .ok (.iload_n 2, 1) := by decide +kernel
theorem dL_routes_29 : decode cL_routes 29 = .ok (.bipush 6, 2) := by decide +kernel
theorem dL_routes_31 : decode cL_routes 31 = .ok (.irem, 1) := by decide +kernel
theorem dL_routes_32 : decode cL_routes 32 = .ok (.iconst 2, 1) := by decide +kernel
theorem dL_routes_33 : decode cL_routes 33 = .ok (.idiv, 1) := by decide +kernel
theorem dL_routes_34 : decode cL_routes 34 = .ok (.if_icmp .ne 7, 3) := by decide +kernel
theorem dL_routes_37 : decode cL_routes 37 = .ok (.iconst (-1), 1) := by decide +kernel
theorem dL_routes_38 : decode cL_routes 38 = .ok (.goto 5, 3) := by decide +kernel
theorem dL_routes_41 : decode cL_routes 41 = .ok (.bipush (-2), 2) := by decide +kernel
theorem dL_routes_43 : decode cL_routes 43 = .ok (.if_icmp .ne 7, 3) := by decide +kernel
theorem dL_routes_46 : decode cL_routes 46 = .ok (.iconst 1, 1) := by decide +kernel
theorem dL_routes_47 : decode cL_routes 47 = .ok (.goto 4, 3) := by decide +kernel
theorem dL_routes_50 : decode cL_routes 50 = .ok (.iconst 0, 1) := by decide +kernel
theorem dL_routes_51 : decode cL_routes 51 = .ok (.ireturn, 1) := by decide +kernel
theorem dL_routes_52 : decode cL_routes 52 = .ok (.iload_n 3, 1) := by decide +kernel
theorem dL_routes_53 : decode cL_routes 53 = .ok (.iconst 3, 1) := by decide +kernel
theorem dL_routes_54 : decode cL_routes 54 = .ok (.irem, 1) := by decide +kernel
theorem dL_routes_55 : decode cL_routes 55 = .ok (.ifCond .ne 8, 3) := by decide +kernel
theorem dL_routes_58 : decode cL_routes 58 = .ok (.bipush 10, 2) := by decide +kernel
theorem dL_routes_60 : decode cL_routes 60 = .ok (.goto 17, 3) := by decide +kernel
theorem dL_routes_63 : decode cL_routes 63 = .ok (.iload_n 3, 1) := by decide +kernel
theorem dL_routes_64 : decode cL_routes 64 = .ok (.iconst 3, 1) := by decide +kernel
theorem dL_routes_65 : decode cL_routes 65 = .ok (.irem, 1) := by decide +kernel
theorem dL_routes_66 : decode cL_routes 66 = .ok (.iconst 1, 1) := by decide +kernel
theorem dL_routes_67 : decode cL_routes 67 = .ok (.if_icmp .ne 8, 3) := by decide +kernel
theorem dL_routes_70 : decode cL_routes 70 = .ok (.bipush 8, 2) := by decide +kernel
theorem dL_routes_72 : decode cL_routes 72 = .ok (.goto 5, 3) := by decide +kernel
theorem dL_routes_75 : decode cL_routes 75 = .ok (.bipush 6, 2) := by decide +kernel
theorem dL_routes_77 : decode cL_routes 77 = .ok (.istore 4, 2) := by decide +kernel
theorem dL_routes_79 : decode cL_routes 79 = .ok (.iload 4, 2) := by decide +kernel
theorem dL_routes_81 : decode cL_routes 81 = .ok (.bipush 10, 2) := by decide +kernel
theorem dL_routes_83 : decode cL_routes 83 = .ok (.if_icmp .ne 7, 3) := by decide +kernel
theorem dL_routes_86 : decode cL_routes 86 = .ok (.iconst 0, 1) := by decide +kernel
theorem dL_routes_87 : decode cL_routes 87 = .ok (.goto 30, 3) := by decide +kernel
theorem dL_routes_90 : decode cL_routes 90 = .ok (.iload 4, 2) := by decide +kernel
theorem dL_routes_92 : decode cL_routes 92 = .ok (.bipush 8, 2) := by decide +kernel
theorem dL_routes_94 : decode cL_routes 94 = .ok (.if_icmp .ne 15, 3) := by decide +kernel
theorem dL_routes_97 : decode cL_routes 97 = .ok (.sipush 256, 3) := by decide +kernel
theorem dL_routes_100 : decode cL_routes 100 = .ok (.iload_n 3, 1) := by decide +kernel
theorem dL_routes_101 : decode cL_routes 101 = .ok (.iconst 3, 1) := by decide +kernel
theorem dL_routes_102 : decode cL_routes 102 = .ok (.idiv, 1) := by decide +kernel
theorem dL_routes_103 : decode cL_routes 103 = .ok (.iconst 3, 1) := by decide +kernel
theorem dL_routes_104 : decode cL_routes 104 = .ok (.irem, 1) := by decide +kernel
theorem dL_routes_105 : decode cL_routes 105 = .ok (.imul, 1) := by decide +kernel
theorem dL_routes_106 : decode cL_routes 106 = .ok (.goto 11, 3) := by decide +kernel
theorem dL_routes_109 : decode cL_routes 109 = .ok (.bipush 64, 2) := by decide +kernel
theorem dL_routes_111 : decode cL_routes 111 = .ok (.iload_n 3, 1) := by decide +kernel
theorem dL_routes_112 : decode cL_routes 112 = .ok (.iconst 3, 1) := by decide +kernel
theorem dL_routes_113 : decode cL_routes 113 = .ok (.idiv, 1) := by decide +kernel
theorem dL_routes_114 : decode cL_routes 114 = .ok (.iconst 4, 1) := by decide +kernel
theorem dL_routes_115 : decode cL_routes 115 = .ok (.irem, 1) := by decide +kernel
theorem dL_routes_116 : decode cL_routes 116 = .ok (.imul, 1) := by decide +kernel
theorem dL_routes_117 : decode cL_routes 117 = .ok (.istore 5, 2) := by decide +kernel
theorem dL_routes_119 : decode cL_routes 119 = .ok (.iload_n 2, 1) := by decide +kernel
theorem dL_routes_120 : decode cL_routes 120 = .ok (.bipush 6, 2) := by decide +kernel
theorem dL_routes_122 : decode cL_routes 122 = .ok (.idiv, 1) := by decide +kernel
theorem dL_routes_123 : decode cL_routes 123 = .ok (.aload_n 1, 1) := by decide +kernel
theorem dL_routes_124 : decode cL_routes 124 = .ok (.iconst 2, 1) := by decide +kernel
theorem dL_routes_125 : decode cL_routes 125 = .ok (.iaload, 1) := by decide +kernel
theorem dL_routes_126 : decode cL_routes 126 = .ok (.iconst 1, 1) := by decide +kernel
theorem dL_routes_127 : decode cL_routes 127 = .ok (.iadd, 1) := by decide +kernel
theorem dL_routes_128 : decode cL_routes 128 = .ok (.irem, 1) := by decide +kernel
theorem dL_routes_129 : decode cL_routes 129 = .ok (.iconst 1, 1) := by decide +kernel
theorem dL_routes_130 : decode cL_routes 130 = .ok (.isub, 1) := by decide +kernel
theorem dL_routes_131 : decode cL_routes 131 = .ok (.istore 6, 2) := by decide +kernel
theorem dL_routes_133 : decode cL_routes 133 = .ok (.aload_n 0, 1) := by decide +kernel
theorem dL_routes_134 : decode cL_routes 134 = .ok (.iload_n 2, 1) := by decide +kernel
theorem dL_routes_135 : decode cL_routes 135 = .ok (.bipush 6, 2) := by decide +kernel
theorem dL_routes_137 : decode cL_routes 137 = .ok (.irem, 1) := by decide +kernel
theorem dL_routes_138 : decode cL_routes 138 = .ok (.iload 5, 2) := by decide +kernel
theorem dL_routes_140 : decode cL_routes 140 = .ok (.iload 4, 2) := by decide +kernel
theorem dL_routes_142 : decode cL_routes 142 = .ok (.iload 6, 2) := by decide +kernel
theorem dL_routes_144 : decode cL_routes 144 = .ok (.invokevirtual 80, 3) := by decide +kernel
theorem dL_routes_147 : decode cL_routes 147 = .ok (.istore 7, 2) := by decide +kernel
theorem dL_routes_149 : decode cL_routes 149 = .ok (.iload 7, 2) := by decide +kernel
theorem dL_routes_151 : decode cL_routes 151 = .ok (.iconst (-1), 1) := by decide +kernel
theorem dL_routes_152 : decode cL_routes 152 = .ok (.if_icmp .lt 83, 3) := by decide +kernel
theorem dL_routes_155 : decode cL_routes 155 = .ok (.iload 7, 2) := by decide +kernel
theorem dL_routes_157 : decode cL_routes 157 = .ok (.aload_n 1, 1) := by decide +kernel
theorem dL_routes_158 : decode cL_routes 158 = .ok (.iconst 2, 1) := by decide +kernel
theorem dL_routes_159 : decode cL_routes 159 = .ok (.iaload, 1) := by decide +kernel
theorem dL_routes_160 : decode cL_routes 160 = .ok (.if_icmp .ge 75, 3) := by decide +kernel
theorem dL_routes_163 : decode cL_routes 163 = .ok (.aload_n 0, 1) := by decide +kernel
theorem dL_routes_164 : decode cL_routes 164 = .ok (.iload_n 2, 1) := by decide +kernel
theorem dL_routes_165 : decode cL_routes 165 = .ok (.bipush 6, 2) := by decide +kernel
theorem dL_routes_167 : decode cL_routes 167 = .ok (.irem, 1) := by decide +kernel
theorem dL_routes_168 : decode cL_routes 168 = .ok (.iload 5, 2) := by decide +kernel
theorem dL_routes_170 : decode cL_routes 170 = .ok (.iload 4, 2) := by decide +kernel
theorem dL_routes_172 : decode cL_routes 172 = .ok (.iload 6, 2) := by decide +kernel
theorem dL_routes_174 : decode cL_routes 174 = .ok (.invokevirtual 80, 3) := by decide +kernel
theorem dL_routes_177 : decode cL_routes 177 = .ok (.iload 6, 2) := by decide +kernel
theorem dL_routes_179 : decode cL_routes 179 = .ok (.if_icmp .ne 56, 3) := by decide +kernel
theorem dL_routes_182 : decode cL_routes 182 = .ok (.iload 6, 2) := by decide +kernel
theorem dL_routes_184 : decode cL_routes 184 = .ok (.ifCond .lt 47, 3) := by decide +kernel
theorem dL_routes_187 : decode cL_routes 187 = .ok (.iload 4, 2) := by decide +kernel
theorem dL_routes_189 : decode cL_routes 189 = .ok (.bipush 10, 2) := by decide +kernel
theorem dL_routes_191 : decode cL_routes 191 = .ok (.if_icmp .eq 40, 3) := by decide +kernel
theorem dL_routes_194 : decode cL_routes 194 = .ok (.iload 5, 2) := by decide +kernel
theorem dL_routes_196 : decode cL_routes 196 = .ok (.sipush 256, 3) := by decide +kernel
theorem dL_routes_199 : decode cL_routes 199 = .ok (.idiv, 1) := by decide +kernel
theorem dL_routes_200 : decode cL_routes 200 = .ok (.iload_n 2, 1) := by decide +kernel
theorem dL_routes_201 : decode cL_routes 201 = .ok (.bipush 6, 2) := by decide +kernel
theorem dL_routes_203 : decode cL_routes 203 = .ok (.irem, 1) := by decide +kernel
theorem dL_routes_204 : decode cL_routes 204 = .ok (.iconst 2, 1) := by decide +kernel
theorem dL_routes_205 : decode cL_routes 205 = .ok (.idiv, 1) := by decide +kernel
theorem dL_routes_206 : decode cL_routes 206 = .ok (.if_icmp .ne 10, 3) := by decide +kernel
theorem dL_routes_209 : decode cL_routes 209 = .ok (.iload 4, 2) := by decide +kernel
theorem dL_routes_211 : decode cL_routes 211 = .ok (.bipush 8, 2) := by decide +kernel
theorem dL_routes_213 : decode cL_routes 213 = .ok (.if_icmp .eq 18, 3) := by decide +kernel
theorem dL_routes_216 : decode cL_routes 216 = .ok (.aload_n 0, 1) := by decide +kernel
theorem dL_routes_217 : decode cL_routes 217 = .ok (.iload_n 2, 1) := by decide +kernel
theorem dL_routes_218 : decode cL_routes 218 = .ok (.bipush 6, 2) := by decide +kernel
theorem dL_routes_220 : decode cL_routes 220 = .ok (.irem, 1) := by decide +kernel
theorem dL_routes_221 : decode cL_routes 221 = .ok (.iload 5, 2) := by decide +kernel
theorem dL_routes_223 : decode cL_routes 223 = .ok (.iconst 5, 1) := by decide +kernel
theorem dL_routes_224 : decode cL_routes 224 = .ok (.iadd, 1) := by decide +kernel
theorem dL_routes_225 : decode cL_routes 225 = .ok (.invokevirtual 39, 3) := by decide +kernel
theorem dL_routes_228 : decode cL_routes 228 = .ok (.ifCond .lt 7, 3) := by decide +kernel
theorem dL_routes_231 : decode cL_routes 231 = .ok (.iconst 1, 1) := by decide +kernel
theorem dL_routes_232 : decode cL_routes 232 = .ok (.goto 4, 3) := by decide +kernel
theorem dL_routes_235 : decode cL_routes 235 = .ok (.iconst 0, 1) := by decide +kernel
theorem dL_routes_236 : decode cL_routes 236 = .ok (.ireturn, 1) := by decide +kernel
set_option maxRecDepth 20000 in
theorem ggL_routes_X7_routeFor : GoodIn wsL_routes wsX7_routeFor := goodIn_ca (goodIn_ca (goodIn_r _ [5, 6, 7, 8, 9, 10, 4, 11, 12, 13, 14, 15, 16, 17, 18, 19, 20, 21, 22, 23, 24, 25, 26, 27, 28, 29, 30, 31, 32, 33, 34, 35, 36, 37, 38, 39, 40, 41, 42, 43, 44, 45, 46, 47, 48, 49, 50, 51, 52, 53, 54, 55, 56, 57, 58, 59, 60, 61, 165, 166, 167, 168, 169, 170, 171, 172, 173, 174, 175, 176, 177, 178, 179, 180] (by decide +kernel) (by decide +kernel)) (goodIn_sub (fun _ h => List.mem_cons_of_mem _ (List.mem_append_left _ (List.mem_append_left _ (List.mem_append_right _ h)))) (by decide +kernel))) (goodIn_sub (fun _ h => List.mem_cons_of_mem _ (List.mem_append_left _ (List.mem_append_right _ h))) (by decide +kernel))
set_option maxRecDepth 20000 in
theorem gL_routes_X7_routeFor : GoodIn wsL_routes (wsV RL 39 RX7 yX7_routeFor wsX7_routeFor) := goodIn_app (goodIn_of _ (by decide +kernel)) ggL_routes_X7_routeFor
set_option maxRecDepth 20000 in
theorem ggL_routes_X7_setRoute : GoodIn wsL_routes wsX7_setRoute := goodIn_ca (goodIn_ca (goodIn_ca (goodIn_r _ [65, 66, 67, 68, 69, 70, 71, 72, 8, 9, 10, 4, 11, 12, 13, 14, 15, 16, 17, 18, 19, 20, 21, 22, 23, 24, 25, 26, 27, 28, 29, 30, 31, 32, 33, 34, 35, 36, 37, 38, 39, 40, 41, 73, 74, 75, 6, 7, 76, 77, 56, 78, 79, 80, 81, 82, 83, 59, 58, 84, 85, 86, 45, 87, 49, 50, 51, 60, 61, 88, 89, 90, 91, 92, 93, 94, 95, 96, 97, 98, 99, 100, 101, 102, 103, 104, 105, 106, 107, 108, 109, 110, 111, 112, 113, 114, 115, 116, 117, 118, 119, 120, 121, 122, 123, 124, 125, 126, 127, 128, 129, 130, 131, 132, 133, 134, 135, 136, 137, 138, 139, 140, 141, 142, 143, 144, 145, 146, 147, 148, 149, 150, 151, 152, 153, 154, 155, 156, 157, 158, 159, 160, 161, 162, 163, 164, 165, 166, 167, 168, 169, 173, 174, 175, 176, 179, 180, 170, 171, 172, 177, 178] (by decide +kernel) (by decide +kernel)) (goodIn_sub (fun _ h => List.mem_cons_of_mem _ (List.mem_append_right _ h)) (by decide +kernel))) (goodIn_sub (fun _ h => List.mem_cons_of_mem _ (List.mem_append_left _ (List.mem_append_right _ h))) (by decide +kernel))) (goodIn_sub (fun _ h => List.mem_cons_of_mem _ (List.mem_append_left _ (List.mem_append_left _ (List.mem_append_right _ h)))) (by decide +kernel))
set_option maxRecDepth 20000 in
theorem gL_routes_X7_setRoute : GoodIn wsL_routes (wsV RL 80 RX7 yX7_setRoute wsX7_setRoute) := goodIn_app (goodIn_of _ (by decide +kernel)) ggL_routes_X7_setRoute
