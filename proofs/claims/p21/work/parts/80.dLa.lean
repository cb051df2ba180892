theorem dL_draw_0 : decode cL_draw 0 = .ok (.iload_n 1, 1) := by decide +kernel
theorem dL_draw_1 : decode cL_draw 1 = .ok (.aload_n 0, 1) := by decide +kernel
theorem dL_draw_2 : decode cL_draw 2 = .ok (.arraylength, 1) := by decide +kernel
theorem dL_draw_3 : decode cL_draw 3 = .ok (.if_icmp .ge 12, 3) := by decide +kernel
theorem dL_draw_6 : decode cL_draw 6 = .ok (.aload_n 0, 1) := by decide +kernel
theorem dL_draw_7 : decode cL_draw 7 = .ok (.iload_n 1, 1) := by decide +kernel
theorem dL_draw_8 : decode cL_draw 8 = .ok (.iaload, 1) := by decide +kernel
theorem dL_draw_9 : decode cL_draw 9 = .ok (.ldc 7, 2) := by decide +kernel
theorem dL_draw_11 : decode cL_draw 11 = .ok (.iand, 1) := by decide +kernel
theorem dL_draw_12 : decode cL_draw 12 = .ok (.goto 12, 3) := by decide +kernel
theorem dL_draw_15 : decode cL_draw 15 = .ok (.ldc 8, 2) := by decide +kernel
theorem dL_draw_17 : decode cL_draw 17 = .ok (.iload_n 1, 1) := by decide +kernel
theorem dL_draw_18 : decode cL_draw 18 = .ok (.iconst 2, 1) := by decide +kernel
theorem dL_draw_19 : decode cL_draw 19 = .ok (.iadd, 1) := by decide +kernel
theorem dL_draw_20 : decode cL_draw 20 = .ok (.imul, 1) := by decide +kernel
theorem dL_draw_21 : decode cL_draw 21 = .ok (.ldc 9, 2) := by decide +kernel
theorem dL_draw_23 : decode cL_draw 23 = .ok (.irem, 1) := by decide +kernel
theorem dL_draw_24 : decode cL_draw 24 = .ok (.ireturn, 1) := by decide +kernel
theorem dL_baseOf_0 : decode cL_baseOf 0 = .ok (.sipush 256, 3) := by decide +kernel
theorem dL_baseOf_3 : decode cL_baseOf 3 = .ok (.iload_n 0, 1) := by decide +kernel
theorem dL_baseOf_4 : decode cL_baseOf 4 = .ok (.iconst 2, 1) := by decide +kernel
theorem dL_baseOf_5 : decode cL_baseOf 5 = .ok (.idiv, 1) := by decide +kernel
theorem dL_baseOf_6 : decode cL_baseOf 6 = .ok (.imul, 1) := by decide +kernel
theorem dL_baseOf_7 : decode cL_baseOf 7 = .ok (.bipush 64, 2) := by decide +kernel
theorem dL_baseOf_9 : decode cL_baseOf 9 = .ok (.iload_n 0, 1) := by decide +kernel
theorem dL_baseOf_10 : decode cL_baseOf 10 = .ok (.iconst 2, 1) := by decide +kernel
theorem dL_baseOf_11 : decode cL_baseOf 11 = .ok (.irem, 1) := by decide +kernel
theorem dL_baseOf_12 : decode cL_baseOf 12 = .ok (.imul, 1) := by decide +kernel
theorem dL_baseOf_13 : decode cL_baseOf 13 = .ok (.iadd, 1) := by decide +kernel
theorem dL_baseOf_14 : decode cL_baseOf 14 = .ok (.ireturn, 1) := by decide +kernel
theorem dL_hosts_0 : decode cL_hosts 0 = .ok (.iload_n 2, 1) := by decide +kernel
theorem dL_hosts_1 : decode cL_hosts 1 = .ok (.invokestatic 49, 3) := by decide +kernel
theorem dL_hosts_4 : decode cL_hosts 4 = .ok (.iload_n 3, 1) := by decide +kernel
theorem dL_hosts_5 : decode cL_hosts 5 = .ok (.iadd, 1) := by decide +kernel
theorem dL_hosts_6 : decode cL_hosts 6 = .ok (.istore 4, 2) := by decide +kernel
theorem dL_hosts_8 : decode cL_hosts 8 = .ok (.aload_n 1, 1) := by decide +kernel
theorem dL_hosts_9 : decode cL_hosts 9 = .ok (.iconst 0, 1) := by decide +kernel
theorem dL_hosts_10 : decode cL_hosts 10 = .ok (.iaload, 1) := by decide +kernel
theorem dL_hosts_11 : decode cL_hosts 11 = .ok (.bipush 8, 2) := by decide +kernel
theorem dL_hosts_13 : decode cL_hosts 13 = .ok (.if_icmp .ge 7, 3) := by decide +kernel
theorem dL_hosts_16 : decode cL_hosts 16 = .ok (.iconst 1, 1) := by decide +kernel
theorem dL_hosts_17 : decode cL_hosts 17 = .ok (.goto 4, 3) := by decide +kernel
theorem dL_hosts_20 : decode cL_hosts 20 = .ok (.iconst 0, 1) := by decide +kernel
theorem dL_hosts_21 : decode cL_hosts 21 = .ok (.istore 5, 2) := by decide +kernel
theorem dL_hosts_23 : decode cL_hosts 23 = .ok (.iconst 0, 1) := by decide +kernel
theorem dL_hosts_24 : decode cL_hosts 24 = .ok (.istore 6, 2) := by decide +kernel
theorem dL_hosts_26 : decode cL_hosts 26 = .ok (.iload 6, 2) := by decide +kernel
theorem dL_hosts_28 : decode cL_hosts 28 = .ok (.aload_n 1, 1) := by decide +kernel
theorem dL_hosts_29 : decode cL_hosts 29 = .ok (.iconst 0, 1) := by decide +kernel
theorem dL_hosts_30 : decode cL_hosts 30 = .ok (.iaload, 1) := by decide +kernel
theorem dL_hosts_31 : decode cL_hosts 31 = .ok (.if_icmp .ge 33, 3) := by decide +kernel
theorem dL_hosts_34 : decode cL_hosts 34 = .ok (.iload 5, 2) := by decide +kernel
theorem dL_hosts_36 : decode cL_hosts 36 = .ok (.ifCond .eq 19, 3) := by decide +kernel
theorem dL_hosts_39 : decode cL_hosts 39 = .ok (.aload_n 1, 1) := by decide +kernel
theorem dL_hosts_40 : decode cL_hosts 40 = .ok (.bipush 16, 2) := by decide +kernel
theorem dL_hosts_42 : decode cL_hosts 42 = .ok (.iload 6, 2) := by decide +kernel
theorem dL_hosts_44 : decode cL_hosts 44 = .ok (.iadd, 1) := by decide +kernel
theorem dL_hosts_45 : decode cL_hosts 45 = .ok (.iaload, 1) := by decide +kernel
theorem dL_hosts_46 : decode cL_hosts 46 = .ok (.iload 4, 2) := by decide +kernel
theorem dL_hosts_48 : decode cL_hosts 48 = .ok (.if_icmp .eq 7, 3) := by decide +kernel
theorem dL_hosts_51 : decode cL_hosts 51 = .ok (.iconst 1, 1) := by decide +kernel
theorem dL_hosts_52 : decode cL_hosts 52 = .ok (.goto 4, 3) := by decide +kernel
theorem dL_hosts_55 : decode cL_hosts 55 = .ok (.iconst 0, 1) := by decide +kernel
theorem dL_hosts_56 : decode cL_hosts 56 = .ok (.istore 5, 2) := by decide +kernel
theorem dL_hosts_58 : decode cL_hosts 58 = .ok (.iinc 6 1, 3) := by decide +kernel
theorem dL_hosts_61 : decode cL_hosts 61 = .ok (.goto (-35), 3) := by decide +kernel
theorem dL_hosts_64 : decode cL_hosts 64 = .ok (.iload 5, 2) := by decide +kernel
theorem dL_hosts_66 : decode cL_hosts 66 = .ok (.ifCond .ne 20, 3) := by decide +kernel
theorem dL_hosts_69 : decode cL_hosts 69 = .ok (.aload_n 0, 1) := by decide +kernel
theorem dL_hosts_70 : decode cL_hosts 70 = .ok (.iload_n 2, 1) := by decide +kernel
theorem dL_hosts_71 : decode cL_hosts 71 = .ok (.iload 4, 2) := by decide +kernel
theorem dL_hosts_73 : decode cL_hosts 73 = .ok (.invokevirtual 39, 3) := by decide +kernel
theorem dL_hosts_76 : decode cL_hosts 76 = .ok (.iconst (-1), 1) := by decide +kernel
theorem dL_hosts_77 : decode cL_hosts 77 = .ok (.if_icmp .lt 7, 3) := by decide +kernel
theorem dL_hosts_80 : decode cL_hosts 80 = .ok (.iconst 1, 1) := by decide +kernel
theorem dL_hosts_81 : decode cL_hosts 81 = .ok (.goto 4, 3) := by decide +kernel
theorem dL_hosts_84 : decode cL_hosts 84 = .ok (.iconst 0, 1) := by decide +kernel
theorem dL_hosts_85 : decode cL_hosts 85 = .ok (.ireturn, 1) := by decide +kernel
theorem dL_hosts_86 : decode cL_hosts 86 = .ok (.aload_n 1, 1) := by decide +kernel
theorem dL_hosts_87 : decode cL_hosts 87 = .ok (.iconst 4, 1) := by decide +kernel
theorem dL_hosts_88 : decode cL_hosts 88 = .ok (.aload_n 1, 1) := by decide +kernel
theorem dL_hosts_89 : decode cL_hosts 89 = .ok (.iconst 0, 1) := by decide +kernel
theorem dL_hosts_90 : decode cL_hosts 90 = .ok (.iaload, 1) := by decide +kernel
theorem dL_hosts_91 : decode cL_hosts 91 = .ok (.iadd, 1) := by decide +kernel
theorem dL_hosts_92 : decode cL_hosts 92 = .ok (.iload_n 2, 1) := by decide +kernel
theorem dL_hosts_93 : decode cL_hosts 93 = .ok (.iastore, 1) := by decide +kernel
theorem dL_hosts_94 : decode cL_hosts 94 = .ok (.aload_n 1, 1) := by decide +kernel
theorem dL_hosts_95 : decode cL_hosts 95 = .ok (.bipush 16, 2) := by decide +kernel
theorem dL_hosts_97 : decode cL_hosts 97 = .ok (.aload_n 1, 1) := by decide +kernel
theorem dL_hosts_98 : decode cL_hosts 98 = .ok (.iconst 0, 1) := by decide +kernel
theorem dL_hosts_99 : decode cL_hosts 99 = .ok (.iaload, 1) := by decide +kernel
theorem dL_hosts_100 : decode cL_hosts 100 = .ok (.iadd, 1) := by decide +kernel
theorem dL_hosts_101 : decode cL_hosts 101 = .ok (.iload 4, 2) := by decide +kernel
theorem dL_hosts_103 : decode cL_hosts 103 = .ok (.iastore, 1) := by decide +kernel
theorem dL_hosts_104 : decode cL_hosts 104 = .ok (.aload_n 1, 1) := by decide +kernel
theorem dL_hosts_105 : decode cL_hosts 105 = .ok (.iconst 0, 1) := by decide +kernel
theorem dL_hosts_106 : decode cL_hosts 106 = .ok (.dup2, 1) := by decide +kernel
theorem dL_hosts_107 : decode cL_hosts 107 = .ok (.iaload, 1) := by decide +kernel
theorem dL_hosts_108 : decode cL_hosts 108 = .ok (.iconst 1, 1) := by decide +kernel
theorem dL_hosts_109 : decode cL_hosts 109 = .ok (.iadd, 1) := by decide +kernel
theorem dL_hosts_110 : decode cL_hosts 110 = .ok (.iastore, 1) := by decide +kernel
theorem dL_hosts_111 : decode cL_hosts 111 = .ok (.aload_n 0, 1) := by decide +kernel
theorem dL_hosts_112 : decode cL_hosts 112 = .ok (.iload_n 2, 1) := by decide +kernel
theorem dL_hosts_113 : decode cL_hosts 113 = .ok (.iload 4, 2) := by decide +kernel
theorem dL_hosts_115 : decode cL_hosts 115 = .ok (.invokevirtual 52, 3) := by decide +kernel
theorem dL_hosts_118 : decode cL_hosts 118 = .ok (.aload_n 1, 1) := by decide +kernel
theorem dL_hosts_119 : decode cL_hosts 119 = .ok (.iconst 0, 1) := by decide +kernel
theorem dL_hosts_120 : decode cL_hosts 120 = .ok (.iaload, 1) := by decide +kernel
theorem dL_hosts_121 : decode cL_hosts 121 = .ok (.iconst 1, 1) := by decide +kernel
theorem dL_hosts_122 : decode cL_hosts 122 = .ok (.isub, 1) := by decide +kernel
theorem dL_hosts_123 : decode cL_hosts 123 = .ok (.if_icmp .ne 59, 3) := by decide +kernel
theorem dL_hosts_126 : decode cL_hosts 126 = .ok (.aload_n 0, 1) := by decide +kernel
theorem dL_hosts_127 : decode cL_hosts 127 = .ok (.aload_n 1, 1) := by decide +kernel
theorem dL_hosts_128 : decode cL_hosts 128 = .ok (.iconst 0, 1) := by decide +kernel
theorem dL_hosts_129 : decode cL_hosts 129 = .ok (.iaload, 1) := by decide +kernel
theorem dL_hosts_130 : decode cL_hosts 130 = .ok (.iconst 1, 1) := by decide +kernel
theorem dL_hosts_131 : decode cL_hosts 131 = .ok (.isub, 1) := by decide +kernel
theorem dL_hosts_132 : decode cL_hosts 132 = .ok (.invokevirtual 55, 3) := by decide +kernel
theorem dL_hosts_135 : decode cL_hosts 135 = .ok (.ifCond .ne 47, 3) := by decide +kernel
theorem dL_hosts_138 : decode cL_hosts 138 = .ok (.aload_n 1, 1) := by decide +kernel
theorem dL_hosts_139 : decode cL_hosts 139 = .ok (.iconst 0, 1) := by decide +kernel
theorem dL_hosts_140 : decode cL_hosts 140 = .ok (.iaload, 1) := by decide +kernel
theorem dL_hosts_141 : decode cL_hosts 141 = .ok (.iconst 1, 1) := by decide +kernel
theorem dL_hosts_142 : decode cL_hosts 142 = .ok (.if_icmp .eq 36, 3) := by decide +kernel
theorem dL_hosts_145 : decode cL_hosts 145 = .ok (.aload_n 0, 1) := by decide +kernel
theorem dL_hosts_146 : decode cL_hosts 146 = .ok (.iconst 0, 1) := by decide +kernel
theorem dL_hosts_147 : decode cL_hosts 147 = .ok (.aload_n 1, 1) := by decide +kernel
theorem dL_hosts_148 : decode cL_hosts 148 = .ok (.iconst 0, 1) := by decide +kernel
theorem dL_hosts_149 : decode cL_hosts 149 = .ok (.iaload, 1) := by decide +kernel
theorem dL_hosts_150 : decode cL_hosts 150 = .ok (.iconst 1, 1) := by decide +kernel
theorem dL_hosts_151 : decode cL_hosts 151 = .ok (.isub, 1) := by decide +kernel
theorem dL_hosts_152 : decode cL_hosts 152 = .ok (.invokevirtual 58, 3) := by decide +kernel
theorem dL_hosts_155 : decode cL_hosts 155 = .ok (.ifCond .ne 27, 3) := by decide +kernel
theorem dL_hosts_158 : decode cL_hosts 158 = .ok (.aload_n 0, 1) := by decide +kernel
theorem dL_hosts_159 : decode cL_hosts 159 = .ok (.aload_n 1, 1) := by decide +kernel
theorem dL_hosts_160 : decode cL_hosts 160 = .ok (.iconst 0, 1) := by decide +kernel
theorem dL_hosts_161 : decode cL_hosts 161 = .ok (.iaload, 1) := by decide +kernel
theorem dL_hosts_162 : decode cL_hosts 162 = .ok (.iconst 1, 1) := by decide +kernel
theorem dL_hosts_163 : decode cL_hosts 163 = .ok (.isub, 1) := by decide +kernel
theorem dL_hosts_164 : decode cL_hosts 164 = .ok (.iconst 0, 1) := by decide +kernel
theorem dL_hosts_165 : decode cL_hosts 165 = .ok (.iload_n 3, 1) := by decide +kernel
theorem dL_hosts_166 : decode cL_hosts 166 = .ok (.bipush 16, 2) := by decide +kernel
theorem dL_hosts_168 : decode cL_hosts 168 = .ok (.irem, 1) := by decide +kernel
theorem dL_hosts_169 : decode cL_hosts 169 = .ok (.invokevirtual 61, 3) := by decide +kernel
theorem dL_hosts_172 : decode cL_hosts 172 = .ok (.iconst 2, 1) := by decide +kernel
theorem dL_hosts_173 : decode cL_hosts 173 = .ok (.iand, 1) := by decide +kernel
theorem dL_hosts_174 : decode cL_hosts 174 = .ok (.iconst 2, 1) := by decide +kernel
theorem dL_hosts_175 : decode cL_hosts 175 = .ok (.if_icmp .ne 7, 3) := by decide +kernel
theorem dL_hosts_178 : decode cL_hosts 178 = .ok (.iconst 1, 1) := by decide +kernel
theorem dL_hosts_179 : decode cL_hosts 179 = .ok (.goto 4, 3) := by decide +kernel
theorem dL_hosts_182 : decode cL_hosts 182 = .ok (.iconst 0, 1) := by decide +kernel
theorem dL_hosts_183 : decode cL_hosts 183 = .ok (.ireturn, 1) := by decide +kernel
set_option maxRecDepth 20000 in
theorem ggL_hosts_L_baseOf : GoodIn wsL_hosts wsL_baseOf := goodIn_r _ [4] (by decide +kernel) (by decide +kernel)
set_option maxRecDepth 20000 in
theorem gL_hosts_L_baseOf : GoodIn wsL_hosts (va_wsS RL 49 yL_baseOf wsL_baseOf) := goodIn_app (goodIn_of _ (by decide +kernel)) ggL_hosts_L_baseOf
set_option maxRecDepth 20000 in
theorem ggL_hosts_X7_routeFor : GoodIn wsL_hosts wsX7_routeFor := goodIn_ca (goodIn_ca (goodIn_r _ [9, 10, 11, 12, 13, 14, 8, 15, 16, 17, 18, 19, 20, 21, 22, 23, 24, 25, 26, 27, 28, 29, 30, 31, 32, 33, 34, 35, 36, 37, 38, 39, 40, 41, 42, 43, 44, 45, 46, 47, 48, 49, 50, 51, 52, 53, 54, 55, 56, 57, 58, 59, 60, 61, 62, 63, 64, 65, 234, 235, 236, 237, 238, 239, 240, 241, 242, 243, 244, 245, 246, 247, 248, 249] (by decide +kernel) (by decide +kernel)) (goodIn_sub (fun _ h => List.mem_cons_of_mem _ (List.mem_append_left _ (List.mem_append_left _ (List.mem_append_right _ h)))) (by decide +kernel))) (goodIn_sub (fun _ h => List.mem_cons_of_mem _ (List.mem_append_left _ (List.mem_append_right _ h))) (by decide +kernel))
set_option maxRecDepth 20000 in
theorem gL_hosts_X7_routeFor : GoodIn wsL_hosts (wsV RL 39 RX7 yX7_routeFor wsX7_routeFor) := goodIn_app (goodIn_of _ (by decide +kernel)) ggL_hosts_X7_routeFor
set_option maxRecDepth 20000 in
theorem ggL_hosts_X7_addHost : GoodIn wsL_hosts wsX7_addHost := goodIn_ca (goodIn_ca (goodIn_ca (goodIn_r _ [69, 10, 11, 70, 71, 72, 73, 74, 75, 76, 77, 78, 12, 13, 14, 8, 15, 16, 17, 18, 19, 20, 21, 22, 23, 24, 25, 26, 27, 28, 29, 30, 31, 32, 33, 34, 35, 36, 37, 38, 39, 40, 41, 42, 43, 44, 45, 79, 58, 59, 60, 61, 62, 63, 80, 81, 82, 83, 84, 85, 86, 87, 88, 89, 90, 91, 92, 93, 94, 95, 96, 97, 98, 99, 100, 101, 102, 103, 104, 105, 106, 107, 108, 109, 110, 111, 112, 113, 114, 115, 116, 117, 118, 119, 120, 121, 122, 123, 124, 125, 126, 127, 128, 129, 130, 131, 132, 133, 134, 135, 136, 137, 138, 139, 140, 242, 243, 244, 245, 234, 235, 236, 237, 238, 250, 251, 252, 239, 240, 241, 246, 247] (by decide +kernel) (by decide +kernel)) (goodIn_sub (fun _ h => List.mem_cons_of_mem _ (List.mem_append_left _ (List.mem_append_left _ (List.mem_append_right _ h)))) (by decide +kernel))) (goodIn_sub (fun _ h => List.mem_cons_of_mem _ (List.mem_append_right _ h)) (by decide +kernel))) (goodIn_sub (fun _ h => List.mem_cons_of_mem _ (List.mem_append_left _ (List.mem_append_right _ h))) (by decide +kernel))
set_option maxRecDepth 20000 in
theorem gL_hosts_X7_addHost : GoodIn wsL_hosts (wsV RL 52 RX7 yX7_addHost wsX7_addHost) := goodIn_app (goodIn_of _ (by decide +kernel)) ggL_hosts_X7_addHost
set_option maxRecDepth 20000 in
theorem ggL_hosts_X7_reachedFrom : GoodIn wsL_hosts wsX7_reachedFrom := goodIn_ca (goodIn_r _ [144, 73, 74, 145, 146, 147, 8, 148, 18, 19, 20, 21, 22, 23, 24, 25, 26, 27, 28, 29, 30, 31, 32, 33, 34, 35, 36, 37, 38, 39, 40, 41, 42, 43, 44, 45, 149, 150, 151, 152, 153, 154, 155, 156, 157, 158, 75, 159, 160, 161, 162, 163, 164, 165, 166, 167, 78, 168, 169, 170, 171, 172, 173, 174, 175, 176, 177, 178, 179, 180, 181, 182, 183, 184, 185, 186, 187, 58, 59, 60, 61, 62, 63, 188, 189, 190, 49, 191, 192, 193, 194, 195, 196, 197, 64, 65, 198, 199, 200, 201, 202, 203, 204, 205, 46, 47, 48, 50, 51, 52, 53, 54, 55, 56, 57, 206, 207, 208, 209, 210, 211, 212, 213, 214, 215, 216, 217, 218, 219, 234, 235, 236, 237, 238, 239, 240, 241, 250, 251, 252, 253, 254, 255, 256, 257, 246, 247, 242, 243, 244, 245, 248, 249, 258, 259] (by decide +kernel) (by decide +kernel)) (goodIn_sub (fun _ h => List.mem_cons_of_mem _ (List.mem_append_left _ (List.mem_append_right _ h))) (by decide +kernel))
set_option maxRecDepth 20000 in
theorem gL_hosts_X7_reachedFrom : GoodIn wsL_hosts (wsV RL 55 RX7 yX7_reachedFrom wsX7_reachedFrom) := goodIn_app (goodIn_of _ (by decide +kernel)) ggL_hosts_X7_reachedFrom
set_option maxRecDepth 20000 in
theorem ggL_hosts_X7_ports : GoodIn wsL_hosts wsX7_ports := goodIn_ca (goodIn_ca (goodIn_r _ [223, 145, 146, 147, 8, 148, 73, 74, 18, 19, 20, 21, 22, 23, 24, 25, 26, 27, 28, 29, 30, 31, 32, 33, 34, 35, 36, 37, 38, 39, 40, 41, 42, 43, 44, 45, 224, 225, 226, 10, 11, 149, 150, 151, 152, 153, 154, 155, 156, 157, 158, 75, 159, 160, 161, 162, 163, 164, 165, 166, 167, 78, 168, 169, 170, 171, 172, 173, 174, 175, 176, 177, 178, 179, 180, 181, 182, 183, 184, 185, 186, 187, 58, 59, 60, 61, 62, 63, 188, 189, 190, 49, 191, 192, 193, 194, 195, 196, 197, 64, 65, 198, 199, 200, 201, 202, 203, 204, 205, 46, 47, 48, 50, 51, 52, 53, 54, 55, 56, 57, 206, 207, 208, 209, 210, 211, 212, 213, 214, 215, 216, 217, 218, 219, 234, 235, 236, 237, 238, 239, 240, 241, 250, 251, 252, 253, 254, 255, 256, 257, 246, 247, 242, 243, 244, 245, 248, 249, 258, 259] (by decide +kernel) (by decide +kernel)) (goodIn_sub (fun _ h => List.mem_cons_of_mem _ (List.mem_append_left _ (List.mem_append_right _ h))) (by decide +kernel))) (goodIn_sub (fun _ h => List.mem_cons_of_mem _ (List.mem_append_left _ (List.mem_append_left _ (List.mem_append_right _ h)))) (by decide +kernel))
set_option maxRecDepth 20000 in
theorem gL_hosts_X7_ports : GoodIn wsL_hosts (wsV RL 58 RX7 yX7_ports wsX7_ports) := goodIn_app (goodIn_of _ (by decide +kernel)) ggL_hosts_X7_ports
set_option maxRecDepth 20000 in
theorem ggL_hosts_X7_blocks : GoodIn wsL_hosts wsX7_blocks := goodIn_ca (goodIn_ca (goodIn_r _ [230, 145, 146, 147, 8, 148, 73, 74, 18, 19, 20, 21, 22, 23, 24, 25, 26, 27, 28, 29, 30, 31, 32, 33, 34, 35, 36, 37, 38, 39, 40, 41, 42, 43, 44, 45, 224, 225, 226, 10, 11, 231, 232, 233, 154, 155, 156, 157, 158, 153, 75, 159, 160, 161, 162, 163, 164, 165, 166, 167, 78, 168, 169, 170, 171, 172, 173, 174, 175, 176, 177, 178, 179, 180, 181, 182, 183, 184, 185, 186, 187, 58, 59, 60, 61, 62, 63, 188, 189, 190, 49, 191, 192, 193, 194, 195, 196, 197, 64, 65, 198, 199, 200, 201, 202, 203, 204, 205, 46, 47, 48, 50, 51, 52, 53, 54, 55, 56, 57, 206, 207, 208, 209, 210, 211, 212, 213, 214, 215, 216, 217, 218, 219, 234, 235, 236, 237, 238, 239, 240, 241, 250, 251, 252, 253, 254, 255, 256, 257, 246, 247, 242, 243, 244, 245, 248, 249, 258, 259] (by decide +kernel) (by decide +kernel)) (goodIn_sub (fun _ h => List.mem_cons_of_mem _ (List.mem_append_left _ (List.mem_append_right _ h))) (by decide +kernel))) (goodIn_sub (fun _ h => List.mem_cons_of_mem _ (List.mem_append_left _ (List.mem_append_left _ (List.mem_append_right _ h)))) (by decide +kernel))
set_option maxRecDepth 20000 in
theorem gL_hosts_X7_blocks : GoodIn wsL_hosts (wsV RL 61 RX7 yX7_blocks wsX7_blocks) := goodIn_app (goodIn_of _ (by decide +kernel)) ggL_hosts_X7_blocks
