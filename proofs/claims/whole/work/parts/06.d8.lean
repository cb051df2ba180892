theorem dX8_init_0 : decode cX8_init 0 = .ok (.aload_n 0, 1) := by decide +kernel
theorem dX8_init_1 : decode cX8_init 1 = .ok (.invokespecial 1, 3) := by decide +kernel
theorem dX8_init_4 : decode cX8_init 4 = .ok (.aload_n 0, 1) := by decide +kernel
theorem dX8_init_5 : decode cX8_init 5 = .ok (.iconst 4, 1) := by decide +kernel
theorem dX8_init_6 : decode cX8_init 6 = .ok (.newarray .int, 2) := by decide +kernel
theorem dX8_init_8 : decode cX8_init 8 = .ok (.putfield 7, 3) := by decide +kernel
theorem dX8_init_11 : decode cX8_init 11 = .ok (.aload_n 0, 1) := by decide +kernel
theorem dX8_init_12 : decode cX8_init 12 = .ok (.bipush 8, 2) := by decide +kernel
theorem dX8_init_14 : decode cX8_init 14 = .ok (.newarray .int, 2) := by decide +kernel
theorem dX8_init_16 : decode cX8_init 16 = .ok (.putfield 13, 3) := by decide +kernel
theorem dX8_init_19 : decode cX8_init 19 = .ok (.aload_n 0, 1) := by decide +kernel
theorem dX8_init_20 : decode cX8_init 20 = .ok (.bipush 8, 2) := by decide +kernel
theorem dX8_init_22 : decode cX8_init 22 = .ok (.newarray .int, 2) := by decide +kernel
theorem dX8_init_24 : decode cX8_init 24 = .ok (.putfield 16, 3) := by decide +kernel
theorem dX8_init_27 : decode cX8_init 27 = .ok (.aload_n 0, 1) := by decide +kernel
theorem dX8_init_28 : decode cX8_init 28 = .ok (.bipush 12, 2) := by decide +kernel
theorem dX8_init_30 : decode cX8_init 30 = .ok (.newarray .int, 2) := by decide +kernel
theorem dX8_init_32 : decode cX8_init 32 = .ok (.putfield 19, 3) := by decide +kernel
theorem dX8_init_35 : decode cX8_init 35 = .ok (.aload_n 0, 1) := by decide +kernel
theorem dX8_init_36 : decode cX8_init 36 = .ok (.bipush 12, 2) := by decide +kernel
theorem dX8_init_38 : decode cX8_init 38 = .ok (.newarray .int, 2) := by decide +kernel
theorem dX8_init_40 : decode cX8_init 40 = .ok (.putfield 22, 3) := by decide +kernel
theorem dX8_init_43 : decode cX8_init 43 = .ok (.aload_n 0, 1) := by decide +kernel
theorem dX8_init_44 : decode cX8_init 44 = .ok (.bipush 12, 2) := by decide +kernel
theorem dX8_init_46 : decode cX8_init 46 = .ok (.newarray .int, 2) := by decide +kernel
theorem dX8_init_48 : decode cX8_init 48 = .ok (.putfield 25, 3) := by decide +kernel
theorem dX8_init_51 : decode cX8_init 51 = .ok (.aload_n 0, 1) := by decide +kernel
theorem dX8_init_52 : decode cX8_init 52 = .ok (.bipush 6, 2) := by decide +kernel
theorem dX8_init_54 : decode cX8_init 54 = .ok (.newarray .int, 2) := by decide +kernel
theorem dX8_init_56 : decode cX8_init 56 = .ok (.putfield 28, 3) := by decide +kernel
theorem dX8_init_59 : decode cX8_init 59 = .ok (.aload_n 0, 1) := by decide +kernel
theorem dX8_init_60 : decode cX8_init 60 = .ok (.bipush 6, 2) := by decide +kernel
theorem dX8_init_62 : decode cX8_init 62 = .ok (.newarray .int, 2) := by decide +kernel
theorem dX8_init_64 : decode cX8_init 64 = .ok (.putfield 31, 3) := by decide +kernel
theorem dX8_init_67 : decode cX8_init 67 = .ok (.aload_n 0, 1) := by decide +kernel
theorem dX8_init_68 : decode cX8_init 68 = .ok (.bipush 6, 2) := by decide +kernel
theorem dX8_init_70 : decode cX8_init 70 = .ok (.newarray .int, 2) := by decide +kernel
theorem dX8_init_72 : decode cX8_init 72 = .ok (.putfield 34, 3) := by decide +kernel
theorem dX8_init_75 : decode cX8_init 75 = .ok (.aload_n 0, 1) := by decide +kernel
theorem dX8_init_76 : decode cX8_init 76 = .ok (.bipush 60, 2) := by decide +kernel
theorem dX8_init_78 : decode cX8_init 78 = .ok (.newarray .boolean, 2) := by decide +kernel
theorem dX8_init_80 : decode cX8_init 80 = .ok (.putfield 37, 3) := by decide +kernel
theorem dX8_init_83 : decode cX8_init 83 = .ok (.aload_n 0, 1) := by decide +kernel
theorem dX8_init_84 : decode cX8_init 84 = .ok (.bipush 60, 2) := by decide +kernel
theorem dX8_init_86 : decode cX8_init 86 = .ok (.newarray .int, 2) := by decide +kernel
theorem dX8_init_88 : decode cX8_init 88 = .ok (.putfield 41, 3) := by decide +kernel
theorem dX8_init_91 : decode cX8_init 91 = .ok (.aload_n 0, 1) := by decide +kernel
theorem dX8_init_92 : decode cX8_init 92 = .ok (.bipush 60, 2) := by decide +kernel
theorem dX8_init_94 : decode cX8_init 94 = .ok (.newarray .int, 2) := by decide +kernel
theorem dX8_init_96 : decode cX8_init 96 = .ok (.putfield 44, 3) := by decide +kernel
theorem dX8_init_99 : decode cX8_init 99 = .ok (.aload_n 0, 1) := by decide +kernel
theorem dX8_init_100 : decode cX8_init 100 = .ok (.bipush 8, 2) := by decide +kernel
theorem dX8_init_102 : decode cX8_init 102 = .ok (.newarray .int, 2) := by decide +kernel
theorem dX8_init_104 : decode cX8_init 104 = .ok (.putfield 47, 3) := by decide +kernel
theorem dX8_init_107 : decode cX8_init 107 = .ok (.aload_n 0, 1) := by decide +kernel
theorem dX8_init_108 : decode cX8_init 108 = .ok (.bipush 96, 2) := by decide +kernel
theorem dX8_init_110 : decode cX8_init 110 = .ok (.newarray .boolean, 2) := by decide +kernel
theorem dX8_init_112 : decode cX8_init 112 = .ok (.putfield 50, 3) := by decide +kernel
theorem dX8_init_115 : decode cX8_init 115 = .ok (.aload_n 0, 1) := by decide +kernel
theorem dX8_init_116 : decode cX8_init 116 = .ok (.bipush 96, 2) := by decide +kernel
theorem dX8_init_118 : decode cX8_init 118 = .ok (.newarray .boolean, 2) := by decide +kernel
theorem dX8_init_120 : decode cX8_init 120 = .ok (.putfield 53, 3) := by decide +kernel
theorem dX8_init_123 : decode cX8_init 123 = .ok (.aload_n 0, 1) := by decide +kernel
theorem dX8_init_124 : decode cX8_init 124 = .ok (.bipush 96, 2) := by decide +kernel
theorem dX8_init_126 : decode cX8_init 126 = .ok (.newarray .int, 2) := by decide +kernel
theorem dX8_init_128 : decode cX8_init 128 = .ok (.putfield 56, 3) := by decide +kernel
theorem dX8_init_131 : decode cX8_init 131 = .ok (.aload_n 0, 1) := by decide +kernel
theorem dX8_init_132 : decode cX8_init 132 = .ok (.bipush 96, 2) := by decide +kernel
theorem dX8_init_134 : decode cX8_init 134 = .ok (.newarray .int, 2) := by decide +kernel
theorem dX8_init_136 : decode cX8_init 136 = .ok (.putfield 59, 3) := by decide +kernel
theorem dX8_init_139 : decode cX8_init 139 = .ok (.aload_n 0, 1) := by decide +kernel
theorem dX8_init_140 : decode cX8_init 140 = .ok (.bipush 8, 2) := by decide +kernel
theorem dX8_init_142 : decode cX8_init 142 = .ok (.newarray .int, 2) := by decide +kernel
theorem dX8_init_144 : decode cX8_init 144 = .ok (.putfield 62, 3) := by decide +kernel
theorem dX8_init_147 : decode cX8_init 147 = .ok (.aload_n 0, 1) := by decide +kernel
theorem dX8_init_148 : decode cX8_init 148 = .ok (.bipush 64, 2) := by decide +kernel
theorem dX8_init_150 : decode cX8_init 150 = .ok (.newarray .int, 2) := by decide +kernel
theorem dX8_init_152 : decode cX8_init 152 = .ok (.putfield 65, 3) := by decide +kernel
theorem dX8_init_155 : decode cX8_init 155 = .ok (.aload_n 0, 1) := by decide +kernel
theorem dX8_init_156 : decode cX8_init 156 = .ok (.bipush 64, 2) := by decide +kernel
theorem dX8_init_158 : decode cX8_init 158 = .ok (.newarray .int, 2) := by decide +kernel
theorem dX8_init_160 : decode cX8_init 160 = .ok (.putfield 68, 3) := by decide +kernel
theorem dX8_init_163 : decode cX8_init 163 = .ok (.return_, 1) := by decide +kernel
theorem dX8_thrown_0 : decode cX8_thrown 0 = .ok (.aload_n 0, 1) := by decide +kernel
theorem dX8_thrown_1 : decode cX8_thrown 1 = .ok (.getfield 71, 3) := by decide +kernel
theorem dX8_thrown_4 : decode cX8_thrown 4 = .ok (.ireturn, 1) := by decide +kernel
theorem dX8_holds_0 : decode cX8_holds 0 = .ok (.aload_n 0, 1) := by decide +kernel
theorem dX8_holds_1 : decode cX8_holds 1 = .ok (.iload_n 1, 1) := by decide +kernel
theorem dX8_holds_2 : decode cX8_holds 2 = .ok (.putfield 71, 3) := by decide +kernel
theorem dX8_holds_5 : decode cX8_holds 5 = .ok (.iload_n 1, 1) := by decide +kernel
theorem dX8_holds_6 : decode cX8_holds 6 = .ok (.ifCond .ne 7, 3) := by decide +kernel
theorem dX8_holds_9 : decode cX8_holds 9 = .ok (.iconst 1, 1) := by decide +kernel
theorem dX8_holds_10 : decode cX8_holds 10 = .ok (.goto 4, 3) := by decide +kernel
theorem dX8_holds_13 : decode cX8_holds 13 = .ok (.iconst 0, 1) := by decide +kernel
theorem dX8_holds_14 : decode cX8_holds 14 = .ok (.ireturn, 1) := by decide +kernel
theorem dX8_isIn_0 : decode cX8_isIn 0 = .ok (.iload_n 0, 1) := by decide +kernel
theorem dX8_isIn_1 : decode cX8_isIn 1 = .ok (.ifCond .lt 12, 3) := by decide +kernel
theorem dX8_isIn_4 : decode cX8_isIn 4 = .ok (.iload_n 0, 1) := by decide +kernel
theorem dX8_isIn_5 : decode cX8_isIn 5 = .ok (.iload_n 1, 1) := by decide +kernel
theorem dX8_isIn_6 : decode cX8_isIn 6 = .ok (.if_icmp .ge 7, 3) := by decide +kernel
theorem dX8_isIn_9 : decode cX8_isIn 9 = .ok (.iconst 1, 1) := by decide +kernel
theorem dX8_isIn_10 : decode cX8_isIn 10 = .ok (.goto 4, 3) := by decide +kernel
theorem dX8_isIn_13 : decode cX8_isIn 13 = .ok (.iconst 0, 1) := by decide +kernel
theorem dX8_isIn_14 : decode cX8_isIn 14 = .ok (.ireturn, 1) := by decide +kernel
theorem dX8_isBlock_0 : decode cX8_isBlock 0 = .ok (.iload_n 1, 1) := by decide +kernel
theorem dX8_isBlock_1 : decode cX8_isBlock 1 = .ok (.ifCond .lt 36, 3) := by decide +kernel
theorem dX8_isBlock_4 : decode cX8_isBlock 4 = .ok (.iload_n 1, 1) := by decide +kernel
theorem dX8_isBlock_5 : decode cX8_isBlock 5 = .ok (.bipush 10, 2) := by decide +kernel
theorem dX8_isBlock_7 : decode cX8_isBlock 7 = .ok (.if_icmp .gt 30, 3) := by decide +kernel
theorem dX8_isBlock_10 : decode cX8_isBlock 10 = .ok (.iload_n 0, 1) := by decide +kernel
theorem dX8_isBlock_11 : decode cX8_isBlock 11 = .ok (.ifCond .lt 26, 3) := by decide +kernel
theorem dX8_isBlock_14 : decode cX8_isBlock 14 = .ok (.iload_n 0, 1) := by decide +kernel
theorem dX8_isBlock_15 : decode cX8_isBlock 15 = .ok (.sipush 1024, 3) := by decide +kernel
theorem dX8_isBlock_18 : decode cX8_isBlock 18 = .ok (.iconst 1, 1) := by decide +kernel
theorem dX8_isBlock_19 : decode cX8_isBlock 19 = .ok (.iload_n 1, 1) := by decide +kernel
theorem dX8_isBlock_20 : decode cX8_isBlock 20 = .ok (.ishl, 1) := by decide +kernel
theorem dX8_isBlock_21 : decode cX8_isBlock 21 = .ok (.isub, 1) := by decide +kernel
theorem dX8_isBlock_22 : decode cX8_isBlock 22 = .ok (.if_icmp .gt 15, 3) := by decide +kernel
theorem dX8_isBlock_25 : decode cX8_isBlock 25 = .ok (.iload_n 0, 1) := by decide +kernel
theorem dX8_isBlock_26 : decode cX8_isBlock 26 = .ok (.iconst 1, 1) := by decide +kernel
theorem dX8_isBlock_27 : decode cX8_isBlock 27 = .ok (.iload_n 1, 1) := by decide +kernel
theorem dX8_isBlock_28 : decode cX8_isBlock 28 = .ok (.ishl, 1) := by decide +kernel
theorem dX8_isBlock_29 : decode cX8_isBlock 29 = .ok (.irem, 1) := by decide +kernel
theorem dX8_isBlock_30 : decode cX8_isBlock 30 = .ok (.ifCond .ne 7, 3) := by decide +kernel
theorem dX8_isBlock_33 : decode cX8_isBlock 33 = .ok (.iconst 1, 1) := by decide +kernel
theorem dX8_isBlock_34 : decode cX8_isBlock 34 = .ok (.goto 4, 3) := by decide +kernel
theorem dX8_isBlock_37 : decode cX8_isBlock 37 = .ok (.iconst 0, 1) := by decide +kernel
theorem dX8_isBlock_38 : decode cX8_isBlock 38 = .ok (.ireturn, 1) := by decide +kernel
theorem dX8_block_0 : decode cX8_block 0 = .ok (.bipush 16, 2) := by decide +kernel
theorem dX8_block_2 : decode cX8_block 2 = .ok (.iload_n 0, 1) := by decide +kernel
theorem dX8_block_3 : decode cX8_block 3 = .ok (.imul, 1) := by decide +kernel
theorem dX8_block_4 : decode cX8_block 4 = .ok (.iload_n 1, 1) := by decide +kernel
theorem dX8_block_5 : decode cX8_block 5 = .ok (.iadd, 1) := by decide +kernel
theorem dX8_block_6 : decode cX8_block 6 = .ok (.ireturn, 1) := by decide +kernel
theorem dX8_first_0 : decode cX8_first 0 = .ok (.iload_n 0, 1) := by decide +kernel
theorem dX8_first_1 : decode cX8_first 1 = .ok (.bipush 16, 2) := by decide +kernel
theorem dX8_first_3 : decode cX8_first 3 = .ok (.idiv, 1) := by decide +kernel
theorem dX8_first_4 : decode cX8_first 4 = .ok (.ireturn, 1) := by decide +kernel
theorem dX8_many_0 : decode cX8_many 0 = .ok (.iconst 1, 1) := by decide +kernel
theorem dX8_many_1 : decode cX8_many 1 = .ok (.iload_n 0, 1) := by decide +kernel
theorem dX8_many_2 : decode cX8_many 2 = .ok (.bipush 16, 2) := by decide +kernel
theorem dX8_many_4 : decode cX8_many 4 = .ok (.irem, 1) := by decide +kernel
theorem dX8_many_5 : decode cX8_many 5 = .ok (.ishl, 1) := by decide +kernel
theorem dX8_many_6 : decode cX8_many 6 = .ok (.ireturn, 1) := by decide +kernel
set_option maxRecDepth 20000 in
theorem ggX8_has_X8_first : GoodIn wsX8_has wsX8_first := goodIn_r _ [4] (by decide +kernel) (by decide +kernel)
set_option maxRecDepth 20000 in
theorem gX8_has_X8_first : GoodIn wsX8_has (va_wsS RX8 75 yX8_first wsX8_first) := goodIn_app (goodIn_of _ (by decide +kernel)) ggX8_has_X8_first
set_option maxRecDepth 20000 in
theorem ggX8_has_X8_many : GoodIn wsX8_has wsX8_many := goodIn_r _ [7] (by decide +kernel) (by decide +kernel)
set_option maxRecDepth 20000 in
theorem gX8_has_X8_many : GoodIn wsX8_has (va_wsS RX8 79 yX8_many wsX8_many) := goodIn_app (goodIn_of _ (by decide +kernel)) ggX8_has_X8_many
theorem dX8_has_0 : decode cX8_has 0 = .ok (.iload_n 1, 1) := by decide +kernel
theorem dX8_has_1 : decode cX8_has 1 = .ok (.iload_n 0, 1) := by decide +kernel
theorem dX8_has_2 : decode cX8_has 2 = .ok (.invokestatic 75, 3) := by decide +kernel
theorem dX8_has_5 : decode cX8_has 5 = .ok (.if_icmp .lt 20, 3) := by decide +kernel
theorem dX8_has_8 : decode cX8_has 8 = .ok (.iload_n 1, 1) := by decide +kernel
theorem dX8_has_9 : decode cX8_has 9 = .ok (.iload_n 0, 1) := by decide +kernel
theorem dX8_has_10 : decode cX8_has 10 = .ok (.invokestatic 75, 3) := by decide +kernel
theorem dX8_has_13 : decode cX8_has 13 = .ok (.iload_n 0, 1) := by decide +kernel
theorem dX8_has_14 : decode cX8_has 14 = .ok (.invokestatic 79, 3) := by decide +kernel
theorem dX8_has_17 : decode cX8_has 17 = .ok (.iadd, 1) := by decide +kernel
theorem dX8_has_18 : decode cX8_has 18 = .ok (.if_icmp .ge 7, 3) := by decide +kernel
theorem dX8_has_21 : decode cX8_has 21 = .ok (.iconst 1, 1) := by decide +kernel
theorem dX8_has_22 : decode cX8_has 22 = .ok (.goto 4, 3) := by decide +kernel
theorem dX8_has_25 : decode cX8_has 25 = .ok (.iconst 0, 1) := by decide +kernel
theorem dX8_has_26 : decode cX8_has 26 = .ok (.ireturn, 1) := by decide +kernel
set_option maxRecDepth 20000 in
theorem ggX8_haveCommon_X8_first : GoodIn wsX8_haveCommon wsX8_first := goodIn_r _ [4] (by decide +kernel) (by decide +kernel)
set_option maxRecDepth 20000 in
theorem gX8_haveCommon_X8_first : GoodIn wsX8_haveCommon (va_wsS RX8 75 yX8_first wsX8_first) := goodIn_app (goodIn_of _ (by decide +kernel)) ggX8_haveCommon_X8_first
set_option maxRecDepth 20000 in
theorem ggX8_haveCommon_X8_has : GoodIn wsX8_haveCommon wsX8_has := goodIn_r _ [7, 1, 2, 3, 4, 8, 9, 10] (by decide +kernel) (by decide +kernel)
set_option maxRecDepth 20000 in
theorem gX8_haveCommon_X8_has : GoodIn wsX8_haveCommon (va_wsS RX8 82 yX8_has wsX8_has) := goodIn_app (goodIn_of _ (by decide +kernel)) ggX8_haveCommon_X8_has
theorem dX8_haveCommon_0 : decode cX8_haveCommon 0 = .ok (.iload_n 0, 1) := by decide +kernel
theorem dX8_haveCommon_1 : decode cX8_haveCommon 1 = .ok (.iload_n 1, 1) := by decide +kernel
theorem dX8_haveCommon_2 : decode cX8_haveCommon 2 = .ok (.invokestatic 75, 3) := by decide +kernel
theorem dX8_haveCommon_5 : decode cX8_haveCommon 5 = .ok (.invokestatic 82, 3) := by decide +kernel
theorem dX8_haveCommon_8 : decode cX8_haveCommon 8 = .ok (.ifCond .ne 14, 3) := by decide +kernel
theorem dX8_haveCommon_11 : decode cX8_haveCommon 11 = .ok (.iload_n 1, 1) := by decide +kernel
theorem dX8_haveCommon_12 : decode cX8_haveCommon 12 = .ok (.iload_n 0, 1) := by decide +kernel
theorem dX8_haveCommon_13 : decode cX8_haveCommon 13 = .ok (.invokestatic 75, 3) := by decide +kernel
theorem dX8_haveCommon_16 : decode cX8_haveCommon 16 = .ok (.invokestatic 82, 3) := by decide +kernel
theorem dX8_haveCommon_19 : decode cX8_haveCommon 19 = .ok (.ifCond .eq 7, 3) := by decide +kernel
theorem dX8_haveCommon_22 : decode cX8_haveCommon 22 = .ok (.iconst 1, 1) := by decide +kernel
theorem dX8_haveCommon_23 : decode cX8_haveCommon 23 = .ok (.goto 4, 3) := by decide +kernel
theorem dX8_haveCommon_26 : decode cX8_haveCommon 26 = .ok (.iconst 0, 1) := by decide +kernel
theorem dX8_haveCommon_27 : decode cX8_haveCommon 27 = .ok (.ireturn, 1) := by decide +kernel
theorem dX8_arePorts_0 : decode cX8_arePorts 0 = .ok (.iload_n 0, 1) := by decide +kernel
theorem dX8_arePorts_1 : decode cX8_arePorts 1 = .ok (.ifCond .lt 18, 3) := by decide +kernel
theorem dX8_arePorts_4 : decode cX8_arePorts 4 = .ok (.iload_n 1, 1) := by decide +kernel
theorem dX8_arePorts_5 : decode cX8_arePorts 5 = .ok (.iload_n 0, 1) := by decide +kernel
theorem dX8_arePorts_6 : decode cX8_arePorts 6 = .ok (.if_icmp .lt 13, 3) := by decide +kernel
theorem dX8_arePorts_9 : decode cX8_arePorts 9 = .ok (.iload_n 1, 1) := by decide +kernel
theorem dX8_arePorts_10 : decode cX8_arePorts 10 = .ok (.bipush 15, 2) := by decide +kernel
theorem dX8_arePorts_12 : decode cX8_arePorts 12 = .ok (.if_icmp .gt 7, 3) := by decide +kernel
theorem dX8_arePorts_15 : decode cX8_arePorts 15 = .ok (.iconst 1, 1) := by decide +kernel
theorem dX8_arePorts_16 : decode cX8_arePorts 16 = .ok (.goto 4, 3) := by decide +kernel
theorem dX8_arePorts_19 : decode cX8_arePorts 19 = .ok (.iconst 0, 1) := by decide +kernel
theorem dX8_arePorts_20 : decode cX8_arePorts 20 = .ok (.ireturn, 1) := by decide +kernel
theorem dX8_portSet_0 : decode cX8_portSet 0 = .ok (.iconst 1, 1) := by decide +kernel
theorem dX8_portSet_1 : decode cX8_portSet 1 = .ok (.iload_n 1, 1) := by decide +kernel
theorem dX8_portSet_2 : decode cX8_portSet 2 = .ok (.iconst 1, 1) := by decide +kernel
theorem dX8_portSet_3 : decode cX8_portSet 3 = .ok (.iadd, 1) := by decide +kernel
theorem dX8_portSet_4 : decode cX8_portSet 4 = .ok (.ishl, 1) := by decide +kernel
theorem dX8_portSet_5 : decode cX8_portSet 5 = .ok (.iconst 1, 1) := by decide +kernel
theorem dX8_portSet_6 : decode cX8_portSet 6 = .ok (.iload_n 0, 1) := by decide +kernel
theorem dX8_portSet_7 : decode cX8_portSet 7 = .ok (.ishl, 1) := by decide +kernel
theorem dX8_portSet_8 : decode cX8_portSet 8 = .ok (.isub, 1) := by decide +kernel
theorem dX8_portSet_9 : decode cX8_portSet 9 = .ok (.ireturn, 1) := by decide +kernel
set_option maxRecDepth 20000 in
theorem ggX8_addNetwork_X8_isBlock : GoodIn wsX8_addNetwork wsX8_isBlock := goodIn_r _ [6] (by decide +kernel) (by decide +kernel)
set_option maxRecDepth 20000 in
theorem gX8_addNetwork_X8_isBlock : GoodIn wsX8_addNetwork (va_wsS RX8 86 yX8_isBlock wsX8_isBlock) := goodIn_app (goodIn_of _ (by decide +kernel)) ggX8_addNetwork_X8_isBlock
set_option maxRecDepth 20000 in
theorem ggX8_addNetwork_X8_block : GoodIn wsX8_addNetwork wsX8_block := goodIn_r _ [9] (by decide +kernel) (by decide +kernel)
set_option maxRecDepth 20000 in
theorem gX8_addNetwork_X8_block : GoodIn wsX8_addNetwork (va_wsS RX8 92 yX8_block wsX8_block) := goodIn_app (goodIn_of _ (by decide +kernel)) ggX8_addNetwork_X8_block
set_option maxRecDepth 20000 in
theorem ggX8_addNetwork_X8_haveCommon : GoodIn wsX8_addNetwork wsX8_haveCommon := goodIn_r _ [12, 13, 14, 5, 15, 16, 17, 18, 19, 20, 21] (by decide +kernel) (by decide +kernel)
set_option maxRecDepth 20000 in
theorem gX8_addNetwork_X8_haveCommon : GoodIn wsX8_addNetwork (va_wsS RX8 96 yX8_haveCommon wsX8_haveCommon) := goodIn_app (goodIn_of _ (by decide +kernel)) ggX8_addNetwork_X8_haveCommon
set_option maxRecDepth 20000 in
theorem ggX8_addNetwork_X8_holds : GoodIn wsX8_addNetwork wsX8_holds := goodIn_r _ [25, 26, 27, 28, 29, 30, 31, 32, 33, 34, 35, 36, 37, 38, 39, 40, 41, 42, 43, 44, 45, 46, 47, 48, 49, 50, 51, 52] (by decide +kernel) (by decide +kernel)
set_option maxRecDepth 20000 in
theorem gX8_addNetwork_X8_holds : GoodIn wsX8_addNetwork (wsV RX8 99 RX8 yX8_holds wsX8_holds) := goodIn_app (goodIn_of _ (by decide +kernel)) ggX8_addNetwork_X8_holds
theorem dX8_addNetwork_0 : decode cX8_addNetwork 0 = .ok (.iload_n 1, 1) := by decide +kernel
theorem dX8_addNetwork_1 : decode cX8_addNetwork 1 = .ok (.iload_n 2, 1) := by decide +kernel
theorem dX8_addNetwork_2 : decode cX8_addNetwork 2 = .ok (.invokestatic 86, 3) := by decide +kernel
theorem dX8_addNetwork_5 : decode cX8_addNetwork 5 = .ok (.istore_n 3, 1) := by decide +kernel
theorem dX8_addNetwork_6 : decode cX8_addNetwork 6 = .ok (.aload_n 0, 1) := by decide +kernel
theorem dX8_addNetwork_7 : decode cX8_addNetwork 7 = .ok (.getfield 89, 3) := by decide +kernel
theorem dX8_addNetwork_10 : decode cX8_addNetwork 10 = .ok (.iconst 4, 1) := by decide +kernel
theorem dX8_addNetwork_11 : decode cX8_addNetwork 11 = .ok (.if_icmp .ge 7, 3) := by decide +kernel
theorem dX8_addNetwork_14 : decode cX8_addNetwork 14 = .ok (.iconst 1, 1) := by decide +kernel
theorem dX8_addNetwork_15 : decode cX8_addNetwork 15 = .ok (.goto 4, 3) := by decide +kernel
theorem dX8_addNetwork_18 : decode cX8_addNetwork 18 = .ok (.iconst 0, 1) := by decide +kernel
theorem dX8_addNetwork_19 : decode cX8_addNetwork 19 = .ok (.istore 4, 2) := by decide +kernel
theorem dX8_addNetwork_21 : decode cX8_addNetwork 21 = .ok (.iconst 0, 1) := by decide +kernel
theorem dX8_addNetwork_22 : decode cX8_addNetwork 22 = .ok (.istore 5, 2) := by decide +kernel
theorem dX8_addNetwork_24 : decode cX8_addNetwork 24 = .ok (.iload 5, 2) := by decide +kernel
theorem dX8_addNetwork_26 : decode cX8_addNetwork 26 = .ok (.aload_n 0, 1) := by decide +kernel
theorem dX8_addNetwork_27 : decode cX8_addNetwork 27 = .ok (.getfield 89, 3) := by decide +kernel
theorem dX8_addNetwork_30 : decode cX8_addNetwork 30 = .ok (.if_icmp .ge 43, 3) := by decide +kernel
theorem dX8_addNetwork_33 : decode cX8_addNetwork 33 = .ok (.iload_n 3, 1) := by decide +kernel
theorem dX8_addNetwork_34 : decode cX8_addNetwork 34 = .ok (.ifCond .eq 39, 3) := by decide +kernel
theorem dX8_addNetwork_37 : decode cX8_addNetwork 37 = .ok (.iload 4, 2) := by decide +kernel
theorem dX8_addNetwork_39 : decode cX8_addNetwork 39 = .ok (.ifCond .eq 25, 3) := by decide +kernel
theorem dX8_addNetwork_42 : decode cX8_addNetwork 42 = .ok (.aload_n 0, 1) := by decide +kernel
theorem dX8_addNetwork_43 : decode cX8_addNetwork 43 = .ok (.getfield 7, 3) := by decide +kernel
theorem dX8_addNetwork_46 : decode cX8_addNetwork 46 = .ok (.iload 5, 2) := by decide +kernel
theorem dX8_addNetwork_48 : decode cX8_addNetwork 48 = .ok (.iaload, 1) := by decide +kernel
theorem dX8_addNetwork_49 : decode cX8_addNetwork 49 = .ok (.iload_n 1, 1) := by decide +kernel
theorem dX8_addNetwork_50 : decode cX8_addNetwork 50 = .ok (.iload_n 2, 1) := by decide +kernel
theorem dX8_addNetwork_51 : decode cX8_addNetwork 51 = .ok (.invokestatic 92, 3) := by decide +kernel
theorem dX8_addNetwork_54 : decode cX8_addNetwork 54 = .ok (.invokestatic 96, 3) := by decide +kernel
theorem dX8_addNetwork_57 : decode cX8_addNetwork 57 = .ok (.ifCond .ne 7, 3) := by decide +kernel
theorem dX8_addNetwork_60 : decode cX8_addNetwork 60 = .ok (.iconst 1, 1) := by decide +kernel
theorem dX8_addNetwork_61 : decode cX8_addNetwork 61 = .ok (.goto 4, 3) := by decide +kernel
theorem dX8_addNetwork_64 : decode cX8_addNetwork 64 = .ok (.iconst 0, 1) := by decide +kernel
theorem dX8_addNetwork_65 : decode cX8_addNetwork 65 = .ok (.istore 4, 2) := by decide +kernel
theorem dX8_addNetwork_67 : decode cX8_addNetwork 67 = .ok (.iinc 5 1, 3) := by decide +kernel
theorem dX8_addNetwork_70 : decode cX8_addNetwork 70 = .ok (.goto (-46), 3) := by decide +kernel
theorem dX8_addNetwork_73 : decode cX8_addNetwork 73 = .ok (.aload_n 0, 1) := by decide +kernel
theorem dX8_addNetwork_74 : decode cX8_addNetwork 74 = .ok (.iload_n 3, 1) := by decide +kernel
theorem dX8_addNetwork_75 : decode cX8_addNetwork 75 = .ok (.ifCond .ne 7, 3) := by decide +kernel
theorem dX8_addNetwork_78 : decode cX8_addNetwork 78 = .ok (.iconst 1, 1) := by decide +kernel
theorem dX8_addNetwork_79 : decode cX8_addNetwork 79 = .ok (.goto 13, 3) := by decide +kernel
theorem dX8_addNetwork_82 : decode cX8_addNetwork 82 = .ok (.iload 4, 2) := by decide +kernel
theorem dX8_addNetwork_84 : decode cX8_addNetwork 84 = .ok (.ifCond .eq 7, 3) := by decide +kernel
theorem dX8_addNetwork_87 : decode cX8_addNetwork 87 = .ok (.iconst 0, 1) := by decide +kernel
theorem dX8_addNetwork_88 : decode cX8_addNetwork 88 = .ok (.goto 4, 3) := by decide +kernel
theorem dX8_addNetwork_91 : decode cX8_addNetwork 91 = .ok (.iconst 2, 1) := by decide +kernel
theorem dX8_addNetwork_92 : decode cX8_addNetwork 92 = .ok (.invokevirtual 99, 3) := by decide +kernel
theorem dX8_addNetwork_95 : decode cX8_addNetwork 95 = .ok (.ifCond .ne 5, 3) := by decide +kernel
theorem dX8_addNetwork_98 : decode cX8_addNetwork 98 = .ok (.iconst 0, 1) := by decide +kernel
theorem dX8_addNetwork_99 : decode cX8_addNetwork 99 = .ok (.ireturn, 1) := by decide +kernel
theorem dX8_addNetwork_100 : decode cX8_addNetwork 100 = .ok (.aload_n 0, 1) := by decide +kernel
theorem dX8_addNetwork_101 : decode cX8_addNetwork 101 = .ok (.getfield 7, 3) := by decide +kernel
theorem dX8_addNetwork_104 : decode cX8_addNetwork 104 = .ok (.aload_n 0, 1) := by decide +kernel
theorem dX8_addNetwork_105 : decode cX8_addNetwork 105 = .ok (.getfield 89, 3) := by decide +kernel
theorem dX8_addNetwork_108 : decode cX8_addNetwork 108 = .ok (.iload_n 1, 1) := by decide +kernel
theorem dX8_addNetwork_109 : decode cX8_addNetwork 109 = .ok (.iload_n 2, 1) := by decide +kernel
theorem dX8_addNetwork_110 : decode cX8_addNetwork 110 = .ok (.invokestatic 92, 3) := by decide +kernel
theorem dX8_addNetwork_113 : decode cX8_addNetwork 113 = .ok (.iastore, 1) := by decide +kernel
theorem dX8_addNetwork_114 : decode cX8_addNetwork 114 = .ok (.aload_n 0, 1) := by decide +kernel
theorem dX8_addNetwork_115 : decode cX8_addNetwork 115 = .ok (.dup, 1) := by decide +kernel
theorem dX8_addNetwork_116 : decode cX8_addNetwork 116 = .ok (.getfield 89, 3) := by decide +kernel
theorem dX8_addNetwork_119 : decode cX8_addNetwork 119 = .ok (.iconst 1, 1) := by decide +kernel
theorem dX8_addNetwork_120 : decode cX8_addNetwork 120 = .ok (.iadd, 1) := by decide +kernel
theorem dX8_addNetwork_121 : decode cX8_addNetwork 121 = .ok (.putfield 89, 3) := by decide +kernel
theorem dX8_addNetwork_124 : decode cX8_addNetwork 124 = .ok (.aload_n 0, 1) := by decide +kernel
theorem dX8_addNetwork_125 : decode cX8_addNetwork 125 = .ok (.getfield 89, 3) := by decide +kernel
theorem dX8_addNetwork_128 : decode cX8_addNetwork 128 = .ok (.iconst 1, 1) := by decide +kernel
theorem dX8_addNetwork_129 : decode cX8_addNetwork 129 = .ok (.isub, 1) := by decide +kernel
theorem dX8_addNetwork_130 : decode cX8_addNetwork 130 = .ok (.ireturn, 1) := by decide +kernel
set_option maxRecDepth 20000 in
theorem ggX8_addSubnet_X8_isIn : GoodIn wsX8_addSubnet wsX8_isIn := goodIn_r _ [9] (by decide +kernel) (by decide +kernel)
set_option maxRecDepth 20000 in
theorem gX8_addSubnet_X8_isIn : GoodIn wsX8_addSubnet (va_wsS RX8 103 yX8_isIn wsX8_isIn) := goodIn_app (goodIn_of _ (by decide +kernel)) ggX8_addSubnet_X8_isIn
set_option maxRecDepth 20000 in
theorem ggX8_addSubnet_X8_isBlock : GoodIn wsX8_addSubnet wsX8_isBlock := goodIn_r _ [12] (by decide +kernel) (by decide +kernel)
set_option maxRecDepth 20000 in
theorem gX8_addSubnet_X8_isBlock : GoodIn wsX8_addSubnet (va_wsS RX8 86 yX8_isBlock wsX8_isBlock) := goodIn_app (goodIn_of _ (by decide +kernel)) ggX8_addSubnet_X8_isBlock
set_option maxRecDepth 20000 in
theorem ggX8_addSubnet_X8_has : GoodIn wsX8_addSubnet wsX8_has := goodIn_r _ [15, 16, 17, 8, 18, 19, 20, 21] (by decide +kernel) (by decide +kernel)
set_option maxRecDepth 20000 in
theorem gX8_addSubnet_X8_has : GoodIn wsX8_addSubnet (va_wsS RX8 82 yX8_has wsX8_has) := goodIn_app (goodIn_of _ (by decide +kernel)) ggX8_addSubnet_X8_has
set_option maxRecDepth 20000 in
theorem ggX8_addSubnet_X8_block : GoodIn wsX8_addSubnet wsX8_block := goodIn_r _ [24] (by decide +kernel) (by decide +kernel)
set_option maxRecDepth 20000 in
theorem gX8_addSubnet_X8_block : GoodIn wsX8_addSubnet (va_wsS RX8 92 yX8_block wsX8_block) := goodIn_app (goodIn_of _ (by decide +kernel)) ggX8_addSubnet_X8_block
set_option maxRecDepth 20000 in
theorem ggX8_addSubnet_X8_haveCommon : GoodIn wsX8_addSubnet wsX8_haveCommon := goodIn_r _ [27, 16, 17, 8, 18, 13, 14, 15, 19, 20, 21] (by decide +kernel) (by decide +kernel)
set_option maxRecDepth 20000 in
theorem gX8_addSubnet_X8_haveCommon : GoodIn wsX8_addSubnet (va_wsS RX8 96 yX8_haveCommon wsX8_haveCommon) := goodIn_app (goodIn_of _ (by decide +kernel)) ggX8_addSubnet_X8_haveCommon
set_option maxRecDepth 20000 in
theorem ggX8_addSubnet_X8_holds : GoodIn wsX8_addSubnet wsX8_holds := goodIn_r _ [31, 32, 33, 34, 35, 36, 37, 38, 39, 40, 41, 42, 43, 44, 45, 46, 47, 48, 49, 50, 51, 52, 53, 54, 55, 56, 57, 58] (by decide +kernel) (by decide +kernel)
set_option maxRecDepth 20000 in
theorem gX8_addSubnet_X8_holds : GoodIn wsX8_addSubnet (wsV RX8 99 RX8 yX8_holds wsX8_holds) := goodIn_app (goodIn_of _ (by decide +kernel)) ggX8_addSubnet_X8_holds
theorem dX8_addSubnet_0 : decode cX8_addSubnet 0 = .ok (.iload_n 1, 1) := by decide +kernel
theorem dX8_addSubnet_1 : decode cX8_addSubnet 1 = .ok (.aload_n 0, 1) := by decide +kernel
theorem dX8_addSubnet_2 : decode cX8_addSubnet 2 = .ok (.getfield 89, 3) := by decide +kernel
theorem dX8_addSubnet_5 : decode cX8_addSubnet 5 = .ok (.invokestatic 103, 3) := by decide +kernel
theorem dX8_addSubnet_8 : decode cX8_addSubnet 8 = .ok (.istore 4, 2) := by decide +kernel
theorem dX8_addSubnet_10 : decode cX8_addSubnet 10 = .ok (.iload 4, 2) := by decide +kernel
theorem dX8_addSubnet_12 : decode cX8_addSubnet 12 = .ok (.ifCond .eq 41, 3) := by decide +kernel
theorem dX8_addSubnet_15 : decode cX8_addSubnet 15 = .ok (.iload_n 2, 1) := by decide +kernel
theorem dX8_addSubnet_16 : decode cX8_addSubnet 16 = .ok (.iload_n 3, 1) := by decide +kernel
theorem dX8_addSubnet_17 : decode cX8_addSubnet 17 = .ok (.invokestatic 86, 3) := by decide +kernel
theorem dX8_addSubnet_20 : decode cX8_addSubnet 20 = .ok (.ifCond .eq 33, 3) := by decide +kernel
theorem dX8_addSubnet_23 : decode cX8_addSubnet 23 = .ok (.iload_n 3, 1) := by decide +kernel
theorem dX8_addSubnet_24 : decode cX8_addSubnet 24 = .ok (.aload_n 0, 1) := by decide +kernel
theorem dX8_addSubnet_25 : decode cX8_addSubnet 25 = .ok (.getfield 7, 3) := by decide +kernel
theorem dX8_addSubnet_28 : decode cX8_addSubnet 28 = .ok (.iload_n 1, 1) := by decide +kernel
theorem dX8_addSubnet_29 : decode cX8_addSubnet 29 = .ok (.iaload, 1) := by decide +kernel
theorem dX8_addSubnet_30 : decode cX8_addSubnet 30 = .ok (.bipush 16, 2) := by decide +kernel
theorem dX8_addSubnet_32 : decode cX8_addSubnet 32 = .ok (.irem, 1) := by decide +kernel
theorem dX8_addSubnet_33 : decode cX8_addSubnet 33 = .ok (.if_icmp .gt 20, 3) := by decide +kernel
theorem dX8_addSubnet_36 : decode cX8_addSubnet 36 = .ok (.aload_n 0, 1) := by decide +kernel
theorem dX8_addSubnet_37 : decode cX8_addSubnet 37 = .ok (.getfield 7, 3) := by decide +kernel
theorem dX8_addSubnet_40 : decode cX8_addSubnet 40 = .ok (.iload_n 1, 1) := by decide +kernel
theorem dX8_addSubnet_41 : decode cX8_addSubnet 41 = .ok (.iaload, 1) := by decide +kernel
theorem dX8_addSubnet_42 : decode cX8_addSubnet 42 = .ok (.iload_n 2, 1) := by decide +kernel
theorem dX8_addSubnet_43 : decode cX8_addSubnet 43 = .ok (.invokestatic 82, 3) := by decide +kernel
theorem dX8_addSubnet_46 : decode cX8_addSubnet 46 = .ok (.ifCond .eq 7, 3) := by decide +kernel
theorem dX8_addSubnet_49 : decode cX8_addSubnet 49 = .ok (.iconst 1, 1) := by decide +kernel
theorem dX8_addSubnet_50 : decode cX8_addSubnet 50 = .ok (.goto 4, 3) := by decide +kernel
theorem dX8_addSubnet_53 : decode cX8_addSubnet 53 = .ok (.iconst 0, 1) := by decide +kernel
theorem dX8_addSubnet_54 : decode cX8_addSubnet 54 = .ok (.istore 5, 2) := by decide +kernel
theorem dX8_addSubnet_56 : decode cX8_addSubnet 56 = .ok (.aload_n 0, 1) := by decide +kernel
theorem dX8_addSubnet_57 : decode cX8_addSubnet 57 = .ok (.getfield 106, 3) := by decide +kernel
theorem dX8_addSubnet_60 : decode cX8_addSubnet 60 = .ok (.bipush 8, 2) := by decide +kernel
theorem dX8_addSubnet_62 : decode cX8_addSubnet 62 = .ok (.if_icmp .ge 7, 3) := by decide +kernel
theorem dX8_addSubnet_65 : decode cX8_addSubnet 65 = .ok (.iconst 1, 1) := by decide +kernel
theorem dX8_addSubnet_66 : decode cX8_addSubnet 66 = .ok (.goto 4, 3) := by decide +kernel
theorem dX8_addSubnet_69 : decode cX8_addSubnet 69 = .ok (.iconst 0, 1) := by decide +kernel
theorem dX8_addSubnet_70 : decode cX8_addSubnet 70 = .ok (.istore 6, 2) := by decide +kernel
theorem dX8_addSubnet_72 : decode cX8_addSubnet 72 = .ok (.iconst 0, 1) := by decide +kernel
theorem dX8_addSubnet_73 : decode cX8_addSubnet 73 = .ok (.istore 7, 2) := by decide +kernel
theorem dX8_addSubnet_75 : decode cX8_addSubnet 75 = .ok (.iload 7, 2) := by decide +kernel
theorem dX8_addSubnet_77 : decode cX8_addSubnet 77 = .ok (.aload_n 0, 1) := by decide +kernel
theorem dX8_addSubnet_78 : decode cX8_addSubnet 78 = .ok (.getfield 106, 3) := by decide +kernel
theorem dX8_addSubnet_81 : decode cX8_addSubnet 81 = .ok (.if_icmp .ge 44, 3) := by decide +kernel
theorem dX8_addSubnet_84 : decode cX8_addSubnet 84 = .ok (.iload 5, 2) := by decide +kernel
theorem dX8_addSubnet_86 : decode cX8_addSubnet 86 = .ok (.ifCond .eq 39, 3) := by decide +kernel
theorem dX8_addSubnet_89 : decode cX8_addSubnet 89 = .ok (.iload 6, 2) := by decide +kernel
theorem dX8_addSubnet_91 : decode cX8_addSubnet 91 = .ok (.ifCond .eq 25, 3) := by decide +kernel
theorem dX8_addSubnet_94 : decode cX8_addSubnet 94 = .ok (.aload_n 0, 1) := by decide +kernel
theorem dX8_addSubnet_95 : decode cX8_addSubnet 95 = .ok (.getfield 16, 3) := by decide +kernel
theorem dX8_addSubnet_98 : decode cX8_addSubnet 98 = .ok (.iload 7, 2) := by decide +kernel
theorem dX8_addSubnet_100 : decode cX8_addSubnet 100 = .ok (.iaload, 1) := by decide +kernel
theorem dX8_addSubnet_101 : decode cX8_addSubnet 101 = .ok (.iload_n 2, 1) := by decide +kernel
theorem dX8_addSubnet_102 : decode cX8_addSubnet 102 = .ok (.iload_n 3, 1) := by decide +kernel
theorem dX8_addSubnet_103 : decode cX8_addSubnet 103 = .ok (.invokestatic 92, 3) := by decide +kernel
theorem dX8_addSubnet_106 : decode cX8_addSubnet 106 = .ok (.invokestatic 96, 3) := by decide +kernel
theorem dX8_addSubnet_109 : decode cX8_addSubnet 109 = .ok (.ifCond .ne 7, 3) := by decide +kernel
theorem dX8_addSubnet_112 : decode cX8_addSubnet 112 = .ok (.iconst 1, 1) := by decide +kernel
theorem dX8_addSubnet_113 : decode cX8_addSubnet 113 = .ok (.goto 4, 3) := by decide +kernel
theorem dX8_addSubnet_116 : decode cX8_addSubnet 116 = .ok (.iconst 0, 1) := by decide +kernel
theorem dX8_addSubnet_117 : decode cX8_addSubnet 117 = .ok (.istore 6, 2) := by decide +kernel
theorem dX8_addSubnet_119 : decode cX8_addSubnet 119 = .ok (.iinc 7 1, 3) := by decide +kernel
theorem dX8_addSubnet_122 : decode cX8_addSubnet 122 = .ok (.goto (-47), 3) := by decide +kernel
theorem dX8_addSubnet_125 : decode cX8_addSubnet 125 = .ok (.aload_n 0, 1) := by decide +kernel
theorem dX8_addSubnet_126 : decode cX8_addSubnet 126 = .ok (.iload 4, 2) := by decide +kernel
theorem dX8_addSubnet_128 : decode cX8_addSubnet 128 = .ok (.ifCond .ne 7, 3) := by decide +kernel
theorem dX8_addSubnet_131 : decode cX8_addSubnet 131 = .ok (.iconst 1, 1) := by decide +kernel
theorem dX8_addSubnet_132 : decode cX8_addSubnet 132 = .ok (.goto 22, 3) := by decide +kernel
theorem dX8_addSubnet_135 : decode cX8_addSubnet 135 = .ok (.iload 5, 2) := by decide +kernel
theorem dX8_addSubnet_137 : decode cX8_addSubnet 137 = .ok (.ifCond .ne 7, 3) := by decide +kernel
theorem dX8_addSubnet_140 : decode cX8_addSubnet 140 = .ok (.iconst 2, 1) := by decide +kernel
theorem dX8_addSubnet_141 : decode cX8_addSubnet 141 = .ok (.goto 13, 3) := by decide +kernel
theorem dX8_addSubnet_144 : decode cX8_addSubnet 144 = .ok (.iload 6, 2) := by decide +kernel
theorem dX8_addSubnet_146 : decode cX8_addSubnet 146 = .ok (.ifCond .eq 7, 3) := by decide +kernel
theorem dX8_addSubnet_149 : decode cX8_addSubnet 149 = .ok (.iconst 0, 1) := by decide +kernel
theorem dX8_addSubnet_150 : decode cX8_addSubnet 150 = .ok (.goto 4, 3) := by decide +kernel
theorem dX8_addSubnet_153 : decode cX8_addSubnet 153 = .ok (.iconst 3, 1) := by decide +kernel
theorem dX8_addSubnet_154 : decode cX8_addSubnet 154 = .ok (.invokevirtual 99, 3) := by decide +kernel
theorem dX8_addSubnet_157 : decode cX8_addSubnet 157 = .ok (.ifCond .ne 5, 3) := by decide +kernel
theorem dX8_addSubnet_160 : decode cX8_addSubnet 160 = .ok (.iconst 0, 1) := by decide +kernel
theorem dX8_addSubnet_161 : decode cX8_addSubnet 161 = .ok (.ireturn, 1) := by decide +kernel
theorem dX8_addSubnet_162 : decode cX8_addSubnet 162 = .ok (.aload_n 0, 1) := by decide +kernel
theorem dX8_addSubnet_163 : decode cX8_addSubnet 163 = .ok (.getfield 13, 3) := by decide +kernel
theorem dX8_addSubnet_166 : decode cX8_addSubnet 166 = .ok (.aload_n 0, 1) := by decide +kernel
theorem dX8_addSubnet_167 : decode cX8_addSubnet 167 = .ok (.getfield 106, 3) := by decide +kernel
theorem dX8_addSubnet_170 : decode cX8_addSubnet 170 = .ok (.iload_n 1, 1) := by decide +kernel
theorem dX8_addSubnet_171 : decode cX8_addSubnet 171 = .ok (.iastore, 1) := by decide +kernel
theorem dX8_addSubnet_172 : decode cX8_addSubnet 172 = .ok (.aload_n 0, 1) := by decide +kernel
theorem dX8_addSubnet_173 : decode cX8_addSubnet 173 = .ok (.getfield 16, 3) := by decide +kernel
theorem dX8_addSubnet_176 : decode cX8_addSubnet 176 = .ok (.aload_n 0, 1) := by decide +kernel
theorem dX8_addSubnet_177 : decode cX8_addSubnet 177 = .ok (.getfield 106, 3) := by decide +kernel
theorem dX8_addSubnet_180 : decode cX8_addSubnet 180 = .ok (.iload_n 2, 1) := by decide +kernel
theorem dX8_addSubnet_181 : decode cX8_addSubnet 181 = .ok (.iload_n 3, 1) := by decide +kernel
theorem dX8_addSubnet_182 : decode cX8_addSubnet 182 = .ok (.invokestatic 92, 3) := by decide +kernel
theorem dX8_addSubnet_185 : decode cX8_addSubnet 185 = .ok (.iastore, 1) := by decide +kernel
theorem dX8_addSubnet_186 : decode cX8_addSubnet 186 = .ok (.aload_n 0, 1) := by decide +kernel
theorem dX8_addSubnet_187 : decode cX8_addSubnet 187 = .ok (.dup, 1) := by decide +kernel
theorem dX8_addSubnet_188 : decode cX8_addSubnet 188 = .ok (.getfield 106, 3) := by decide +kernel
theorem dX8_addSubnet_191 : decode cX8_addSubnet 191 = .ok (.iconst 1, 1) := by decide +kernel
theorem dX8_addSubnet_192 : decode cX8_addSubnet 192 = .ok (.iadd, 1) := by decide +kernel
theorem dX8_addSubnet_193 : decode cX8_addSubnet 193 = .ok (.putfield 106, 3) := by decide +kernel
theorem dX8_addSubnet_196 : decode cX8_addSubnet 196 = .ok (.aload_n 0, 1) := by decide +kernel
theorem dX8_addSubnet_197 : decode cX8_addSubnet 197 = .ok (.getfield 106, 3) := by decide +kernel
theorem dX8_addSubnet_200 : decode cX8_addSubnet 200 = .ok (.iconst 1, 1) := by decide +kernel
theorem dX8_addSubnet_201 : decode cX8_addSubnet 201 = .ok (.isub, 1) := by decide +kernel
theorem dX8_addSubnet_202 : decode cX8_addSubnet 202 = .ok (.ireturn, 1) := by decide +kernel
set_option maxRecDepth 20000 in
theorem ggX8_addHost_X8_isIn : GoodIn wsX8_addHost wsX8_isIn := goodIn_r _ [9] (by decide +kernel) (by decide +kernel)
set_option maxRecDepth 20000 in
theorem gX8_addHost_X8_isIn : GoodIn wsX8_addHost (va_wsS RX8 103 yX8_isIn wsX8_isIn) := goodIn_app (goodIn_of _ (by decide +kernel)) ggX8_addHost_X8_isIn
set_option maxRecDepth 20000 in
theorem ggX8_addHost_X8_has : GoodIn wsX8_addHost wsX8_has := goodIn_r _ [12, 13, 14, 8, 15, 16, 17, 18] (by decide +kernel) (by decide +kernel)
set_option maxRecDepth 20000 in
theorem gX8_addHost_X8_has : GoodIn wsX8_addHost (va_wsS RX8 82 yX8_has wsX8_has) := goodIn_app (goodIn_of _ (by decide +kernel)) ggX8_addHost_X8_has
set_option maxRecDepth 20000 in
theorem ggX8_addHost_X8_holds : GoodIn wsX8_addHost wsX8_holds := goodIn_r _ [22, 23, 24, 25, 26, 27, 28, 29, 30, 31, 32, 33, 34, 35, 36, 37, 38, 39, 40, 41, 42, 43, 44, 45, 46, 47, 48, 49] (by decide +kernel) (by decide +kernel)
set_option maxRecDepth 20000 in
theorem gX8_addHost_X8_holds : GoodIn wsX8_addHost (wsV RX8 99 RX8 yX8_holds wsX8_holds) := goodIn_app (goodIn_of _ (by decide +kernel)) ggX8_addHost_X8_holds
theorem dX8_addHost_0 : decode cX8_addHost 0 = .ok (.iload_n 1, 1) := by decide +kernel
theorem dX8_addHost_1 : decode cX8_addHost 1 = .ok (.aload_n 0, 1) := by decide +kernel
theorem dX8_addHost_2 : decode cX8_addHost 2 = .ok (.getfield 106, 3) := by decide +kernel
theorem dX8_addHost_5 : decode cX8_addHost 5 = .ok (.invokestatic 103, 3) := by decide +kernel
theorem dX8_addHost_8 : decode cX8_addHost 8 = .ok (.istore_n 3, 1) := by decide +kernel
theorem dX8_addHost_9 : decode cX8_addHost 9 = .ok (.iload_n 3, 1) := by decide +kernel
theorem dX8_addHost_10 : decode cX8_addHost 10 = .ok (.ifCond .eq 20, 3) := by decide +kernel
theorem dX8_addHost_13 : decode cX8_addHost 13 = .ok (.aload_n 0, 1) := by decide +kernel
theorem dX8_addHost_14 : decode cX8_addHost 14 = .ok (.getfield 16, 3) := by decide +kernel
theorem dX8_addHost_17 : decode cX8_addHost 17 = .ok (.iload_n 1, 1) := by decide +kernel
theorem dX8_addHost_18 : decode cX8_addHost 18 = .ok (.iaload, 1) := by decide +kernel
theorem dX8_addHost_19 : decode cX8_addHost 19 = .ok (.iload_n 2, 1) := by decide +kernel
theorem dX8_addHost_20 : decode cX8_addHost 20 = .ok (.invokestatic 82, 3) := by decide +kernel
theorem dX8_addHost_23 : decode cX8_addHost 23 = .ok (.ifCond .eq 7, 3) := by decide +kernel
theorem dX8_addHost_26 : decode cX8_addHost 26 = .ok (.iconst 1, 1) := by decide +kernel
theorem dX8_addHost_27 : decode cX8_addHost 27 = .ok (.goto 4, 3) := by decide +kernel
theorem dX8_addHost_30 : decode cX8_addHost 30 = .ok (.iconst 0, 1) := by decide +kernel
theorem dX8_addHost_31 : decode cX8_addHost 31 = .ok (.istore 4, 2) := by decide +kernel
theorem dX8_addHost_33 : decode cX8_addHost 33 = .ok (.aload_n 0, 1) := by decide +kernel
theorem dX8_addHost_34 : decode cX8_addHost 34 = .ok (.getfield 109, 3) := by decide +kernel
theorem dX8_addHost_37 : decode cX8_addHost 37 = .ok (.bipush 12, 2) := by decide +kernel
theorem dX8_addHost_39 : decode cX8_addHost 39 = .ok (.if_icmp .ge 7, 3) := by decide +kernel
theorem dX8_addHost_42 : decode cX8_addHost 42 = .ok (.iconst 1, 1) := by decide +kernel
theorem dX8_addHost_43 : decode cX8_addHost 43 = .ok (.goto 4, 3) := by decide +kernel
theorem dX8_addHost_46 : decode cX8_addHost 46 = .ok (.iconst 0, 1) := by decide +kernel
theorem dX8_addHost_47 : decode cX8_addHost 47 = .ok (.istore 5, 2) := by decide +kernel
theorem dX8_addHost_49 : decode cX8_addHost 49 = .ok (.iconst 0, 1) := by decide +kernel
theorem dX8_addHost_50 : decode cX8_addHost 50 = .ok (.istore 6, 2) := by decide +kernel
theorem dX8_addHost_52 : decode cX8_addHost 52 = .ok (.iload 6, 2) := by decide +kernel
theorem dX8_addHost_54 : decode cX8_addHost 54 = .ok (.aload_n 0, 1) := by decide +kernel
theorem dX8_addHost_55 : decode cX8_addHost 55 = .ok (.getfield 109, 3) := by decide +kernel
theorem dX8_addHost_58 : decode cX8_addHost 58 = .ok (.if_icmp .ge 32, 3) := by decide +kernel
theorem dX8_addHost_61 : decode cX8_addHost 61 = .ok (.iload 5, 2) := by decide +kernel
theorem dX8_addHost_63 : decode cX8_addHost 63 = .ok (.ifCond .eq 18, 3) := by decide +kernel
theorem dX8_addHost_66 : decode cX8_addHost 66 = .ok (.aload_n 0, 1) := by decide +kernel
theorem dX8_addHost_67 : decode cX8_addHost 67 = .ok (.getfield 22, 3) := by decide +kernel
theorem dX8_addHost_70 : decode cX8_addHost 70 = .ok (.iload 6, 2) := by decide +kernel
theorem dX8_addHost_72 : decode cX8_addHost 72 = .ok (.iaload, 1) := by decide +kernel
theorem dX8_addHost_73 : decode cX8_addHost 73 = .ok (.iload_n 2, 1) := by decide +kernel
theorem dX8_addHost_74 : decode cX8_addHost 74 = .ok (.if_icmp .eq 7, 3) := by decide +kernel
theorem dX8_addHost_77 : decode cX8_addHost 77 = .ok (.iconst 1, 1) := by decide +kernel
theorem dX8_addHost_78 : decode cX8_addHost 78 = .ok (.goto 4, 3) := by decide +kernel
theorem dX8_addHost_81 : decode cX8_addHost 81 = .ok (.iconst 0, 1) := by decide +kernel
theorem dX8_addHost_82 : decode cX8_addHost 82 = .ok (.istore 5, 2) := by decide +kernel
theorem dX8_addHost_84 : decode cX8_addHost 84 = .ok (.iinc 6 1, 3) := by decide +kernel
theorem dX8_addHost_87 : decode cX8_addHost 87 = .ok (.goto (-35), 3) := by decide +kernel
theorem dX8_addHost_90 : decode cX8_addHost 90 = .ok (.aload_n 0, 1) := by decide +kernel
theorem dX8_addHost_91 : decode cX8_addHost 91 = .ok (.iload_n 3, 1) := by decide +kernel
theorem dX8_addHost_92 : decode cX8_addHost 92 = .ok (.ifCond .ne 7, 3) := by decide +kernel
theorem dX8_addHost_95 : decode cX8_addHost 95 = .ok (.iconst 1, 1) := by decide +kernel
theorem dX8_addHost_96 : decode cX8_addHost 96 = .ok (.goto 22, 3) := by decide +kernel
theorem dX8_addHost_99 : decode cX8_addHost 99 = .ok (.iload 4, 2) := by decide +kernel
theorem dX8_addHost_101 : decode cX8_addHost 101 = .ok (.ifCond .ne 7, 3) := by decide +kernel
theorem dX8_addHost_104 : decode cX8_addHost 104 = .ok (.iconst 2, 1) := by decide +kernel
theorem dX8_addHost_105 : decode cX8_addHost 105 = .ok (.goto 13, 3) := by decide +kernel
theorem dX8_addHost_108 : decode cX8_addHost 108 = .ok (.iload 5, 2) := by decide +kernel
theorem dX8_addHost_110 : decode cX8_addHost 110 = .ok (.ifCond .eq 7, 3) := by decide +kernel
theorem dX8_addHost_113 : decode cX8_addHost 113 = .ok (.iconst 0, 1) := by decide +kernel
theorem dX8_addHost_114 : decode cX8_addHost 114 = .ok (.goto 4, 3) := by decide +kernel
theorem dX8_addHost_117 : decode cX8_addHost 117 = .ok (.iconst 3, 1) := by decide +kernel
theorem dX8_addHost_118 : decode cX8_addHost 118 = .ok (.invokevirtual 99, 3) := by decide +kernel
theorem dX8_addHost_121 : decode cX8_addHost 121 = .ok (.ifCond .ne 5, 3) := by decide +kernel
theorem dX8_addHost_124 : decode cX8_addHost 124 = .ok (.iconst 0, 1) := by decide +kernel
theorem dX8_addHost_125 : decode cX8_addHost 125 = .ok (.ireturn, 1) := by decide +kernel
theorem dX8_addHost_126 : decode cX8_addHost 126 = .ok (.aload_n 0, 1) := by decide +kernel
theorem dX8_addHost_127 : decode cX8_addHost 127 = .ok (.getfield 19, 3) := by decide +kernel
theorem dX8_addHost_130 : decode cX8_addHost 130 = .ok (.aload_n 0, 1) := by decide +kernel
theorem dX8_addHost_131 : decode cX8_addHost 131 = .ok (.getfield 109, 3) := by decide +kernel
theorem dX8_addHost_134 : decode cX8_addHost 134 = .ok (.iload_n 1, 1) := by decide +kernel
theorem dX8_addHost_135 : decode cX8_addHost 135 = .ok (.iastore, 1) := by decide +kernel
theorem dX8_addHost_136 : decode cX8_addHost 136 = .ok (.aload_n 0, 1) := by decide +kernel
theorem dX8_addHost_137 : decode cX8_addHost 137 = .ok (.getfield 22, 3) := by decide +kernel
theorem dX8_addHost_140 : decode cX8_addHost 140 = .ok (.aload_n 0, 1) := by decide +kernel
theorem dX8_addHost_141 : decode cX8_addHost 141 = .ok (.getfield 109, 3) := by decide +kernel
theorem dX8_addHost_144 : decode cX8_addHost 144 = .ok (.iload_n 2, 1) := by decide +kernel
theorem dX8_addHost_145 : decode cX8_addHost 145 = .ok (.iastore, 1) := by decide +kernel
theorem dX8_addHost_146 : decode cX8_addHost 146 = .ok (.aload_n 0, 1) := by decide +kernel
theorem dX8_addHost_147 : decode cX8_addHost 147 = .ok (.dup, 1) := by decide +kernel
theorem dX8_addHost_148 : decode cX8_addHost 148 = .ok (.getfield 109, 3) := by decide +kernel
theorem dX8_addHost_151 : decode cX8_addHost 151 = .ok (.iconst 1, 1) := by decide +kernel
theorem dX8_addHost_152 : decode cX8_addHost 152 = .ok (.iadd, 1) := by decide +kernel
theorem dX8_addHost_153 : decode cX8_addHost 153 = .ok (.putfield 109, 3) := by decide +kernel
theorem dX8_addHost_156 : decode cX8_addHost 156 = .ok (.aload_n 0, 1) := by decide +kernel
theorem dX8_addHost_157 : decode cX8_addHost 157 = .ok (.getfield 109, 3) := by decide +kernel
theorem dX8_addHost_160 : decode cX8_addHost 160 = .ok (.iconst 1, 1) := by decide +kernel
theorem dX8_addHost_161 : decode cX8_addHost 161 = .ok (.isub, 1) := by decide +kernel
theorem dX8_addHost_162 : decode cX8_addHost 162 = .ok (.ireturn, 1) := by decide +kernel
set_option maxRecDepth 20000 in
theorem ggX8_addPeering_X8_isIn : GoodIn wsX8_addPeering wsX8_isIn := goodIn_r _ [8] (by decide +kernel) (by decide +kernel)
set_option maxRecDepth 20000 in
theorem gX8_addPeering_X8_isIn : GoodIn wsX8_addPeering (va_wsS RX8 103 yX8_isIn wsX8_isIn) := goodIn_app (goodIn_of _ (by decide +kernel)) ggX8_addPeering_X8_isIn
set_option maxRecDepth 20000 in
theorem ggX8_addPeering_X8_holds : GoodIn wsX8_addPeering wsX8_holds := goodIn_r _ [12, 13, 14, 15, 16, 17, 18, 19, 20, 21, 22, 23, 24, 25, 26, 27, 28, 29, 30, 31, 32, 33, 34, 35, 36, 37, 38, 39] (by decide +kernel) (by decide +kernel)
set_option maxRecDepth 20000 in
theorem gX8_addPeering_X8_holds : GoodIn wsX8_addPeering (wsV RX8 99 RX8 yX8_holds wsX8_holds) := goodIn_app (goodIn_of _ (by decide +kernel)) ggX8_addPeering_X8_holds
theorem dX8_addPeering_0 : decode cX8_addPeering 0 = .ok (.iload_n 1, 1) := by decide +kernel
theorem dX8_addPeering_1 : decode cX8_addPeering 1 = .ok (.aload_n 0, 1) := by decide +kernel
theorem dX8_addPeering_2 : decode cX8_addPeering 2 = .ok (.getfield 89, 3) := by decide +kernel
theorem dX8_addPeering_5 : decode cX8_addPeering 5 = .ok (.invokestatic 103, 3) := by decide +kernel
theorem dX8_addPeering_8 : decode cX8_addPeering 8 = .ok (.ifCond .eq 18, 3) := by decide +kernel
theorem dX8_addPeering_11 : decode cX8_addPeering 11 = .ok (.iload_n 2, 1) := by decide +kernel
theorem dX8_addPeering_12 : decode cX8_addPeering 12 = .ok (.aload_n 0, 1) := by decide +kernel
theorem dX8_addPeering_13 : decode cX8_addPeering 13 = .ok (.getfield 89, 3) := by decide +kernel
theorem dX8_addPeering_16 : decode cX8_addPeering 16 = .ok (.invokestatic 103, 3) := by decide +kernel
theorem dX8_addPeering_19 : decode cX8_addPeering 19 = .ok (.ifCond .eq 7, 3) := by decide +kernel
theorem dX8_addPeering_22 : decode cX8_addPeering 22 = .ok (.iconst 1, 1) := by decide +kernel
theorem dX8_addPeering_23 : decode cX8_addPeering 23 = .ok (.goto 4, 3) := by decide +kernel
theorem dX8_addPeering_26 : decode cX8_addPeering 26 = .ok (.iconst 0, 1) := by decide +kernel
theorem dX8_addPeering_27 : decode cX8_addPeering 27 = .ok (.istore_n 3, 1) := by decide +kernel
theorem dX8_addPeering_28 : decode cX8_addPeering 28 = .ok (.aload_n 0, 1) := by decide +kernel
theorem dX8_addPeering_29 : decode cX8_addPeering 29 = .ok (.iload_n 3, 1) := by decide +kernel
theorem dX8_addPeering_30 : decode cX8_addPeering 30 = .ok (.ifCond .ne 7, 3) := by decide +kernel
theorem dX8_addPeering_33 : decode cX8_addPeering 33 = .ok (.iconst 1, 1) := by decide +kernel
theorem dX8_addPeering_34 : decode cX8_addPeering 34 = .ok (.goto 26, 3) := by decide +kernel
theorem dX8_addPeering_37 : decode cX8_addPeering 37 = .ok (.iload_n 1, 1) := by decide +kernel
theorem dX8_addPeering_38 : decode cX8_addPeering 38 = .ok (.iload_n 2, 1) := by decide +kernel
theorem dX8_addPeering_39 : decode cX8_addPeering 39 = .ok (.if_icmp .ne 7, 3) := by decide +kernel
theorem dX8_addPeering_42 : decode cX8_addPeering 42 = .ok (.iconst 2, 1) := by decide +kernel
theorem dX8_addPeering_43 : decode cX8_addPeering 43 = .ok (.goto 17, 3) := by decide +kernel
theorem dX8_addPeering_46 : decode cX8_addPeering 46 = .ok (.aload_n 0, 1) := by decide +kernel
theorem dX8_addPeering_47 : decode cX8_addPeering 47 = .ok (.getfield 112, 3) := by decide +kernel
theorem dX8_addPeering_50 : decode cX8_addPeering 50 = .ok (.bipush 6, 2) := by decide +kernel
theorem dX8_addPeering_52 : decode cX8_addPeering 52 = .ok (.if_icmp .ne 7, 3) := by decide +kernel
theorem dX8_addPeering_55 : decode cX8_addPeering 55 = .ok (.iconst 3, 1) := by decide +kernel
theorem dX8_addPeering_56 : decode cX8_addPeering 56 = .ok (.goto 4, 3) := by decide +kernel
theorem dX8_addPeering_59 : decode cX8_addPeering 59 = .ok (.iconst 0, 1) := by decide +kernel
theorem dX8_addPeering_60 : decode cX8_addPeering 60 = .ok (.invokevirtual 99, 3) := by decide +kernel
theorem dX8_addPeering_63 : decode cX8_addPeering 63 = .ok (.ifCond .ne 5, 3) := by decide +kernel
theorem dX8_addPeering_66 : decode cX8_addPeering 66 = .ok (.iconst 0, 1) := by decide +kernel
theorem dX8_addPeering_67 : decode cX8_addPeering 67 = .ok (.ireturn, 1) := by decide +kernel
theorem dX8_addPeering_68 : decode cX8_addPeering 68 = .ok (.aload_n 0, 1) := by decide +kernel
theorem dX8_addPeering_69 : decode cX8_addPeering 69 = .ok (.getfield 28, 3) := by decide +kernel
theorem dX8_addPeering_72 : decode cX8_addPeering 72 = .ok (.aload_n 0, 1) := by decide +kernel
theorem dX8_addPeering_73 : decode cX8_addPeering 73 = .ok (.getfield 112, 3) := by decide +kernel
theorem dX8_addPeering_76 : decode cX8_addPeering 76 = .ok (.iload_n 1, 1) := by decide +kernel
theorem dX8_addPeering_77 : decode cX8_addPeering 77 = .ok (.iastore, 1) := by decide +kernel
theorem dX8_addPeering_78 : decode cX8_addPeering 78 = .ok (.aload_n 0, 1) := by decide +kernel
theorem dX8_addPeering_79 : decode cX8_addPeering 79 = .ok (.getfield 31, 3) := by decide +kernel
theorem dX8_addPeering_82 : decode cX8_addPeering 82 = .ok (.aload_n 0, 1) := by decide +kernel
theorem dX8_addPeering_83 : decode cX8_addPeering 83 = .ok (.getfield 112, 3) := by decide +kernel
theorem dX8_addPeering_86 : decode cX8_addPeering 86 = .ok (.iload_n 2, 1) := by decide +kernel
theorem dX8_addPeering_87 : decode cX8_addPeering 87 = .ok (.iastore, 1) := by decide +kernel
theorem dX8_addPeering_88 : decode cX8_addPeering 88 = .ok (.aload_n 0, 1) := by decide +kernel
theorem dX8_addPeering_89 : decode cX8_addPeering 89 = .ok (.dup, 1) := by decide +kernel
theorem dX8_addPeering_90 : decode cX8_addPeering 90 = .ok (.getfield 112, 3) := by decide +kernel
theorem dX8_addPeering_93 : decode cX8_addPeering 93 = .ok (.iconst 1, 1) := by decide +kernel
theorem dX8_addPeering_94 : decode cX8_addPeering 94 = .ok (.iadd, 1) := by decide +kernel
theorem dX8_addPeering_95 : decode cX8_addPeering 95 = .ok (.putfield 112, 3) := by decide +kernel
theorem dX8_addPeering_98 : decode cX8_addPeering 98 = .ok (.aload_n 0, 1) := by decide +kernel
theorem dX8_addPeering_99 : decode cX8_addPeering 99 = .ok (.getfield 112, 3) := by decide +kernel
theorem dX8_addPeering_102 : decode cX8_addPeering 102 = .ok (.iconst 1, 1) := by decide +kernel
theorem dX8_addPeering_103 : decode cX8_addPeering 103 = .ok (.isub, 1) := by decide +kernel
theorem dX8_addPeering_104 : decode cX8_addPeering 104 = .ok (.ireturn, 1) := by decide +kernel
set_option maxRecDepth 20000 in
theorem ggX8_addGroup_X8_holds : GoodIn wsX8_addGroup wsX8_holds := goodIn_r _ [6, 7, 8, 9, 10, 11, 12, 13, 14, 15, 16, 17, 18, 19, 20, 21, 22, 23, 24, 25, 26, 27, 28, 29, 30, 31, 32, 33] (by decide +kernel) (by decide +kernel)
set_option maxRecDepth 20000 in
theorem gX8_addGroup_X8_holds : GoodIn wsX8_addGroup (wsV RX8 99 RX8 yX8_holds wsX8_holds) := goodIn_app (goodIn_of _ (by decide +kernel)) ggX8_addGroup_X8_holds
theorem dX8_addGroup_0 : decode cX8_addGroup 0 = .ok (.aload_n 0, 1) := by decide +kernel
theorem dX8_addGroup_1 : decode cX8_addGroup 1 = .ok (.aload_n 0, 1) := by decide +kernel
theorem dX8_addGroup_2 : decode cX8_addGroup 2 = .ok (.getfield 115, 3) := by decide +kernel
theorem dX8_addGroup_5 : decode cX8_addGroup 5 = .ok (.bipush 6, 2) := by decide +kernel
theorem dX8_addGroup_7 : decode cX8_addGroup 7 = .ok (.if_icmp .ne 7, 3) := by decide +kernel
theorem dX8_addGroup_10 : decode cX8_addGroup 10 = .ok (.iconst 1, 1) := by decide +kernel
theorem dX8_addGroup_11 : decode cX8_addGroup 11 = .ok (.goto 4, 3) := by decide +kernel
theorem dX8_addGroup_14 : decode cX8_addGroup 14 = .ok (.iconst 0, 1) := by decide +kernel
theorem dX8_addGroup_15 : decode cX8_addGroup 15 = .ok (.invokevirtual 99, 3) := by decide +kernel
theorem dX8_addGroup_18 : decode cX8_addGroup 18 = .ok (.ifCond .ne 5, 3) := by decide +kernel
theorem dX8_addGroup_21 : decode cX8_addGroup 21 = .ok (.iconst 0, 1) := by decide +kernel
theorem dX8_addGroup_22 : decode cX8_addGroup 22 = .ok (.ireturn, 1) := by decide +kernel
theorem dX8_addGroup_23 : decode cX8_addGroup 23 = .ok (.aload_n 0, 1) := by decide +kernel
theorem dX8_addGroup_24 : decode cX8_addGroup 24 = .ok (.dup, 1) := by decide +kernel
theorem dX8_addGroup_25 : decode cX8_addGroup 25 = .ok (.getfield 115, 3) := by decide +kernel
theorem dX8_addGroup_28 : decode cX8_addGroup 28 = .ok (.iconst 1, 1) := by decide +kernel
theorem dX8_addGroup_29 : decode cX8_addGroup 29 = .ok (.iadd, 1) := by decide +kernel
theorem dX8_addGroup_30 : decode cX8_addGroup 30 = .ok (.putfield 115, 3) := by decide +kernel
theorem dX8_addGroup_33 : decode cX8_addGroup 33 = .ok (.aload_n 0, 1) := by decide +kernel
theorem dX8_addGroup_34 : decode cX8_addGroup 34 = .ok (.getfield 115, 3) := by decide +kernel
theorem dX8_addGroup_37 : decode cX8_addGroup 37 = .ok (.iconst 1, 1) := by decide +kernel
theorem dX8_addGroup_38 : decode cX8_addGroup 38 = .ok (.isub, 1) := by decide +kernel
theorem dX8_addGroup_39 : decode cX8_addGroup 39 = .ok (.ireturn, 1) := by decide +kernel
set_option maxRecDepth 20000 in
theorem ggX8_allow_X8_isIn : GoodIn wsX8_allow wsX8_isIn := goodIn_r _ [9] (by decide +kernel) (by decide +kernel)
set_option maxRecDepth 20000 in
theorem gX8_allow_X8_isIn : GoodIn wsX8_allow (va_wsS RX8 103 yX8_isIn wsX8_isIn) := goodIn_app (goodIn_of _ (by decide +kernel)) ggX8_allow_X8_isIn
set_option maxRecDepth 20000 in
theorem ggX8_allow_X8_isBlock : GoodIn wsX8_allow wsX8_isBlock := goodIn_r _ [12] (by decide +kernel) (by decide +kernel)
set_option maxRecDepth 20000 in
theorem gX8_allow_X8_isBlock : GoodIn wsX8_allow (va_wsS RX8 86 yX8_isBlock wsX8_isBlock) := goodIn_app (goodIn_of _ (by decide +kernel)) ggX8_allow_X8_isBlock
set_option maxRecDepth 20000 in
theorem ggX8_allow_X8_arePorts : GoodIn wsX8_allow wsX8_arePorts := goodIn_r _ [15] (by decide +kernel) (by decide +kernel)
set_option maxRecDepth 20000 in
theorem gX8_allow_X8_arePorts : GoodIn wsX8_allow (va_wsS RX8 118 yX8_arePorts wsX8_arePorts) := goodIn_app (goodIn_of _ (by decide +kernel)) ggX8_allow_X8_arePorts
set_option maxRecDepth 20000 in
theorem ggX8_allow_X8_holds : GoodIn wsX8_allow wsX8_holds := goodIn_r _ [19, 20, 27, 28, 29, 30, 31, 32, 33, 34, 35, 36, 37, 38, 39, 40, 41, 42, 43, 44, 45, 46, 47, 48, 49, 50, 51, 52] (by decide +kernel) (by decide +kernel)
set_option maxRecDepth 20000 in
theorem gX8_allow_X8_holds : GoodIn wsX8_allow (wsV RX8 99 RX8 yX8_holds wsX8_holds) := goodIn_app (goodIn_of _ (by decide +kernel)) ggX8_allow_X8_holds
set_option maxRecDepth 20000 in
theorem ggX8_allow_X8_block : GoodIn wsX8_allow wsX8_block := goodIn_r _ [23] (by decide +kernel) (by decide +kernel)
set_option maxRecDepth 20000 in
theorem gX8_allow_X8_block : GoodIn wsX8_allow (va_wsS RX8 92 yX8_block wsX8_block) := goodIn_app (goodIn_of _ (by decide +kernel)) ggX8_allow_X8_block
set_option maxRecDepth 20000 in
theorem ggX8_allow_X8_portSet : GoodIn wsX8_allow wsX8_portSet := goodIn_r _ [26] (by decide +kernel) (by decide +kernel)
set_option maxRecDepth 20000 in
theorem gX8_allow_X8_portSet : GoodIn wsX8_allow (va_wsS RX8 121 yX8_portSet wsX8_portSet) := goodIn_app (goodIn_of _ (by decide +kernel)) ggX8_allow_X8_portSet
theorem dX8_allow_0 : decode cX8_allow 0 = .ok (.iload_n 1, 1) := by decide +kernel
theorem dX8_allow_1 : decode cX8_allow 1 = .ok (.aload_n 0, 1) := by decide +kernel
theorem dX8_allow_2 : decode cX8_allow 2 = .ok (.getfield 115, 3) := by decide +kernel
theorem dX8_allow_5 : decode cX8_allow 5 = .ok (.invokestatic 103, 3) := by decide +kernel
theorem dX8_allow_8 : decode cX8_allow 8 = .ok (.istore 7, 2) := by decide +kernel
theorem dX8_allow_10 : decode cX8_allow 10 = .ok (.iload_n 3, 1) := by decide +kernel
theorem dX8_allow_11 : decode cX8_allow 11 = .ok (.iload 4, 2) := by decide +kernel
theorem dX8_allow_13 : decode cX8_allow 13 = .ok (.invokestatic 86, 3) := by decide +kernel
theorem dX8_allow_16 : decode cX8_allow 16 = .ok (.ifCond .eq 17, 3) := by decide +kernel
theorem dX8_allow_19 : decode cX8_allow 19 = .ok (.iload 5, 2) := by decide +kernel
theorem dX8_allow_21 : decode cX8_allow 21 = .ok (.iload 6, 2) := by decide +kernel
theorem dX8_allow_23 : decode cX8_allow 23 = .ok (.invokestatic 118, 3) := by decide +kernel
theorem dX8_allow_26 : decode cX8_allow 26 = .ok (.ifCond .eq 7, 3) := by decide +kernel
theorem dX8_allow_29 : decode cX8_allow 29 = .ok (.iconst 1, 1) := by decide +kernel
theorem dX8_allow_30 : decode cX8_allow 30 = .ok (.goto 4, 3) := by decide +kernel
theorem dX8_allow_33 : decode cX8_allow 33 = .ok (.iconst 0, 1) := by decide +kernel
theorem dX8_allow_34 : decode cX8_allow 34 = .ok (.istore 8, 2) := by decide +kernel
theorem dX8_allow_36 : decode cX8_allow 36 = .ok (.aload_n 0, 1) := by decide +kernel
theorem dX8_allow_37 : decode cX8_allow 37 = .ok (.iload 7, 2) := by decide +kernel
theorem dX8_allow_39 : decode cX8_allow 39 = .ok (.ifCond .ne 7, 3) := by decide +kernel
theorem dX8_allow_42 : decode cX8_allow 42 = .ok (.iconst 1, 1) := by decide +kernel
theorem dX8_allow_43 : decode cX8_allow 43 = .ok (.goto 28, 3) := by decide +kernel
theorem dX8_allow_46 : decode cX8_allow 46 = .ok (.iload 8, 2) := by decide +kernel
theorem dX8_allow_48 : decode cX8_allow 48 = .ok (.ifCond .ne 7, 3) := by decide +kernel
theorem dX8_allow_51 : decode cX8_allow 51 = .ok (.iconst 2, 1) := by decide +kernel
theorem dX8_allow_52 : decode cX8_allow 52 = .ok (.goto 19, 3) := by decide +kernel
theorem dX8_allow_55 : decode cX8_allow 55 = .ok (.aload_n 0, 1) := by decide +kernel
theorem dX8_allow_56 : decode cX8_allow 56 = .ok (.getfield 34, 3) := by decide +kernel
theorem dX8_allow_59 : decode cX8_allow 59 = .ok (.iload_n 1, 1) := by decide +kernel
theorem dX8_allow_60 : decode cX8_allow 60 = .ok (.iaload, 1) := by decide +kernel
theorem dX8_allow_61 : decode cX8_allow 61 = .ok (.bipush 10, 2) := by decide +kernel
theorem dX8_allow_63 : decode cX8_allow 63 = .ok (.if_icmp .ne 7, 3) := by decide +kernel
theorem dX8_allow_66 : decode cX8_allow 66 = .ok (.iconst 3, 1) := by decide +kernel
theorem dX8_allow_67 : decode cX8_allow 67 = .ok (.goto 4, 3) := by decide +kernel
theorem dX8_allow_70 : decode cX8_allow 70 = .ok (.iconst 0, 1) := by decide +kernel
theorem dX8_allow_71 : decode cX8_allow 71 = .ok (.invokevirtual 99, 3) := by decide +kernel
theorem dX8_allow_74 : decode cX8_allow 74 = .ok (.ifCond .ne 5, 3) := by decide +kernel
theorem dX8_allow_77 : decode cX8_allow 77 = .ok (.iconst 0, 1) := by decide +kernel
theorem dX8_allow_78 : decode cX8_allow 78 = .ok (.ireturn, 1) := by decide +kernel
theorem dX8_allow_79 : decode cX8_allow 79 = .ok (.bipush 10, 2) := by decide +kernel
theorem dX8_allow_81 : decode cX8_allow 81 = .ok (.iload_n 1, 1) := by decide +kernel
theorem dX8_allow_82 : decode cX8_allow 82 = .ok (.imul, 1) := by decide +kernel
theorem dX8_allow_83 : decode cX8_allow 83 = .ok (.aload_n 0, 1) := by decide +kernel
theorem dX8_allow_84 : decode cX8_allow 84 = .ok (.getfield 34, 3) := by decide +kernel
theorem dX8_allow_87 : decode cX8_allow 87 = .ok (.iload_n 1, 1) := by decide +kernel
theorem dX8_allow_88 : decode cX8_allow 88 = .ok (.iaload, 1) := by decide +kernel
theorem dX8_allow_89 : decode cX8_allow 89 = .ok (.iadd, 1) := by decide +kernel
theorem dX8_allow_90 : decode cX8_allow 90 = .ok (.istore 9, 2) := by decide +kernel
theorem dX8_allow_92 : decode cX8_allow 92 = .ok (.aload_n 0, 1) := by decide +kernel
theorem dX8_allow_93 : decode cX8_allow 93 = .ok (.getfield 37, 3) := by decide +kernel
theorem dX8_allow_96 : decode cX8_allow 96 = .ok (.iload 9, 2) := by decide +kernel
theorem dX8_allow_98 : decode cX8_allow 98 = .ok (.iload_n 2, 1) := by decide +kernel
theorem dX8_allow_99 : decode cX8_allow 99 = .ok (.bastore, 1) := by decide +kernel
theorem dX8_allow_100 : decode cX8_allow 100 = .ok (.aload_n 0, 1) := by decide +kernel
theorem dX8_allow_101 : decode cX8_allow 101 = .ok (.getfield 41, 3) := by decide +kernel
theorem dX8_allow_104 : decode cX8_allow 104 = .ok (.iload 9, 2) := by decide +kernel
theorem dX8_allow_106 : decode cX8_allow 106 = .ok (.iload_n 3, 1) := by decide +kernel
theorem dX8_allow_107 : decode cX8_allow 107 = .ok (.iload 4, 2) := by decide +kernel
theorem dX8_allow_109 : decode cX8_allow 109 = .ok (.invokestatic 92, 3) := by decide +kernel
theorem dX8_allow_112 : decode cX8_allow 112 = .ok (.iastore, 1) := by decide +kernel
theorem dX8_allow_113 : decode cX8_allow 113 = .ok (.aload_n 0, 1) := by decide +kernel
theorem dX8_allow_114 : decode cX8_allow 114 = .ok (.getfield 44, 3) := by decide +kernel
theorem dX8_allow_117 : decode cX8_allow 117 = .ok (.iload 9, 2) := by decide +kernel
theorem dX8_allow_119 : decode cX8_allow 119 = .ok (.iload 5, 2) := by decide +kernel
theorem dX8_allow_121 : decode cX8_allow 121 = .ok (.iload 6, 2) := by decide +kernel
theorem dX8_allow_123 : decode cX8_allow 123 = .ok (.invokestatic 121, 3) := by decide +kernel
theorem dX8_allow_126 : decode cX8_allow 126 = .ok (.iastore, 1) := by decide +kernel
theorem dX8_allow_127 : decode cX8_allow 127 = .ok (.aload_n 0, 1) := by decide +kernel
theorem dX8_allow_128 : decode cX8_allow 128 = .ok (.getfield 34, 3) := by decide +kernel
theorem dX8_allow_131 : decode cX8_allow 131 = .ok (.iload_n 1, 1) := by decide +kernel
theorem dX8_allow_132 : decode cX8_allow 132 = .ok (.dup2, 1) := by decide +kernel
theorem dX8_allow_133 : decode cX8_allow 133 = .ok (.iaload, 1) := by decide +kernel
theorem dX8_allow_134 : decode cX8_allow 134 = .ok (.iconst 1, 1) := by decide +kernel
theorem dX8_allow_135 : decode cX8_allow 135 = .ok (.iadd, 1) := by decide +kernel
theorem dX8_allow_136 : decode cX8_allow 136 = .ok (.iastore, 1) := by decide +kernel
theorem dX8_allow_137 : decode cX8_allow 137 = .ok (.aload_n 0, 1) := by decide +kernel
theorem dX8_allow_138 : decode cX8_allow 138 = .ok (.getfield 34, 3) := by decide +kernel
theorem dX8_allow_141 : decode cX8_allow 141 = .ok (.iload_n 1, 1) := by decide +kernel
theorem dX8_allow_142 : decode cX8_allow 142 = .ok (.iaload, 1) := by decide +kernel
theorem dX8_allow_143 : decode cX8_allow 143 = .ok (.ireturn, 1) := by decide +kernel
set_option maxRecDepth 20000 in
theorem ggX8_clearGroup_X8_isIn : GoodIn wsX8_clearGroup wsX8_isIn := goodIn_r _ [6] (by decide +kernel) (by decide +kernel)
set_option maxRecDepth 20000 in
theorem gX8_clearGroup_X8_isIn : GoodIn wsX8_clearGroup (va_wsS RX8 103 yX8_isIn wsX8_isIn) := goodIn_app (goodIn_of _ (by decide +kernel)) ggX8_clearGroup_X8_isIn
set_option maxRecDepth 20000 in
theorem ggX8_clearGroup_X8_holds : GoodIn wsX8_clearGroup wsX8_holds := goodIn_r _ [10, 11, 12, 13, 14, 15, 16, 17, 18, 19, 20, 21, 22, 23, 24, 25, 26, 27, 28, 29, 30, 31, 32, 33, 34, 35, 36, 37] (by decide +kernel) (by decide +kernel)
set_option maxRecDepth 20000 in
theorem gX8_clearGroup_X8_holds : GoodIn wsX8_clearGroup (wsV RX8 99 RX8 yX8_holds wsX8_holds) := goodIn_app (goodIn_of _ (by decide +kernel)) ggX8_clearGroup_X8_holds
theorem dX8_clearGroup_0 : decode cX8_clearGroup 0 = .ok (.aload_n 0, 1) := by decide +kernel
theorem dX8_clearGroup_1 : decode cX8_clearGroup 1 = .ok (.iload_n 1, 1) := by decide +kernel
theorem dX8_clearGroup_2 : decode cX8_clearGroup 2 = .ok (.aload_n 0, 1) := by decide +kernel
theorem dX8_clearGroup_3 : decode cX8_clearGroup 3 = .ok (.getfield 115, 3) := by decide +kernel
theorem dX8_clearGroup_6 : decode cX8_clearGroup 6 = .ok (.invokestatic 103, 3) := by decide +kernel
theorem dX8_clearGroup_9 : decode cX8_clearGroup 9 = .ok (.ifCond .eq 7, 3) := by decide +kernel
theorem dX8_clearGroup_12 : decode cX8_clearGroup 12 = .ok (.iconst 0, 1) := by decide +kernel
theorem dX8_clearGroup_13 : decode cX8_clearGroup 13 = .ok (.goto 4, 3) := by decide +kernel
theorem dX8_clearGroup_16 : decode cX8_clearGroup 16 = .ok (.iconst 1, 1) := by decide +kernel
theorem dX8_clearGroup_17 : decode cX8_clearGroup 17 = .ok (.invokevirtual 99, 3) := by decide +kernel
theorem dX8_clearGroup_20 : decode cX8_clearGroup 20 = .ok (.ifCond .ne 5, 3) := by decide +kernel
theorem dX8_clearGroup_23 : decode cX8_clearGroup 23 = .ok (.iconst 0, 1) := by decide +kernel
theorem dX8_clearGroup_24 : decode cX8_clearGroup 24 = .ok (.ireturn, 1) := by decide +kernel
theorem dX8_clearGroup_25 : decode cX8_clearGroup 25 = .ok (.aload_n 0, 1) := by decide +kernel
theorem dX8_clearGroup_26 : decode cX8_clearGroup 26 = .ok (.getfield 34, 3) := by decide +kernel
theorem dX8_clearGroup_29 : decode cX8_clearGroup 29 = .ok (.iload_n 1, 1) := by decide +kernel
theorem dX8_clearGroup_30 : decode cX8_clearGroup 30 = .ok (.iaload, 1) := by decide +kernel
theorem dX8_clearGroup_31 : decode cX8_clearGroup 31 = .ok (.istore_n 2, 1) := by decide +kernel
theorem dX8_clearGroup_32 : decode cX8_clearGroup 32 = .ok (.aload_n 0, 1) := by decide +kernel
theorem dX8_clearGroup_33 : decode cX8_clearGroup 33 = .ok (.getfield 34, 3) := by decide +kernel
theorem dX8_clearGroup_36 : decode cX8_clearGroup 36 = .ok (.iload_n 1, 1) := by decide +kernel
theorem dX8_clearGroup_37 : decode cX8_clearGroup 37 = .ok (.iconst 0, 1) := by decide +kernel
theorem dX8_clearGroup_38 : decode cX8_clearGroup 38 = .ok (.iastore, 1) := by decide +kernel
theorem dX8_clearGroup_39 : decode cX8_clearGroup 39 = .ok (.iload_n 2, 1) := by decide +kernel
theorem dX8_clearGroup_40 : decode cX8_clearGroup 40 = .ok (.ireturn, 1) := by decide +kernel
set_option maxRecDepth 20000 in
theorem ggX8_setGroup_X8_isIn : GoodIn wsX8_setGroup wsX8_isIn := goodIn_r _ [7] (by decide +kernel) (by decide +kernel)
set_option maxRecDepth 20000 in
theorem gX8_setGroup_X8_isIn : GoodIn wsX8_setGroup (va_wsS RX8 103 yX8_isIn wsX8_isIn) := goodIn_app (goodIn_of _ (by decide +kernel)) ggX8_setGroup_X8_isIn
set_option maxRecDepth 20000 in
theorem ggX8_setGroup_X8_holds : GoodIn wsX8_setGroup wsX8_holds := goodIn_r _ [11, 12, 13, 14, 15, 16, 17, 18, 19, 20, 21, 22, 23, 24, 25, 26, 27, 28, 29, 30, 31, 32, 33, 34, 35, 36, 37, 38] (by decide +kernel) (by decide +kernel)
set_option maxRecDepth 20000 in
theorem gX8_setGroup_X8_holds : GoodIn wsX8_setGroup (wsV RX8 99 RX8 yX8_holds wsX8_holds) := goodIn_app (goodIn_of _ (by decide +kernel)) ggX8_setGroup_X8_holds
theorem dX8_setGroup_0 : decode cX8_setGroup 0 = .ok (.aload_n 0, 1) := by decide +kernel
theorem dX8_setGroup_1 : decode cX8_setGroup 1 = .ok (.iload_n 1, 1) := by decide +kernel
theorem dX8_setGroup_2 : decode cX8_setGroup 2 = .ok (.aload_n 0, 1) := by decide +kernel
theorem dX8_setGroup_3 : decode cX8_setGroup 3 = .ok (.getfield 109, 3) := by decide +kernel
theorem dX8_setGroup_6 : decode cX8_setGroup 6 = .ok (.invokestatic 103, 3) := by decide +kernel
theorem dX8_setGroup_9 : decode cX8_setGroup 9 = .ok (.ifCond .eq 18, 3) := by decide +kernel
theorem dX8_setGroup_12 : decode cX8_setGroup 12 = .ok (.iload_n 2, 1) := by decide +kernel
theorem dX8_setGroup_13 : decode cX8_setGroup 13 = .ok (.aload_n 0, 1) := by decide +kernel
theorem dX8_setGroup_14 : decode cX8_setGroup 14 = .ok (.getfield 115, 3) := by decide +kernel
theorem dX8_setGroup_17 : decode cX8_setGroup 17 = .ok (.invokestatic 103, 3) := by decide +kernel
theorem dX8_setGroup_20 : decode cX8_setGroup 20 = .ok (.ifCond .eq 7, 3) := by decide +kernel
theorem dX8_setGroup_23 : decode cX8_setGroup 23 = .ok (.iconst 0, 1) := by decide +kernel
theorem dX8_setGroup_24 : decode cX8_setGroup 24 = .ok (.goto 4, 3) := by decide +kernel
theorem dX8_setGroup_27 : decode cX8_setGroup 27 = .ok (.iconst 1, 1) := by decide +kernel
theorem dX8_setGroup_28 : decode cX8_setGroup 28 = .ok (.invokevirtual 99, 3) := by decide +kernel
theorem dX8_setGroup_31 : decode cX8_setGroup 31 = .ok (.ifCond .ne 5, 3) := by decide +kernel
theorem dX8_setGroup_34 : decode cX8_setGroup 34 = .ok (.iconst 0, 1) := by decide +kernel
theorem dX8_setGroup_35 : decode cX8_setGroup 35 = .ok (.ireturn, 1) := by decide +kernel
theorem dX8_setGroup_36 : decode cX8_setGroup 36 = .ok (.aload_n 0, 1) := by decide +kernel
theorem dX8_setGroup_37 : decode cX8_setGroup 37 = .ok (.getfield 25, 3) := by decide +kernel
theorem dX8_setGroup_40 : decode cX8_setGroup 40 = .ok (.iload_n 1, 1) := by decide +kernel
theorem dX8_setGroup_41 : decode cX8_setGroup 41 = .ok (.iaload, 1) := by decide +kernel
theorem dX8_setGroup_42 : decode cX8_setGroup 42 = .ok (.iload_n 2, 1) := by decide +kernel
theorem dX8_setGroup_43 : decode cX8_setGroup 43 = .ok (.ishr, 1) := by decide +kernel
theorem dX8_setGroup_44 : decode cX8_setGroup 44 = .ok (.iconst 1, 1) := by decide +kernel
theorem dX8_setGroup_45 : decode cX8_setGroup 45 = .ok (.iand, 1) := by decide +kernel
theorem dX8_setGroup_46 : decode cX8_setGroup 46 = .ok (.iconst 1, 1) := by decide +kernel
theorem dX8_setGroup_47 : decode cX8_setGroup 47 = .ok (.if_icmp .ne 7, 3) := by decide +kernel
theorem dX8_setGroup_50 : decode cX8_setGroup 50 = .ok (.iconst 1, 1) := by decide +kernel
theorem dX8_setGroup_51 : decode cX8_setGroup 51 = .ok (.goto 4, 3) := by decide +kernel
theorem dX8_setGroup_54 : decode cX8_setGroup 54 = .ok (.iconst 0, 1) := by decide +kernel
theorem dX8_setGroup_55 : decode cX8_setGroup 55 = .ok (.istore 4, 2) := by decide +kernel
theorem dX8_setGroup_57 : decode cX8_setGroup 57 = .ok (.aload_n 0, 1) := by decide +kernel
theorem dX8_setGroup_58 : decode cX8_setGroup 58 = .ok (.getfield 25, 3) := by decide +kernel
theorem dX8_setGroup_61 : decode cX8_setGroup 61 = .ok (.iload_n 1, 1) := by decide +kernel
theorem dX8_setGroup_62 : decode cX8_setGroup 62 = .ok (.aload_n 0, 1) := by decide +kernel
theorem dX8_setGroup_63 : decode cX8_setGroup 63 = .ok (.getfield 25, 3) := by decide +kernel
theorem dX8_setGroup_66 : decode cX8_setGroup 66 = .ok (.iload_n 1, 1) := by decide +kernel
theorem dX8_setGroup_67 : decode cX8_setGroup 67 = .ok (.iaload, 1) := by decide +kernel
theorem dX8_setGroup_68 : decode cX8_setGroup 68 = .ok (.iconst 1, 1) := by decide +kernel
theorem dX8_setGroup_69 : decode cX8_setGroup 69 = .ok (.iload_n 2, 1) := by decide +kernel
theorem dX8_setGroup_70 : decode cX8_setGroup 70 = .ok (.ishl, 1) := by decide +kernel
theorem dX8_setGroup_71 : decode cX8_setGroup 71 = .ok (.iconst (-1), 1) := by decide +kernel
theorem dX8_setGroup_72 : decode cX8_setGroup 72 = .ok (.ixor, 1) := by decide +kernel
theorem dX8_setGroup_73 : decode cX8_setGroup 73 = .ok (.iand, 1) := by decide +kernel
theorem dX8_setGroup_74 : decode cX8_setGroup 74 = .ok (.iload_n 3, 1) := by decide +kernel
theorem dX8_setGroup_75 : decode cX8_setGroup 75 = .ok (.ifCond .eq 9, 3) := by decide +kernel
theorem dX8_setGroup_78 : decode cX8_setGroup 78 = .ok (.iconst 1, 1) := by decide +kernel
theorem dX8_setGroup_79 : decode cX8_setGroup 79 = .ok (.iload_n 2, 1) := by decide +kernel
theorem dX8_setGroup_80 : decode cX8_setGroup 80 = .ok (.ishl, 1) := by decide +kernel
theorem dX8_setGroup_81 : decode cX8_setGroup 81 = .ok (.goto 4, 3) := by decide +kernel
theorem dX8_setGroup_84 : decode cX8_setGroup 84 = .ok (.iconst 0, 1) := by decide +kernel
theorem dX8_setGroup_85 : decode cX8_setGroup 85 = .ok (.ior, 1) := by decide +kernel
theorem dX8_setGroup_86 : decode cX8_setGroup 86 = .ok (.iastore, 1) := by decide +kernel
theorem dX8_setGroup_87 : decode cX8_setGroup 87 = .ok (.iload 4, 2) := by decide +kernel
theorem dX8_setGroup_89 : decode cX8_setGroup 89 = .ok (.ireturn, 1) := by decide +kernel
theorem dX8_copies_0 : decode cX8_copies 0 = .ok (.aload_n 0, 1) := by decide +kernel
theorem dX8_copies_1 : decode cX8_copies 1 = .ok (.getfield 50, 3) := by decide +kernel
theorem dX8_copies_4 : decode cX8_copies 4 = .ok (.iload_n 1, 1) := by decide +kernel
theorem dX8_copies_5 : decode cX8_copies 5 = .ok (.aload_n 0, 1) := by decide +kernel
theorem dX8_copies_6 : decode cX8_copies 6 = .ok (.getfield 50, 3) := by decide +kernel
theorem dX8_copies_9 : decode cX8_copies 9 = .ok (.iload_n 2, 1) := by decide +kernel
theorem dX8_copies_10 : decode cX8_copies 10 = .ok (.baload, 1) := by decide +kernel
theorem dX8_copies_11 : decode cX8_copies 11 = .ok (.bastore, 1) := by decide +kernel
theorem dX8_copies_12 : decode cX8_copies 12 = .ok (.aload_n 0, 1) := by decide +kernel
theorem dX8_copies_13 : decode cX8_copies 13 = .ok (.getfield 53, 3) := by decide +kernel
theorem dX8_copies_16 : decode cX8_copies 16 = .ok (.iload_n 1, 1) := by decide +kernel
theorem dX8_copies_17 : decode cX8_copies 17 = .ok (.aload_n 0, 1) := by decide +kernel
theorem dX8_copies_18 : decode cX8_copies 18 = .ok (.getfield 53, 3) := by decide +kernel
theorem dX8_copies_21 : decode cX8_copies 21 = .ok (.iload_n 2, 1) := by decide +kernel
theorem dX8_copies_22 : decode cX8_copies 22 = .ok (.baload, 1) := by decide +kernel
theorem dX8_copies_23 : decode cX8_copies 23 = .ok (.bastore, 1) := by decide +kernel
theorem dX8_copies_24 : decode cX8_copies 24 = .ok (.aload_n 0, 1) := by decide +kernel
theorem dX8_copies_25 : decode cX8_copies 25 = .ok (.getfield 56, 3) := by decide +kernel
theorem dX8_copies_28 : decode cX8_copies 28 = .ok (.iload_n 1, 1) := by decide +kernel
theorem dX8_copies_29 : decode cX8_copies 29 = .ok (.aload_n 0, 1) := by decide +kernel
theorem dX8_copies_30 : decode cX8_copies 30 = .ok (.getfield 56, 3) := by decide +kernel
theorem dX8_copies_33 : decode cX8_copies 33 = .ok (.iload_n 2, 1) := by decide +kernel
theorem dX8_copies_34 : decode cX8_copies 34 = .ok (.iaload, 1) := by decide +kernel
theorem dX8_copies_35 : decode cX8_copies 35 = .ok (.iastore, 1) := by decide +kernel
theorem dX8_copies_36 : decode cX8_copies 36 = .ok (.aload_n 0, 1) := by decide +kernel
theorem dX8_copies_37 : decode cX8_copies 37 = .ok (.getfield 59, 3) := by decide +kernel
theorem dX8_copies_40 : decode cX8_copies 40 = .ok (.iload_n 1, 1) := by decide +kernel
theorem dX8_copies_41 : decode cX8_copies 41 = .ok (.aload_n 0, 1) := by decide +kernel
theorem dX8_copies_42 : decode cX8_copies 42 = .ok (.getfield 59, 3) := by decide +kernel
theorem dX8_copies_45 : decode cX8_copies 45 = .ok (.iload_n 2, 1) := by decide +kernel
theorem dX8_copies_46 : decode cX8_copies 46 = .ok (.iaload, 1) := by decide +kernel
theorem dX8_copies_47 : decode cX8_copies 47 = .ok (.iastore, 1) := by decide +kernel
theorem dX8_copies_48 : decode cX8_copies 48 = .ok (.return_, 1) := by decide +kernel
set_option maxRecDepth 20000 in
theorem ggX8_putRule_X8_isIn : GoodIn wsX8_putRule wsX8_isIn := goodIn_r _ [10] (by decide +kernel) (by decide +kernel)
set_option maxRecDepth 20000 in
theorem gX8_putRule_X8_isIn : GoodIn wsX8_putRule (va_wsS RX8 103 yX8_isIn wsX8_isIn) := goodIn_app (goodIn_of _ (by decide +kernel)) ggX8_putRule_X8_isIn
set_option maxRecDepth 20000 in
theorem ggX8_putRule_X8_isBlock : GoodIn wsX8_putRule wsX8_isBlock := goodIn_r _ [13] (by decide +kernel) (by decide +kernel)
set_option maxRecDepth 20000 in
theorem gX8_putRule_X8_isBlock : GoodIn wsX8_putRule (va_wsS RX8 86 yX8_isBlock wsX8_isBlock) := goodIn_app (goodIn_of _ (by decide +kernel)) ggX8_putRule_X8_isBlock
set_option maxRecDepth 20000 in
theorem ggX8_putRule_X8_arePorts : GoodIn wsX8_putRule wsX8_arePorts := goodIn_r _ [16] (by decide +kernel) (by decide +kernel)
set_option maxRecDepth 20000 in
theorem gX8_putRule_X8_arePorts : GoodIn wsX8_putRule (va_wsS RX8 118 yX8_arePorts wsX8_arePorts) := goodIn_app (goodIn_of _ (by decide +kernel)) ggX8_putRule_X8_arePorts
set_option maxRecDepth 20000 in
theorem ggX8_putRule_X8_holds : GoodIn wsX8_putRule wsX8_holds := goodIn_r _ [20, 21, 32, 33, 34, 35, 36, 37, 38, 39, 40, 41, 42, 43, 44, 45, 46, 47, 48, 49, 50, 51, 52, 53, 54, 55, 56, 57] (by decide +kernel) (by decide +kernel)
set_option maxRecDepth 20000 in
theorem gX8_putRule_X8_holds : GoodIn wsX8_putRule (wsV RX8 99 RX8 yX8_holds wsX8_holds) := goodIn_app (goodIn_of _ (by decide +kernel)) ggX8_putRule_X8_holds
set_option maxRecDepth 20000 in
theorem ggX8_putRule_X8_copies : GoodIn wsX8_putRule wsX8_copies := goodIn_r _ [25, 3, 4, 5, 6, 32, 33, 34, 35, 36, 37, 38, 39, 40, 41, 42, 43, 44, 45, 46, 47, 48, 49, 50, 51, 52, 53, 54, 55, 56, 57] (by decide +kernel) (by decide +kernel)
set_option maxRecDepth 20000 in
theorem gX8_putRule_X8_copies : GoodIn wsX8_putRule (wsV RX8 124 RX8 yX8_copies wsX8_copies) := goodIn_app (goodIn_of _ (by decide +kernel)) ggX8_putRule_X8_copies
set_option maxRecDepth 20000 in
theorem ggX8_putRule_X8_block : GoodIn wsX8_putRule wsX8_block := goodIn_r _ [28] (by decide +kernel) (by decide +kernel)
set_option maxRecDepth 20000 in
theorem gX8_putRule_X8_block : GoodIn wsX8_putRule (va_wsS RX8 92 yX8_block wsX8_block) := goodIn_app (goodIn_of _ (by decide +kernel)) ggX8_putRule_X8_block
set_option maxRecDepth 20000 in
theorem ggX8_putRule_X8_portSet : GoodIn wsX8_putRule wsX8_portSet := goodIn_r _ [31] (by decide +kernel) (by decide +kernel)
set_option maxRecDepth 20000 in
theorem gX8_putRule_X8_portSet : GoodIn wsX8_putRule (va_wsS RX8 121 yX8_portSet wsX8_portSet) := goodIn_app (goodIn_of _ (by decide +kernel)) ggX8_putRule_X8_portSet
theorem dX8_putRule_0 : decode cX8_putRule 0 = .ok (.iload_n 1, 1) := by decide +kernel
theorem dX8_putRule_1 : decode cX8_putRule 1 = .ok (.aload_n 0, 1) := by decide +kernel
theorem dX8_putRule_2 : decode cX8_putRule 2 = .ok (.getfield 106, 3) := by decide +kernel
theorem dX8_putRule_5 : decode cX8_putRule 5 = .ok (.invokestatic 103, 3) := by decide +kernel
theorem dX8_putRule_8 : decode cX8_putRule 8 = .ok (.ifCond .eq 21, 3) := by decide +kernel
theorem dX8_putRule_11 : decode cX8_putRule 11 = .ok (.iload_n 2, 1) := by decide +kernel
theorem dX8_putRule_12 : decode cX8_putRule 12 = .ok (.ifCond .lt 17, 3) := by decide +kernel
theorem dX8_putRule_15 : decode cX8_putRule 15 = .ok (.iload_n 2, 1) := by decide +kernel
theorem dX8_putRule_16 : decode cX8_putRule 16 = .ok (.aload_n 0, 1) := by decide +kernel
theorem dX8_putRule_17 : decode cX8_putRule 17 = .ok (.getfield 47, 3) := by decide +kernel
theorem dX8_putRule_20 : decode cX8_putRule 20 = .ok (.iload_n 1, 1) := by decide +kernel
theorem dX8_putRule_21 : decode cX8_putRule 21 = .ok (.iaload, 1) := by decide +kernel
theorem dX8_putRule_22 : decode cX8_putRule 22 = .ok (.if_icmp .gt 7, 3) := by decide +kernel
theorem dX8_putRule_25 : decode cX8_putRule 25 = .ok (.iconst 1, 1) := by decide +kernel
theorem dX8_putRule_26 : decode cX8_putRule 26 = .ok (.goto 4, 3) := by decide +kernel
theorem dX8_putRule_29 : decode cX8_putRule 29 = .ok (.iconst 0, 1) := by decide +kernel
theorem dX8_putRule_30 : decode cX8_putRule 30 = .ok (.istore 9, 2) := by decide +kernel
theorem dX8_putRule_32 : decode cX8_putRule 32 = .ok (.iload 5, 2) := by decide +kernel
theorem dX8_putRule_34 : decode cX8_putRule 34 = .ok (.iload 6, 2) := by decide +kernel
theorem dX8_putRule_36 : decode cX8_putRule 36 = .ok (.invokestatic 86, 3) := by decide +kernel
theorem dX8_putRule_39 : decode cX8_putRule 39 = .ok (.ifCond .eq 17, 3) := by decide +kernel
theorem dX8_putRule_42 : decode cX8_putRule 42 = .ok (.iload 7, 2) := by decide +kernel
theorem dX8_putRule_44 : decode cX8_putRule 44 = .ok (.iload 8, 2) := by decide +kernel
theorem dX8_putRule_46 : decode cX8_putRule 46 = .ok (.invokestatic 118, 3) := by decide +kernel
theorem dX8_putRule_49 : decode cX8_putRule 49 = .ok (.ifCond .eq 7, 3) := by decide +kernel
theorem dX8_putRule_52 : decode cX8_putRule 52 = .ok (.iconst 1, 1) := by decide +kernel
theorem dX8_putRule_53 : decode cX8_putRule 53 = .ok (.goto 4, 3) := by decide +kernel
theorem dX8_putRule_56 : decode cX8_putRule 56 = .ok (.iconst 0, 1) := by decide +kernel
theorem dX8_putRule_57 : decode cX8_putRule 57 = .ok (.istore 10, 2) := by decide +kernel
theorem dX8_putRule_59 : decode cX8_putRule 59 = .ok (.aload_n 0, 1) := by decide +kernel
theorem dX8_putRule_60 : decode cX8_putRule 60 = .ok (.iload 9, 2) := by decide +kernel
theorem dX8_putRule_62 : decode cX8_putRule 62 = .ok (.ifCond .ne 7, 3) := by decide +kernel
theorem dX8_putRule_65 : decode cX8_putRule 65 = .ok (.iconst 1, 1) := by decide +kernel
theorem dX8_putRule_66 : decode cX8_putRule 66 = .ok (.goto 28, 3) := by decide +kernel
theorem dX8_putRule_69 : decode cX8_putRule 69 = .ok (.iload 10, 2) := by decide +kernel
theorem dX8_putRule_71 : decode cX8_putRule 71 = .ok (.ifCond .ne 7, 3) := by decide +kernel
theorem dX8_putRule_74 : decode cX8_putRule 74 = .ok (.iconst 2, 1) := by decide +kernel
theorem dX8_putRule_75 : decode cX8_putRule 75 = .ok (.goto 19, 3) := by decide +kernel
theorem dX8_putRule_78 : decode cX8_putRule 78 = .ok (.aload_n 0, 1) := by decide +kernel
theorem dX8_putRule_79 : decode cX8_putRule 79 = .ok (.getfield 47, 3) := by decide +kernel
theorem dX8_putRule_82 : decode cX8_putRule 82 = .ok (.iload_n 1, 1) := by decide +kernel
theorem dX8_putRule_83 : decode cX8_putRule 83 = .ok (.iaload, 1) := by decide +kernel
theorem dX8_putRule_84 : decode cX8_putRule 84 = .ok (.bipush 12, 2) := by decide +kernel
theorem dX8_putRule_86 : decode cX8_putRule 86 = .ok (.if_icmp .ne 7, 3) := by decide +kernel
theorem dX8_putRule_89 : decode cX8_putRule 89 = .ok (.iconst 3, 1) := by decide +kernel
theorem dX8_putRule_90 : decode cX8_putRule 90 = .ok (.goto 4, 3) := by decide +kernel
theorem dX8_putRule_93 : decode cX8_putRule 93 = .ok (.iconst 0, 1) := by decide +kernel
theorem dX8_putRule_94 : decode cX8_putRule 94 = .ok (.invokevirtual 99, 3) := by decide +kernel
theorem dX8_putRule_97 : decode cX8_putRule 97 = .ok (.ifCond .ne 5, 3) := by decide +kernel
theorem dX8_putRule_100 : decode cX8_putRule 100 = .ok (.iconst 0, 1) := by decide +kernel
theorem dX8_putRule_101 : decode cX8_putRule 101 = .ok (.ireturn, 1) := by decide +kernel
theorem dX8_putRule_102 : decode cX8_putRule 102 = .ok (.bipush 12, 2) := by decide +kernel
theorem dX8_putRule_104 : decode cX8_putRule 104 = .ok (.iload_n 1, 1) := by decide +kernel
theorem dX8_putRule_105 : decode cX8_putRule 105 = .ok (.imul, 1) := by decide +kernel
theorem dX8_putRule_106 : decode cX8_putRule 106 = .ok (.iload_n 2, 1) := by decide +kernel
theorem dX8_putRule_107 : decode cX8_putRule 107 = .ok (.iadd, 1) := by decide +kernel
theorem dX8_putRule_108 : decode cX8_putRule 108 = .ok (.istore 11, 2) := by decide +kernel
theorem dX8_putRule_110 : decode cX8_putRule 110 = .ok (.bipush 12, 2) := by decide +kernel
theorem dX8_putRule_112 : decode cX8_putRule 112 = .ok (.iload_n 1, 1) := by decide +kernel
theorem dX8_putRule_113 : decode cX8_putRule 113 = .ok (.imul, 1) := by decide +kernel
theorem dX8_putRule_114 : decode cX8_putRule 114 = .ok (.aload_n 0, 1) := by decide +kernel
theorem dX8_putRule_115 : decode cX8_putRule 115 = .ok (.getfield 47, 3) := by decide +kernel
theorem dX8_putRule_118 : decode cX8_putRule 118 = .ok (.iload_n 1, 1) := by decide +kernel
theorem dX8_putRule_119 : decode cX8_putRule 119 = .ok (.iaload, 1) := by decide +kernel
theorem dX8_putRule_120 : decode cX8_putRule 120 = .ok (.iadd, 1) := by decide +kernel
theorem dX8_putRule_121 : decode cX8_putRule 121 = .ok (.istore 12, 2) := by decide +kernel
theorem dX8_putRule_123 : decode cX8_putRule 123 = .ok (.iload 12, 2) := by decide +kernel
theorem dX8_putRule_125 : decode cX8_putRule 125 = .ok (.iload 11, 2) := by decide +kernel
theorem dX8_putRule_127 : decode cX8_putRule 127 = .ok (.if_icmp .le 19, 3) := by decide +kernel
theorem dX8_putRule_130 : decode cX8_putRule 130 = .ok (.aload_n 0, 1) := by decide +kernel
theorem dX8_putRule_131 : decode cX8_putRule 131 = .ok (.iload 12, 2) := by decide +kernel
theorem dX8_putRule_133 : decode cX8_putRule 133 = .ok (.iload 12, 2) := by decide +kernel
theorem dX8_putRule_135 : decode cX8_putRule 135 = .ok (.iconst 1, 1) := by decide +kernel
theorem dX8_putRule_136 : decode cX8_putRule 136 = .ok (.isub, 1) := by decide +kernel
theorem dX8_putRule_137 : decode cX8_putRule 137 = .ok (.invokevirtual 124, 3) := by decide +kernel
theorem dX8_putRule_140 : decode cX8_putRule 140 = .ok (.iinc 12 (-1), 3) := by decide +kernel
theorem dX8_putRule_143 : decode cX8_putRule 143 = .ok (.goto (-20), 3) := by decide +kernel
theorem dX8_putRule_146 : decode cX8_putRule 146 = .ok (.aload_n 0, 1) := by decide +kernel
theorem dX8_putRule_147 : decode cX8_putRule 147 = .ok (.getfield 50, 3) := by decide +kernel
theorem dX8_putRule_150 : decode cX8_putRule 150 = .ok (.iload 11, 2) := by decide +kernel
theorem dX8_putRule_152 : decode cX8_putRule 152 = .ok (.iload_n 3, 1) := by decide +kernel
theorem dX8_putRule_153 : decode cX8_putRule 153 = .ok (.bastore, 1) := by decide +kernel
theorem dX8_putRule_154 : decode cX8_putRule 154 = .ok (.aload_n 0, 1) := by decide +kernel
theorem dX8_putRule_155 : decode cX8_putRule 155 = .ok (.getfield 53, 3) := by decide +kernel
theorem dX8_putRule_158 : decode cX8_putRule 158 = .ok (.iload 11, 2) := by decide +kernel
theorem dX8_putRule_160 : decode cX8_putRule 160 = .ok (.iload 4, 2) := by decide +kernel
theorem dX8_putRule_162 : decode cX8_putRule 162 = .ok (.bastore, 1) := by decide +kernel
theorem dX8_putRule_163 : decode cX8_putRule 163 = .ok (.aload_n 0, 1) := by decide +kernel
theorem dX8_putRule_164 : decode cX8_putRule 164 = .ok (.getfield 56, 3) := by decide +kernel
theorem dX8_putRule_167 : decode cX8_putRule 167 = .ok (.iload 11, 2) := by decide +kernel
theorem dX8_putRule_169 : decode cX8_putRule 169 = .ok (.iload 5, 2) := by decide +kernel
theorem dX8_putRule_171 : decode cX8_putRule 171 = .ok (.iload 6, 2) := by decide +kernel
theorem dX8_putRule_173 : decode cX8_putRule 173 = .ok (.invokestatic 92, 3) := by decide +kernel
theorem dX8_putRule_176 : decode cX8_putRule 176 = .ok (.iastore, 1) := by decide +kernel
theorem dX8_putRule_177 : decode cX8_putRule 177 = .ok (.aload_n 0, 1) := by decide +kernel
theorem dX8_putRule_178 : decode cX8_putRule 178 = .ok (.getfield 59, 3) := by decide +kernel
theorem dX8_putRule_181 : decode cX8_putRule 181 = .ok (.iload 11, 2) := by decide +kernel
theorem dX8_putRule_183 : decode cX8_putRule 183 = .ok (.iload 7, 2) := by decide +kernel
theorem dX8_putRule_185 : decode cX8_putRule 185 = .ok (.iload 8, 2) := by decide +kernel
theorem dX8_putRule_187 : decode cX8_putRule 187 = .ok (.invokestatic 121, 3) := by decide +kernel
theorem dX8_putRule_190 : decode cX8_putRule 190 = .ok (.iastore, 1) := by decide +kernel
theorem dX8_putRule_191 : decode cX8_putRule 191 = .ok (.aload_n 0, 1) := by decide +kernel
theorem dX8_putRule_192 : decode cX8_putRule 192 = .ok (.getfield 47, 3) := by decide +kernel
theorem dX8_putRule_195 : decode cX8_putRule 195 = .ok (.iload_n 1, 1) := by decide +kernel
theorem dX8_putRule_196 : decode cX8_putRule 196 = .ok (.dup2, 1) := by decide +kernel
theorem dX8_putRule_197 : decode cX8_putRule 197 = .ok (.iaload, 1) := by decide +kernel
theorem dX8_putRule_198 : decode cX8_putRule 198 = .ok (.iconst 1, 1) := by decide +kernel
theorem dX8_putRule_199 : decode cX8_putRule 199 = .ok (.iadd, 1) := by decide +kernel
theorem dX8_putRule_200 : decode cX8_putRule 200 = .ok (.iastore, 1) := by decide +kernel
theorem dX8_putRule_201 : decode cX8_putRule 201 = .ok (.aload_n 0, 1) := by decide +kernel
theorem dX8_putRule_202 : decode cX8_putRule 202 = .ok (.getfield 47, 3) := by decide +kernel
theorem dX8_putRule_205 : decode cX8_putRule 205 = .ok (.iload_n 1, 1) := by decide +kernel
theorem dX8_putRule_206 : decode cX8_putRule 206 = .ok (.iaload, 1) := by decide +kernel
theorem dX8_putRule_207 : decode cX8_putRule 207 = .ok (.ireturn, 1) := by decide +kernel
set_option maxRecDepth 20000 in
theorem ggX8_removeRule_X8_isIn : GoodIn wsX8_removeRule wsX8_isIn := goodIn_r _ [6] (by decide +kernel) (by decide +kernel)
set_option maxRecDepth 20000 in
theorem gX8_removeRule_X8_isIn : GoodIn wsX8_removeRule (va_wsS RX8 103 yX8_isIn wsX8_isIn) := goodIn_app (goodIn_of _ (by decide +kernel)) ggX8_removeRule_X8_isIn
set_option maxRecDepth 20000 in
theorem ggX8_removeRule_X8_holds : GoodIn wsX8_removeRule wsX8_holds := goodIn_r _ [10, 11, 20, 21, 22, 23, 24, 25, 26, 27, 28, 29, 30, 31, 32, 33, 34, 35, 36, 37, 38, 39, 40, 41, 42, 43, 44, 45] (by decide +kernel) (by decide +kernel)
set_option maxRecDepth 20000 in
theorem gX8_removeRule_X8_holds : GoodIn wsX8_removeRule (wsV RX8 99 RX8 yX8_holds wsX8_holds) := goodIn_app (goodIn_of _ (by decide +kernel)) ggX8_removeRule_X8_holds
set_option maxRecDepth 20000 in
theorem ggX8_removeRule_X8_copies : GoodIn wsX8_removeRule wsX8_copies := goodIn_r _ [15, 16, 17, 18, 19, 20, 21, 22, 23, 24, 25, 26, 27, 28, 29, 30, 31, 32, 33, 34, 35, 36, 37, 38, 39, 40, 41, 42, 43, 44, 45] (by decide +kernel) (by decide +kernel)
set_option maxRecDepth 20000 in
theorem gX8_removeRule_X8_copies : GoodIn wsX8_removeRule (wsV RX8 124 RX8 yX8_copies wsX8_copies) := goodIn_app (goodIn_of _ (by decide +kernel)) ggX8_removeRule_X8_copies
theorem dX8_removeRule_0 : decode cX8_removeRule 0 = .ok (.aload_n 0, 1) := by decide +kernel
theorem dX8_removeRule_1 : decode cX8_removeRule 1 = .ok (.iload_n 1, 1) := by decide +kernel
theorem dX8_removeRule_2 : decode cX8_removeRule 2 = .ok (.aload_n 0, 1) := by decide +kernel
theorem dX8_removeRule_3 : decode cX8_removeRule 3 = .ok (.getfield 106, 3) := by decide +kernel
theorem dX8_removeRule_6 : decode cX8_removeRule 6 = .ok (.invokestatic 103, 3) := by decide +kernel
theorem dX8_removeRule_9 : decode cX8_removeRule 9 = .ok (.ifCond .eq 20, 3) := by decide +kernel
theorem dX8_removeRule_12 : decode cX8_removeRule 12 = .ok (.iload_n 2, 1) := by decide +kernel
theorem dX8_removeRule_13 : decode cX8_removeRule 13 = .ok (.aload_n 0, 1) := by decide +kernel
theorem dX8_removeRule_14 : decode cX8_removeRule 14 = .ok (.getfield 47, 3) := by decide +kernel
theorem dX8_removeRule_17 : decode cX8_removeRule 17 = .ok (.iload_n 1, 1) := by decide +kernel
theorem dX8_removeRule_18 : decode cX8_removeRule 18 = .ok (.iaload, 1) := by decide +kernel
theorem dX8_removeRule_19 : decode cX8_removeRule 19 = .ok (.invokestatic 103, 3) := by decide +kernel
theorem dX8_removeRule_22 : decode cX8_removeRule 22 = .ok (.ifCond .eq 7, 3) := by decide +kernel
theorem dX8_removeRule_25 : decode cX8_removeRule 25 = .ok (.iconst 0, 1) := by decide +kernel
theorem dX8_removeRule_26 : decode cX8_removeRule 26 = .ok (.goto 4, 3) := by decide +kernel
theorem dX8_removeRule_29 : decode cX8_removeRule 29 = .ok (.iconst 1, 1) := by decide +kernel
theorem dX8_removeRule_30 : decode cX8_removeRule 30 = .ok (.invokevirtual 99, 3) := by decide +kernel
theorem dX8_removeRule_33 : decode cX8_removeRule 33 = .ok (.ifCond .ne 5, 3) := by decide +kernel
theorem dX8_removeRule_36 : decode cX8_removeRule 36 = .ok (.iconst 0, 1) := by decide +kernel
theorem dX8_removeRule_37 : decode cX8_removeRule 37 = .ok (.ireturn, 1) := by decide +kernel
theorem dX8_removeRule_38 : decode cX8_removeRule 38 = .ok (.aload_n 0, 1) := by decide +kernel
theorem dX8_removeRule_39 : decode cX8_removeRule 39 = .ok (.getfield 47, 3) := by decide +kernel
theorem dX8_removeRule_42 : decode cX8_removeRule 42 = .ok (.iload_n 1, 1) := by decide +kernel
theorem dX8_removeRule_43 : decode cX8_removeRule 43 = .ok (.dup2, 1) := by decide +kernel
theorem dX8_removeRule_44 : decode cX8_removeRule 44 = .ok (.iaload, 1) := by decide +kernel
theorem dX8_removeRule_45 : decode cX8_removeRule 45 = .ok (.iconst 1, 1) := by decide +kernel
theorem dX8_removeRule_46 : decode cX8_removeRule 46 = .ok (.isub, 1) := by decide +kernel
theorem dX8_removeRule_47 : decode cX8_removeRule 47 = .ok (.iastore, 1) := by decide +kernel
theorem dX8_removeRule_48 : decode cX8_removeRule 48 = .ok (.bipush 12, 2) := by decide +kernel
theorem dX8_removeRule_50 : decode cX8_removeRule 50 = .ok (.iload_n 1, 1) := by decide +kernel
theorem dX8_removeRule_51 : decode cX8_removeRule 51 = .ok (.imul, 1) := by decide +kernel
theorem dX8_removeRule_52 : decode cX8_removeRule 52 = .ok (.iload_n 2, 1) := by decide +kernel
theorem dX8_removeRule_53 : decode cX8_removeRule 53 = .ok (.iadd, 1) := by decide +kernel
theorem dX8_removeRule_54 : decode cX8_removeRule 54 = .ok (.istore_n 3, 1) := by decide +kernel
theorem dX8_removeRule_55 : decode cX8_removeRule 55 = .ok (.iload_n 3, 1) := by decide +kernel
theorem dX8_removeRule_56 : decode cX8_removeRule 56 = .ok (.bipush 12, 2) := by decide +kernel
theorem dX8_removeRule_58 : decode cX8_removeRule 58 = .ok (.iload_n 1, 1) := by decide +kernel
theorem dX8_removeRule_59 : decode cX8_removeRule 59 = .ok (.imul, 1) := by decide +kernel
theorem dX8_removeRule_60 : decode cX8_removeRule 60 = .ok (.aload_n 0, 1) := by decide +kernel
theorem dX8_removeRule_61 : decode cX8_removeRule 61 = .ok (.getfield 47, 3) := by decide +kernel
theorem dX8_removeRule_64 : decode cX8_removeRule 64 = .ok (.iload_n 1, 1) := by decide +kernel
theorem dX8_removeRule_65 : decode cX8_removeRule 65 = .ok (.iaload, 1) := by decide +kernel
theorem dX8_removeRule_66 : decode cX8_removeRule 66 = .ok (.iadd, 1) := by decide +kernel
theorem dX8_removeRule_67 : decode cX8_removeRule 67 = .ok (.if_icmp .ge 17, 3) := by decide +kernel
theorem dX8_removeRule_70 : decode cX8_removeRule 70 = .ok (.aload_n 0, 1) := by decide +kernel
theorem dX8_removeRule_71 : decode cX8_removeRule 71 = .ok (.iload_n 3, 1) := by decide +kernel
theorem dX8_removeRule_72 : decode cX8_removeRule 72 = .ok (.iload_n 3, 1) := by decide +kernel
theorem dX8_removeRule_73 : decode cX8_removeRule 73 = .ok (.iconst 1, 1) := by decide +kernel
theorem dX8_removeRule_74 : decode cX8_removeRule 74 = .ok (.iadd, 1) := by decide +kernel
theorem dX8_removeRule_75 : decode cX8_removeRule 75 = .ok (.invokevirtual 124, 3) := by decide +kernel
theorem dX8_removeRule_78 : decode cX8_removeRule 78 = .ok (.iinc 3 1, 3) := by decide +kernel
theorem dX8_removeRule_81 : decode cX8_removeRule 81 = .ok (.goto (-26), 3) := by decide +kernel
theorem dX8_removeRule_84 : decode cX8_removeRule 84 = .ok (.aload_n 0, 1) := by decide +kernel
theorem dX8_removeRule_85 : decode cX8_removeRule 85 = .ok (.getfield 47, 3) := by decide +kernel
theorem dX8_removeRule_88 : decode cX8_removeRule 88 = .ok (.iload_n 1, 1) := by decide +kernel
theorem dX8_removeRule_89 : decode cX8_removeRule 89 = .ok (.iaload, 1) := by decide +kernel
theorem dX8_removeRule_90 : decode cX8_removeRule 90 = .ok (.ireturn, 1) := by decide +kernel
set_option maxRecDepth 20000 in
theorem ggX8_setRoute_X8_isIn : GoodIn wsX8_setRoute wsX8_isIn := goodIn_r _ [9] (by decide +kernel) (by decide +kernel)
set_option maxRecDepth 20000 in
theorem gX8_setRoute_X8_isIn : GoodIn wsX8_setRoute (va_wsS RX8 103 yX8_isIn wsX8_isIn) := goodIn_app (goodIn_of _ (by decide +kernel)) ggX8_setRoute_X8_isIn
set_option maxRecDepth 20000 in
theorem ggX8_setRoute_X8_isBlock : GoodIn wsX8_setRoute wsX8_isBlock := goodIn_r _ [12] (by decide +kernel) (by decide +kernel)
set_option maxRecDepth 20000 in
theorem gX8_setRoute_X8_isBlock : GoodIn wsX8_setRoute (va_wsS RX8 86 yX8_isBlock wsX8_isBlock) := goodIn_app (goodIn_of _ (by decide +kernel)) ggX8_setRoute_X8_isBlock
set_option maxRecDepth 20000 in
theorem ggX8_setRoute_X8_block : GoodIn wsX8_setRoute wsX8_block := goodIn_r _ [15] (by decide +kernel) (by decide +kernel)
set_option maxRecDepth 20000 in
theorem gX8_setRoute_X8_block : GoodIn wsX8_setRoute (va_wsS RX8 92 yX8_block wsX8_block) := goodIn_app (goodIn_of _ (by decide +kernel)) ggX8_setRoute_X8_block
set_option maxRecDepth 20000 in
theorem ggX8_setRoute_X8_holds : GoodIn wsX8_setRoute wsX8_holds := goodIn_r _ [19, 20, 21, 22, 23, 24, 25, 26, 27, 28, 29, 30, 31, 32, 33, 34, 35, 36, 37, 38, 39, 40, 41, 42, 43, 44, 45, 46] (by decide +kernel) (by decide +kernel)
set_option maxRecDepth 20000 in
theorem gX8_setRoute_X8_holds : GoodIn wsX8_setRoute (wsV RX8 99 RX8 yX8_holds wsX8_holds) := goodIn_app (goodIn_of _ (by decide +kernel)) ggX8_setRoute_X8_holds
theorem dX8_setRoute_0 : decode cX8_setRoute 0 = .ok (.iload_n 1, 1) := by decide +kernel
theorem dX8_setRoute_1 : decode cX8_setRoute 1 = .ok (.aload_n 0, 1) := by decide +kernel
theorem dX8_setRoute_2 : decode cX8_setRoute 2 = .ok (.getfield 106, 3) := by decide +kernel
theorem dX8_setRoute_5 : decode cX8_setRoute 5 = .ok (.invokestatic 103, 3) := by decide +kernel
theorem dX8_setRoute_8 : decode cX8_setRoute 8 = .ok (.ifCond .eq 25, 3) := by decide +kernel
theorem dX8_setRoute_11 : decode cX8_setRoute 11 = .ok (.iload 4, 2) := by decide +kernel
theorem dX8_setRoute_13 : decode cX8_setRoute 13 = .ok (.iconst (-1), 1) := by decide +kernel
theorem dX8_setRoute_14 : decode cX8_setRoute 14 = .ok (.if_icmp .eq 15, 3) := by decide +kernel
theorem dX8_setRoute_17 : decode cX8_setRoute 17 = .ok (.iload 4, 2) := by decide +kernel
theorem dX8_setRoute_19 : decode cX8_setRoute 19 = .ok (.aload_n 0, 1) := by decide +kernel
theorem dX8_setRoute_20 : decode cX8_setRoute 20 = .ok (.getfield 112, 3) := by decide +kernel
theorem dX8_setRoute_23 : decode cX8_setRoute 23 = .ok (.invokestatic 103, 3) := by decide +kernel
theorem dX8_setRoute_26 : decode cX8_setRoute 26 = .ok (.ifCond .eq 7, 3) := by decide +kernel
theorem dX8_setRoute_29 : decode cX8_setRoute 29 = .ok (.iconst 1, 1) := by decide +kernel
theorem dX8_setRoute_30 : decode cX8_setRoute 30 = .ok (.goto 4, 3) := by decide +kernel
theorem dX8_setRoute_33 : decode cX8_setRoute 33 = .ok (.iconst 0, 1) := by decide +kernel
theorem dX8_setRoute_34 : decode cX8_setRoute 34 = .ok (.istore 5, 2) := by decide +kernel
theorem dX8_setRoute_36 : decode cX8_setRoute 36 = .ok (.iload 5, 2) := by decide +kernel
theorem dX8_setRoute_38 : decode cX8_setRoute 38 = .ok (.ifCond .eq 15, 3) := by decide +kernel
theorem dX8_setRoute_41 : decode cX8_setRoute 41 = .ok (.iload_n 2, 1) := by decide +kernel
theorem dX8_setRoute_42 : decode cX8_setRoute 42 = .ok (.iload_n 3, 1) := by decide +kernel
theorem dX8_setRoute_43 : decode cX8_setRoute 43 = .ok (.invokestatic 86, 3) := by decide +kernel
theorem dX8_setRoute_46 : decode cX8_setRoute 46 = .ok (.ifCond .eq 7, 3) := by decide +kernel
theorem dX8_setRoute_49 : decode cX8_setRoute 49 = .ok (.iconst 1, 1) := by decide +kernel
theorem dX8_setRoute_50 : decode cX8_setRoute 50 = .ok (.goto 4, 3) := by decide +kernel
theorem dX8_setRoute_53 : decode cX8_setRoute 53 = .ok (.iconst 0, 1) := by decide +kernel
theorem dX8_setRoute_54 : decode cX8_setRoute 54 = .ok (.istore 6, 2) := by decide +kernel
theorem dX8_setRoute_56 : decode cX8_setRoute 56 = .ok (.iconst (-1), 1) := by decide +kernel
theorem dX8_setRoute_57 : decode cX8_setRoute 57 = .ok (.istore 7, 2) := by decide +kernel
theorem dX8_setRoute_59 : decode cX8_setRoute 59 = .ok (.iconst 0, 1) := by decide +kernel
theorem dX8_setRoute_60 : decode cX8_setRoute 60 = .ok (.istore 8, 2) := by decide +kernel
theorem dX8_setRoute_62 : decode cX8_setRoute 62 = .ok (.iload 8, 2) := by decide +kernel
theorem dX8_setRoute_64 : decode cX8_setRoute 64 = .ok (.bipush 8, 2) := by decide +kernel
theorem dX8_setRoute_66 : decode cX8_setRoute 66 = .ok (.if_icmp .ge 54, 3) := by decide +kernel
theorem dX8_setRoute_69 : decode cX8_setRoute 69 = .ok (.iload 6, 2) := by decide +kernel
theorem dX8_setRoute_71 : decode cX8_setRoute 71 = .ok (.ifCond .eq 49, 3) := by decide +kernel
theorem dX8_setRoute_74 : decode cX8_setRoute 74 = .ok (.iload 8, 2) := by decide +kernel
theorem dX8_setRoute_76 : decode cX8_setRoute 76 = .ok (.aload_n 0, 1) := by decide +kernel
theorem dX8_setRoute_77 : decode cX8_setRoute 77 = .ok (.getfield 62, 3) := by decide +kernel
theorem dX8_setRoute_80 : decode cX8_setRoute 80 = .ok (.iload_n 1, 1) := by decide +kernel
theorem dX8_setRoute_81 : decode cX8_setRoute 81 = .ok (.iaload, 1) := by decide +kernel
theorem dX8_setRoute_82 : decode cX8_setRoute 82 = .ok (.if_icmp .ge 28, 3) := by decide +kernel
theorem dX8_setRoute_85 : decode cX8_setRoute 85 = .ok (.aload_n 0, 1) := by decide +kernel
theorem dX8_setRoute_86 : decode cX8_setRoute 86 = .ok (.getfield 65, 3) := by decide +kernel
theorem dX8_setRoute_89 : decode cX8_setRoute 89 = .ok (.bipush 8, 2) := by decide +kernel
theorem dX8_setRoute_91 : decode cX8_setRoute 91 = .ok (.iload_n 1, 1) := by decide +kernel
theorem dX8_setRoute_92 : decode cX8_setRoute 92 = .ok (.imul, 1) := by decide +kernel
theorem dX8_setRoute_93 : decode cX8_setRoute 93 = .ok (.iload 8, 2) := by decide +kernel
theorem dX8_setRoute_95 : decode cX8_setRoute 95 = .ok (.iadd, 1) := by decide +kernel
theorem dX8_setRoute_96 : decode cX8_setRoute 96 = .ok (.iaload, 1) := by decide +kernel
theorem dX8_setRoute_97 : decode cX8_setRoute 97 = .ok (.iload_n 2, 1) := by decide +kernel
theorem dX8_setRoute_98 : decode cX8_setRoute 98 = .ok (.iload_n 3, 1) := by decide +kernel
theorem dX8_setRoute_99 : decode cX8_setRoute 99 = .ok (.invokestatic 92, 3) := by decide +kernel
theorem dX8_setRoute_102 : decode cX8_setRoute 102 = .ok (.if_icmp .ne 8, 3) := by decide +kernel
theorem dX8_setRoute_105 : decode cX8_setRoute 105 = .ok (.iload 8, 2) := by decide +kernel
theorem dX8_setRoute_107 : decode cX8_setRoute 107 = .ok (.goto 5, 3) := by decide +kernel
theorem dX8_setRoute_110 : decode cX8_setRoute 110 = .ok (.iload 7, 2) := by decide +kernel
theorem dX8_setRoute_112 : decode cX8_setRoute 112 = .ok (.istore 7, 2) := by decide +kernel
theorem dX8_setRoute_114 : decode cX8_setRoute 114 = .ok (.iinc 8 1, 3) := by decide +kernel
theorem dX8_setRoute_117 : decode cX8_setRoute 117 = .ok (.goto (-55), 3) := by decide +kernel
theorem dX8_setRoute_120 : decode cX8_setRoute 120 = .ok (.aload_n 0, 1) := by decide +kernel
theorem dX8_setRoute_121 : decode cX8_setRoute 121 = .ok (.iload 5, 2) := by decide +kernel
theorem dX8_setRoute_123 : decode cX8_setRoute 123 = .ok (.ifCond .ne 7, 3) := by decide +kernel
theorem dX8_setRoute_126 : decode cX8_setRoute 126 = .ok (.iconst 1, 1) := by decide +kernel
theorem dX8_setRoute_127 : decode cX8_setRoute 127 = .ok (.goto 40, 3) := by decide +kernel
theorem dX8_setRoute_130 : decode cX8_setRoute 130 = .ok (.iload 6, 2) := by decide +kernel
theorem dX8_setRoute_132 : decode cX8_setRoute 132 = .ok (.ifCond .ne 7, 3) := by decide +kernel
theorem dX8_setRoute_135 : decode cX8_setRoute 135 = .ok (.iconst 2, 1) := by decide +kernel
theorem dX8_setRoute_136 : decode cX8_setRoute 136 = .ok (.goto 31, 3) := by decide +kernel
theorem dX8_setRoute_139 : decode cX8_setRoute 139 = .ok (.iload 4, 2) := by decide +kernel
theorem dX8_setRoute_141 : decode cX8_setRoute 141 = .ok (.iconst (-1), 1) := by decide +kernel
theorem dX8_setRoute_142 : decode cX8_setRoute 142 = .ok (.if_icmp .eq 24, 3) := by decide +kernel
theorem dX8_setRoute_145 : decode cX8_setRoute 145 = .ok (.iload 7, 2) := by decide +kernel
theorem dX8_setRoute_147 : decode cX8_setRoute 147 = .ok (.iconst (-1), 1) := by decide +kernel
theorem dX8_setRoute_148 : decode cX8_setRoute 148 = .ok (.if_icmp .ne 18, 3) := by decide +kernel
theorem dX8_setRoute_151 : decode cX8_setRoute 151 = .ok (.aload_n 0, 1) := by decide +kernel
theorem dX8_setRoute_152 : decode cX8_setRoute 152 = .ok (.getfield 62, 3) := by decide +kernel
theorem dX8_setRoute_155 : decode cX8_setRoute 155 = .ok (.iload_n 1, 1) := by decide +kernel
theorem dX8_setRoute_156 : decode cX8_setRoute 156 = .ok (.iaload, 1) := by decide +kernel
theorem dX8_setRoute_157 : decode cX8_setRoute 157 = .ok (.bipush 8, 2) := by decide +kernel
theorem dX8_setRoute_159 : decode cX8_setRoute 159 = .ok (.if_icmp .ne 7, 3) := by decide +kernel
theorem dX8_setRoute_162 : decode cX8_setRoute 162 = .ok (.iconst 3, 1) := by decide +kernel
theorem dX8_setRoute_163 : decode cX8_setRoute 163 = .ok (.goto 4, 3) := by decide +kernel
theorem dX8_setRoute_166 : decode cX8_setRoute 166 = .ok (.iconst 0, 1) := by decide +kernel
theorem dX8_setRoute_167 : decode cX8_setRoute 167 = .ok (.invokevirtual 99, 3) := by decide +kernel
theorem dX8_setRoute_170 : decode cX8_setRoute 170 = .ok (.ifCond .ne 5, 3) := by decide +kernel
theorem dX8_setRoute_173 : decode cX8_setRoute 173 = .ok (.iconst 0, 1) := by decide +kernel
theorem dX8_setRoute_174 : decode cX8_setRoute 174 = .ok (.ireturn, 1) := by decide +kernel
theorem dX8_setRoute_175 : decode cX8_setRoute 175 = .ok (.iload 7, 2) := by decide +kernel
theorem dX8_setRoute_177 : decode cX8_setRoute 177 = .ok (.iconst (-1), 1) := by decide +kernel
theorem dX8_setRoute_178 : decode cX8_setRoute 178 = .ok (.if_icmp .ne 7, 3) := by decide +kernel
theorem dX8_setRoute_181 : decode cX8_setRoute 181 = .ok (.iconst (-1), 1) := by decide +kernel
theorem dX8_setRoute_182 : decode cX8_setRoute 182 = .ok (.goto 15, 3) := by decide +kernel
theorem dX8_setRoute_185 : decode cX8_setRoute 185 = .ok (.aload_n 0, 1) := by decide +kernel
theorem dX8_setRoute_186 : decode cX8_setRoute 186 = .ok (.getfield 68, 3) := by decide +kernel
theorem dX8_setRoute_189 : decode cX8_setRoute 189 = .ok (.bipush 8, 2) := by decide +kernel
theorem dX8_setRoute_191 : decode cX8_setRoute 191 = .ok (.iload_n 1, 1) := by decide +kernel
theorem dX8_setRoute_192 : decode cX8_setRoute 192 = .ok (.imul, 1) := by decide +kernel
theorem dX8_setRoute_193 : decode cX8_setRoute 193 = .ok (.iload 7, 2) := by decide +kernel
theorem dX8_setRoute_195 : decode cX8_setRoute 195 = .ok (.iadd, 1) := by decide +kernel
theorem dX8_setRoute_196 : decode cX8_setRoute 196 = .ok (.iaload, 1) := by decide +kernel
theorem dX8_setRoute_197 : decode cX8_setRoute 197 = .ok (.istore 8, 2) := by decide +kernel
theorem dX8_setRoute_199 : decode cX8_setRoute 199 = .ok (.iload 4, 2) := by decide +kernel
theorem dX8_setRoute_201 : decode cX8_setRoute 201 = .ok (.iconst (-1), 1) := by decide +kernel
theorem dX8_setRoute_202 : decode cX8_setRoute 202 = .ok (.if_icmp .ne 75, 3) := by decide +kernel
theorem dX8_setRoute_205 : decode cX8_setRoute 205 = .ok (.iload 7, 2) := by decide +kernel
theorem dX8_setRoute_207 : decode cX8_setRoute 207 = .ok (.iconst (-1), 1) := by decide +kernel
theorem dX8_setRoute_208 : decode cX8_setRoute 208 = .ok (.if_icmp .eq 69, 3) := by decide +kernel
theorem dX8_setRoute_211 : decode cX8_setRoute 211 = .ok (.aload_n 0, 1) := by decide +kernel
theorem dX8_setRoute_212 : decode cX8_setRoute 212 = .ok (.getfield 62, 3) := by decide +kernel
theorem dX8_setRoute_215 : decode cX8_setRoute 215 = .ok (.iload_n 1, 1) := by decide +kernel
theorem dX8_setRoute_216 : decode cX8_setRoute 216 = .ok (.dup2, 1) := by decide +kernel
theorem dX8_setRoute_217 : decode cX8_setRoute 217 = .ok (.iaload, 1) := by decide +kernel
theorem dX8_setRoute_218 : decode cX8_setRoute 218 = .ok (.iconst 1, 1) := by decide +kernel
theorem dX8_setRoute_219 : decode cX8_setRoute 219 = .ok (.isub, 1) := by decide +kernel
theorem dX8_setRoute_220 : decode cX8_setRoute 220 = .ok (.iastore, 1) := by decide +kernel
theorem dX8_setRoute_221 : decode cX8_setRoute 221 = .ok (.aload_n 0, 1) := by decide +kernel
theorem dX8_setRoute_222 : decode cX8_setRoute 222 = .ok (.getfield 65, 3) := by decide +kernel
theorem dX8_setRoute_225 : decode cX8_setRoute 225 = .ok (.bipush 8, 2) := by decide +kernel
theorem dX8_setRoute_227 : decode cX8_setRoute 227 = .ok (.iload_n 1, 1) := by decide +kernel
theorem dX8_setRoute_228 : decode cX8_setRoute 228 = .ok (.imul, 1) := by decide +kernel
theorem dX8_setRoute_229 : decode cX8_setRoute 229 = .ok (.iload 7, 2) := by decide +kernel
theorem dX8_setRoute_231 : decode cX8_setRoute 231 = .ok (.iadd, 1) := by decide +kernel
theorem dX8_setRoute_232 : decode cX8_setRoute 232 = .ok (.aload_n 0, 1) := by decide +kernel
theorem dX8_setRoute_233 : decode cX8_setRoute 233 = .ok (.getfield 65, 3) := by decide +kernel
theorem dX8_setRoute_236 : decode cX8_setRoute 236 = .ok (.bipush 8, 2) := by decide +kernel
theorem dX8_setRoute_238 : decode cX8_setRoute 238 = .ok (.iload_n 1, 1) := by decide +kernel
theorem dX8_setRoute_239 : decode cX8_setRoute 239 = .ok (.imul, 1) := by decide +kernel
theorem dX8_setRoute_240 : decode cX8_setRoute 240 = .ok (.aload_n 0, 1) := by decide +kernel
theorem dX8_setRoute_241 : decode cX8_setRoute 241 = .ok (.getfield 62, 3) := by decide +kernel
theorem dX8_setRoute_244 : decode cX8_setRoute 244 = .ok (.iload_n 1, 1) := by decide +kernel
theorem dX8_setRoute_245 : decode cX8_setRoute 245 = .ok (.iaload, 1) := by decide +kernel
theorem dX8_setRoute_246 : decode cX8_setRoute 246 = .ok (.iadd, 1) := by decide +kernel
theorem dX8_setRoute_247 : decode cX8_setRoute 247 = .ok (.iaload, 1) := by decide +kernel
theorem dX8_setRoute_248 : decode cX8_setRoute 248 = .ok (.iastore, 1) := by decide +kernel
theorem dX8_setRoute_249 : decode cX8_setRoute 249 = .ok (.aload_n 0, 1) := by decide +kernel
theorem dX8_setRoute_250 : decode cX8_setRoute 250 = .ok (.getfield 68, 3) := by decide +kernel
theorem dX8_setRoute_253 : decode cX8_setRoute 253 = .ok (.bipush 8, 2) := by decide +kernel
theorem dX8_setRoute_255 : decode cX8_setRoute 255 = .ok (.iload_n 1, 1) := by decide +kernel
theorem dX8_setRoute_256 : decode cX8_setRoute 256 = .ok (.imul, 1) := by decide +kernel
theorem dX8_setRoute_257 : decode cX8_setRoute 257 = .ok (.iload 7, 2) := by decide +kernel
theorem dX8_setRoute_259 : decode cX8_setRoute 259 = .ok (.iadd, 1) := by decide +kernel
theorem dX8_setRoute_260 : decode cX8_setRoute 260 = .ok (.aload_n 0, 1) := by decide +kernel
theorem dX8_setRoute_261 : decode cX8_setRoute 261 = .ok (.getfield 68, 3) := by decide +kernel
theorem dX8_setRoute_264 : decode cX8_setRoute 264 = .ok (.bipush 8, 2) := by decide +kernel
theorem dX8_setRoute_266 : decode cX8_setRoute 266 = .ok (.iload_n 1, 1) := by decide +kernel
theorem dX8_setRoute_267 : decode cX8_setRoute 267 = .ok (.imul, 1) := by decide +kernel
theorem dX8_setRoute_268 : decode cX8_setRoute 268 = .ok (.aload_n 0, 1) := by decide +kernel
theorem dX8_setRoute_269 : decode cX8_setRoute 269 = .ok (.getfield 62, 3) := by decide +kernel
theorem dX8_setRoute_272 : decode cX8_setRoute 272 = .ok (.iload_n 1, 1) := by decide +kernel
theorem dX8_setRoute_273 : decode cX8_setRoute 273 = .ok (.iaload, 1) := by decide +kernel
theorem dX8_setRoute_274 : decode cX8_setRoute 274 = .ok (.iadd, 1) := by decide +kernel
theorem dX8_setRoute_275 : decode cX8_setRoute 275 = .ok (.iaload, 1) := by decide +kernel
theorem dX8_setRoute_276 : decode cX8_setRoute 276 = .ok (.iastore, 1) := by decide +kernel
theorem dX8_setRoute_277 : decode cX8_setRoute 277 = .ok (.iload 4, 2) := by decide +kernel
theorem dX8_setRoute_279 : decode cX8_setRoute 279 = .ok (.iconst (-1), 1) := by decide +kernel
theorem dX8_setRoute_280 : decode cX8_setRoute 280 = .ok (.if_icmp .eq 73, 3) := by decide +kernel
theorem dX8_setRoute_283 : decode cX8_setRoute 283 = .ok (.iload 7, 2) := by decide +kernel
theorem dX8_setRoute_285 : decode cX8_setRoute 285 = .ok (.iconst (-1), 1) := by decide +kernel
theorem dX8_setRoute_286 : decode cX8_setRoute 286 = .ok (.if_icmp .ne 12, 3) := by decide +kernel
theorem dX8_setRoute_289 : decode cX8_setRoute 289 = .ok (.aload_n 0, 1) := by decide +kernel
theorem dX8_setRoute_290 : decode cX8_setRoute 290 = .ok (.getfield 62, 3) := by decide +kernel
theorem dX8_setRoute_293 : decode cX8_setRoute 293 = .ok (.iload_n 1, 1) := by decide +kernel
theorem dX8_setRoute_294 : decode cX8_setRoute 294 = .ok (.iaload, 1) := by decide +kernel
theorem dX8_setRoute_295 : decode cX8_setRoute 295 = .ok (.goto 5, 3) := by decide +kernel
theorem dX8_setRoute_298 : decode cX8_setRoute 298 = .ok (.iload 7, 2) := by decide +kernel
theorem dX8_setRoute_300 : decode cX8_setRoute 300 = .ok (.istore 9, 2) := by decide +kernel
theorem dX8_setRoute_302 : decode cX8_setRoute 302 = .ok (.aload_n 0, 1) := by decide +kernel
theorem dX8_setRoute_303 : decode cX8_setRoute 303 = .ok (.getfield 65, 3) := by decide +kernel
theorem dX8_setRoute_306 : decode cX8_setRoute 306 = .ok (.bipush 8, 2) := by decide +kernel
theorem dX8_setRoute_308 : decode cX8_setRoute 308 = .ok (.iload_n 1, 1) := by decide +kernel
theorem dX8_setRoute_309 : decode cX8_setRoute 309 = .ok (.imul, 1) := by decide +kernel
theorem dX8_setRoute_310 : decode cX8_setRoute 310 = .ok (.iload 9, 2) := by decide +kernel
theorem dX8_setRoute_312 : decode cX8_setRoute 312 = .ok (.iadd, 1) := by decide +kernel
theorem dX8_setRoute_313 : decode cX8_setRoute 313 = .ok (.iload_n 2, 1) := by decide +kernel
theorem dX8_setRoute_314 : decode cX8_setRoute 314 = .ok (.iload_n 3, 1) := by decide +kernel
theorem dX8_setRoute_315 : decode cX8_setRoute 315 = .ok (.invokestatic 92, 3) := by decide +kernel
theorem dX8_setRoute_318 : decode cX8_setRoute 318 = .ok (.iastore, 1) := by decide +kernel
theorem dX8_setRoute_319 : decode cX8_setRoute 319 = .ok (.aload_n 0, 1) := by decide +kernel
theorem dX8_setRoute_320 : decode cX8_setRoute 320 = .ok (.getfield 68, 3) := by decide +kernel
theorem dX8_setRoute_323 : decode cX8_setRoute 323 = .ok (.bipush 8, 2) := by decide +kernel
theorem dX8_setRoute_325 : decode cX8_setRoute 325 = .ok (.iload_n 1, 1) := by decide +kernel
theorem dX8_setRoute_326 : decode cX8_setRoute 326 = .ok (.imul, 1) := by decide +kernel
theorem dX8_setRoute_327 : decode cX8_setRoute 327 = .ok (.iload 9, 2) := by decide +kernel
theorem dX8_setRoute_329 : decode cX8_setRoute 329 = .ok (.iadd, 1) := by decide +kernel
theorem dX8_setRoute_330 : decode cX8_setRoute 330 = .ok (.iload 4, 2) := by decide +kernel
theorem dX8_setRoute_332 : decode cX8_setRoute 332 = .ok (.iastore, 1) := by decide +kernel
theorem dX8_setRoute_333 : decode cX8_setRoute 333 = .ok (.aload_n 0, 1) := by decide +kernel
theorem dX8_setRoute_334 : decode cX8_setRoute 334 = .ok (.getfield 62, 3) := by decide +kernel
theorem dX8_setRoute_337 : decode cX8_setRoute 337 = .ok (.iload_n 1, 1) := by decide +kernel
theorem dX8_setRoute_338 : decode cX8_setRoute 338 = .ok (.dup2, 1) := by decide +kernel
theorem dX8_setRoute_339 : decode cX8_setRoute 339 = .ok (.iaload, 1) := by decide +kernel
theorem dX8_setRoute_340 : decode cX8_setRoute 340 = .ok (.iload 7, 2) := by decide +kernel
theorem dX8_setRoute_342 : decode cX8_setRoute 342 = .ok (.iconst (-1), 1) := by decide +kernel
theorem dX8_setRoute_343 : decode cX8_setRoute 343 = .ok (.if_icmp .ne 7, 3) := by decide +kernel
theorem dX8_setRoute_346 : decode cX8_setRoute 346 = .ok (.iconst 1, 1) := by decide +kernel
theorem dX8_setRoute_347 : decode cX8_setRoute 347 = .ok (.goto 4, 3) := by decide +kernel
theorem dX8_setRoute_350 : decode cX8_setRoute 350 = .ok (.iconst 0, 1) := by decide +kernel
theorem dX8_setRoute_351 : decode cX8_setRoute 351 = .ok (.iadd, 1) := by decide +kernel
theorem dX8_setRoute_352 : decode cX8_setRoute 352 = .ok (.iastore, 1) := by decide +kernel
theorem dX8_setRoute_353 : decode cX8_setRoute 353 = .ok (.iload 8, 2) := by decide +kernel
theorem dX8_setRoute_355 : decode cX8_setRoute 355 = .ok (.ireturn, 1) := by decide +kernel
set_option maxRecDepth 20000 in
theorem ggX8_routeOf_X8_has : GoodIn wsX8_routeOf wsX8_has := goodIn_r _ [9, 10, 11, 8, 12, 13, 14, 15] (by decide +kernel) (by decide +kernel)
set_option maxRecDepth 20000 in
theorem gX8_routeOf_X8_has : GoodIn wsX8_routeOf (va_wsS RX8 82 yX8_has wsX8_has) := goodIn_app (goodIn_of _ (by decide +kernel)) ggX8_routeOf_X8_has
theorem dX8_routeOf_0 : decode cX8_routeOf 0 = .ok (.aload_n 0, 1) := by decide +kernel
theorem dX8_routeOf_1 : decode cX8_routeOf 1 = .ok (.getfield 7, 3) := by decide +kernel
theorem dX8_routeOf_4 : decode cX8_routeOf 4 = .ok (.aload_n 0, 1) := by decide +kernel
theorem dX8_routeOf_5 : decode cX8_routeOf 5 = .ok (.getfield 13, 3) := by decide +kernel
theorem dX8_routeOf_8 : decode cX8_routeOf 8 = .ok (.iload_n 1, 1) := by decide +kernel
theorem dX8_routeOf_9 : decode cX8_routeOf 9 = .ok (.iaload, 1) := by decide +kernel
theorem dX8_routeOf_10 : decode cX8_routeOf 10 = .ok (.iaload, 1) := by decide +kernel
theorem dX8_routeOf_11 : decode cX8_routeOf 11 = .ok (.istore_n 3, 1) := by decide +kernel
theorem dX8_routeOf_12 : decode cX8_routeOf 12 = .ok (.iload_n 3, 1) := by decide +kernel
theorem dX8_routeOf_13 : decode cX8_routeOf 13 = .ok (.iload_n 2, 1) := by decide +kernel
theorem dX8_routeOf_14 : decode cX8_routeOf 14 = .ok (.invokestatic 82, 3) := by decide +kernel
theorem dX8_routeOf_17 : decode cX8_routeOf 17 = .ok (.ifCond .eq 7, 3) := by decide +kernel
theorem dX8_routeOf_20 : decode cX8_routeOf 20 = .ok (.iconst (-1), 1) := by decide +kernel
theorem dX8_routeOf_21 : decode cX8_routeOf 21 = .ok (.goto 5, 3) := by decide +kernel
theorem dX8_routeOf_24 : decode cX8_routeOf 24 = .ok (.bipush (-2), 2) := by decide +kernel
theorem dX8_routeOf_26 : decode cX8_routeOf 26 = .ok (.istore 4, 2) := by decide +kernel
theorem dX8_routeOf_28 : decode cX8_routeOf 28 = .ok (.iload_n 3, 1) := by decide +kernel
theorem dX8_routeOf_29 : decode cX8_routeOf 29 = .ok (.iload_n 2, 1) := by decide +kernel
theorem dX8_routeOf_30 : decode cX8_routeOf 30 = .ok (.invokestatic 82, 3) := by decide +kernel
theorem dX8_routeOf_33 : decode cX8_routeOf 33 = .ok (.ifCond .eq 10, 3) := by decide +kernel
theorem dX8_routeOf_36 : decode cX8_routeOf 36 = .ok (.iload_n 3, 1) := by decide +kernel
theorem dX8_routeOf_37 : decode cX8_routeOf 37 = .ok (.bipush 16, 2) := by decide +kernel
theorem dX8_routeOf_39 : decode cX8_routeOf 39 = .ok (.irem, 1) := by decide +kernel
theorem dX8_routeOf_40 : decode cX8_routeOf 40 = .ok (.goto 5, 3) := by decide +kernel
theorem dX8_routeOf_43 : decode cX8_routeOf 43 = .ok (.bipush 11, 2) := by decide +kernel
theorem dX8_routeOf_45 : decode cX8_routeOf 45 = .ok (.istore 5, 2) := by decide +kernel
theorem dX8_routeOf_47 : decode cX8_routeOf 47 = .ok (.bipush 8, 2) := by decide +kernel
theorem dX8_routeOf_49 : decode cX8_routeOf 49 = .ok (.iload_n 1, 1) := by decide +kernel
theorem dX8_routeOf_50 : decode cX8_routeOf 50 = .ok (.imul, 1) := by decide +kernel
theorem dX8_routeOf_51 : decode cX8_routeOf 51 = .ok (.istore 6, 2) := by decide +kernel
theorem dX8_routeOf_53 : decode cX8_routeOf 53 = .ok (.iload 6, 2) := by decide +kernel
theorem dX8_routeOf_55 : decode cX8_routeOf 55 = .ok (.bipush 8, 2) := by decide +kernel
theorem dX8_routeOf_57 : decode cX8_routeOf 57 = .ok (.iload_n 1, 1) := by decide +kernel
theorem dX8_routeOf_58 : decode cX8_routeOf 58 = .ok (.imul, 1) := by decide +kernel
theorem dX8_routeOf_59 : decode cX8_routeOf 59 = .ok (.aload_n 0, 1) := by decide +kernel
theorem dX8_routeOf_60 : decode cX8_routeOf 60 = .ok (.getfield 62, 3) := by decide +kernel
theorem dX8_routeOf_63 : decode cX8_routeOf 63 = .ok (.iload_n 1, 1) := by decide +kernel
theorem dX8_routeOf_64 : decode cX8_routeOf 64 = .ok (.iaload, 1) := by decide +kernel
theorem dX8_routeOf_65 : decode cX8_routeOf 65 = .ok (.iadd, 1) := by decide +kernel
theorem dX8_routeOf_66 : decode cX8_routeOf 66 = .ok (.if_icmp .ge 86, 3) := by decide +kernel
theorem dX8_routeOf_69 : decode cX8_routeOf 69 = .ok (.aload_n 0, 1) := by decide +kernel
theorem dX8_routeOf_70 : decode cX8_routeOf 70 = .ok (.getfield 65, 3) := by decide +kernel
theorem dX8_routeOf_73 : decode cX8_routeOf 73 = .ok (.iload 6, 2) := by decide +kernel
theorem dX8_routeOf_75 : decode cX8_routeOf 75 = .ok (.iaload, 1) := by decide +kernel
theorem dX8_routeOf_76 : decode cX8_routeOf 76 = .ok (.iload_n 2, 1) := by decide +kernel
theorem dX8_routeOf_77 : decode cX8_routeOf 77 = .ok (.invokestatic 82, 3) := by decide +kernel
theorem dX8_routeOf_80 : decode cX8_routeOf 80 = .ok (.ifCond .eq 22, 3) := by decide +kernel
theorem dX8_routeOf_83 : decode cX8_routeOf 83 = .ok (.aload_n 0, 1) := by decide +kernel
theorem dX8_routeOf_84 : decode cX8_routeOf 84 = .ok (.getfield 65, 3) := by decide +kernel
theorem dX8_routeOf_87 : decode cX8_routeOf 87 = .ok (.iload 6, 2) := by decide +kernel
theorem dX8_routeOf_89 : decode cX8_routeOf 89 = .ok (.iaload, 1) := by decide +kernel
theorem dX8_routeOf_90 : decode cX8_routeOf 90 = .ok (.bipush 16, 2) := by decide +kernel
theorem dX8_routeOf_92 : decode cX8_routeOf 92 = .ok (.irem, 1) := by decide +kernel
theorem dX8_routeOf_93 : decode cX8_routeOf 93 = .ok (.iload 5, 2) := by decide +kernel
theorem dX8_routeOf_95 : decode cX8_routeOf 95 = .ok (.if_icmp .ge 7, 3) := by decide +kernel
theorem dX8_routeOf_98 : decode cX8_routeOf 98 = .ok (.iconst 1, 1) := by decide +kernel
theorem dX8_routeOf_99 : decode cX8_routeOf 99 = .ok (.goto 4, 3) := by decide +kernel
theorem dX8_routeOf_102 : decode cX8_routeOf 102 = .ok (.iconst 0, 1) := by decide +kernel
theorem dX8_routeOf_103 : decode cX8_routeOf 103 = .ok (.istore 7, 2) := by decide +kernel
theorem dX8_routeOf_105 : decode cX8_routeOf 105 = .ok (.iload 7, 2) := by decide +kernel
theorem dX8_routeOf_107 : decode cX8_routeOf 107 = .ok (.ifCond .eq 13, 3) := by decide +kernel
theorem dX8_routeOf_110 : decode cX8_routeOf 110 = .ok (.aload_n 0, 1) := by decide +kernel
theorem dX8_routeOf_111 : decode cX8_routeOf 111 = .ok (.getfield 68, 3) := by decide +kernel
theorem dX8_routeOf_114 : decode cX8_routeOf 114 = .ok (.iload 6, 2) := by decide +kernel
theorem dX8_routeOf_116 : decode cX8_routeOf 116 = .ok (.iaload, 1) := by decide +kernel
theorem dX8_routeOf_117 : decode cX8_routeOf 117 = .ok (.goto 5, 3) := by decide +kernel
theorem dX8_routeOf_120 : decode cX8_routeOf 120 = .ok (.iload 4, 2) := by decide +kernel
theorem dX8_routeOf_122 : decode cX8_routeOf 122 = .ok (.istore 4, 2) := by decide +kernel
theorem dX8_routeOf_124 : decode cX8_routeOf 124 = .ok (.iload 7, 2) := by decide +kernel
theorem dX8_routeOf_126 : decode cX8_routeOf 126 = .ok (.ifCond .eq 16, 3) := by decide +kernel
theorem dX8_routeOf_129 : decode cX8_routeOf 129 = .ok (.aload_n 0, 1) := by decide +kernel
theorem dX8_routeOf_130 : decode cX8_routeOf 130 = .ok (.getfield 65, 3) := by decide +kernel
theorem dX8_routeOf_133 : decode cX8_routeOf 133 = .ok (.iload 6, 2) := by decide +kernel
theorem dX8_routeOf_135 : decode cX8_routeOf 135 = .ok (.iaload, 1) := by decide +kernel
theorem dX8_routeOf_136 : decode cX8_routeOf 136 = .ok (.bipush 16, 2) := by decide +kernel
theorem dX8_routeOf_138 : decode cX8_routeOf 138 = .ok (.irem, 1) := by decide +kernel
theorem dX8_routeOf_139 : decode cX8_routeOf 139 = .ok (.goto 5, 3) := by decide +kernel
theorem dX8_routeOf_142 : decode cX8_routeOf 142 = .ok (.iload 5, 2) := by decide +kernel
theorem dX8_routeOf_144 : decode cX8_routeOf 144 = .ok (.istore 5, 2) := by decide +kernel
theorem dX8_routeOf_146 : decode cX8_routeOf 146 = .ok (.iinc 6 1, 3) := by decide +kernel
theorem dX8_routeOf_149 : decode cX8_routeOf 149 = .ok (.goto (-96), 3) := by decide +kernel
theorem dX8_routeOf_152 : decode cX8_routeOf 152 = .ok (.iload 4, 2) := by decide +kernel
theorem dX8_routeOf_154 : decode cX8_routeOf 154 = .ok (.ireturn, 1) := by decide +kernel
set_option maxRecDepth 20000 in
theorem ggX8_routeFor_X8_isIn : GoodIn wsX8_routeFor wsX8_isIn := goodIn_r _ [5] (by decide +kernel) (by decide +kernel)
set_option maxRecDepth 20000 in
theorem gX8_routeFor_X8_isIn : GoodIn wsX8_routeFor (va_wsS RX8 103 yX8_isIn wsX8_isIn) := goodIn_app (goodIn_of _ (by decide +kernel)) ggX8_routeFor_X8_isIn
set_option maxRecDepth 20000 in
theorem ggX8_routeFor_X8_holds : GoodIn wsX8_routeFor wsX8_holds := goodIn_r _ [9, 10, 29, 30, 31, 32, 33, 34, 35, 36, 37, 38, 39, 40, 41, 42, 43, 44, 45, 46, 47, 48, 49, 50, 51, 52, 53, 54] (by decide +kernel) (by decide +kernel)
set_option maxRecDepth 20000 in
theorem gX8_routeFor_X8_holds : GoodIn wsX8_routeFor (wsV RX8 99 RX8 yX8_holds wsX8_holds) := goodIn_app (goodIn_of _ (by decide +kernel)) ggX8_routeFor_X8_holds
set_option maxRecDepth 20000 in
theorem ggX8_routeFor_X8_routeOf : GoodIn wsX8_routeFor wsX8_routeOf := goodIn_r _ [14, 15, 16, 17, 18, 19, 20, 21, 4, 22, 23, 24, 25, 26, 27, 28, 29, 30, 31, 32, 33, 34, 35, 36, 37, 38, 39, 40, 41, 42, 43, 44, 45, 46, 47, 48, 49, 50, 51, 52, 53, 54] (by decide +kernel) (by decide +kernel)
set_option maxRecDepth 20000 in
theorem gX8_routeFor_X8_routeOf : GoodIn wsX8_routeFor (wsV RX8 128 RX8 yX8_routeOf wsX8_routeOf) := goodIn_app (goodIn_of _ (by decide +kernel)) ggX8_routeFor_X8_routeOf
theorem dX8_routeFor_0 : decode cX8_routeFor 0 = .ok (.aload_n 0, 1) := by decide +kernel
theorem dX8_routeFor_1 : decode cX8_routeFor 1 = .ok (.iload_n 1, 1) := by decide +kernel
theorem dX8_routeFor_2 : decode cX8_routeFor 2 = .ok (.aload_n 0, 1) := by decide +kernel
theorem dX8_routeFor_3 : decode cX8_routeFor 3 = .ok (.getfield 106, 3) := by decide +kernel
theorem dX8_routeFor_6 : decode cX8_routeFor 6 = .ok (.invokestatic 103, 3) := by decide +kernel
theorem dX8_routeFor_9 : decode cX8_routeFor 9 = .ok (.ifCond .ne 7, 3) := by decide +kernel
theorem dX8_routeFor_12 : decode cX8_routeFor 12 = .ok (.iconst 1, 1) := by decide +kernel
theorem dX8_routeFor_13 : decode cX8_routeFor 13 = .ok (.goto 18, 3) := by decide +kernel
theorem dX8_routeFor_16 : decode cX8_routeFor 16 = .ok (.iload_n 2, 1) := by decide +kernel
theorem dX8_routeFor_17 : decode cX8_routeFor 17 = .ok (.sipush 1024, 3) := by decide +kernel
theorem dX8_routeFor_20 : decode cX8_routeFor 20 = .ok (.invokestatic 103, 3) := by decide +kernel
theorem dX8_routeFor_23 : decode cX8_routeFor 23 = .ok (.ifCond .eq 7, 3) := by decide +kernel
theorem dX8_routeFor_26 : decode cX8_routeFor 26 = .ok (.iconst 0, 1) := by decide +kernel
theorem dX8_routeFor_27 : decode cX8_routeFor 27 = .ok (.goto 4, 3) := by decide +kernel
theorem dX8_routeFor_30 : decode cX8_routeFor 30 = .ok (.iconst 2, 1) := by decide +kernel
theorem dX8_routeFor_31 : decode cX8_routeFor 31 = .ok (.invokevirtual 99, 3) := by decide +kernel
theorem dX8_routeFor_34 : decode cX8_routeFor 34 = .ok (.ifCond .eq 12, 3) := by decide +kernel
theorem dX8_routeFor_37 : decode cX8_routeFor 37 = .ok (.aload_n 0, 1) := by decide +kernel
theorem dX8_routeFor_38 : decode cX8_routeFor 38 = .ok (.iload_n 1, 1) := by decide +kernel
theorem dX8_routeFor_39 : decode cX8_routeFor 39 = .ok (.iload_n 2, 1) := by decide +kernel
theorem dX8_routeFor_40 : decode cX8_routeFor 40 = .ok (.invokevirtual 128, 3) := by decide +kernel
theorem dX8_routeFor_43 : decode cX8_routeFor 43 = .ok (.goto 4, 3) := by decide +kernel
theorem dX8_routeFor_46 : decode cX8_routeFor 46 = .ok (.iconst 0, 1) := by decide +kernel
theorem dX8_routeFor_47 : decode cX8_routeFor 47 = .ok (.ireturn, 1) := by decide +kernel
set_option maxRecDepth 20000 in
theorem ggX8_byGroups_X8_has : GoodIn wsX8_byGroups wsX8_has := goodIn_r _ [10, 11, 12, 9, 13, 14, 15, 16] (by decide +kernel) (by decide +kernel)
set_option maxRecDepth 20000 in
theorem gX8_byGroups_X8_has : GoodIn wsX8_byGroups (va_wsS RX8 82 yX8_has wsX8_has) := goodIn_app (goodIn_of _ (by decide +kernel)) ggX8_byGroups_X8_has
theorem dX8_byGroups_0 : decode cX8_byGroups 0 = .ok (.iconst 0, 1) := by decide +kernel
theorem dX8_byGroups_1 : decode cX8_byGroups 1 = .ok (.istore 4, 2) := by decide +kernel
theorem dX8_byGroups_3 : decode cX8_byGroups 3 = .ok (.iconst 0, 1) := by decide +kernel
theorem dX8_byGroups_4 : decode cX8_byGroups 4 = .ok (.istore 5, 2) := by decide +kernel
theorem dX8_byGroups_6 : decode cX8_byGroups 6 = .ok (.iload 5, 2) := by decide +kernel
theorem dX8_byGroups_8 : decode cX8_byGroups 8 = .ok (.aload_n 0, 1) := by decide +kernel
theorem dX8_byGroups_9 : decode cX8_byGroups 9 = .ok (.getfield 115, 3) := by decide +kernel
theorem dX8_byGroups_12 : decode cX8_byGroups 12 = .ok (.if_icmp .ge 108, 3) := by decide +kernel
theorem dX8_byGroups_15 : decode cX8_byGroups 15 = .ok (.bipush 10, 2) := by decide +kernel
theorem dX8_byGroups_17 : decode cX8_byGroups 17 = .ok (.iload 5, 2) := by decide +kernel
theorem dX8_byGroups_19 : decode cX8_byGroups 19 = .ok (.imul, 1) := by decide +kernel
theorem dX8_byGroups_20 : decode cX8_byGroups 20 = .ok (.istore 6, 2) := by decide +kernel
theorem dX8_byGroups_22 : decode cX8_byGroups 22 = .ok (.iload 6, 2) := by decide +kernel
theorem dX8_byGroups_24 : decode cX8_byGroups 24 = .ok (.bipush 10, 2) := by decide +kernel
theorem dX8_byGroups_26 : decode cX8_byGroups 26 = .ok (.iload 5, 2) := by decide +kernel
theorem dX8_byGroups_28 : decode cX8_byGroups 28 = .ok (.imul, 1) := by decide +kernel
theorem dX8_byGroups_29 : decode cX8_byGroups 29 = .ok (.aload_n 0, 1) := by decide +kernel
theorem dX8_byGroups_30 : decode cX8_byGroups 30 = .ok (.getfield 34, 3) := by decide +kernel
theorem dX8_byGroups_33 : decode cX8_byGroups 33 = .ok (.iload 5, 2) := by decide +kernel
theorem dX8_byGroups_35 : decode cX8_byGroups 35 = .ok (.iaload, 1) := by decide +kernel
theorem dX8_byGroups_36 : decode cX8_byGroups 36 = .ok (.iadd, 1) := by decide +kernel
theorem dX8_byGroups_37 : decode cX8_byGroups 37 = .ok (.if_icmp .ge 77, 3) := by decide +kernel
theorem dX8_byGroups_40 : decode cX8_byGroups 40 = .ok (.aload_n 0, 1) := by decide +kernel
theorem dX8_byGroups_41 : decode cX8_byGroups 41 = .ok (.getfield 25, 3) := by decide +kernel
theorem dX8_byGroups_44 : decode cX8_byGroups 44 = .ok (.iload_n 1, 1) := by decide +kernel
theorem dX8_byGroups_45 : decode cX8_byGroups 45 = .ok (.iaload, 1) := by decide +kernel
theorem dX8_byGroups_46 : decode cX8_byGroups 46 = .ok (.iload 5, 2) := by decide +kernel
theorem dX8_byGroups_48 : decode cX8_byGroups 48 = .ok (.ishr, 1) := by decide +kernel
theorem dX8_byGroups_49 : decode cX8_byGroups 49 = .ok (.iconst 1, 1) := by decide +kernel
theorem dX8_byGroups_50 : decode cX8_byGroups 50 = .ok (.iand, 1) := by decide +kernel
theorem dX8_byGroups_51 : decode cX8_byGroups 51 = .ok (.iconst 1, 1) := by decide +kernel
theorem dX8_byGroups_52 : decode cX8_byGroups 52 = .ok (.if_icmp .ne 32, 3) := by decide +kernel
theorem dX8_byGroups_55 : decode cX8_byGroups 55 = .ok (.aload_n 0, 1) := by decide +kernel
theorem dX8_byGroups_56 : decode cX8_byGroups 56 = .ok (.getfield 37, 3) := by decide +kernel
theorem dX8_byGroups_59 : decode cX8_byGroups 59 = .ok (.iload 6, 2) := by decide +kernel
theorem dX8_byGroups_61 : decode cX8_byGroups 61 = .ok (.baload, 1) := by decide +kernel
theorem dX8_byGroups_62 : decode cX8_byGroups 62 = .ok (.iload_n 2, 1) := by decide +kernel
theorem dX8_byGroups_63 : decode cX8_byGroups 63 = .ok (.if_icmp .ne 21, 3) := by decide +kernel
theorem dX8_byGroups_66 : decode cX8_byGroups 66 = .ok (.aload_n 0, 1) := by decide +kernel
theorem dX8_byGroups_67 : decode cX8_byGroups 67 = .ok (.getfield 41, 3) := by decide +kernel
theorem dX8_byGroups_70 : decode cX8_byGroups 70 = .ok (.iload 6, 2) := by decide +kernel
theorem dX8_byGroups_72 : decode cX8_byGroups 72 = .ok (.iaload, 1) := by decide +kernel
theorem dX8_byGroups_73 : decode cX8_byGroups 73 = .ok (.iload_n 3, 1) := by decide +kernel
theorem dX8_byGroups_74 : decode cX8_byGroups 74 = .ok (.invokestatic 82, 3) := by decide +kernel
theorem dX8_byGroups_77 : decode cX8_byGroups 77 = .ok (.ifCond .eq 7, 3) := by decide +kernel
theorem dX8_byGroups_80 : decode cX8_byGroups 80 = .ok (.iconst 1, 1) := by decide +kernel
theorem dX8_byGroups_81 : decode cX8_byGroups 81 = .ok (.goto 4, 3) := by decide +kernel
theorem dX8_byGroups_84 : decode cX8_byGroups 84 = .ok (.iconst 0, 1) := by decide +kernel
theorem dX8_byGroups_85 : decode cX8_byGroups 85 = .ok (.istore 7, 2) := by decide +kernel
theorem dX8_byGroups_87 : decode cX8_byGroups 87 = .ok (.iload 4, 2) := by decide +kernel
theorem dX8_byGroups_89 : decode cX8_byGroups 89 = .ok (.iload 7, 2) := by decide +kernel
theorem dX8_byGroups_91 : decode cX8_byGroups 91 = .ok (.ifCond .eq 13, 3) := by decide +kernel
theorem dX8_byGroups_94 : decode cX8_byGroups 94 = .ok (.aload_n 0, 1) := by decide +kernel
theorem dX8_byGroups_95 : decode cX8_byGroups 95 = .ok (.getfield 44, 3) := by decide +kernel
theorem dX8_byGroups_98 : decode cX8_byGroups 98 = .ok (.iload 6, 2) := by decide +kernel
theorem dX8_byGroups_100 : decode cX8_byGroups 100 = .ok (.iaload, 1) := by decide +kernel
theorem dX8_byGroups_101 : decode cX8_byGroups 101 = .ok (.goto 4, 3) := by decide +kernel
theorem dX8_byGroups_104 : decode cX8_byGroups 104 = .ok (.iconst 0, 1) := by decide +kernel
theorem dX8_byGroups_105 : decode cX8_byGroups 105 = .ok (.ior, 1) := by decide +kernel
theorem dX8_byGroups_106 : decode cX8_byGroups 106 = .ok (.istore 4, 2) := by decide +kernel
theorem dX8_byGroups_108 : decode cX8_byGroups 108 = .ok (.iinc 6 1, 3) := by decide +kernel
theorem dX8_byGroups_111 : decode cX8_byGroups 111 = .ok (.goto (-89), 3) := by decide +kernel
theorem dX8_byGroups_114 : decode cX8_byGroups 114 = .ok (.iinc 5 1, 3) := by decide +kernel
theorem dX8_byGroups_117 : decode cX8_byGroups 117 = .ok (.goto (-111), 3) := by decide +kernel
theorem dX8_byGroups_120 : decode cX8_byGroups 120 = .ok (.iload 4, 2) := by decide +kernel
theorem dX8_byGroups_122 : decode cX8_byGroups 122 = .ok (.ireturn, 1) := by decide +kernel
set_option maxRecDepth 20000 in
theorem ggX8_byList_X8_has : GoodIn wsX8_byList wsX8_has := goodIn_r _ [10, 11, 12, 9, 13, 14, 15, 16] (by decide +kernel) (by decide +kernel)
set_option maxRecDepth 20000 in
theorem gX8_byList_X8_has : GoodIn wsX8_byList (va_wsS RX8 82 yX8_has wsX8_has) := goodIn_app (goodIn_of _ (by decide +kernel)) ggX8_byList_X8_has
theorem dX8_byList_0 : decode cX8_byList 0 = .ok (.iconst 0, 1) := by decide +kernel
theorem dX8_byList_1 : decode cX8_byList 1 = .ok (.istore 4, 2) := by decide +kernel
theorem dX8_byList_3 : decode cX8_byList 3 = .ok (.ldc 131, 2) := by decide +kernel
theorem dX8_byList_5 : decode cX8_byList 5 = .ok (.istore 5, 2) := by decide +kernel
theorem dX8_byList_7 : decode cX8_byList 7 = .ok (.iconst 0, 1) := by decide +kernel
theorem dX8_byList_8 : decode cX8_byList 8 = .ok (.istore 6, 2) := by decide +kernel
theorem dX8_byList_10 : decode cX8_byList 10 = .ok (.bipush 12, 2) := by decide +kernel
theorem dX8_byList_12 : decode cX8_byList 12 = .ok (.iload_n 1, 1) := by decide +kernel
theorem dX8_byList_13 : decode cX8_byList 13 = .ok (.imul, 1) := by decide +kernel
theorem dX8_byList_14 : decode cX8_byList 14 = .ok (.istore 7, 2) := by decide +kernel
theorem dX8_byList_16 : decode cX8_byList 16 = .ok (.iload 7, 2) := by decide +kernel
theorem dX8_byList_18 : decode cX8_byList 18 = .ok (.bipush 12, 2) := by decide +kernel
theorem dX8_byList_20 : decode cX8_byList 20 = .ok (.iload_n 1, 1) := by decide +kernel
theorem dX8_byList_21 : decode cX8_byList 21 = .ok (.imul, 1) := by decide +kernel
theorem dX8_byList_22 : decode cX8_byList 22 = .ok (.aload_n 0, 1) := by decide +kernel
theorem dX8_byList_23 : decode cX8_byList 23 = .ok (.getfield 47, 3) := by decide +kernel
theorem dX8_byList_26 : decode cX8_byList 26 = .ok (.iload_n 1, 1) := by decide +kernel
theorem dX8_byList_27 : decode cX8_byList 27 = .ok (.iaload, 1) := by decide +kernel
theorem dX8_byList_28 : decode cX8_byList 28 = .ok (.iadd, 1) := by decide +kernel
theorem dX8_byList_29 : decode cX8_byList 29 = .ok (.if_icmp .ge 103, 3) := by decide +kernel
theorem dX8_byList_32 : decode cX8_byList 32 = .ok (.iload 6, 2) := by decide +kernel
theorem dX8_byList_34 : decode cX8_byList 34 = .ok (.ifCond .ne 14, 3) := by decide +kernel
theorem dX8_byList_37 : decode cX8_byList 37 = .ok (.aload_n 0, 1) := by decide +kernel
theorem dX8_byList_38 : decode cX8_byList 38 = .ok (.getfield 50, 3) := by decide +kernel
theorem dX8_byList_41 : decode cX8_byList 41 = .ok (.iload 7, 2) := by decide +kernel
theorem dX8_byList_43 : decode cX8_byList 43 = .ok (.baload, 1) := by decide +kernel
theorem dX8_byList_44 : decode cX8_byList 44 = .ok (.iload_n 2, 1) := by decide +kernel
theorem dX8_byList_45 : decode cX8_byList 45 = .ok (.if_icmp .ne 7, 3) := by decide +kernel
theorem dX8_byList_48 : decode cX8_byList 48 = .ok (.iconst 1, 1) := by decide +kernel
theorem dX8_byList_49 : decode cX8_byList 49 = .ok (.goto 4, 3) := by decide +kernel
theorem dX8_byList_52 : decode cX8_byList 52 = .ok (.iconst 0, 1) := by decide +kernel
theorem dX8_byList_53 : decode cX8_byList 53 = .ok (.istore 6, 2) := by decide +kernel
theorem dX8_byList_55 : decode cX8_byList 55 = .ok (.aload_n 0, 1) := by decide +kernel
theorem dX8_byList_56 : decode cX8_byList 56 = .ok (.getfield 50, 3) := by decide +kernel
theorem dX8_byList_59 : decode cX8_byList 59 = .ok (.iload 7, 2) := by decide +kernel
theorem dX8_byList_61 : decode cX8_byList 61 = .ok (.baload, 1) := by decide +kernel
theorem dX8_byList_62 : decode cX8_byList 62 = .ok (.iload_n 2, 1) := by decide +kernel
theorem dX8_byList_63 : decode cX8_byList 63 = .ok (.if_icmp .ne 30, 3) := by decide +kernel
theorem dX8_byList_66 : decode cX8_byList 66 = .ok (.aload_n 0, 1) := by decide +kernel
theorem dX8_byList_67 : decode cX8_byList 67 = .ok (.getfield 56, 3) := by decide +kernel
theorem dX8_byList_70 : decode cX8_byList 70 = .ok (.iload 7, 2) := by decide +kernel
theorem dX8_byList_72 : decode cX8_byList 72 = .ok (.iaload, 1) := by decide +kernel
theorem dX8_byList_73 : decode cX8_byList 73 = .ok (.iload_n 3, 1) := by decide +kernel
theorem dX8_byList_74 : decode cX8_byList 74 = .ok (.invokestatic 82, 3) := by decide +kernel
theorem dX8_byList_77 : decode cX8_byList 77 = .ok (.ifCond .eq 16, 3) := by decide +kernel
theorem dX8_byList_80 : decode cX8_byList 80 = .ok (.iload 5, 2) := by decide +kernel
theorem dX8_byList_82 : decode cX8_byList 82 = .ok (.aload_n 0, 1) := by decide +kernel
theorem dX8_byList_83 : decode cX8_byList 83 = .ok (.getfield 59, 3) := by decide +kernel
theorem dX8_byList_86 : decode cX8_byList 86 = .ok (.iload 7, 2) := by decide +kernel
theorem dX8_byList_88 : decode cX8_byList 88 = .ok (.iaload, 1) := by decide +kernel
theorem dX8_byList_89 : decode cX8_byList 89 = .ok (.iand, 1) := by decide +kernel
theorem dX8_byList_90 : decode cX8_byList 90 = .ok (.goto 4, 3) := by decide +kernel
theorem dX8_byList_93 : decode cX8_byList 93 = .ok (.iconst 0, 1) := by decide +kernel
theorem dX8_byList_94 : decode cX8_byList 94 = .ok (.istore 8, 2) := by decide +kernel
theorem dX8_byList_96 : decode cX8_byList 96 = .ok (.iload 4, 2) := by decide +kernel
theorem dX8_byList_98 : decode cX8_byList 98 = .ok (.aload_n 0, 1) := by decide +kernel
theorem dX8_byList_99 : decode cX8_byList 99 = .ok (.getfield 53, 3) := by decide +kernel
theorem dX8_byList_102 : decode cX8_byList 102 = .ok (.iload 7, 2) := by decide +kernel
theorem dX8_byList_104 : decode cX8_byList 104 = .ok (.baload, 1) := by decide +kernel
theorem dX8_byList_105 : decode cX8_byList 105 = .ok (.ifCond .eq 8, 3) := by decide +kernel
theorem dX8_byList_108 : decode cX8_byList 108 = .ok (.iload 8, 2) := by decide +kernel
theorem dX8_byList_110 : decode cX8_byList 110 = .ok (.goto 4, 3) := by decide +kernel
theorem dX8_byList_113 : decode cX8_byList 113 = .ok (.iconst 0, 1) := by decide +kernel
theorem dX8_byList_114 : decode cX8_byList 114 = .ok (.ior, 1) := by decide +kernel
theorem dX8_byList_115 : decode cX8_byList 115 = .ok (.istore 4, 2) := by decide +kernel
theorem dX8_byList_117 : decode cX8_byList 117 = .ok (.iload 5, 2) := by decide +kernel
theorem dX8_byList_119 : decode cX8_byList 119 = .ok (.iload 8, 2) := by decide +kernel
theorem dX8_byList_121 : decode cX8_byList 121 = .ok (.iconst (-1), 1) := by decide +kernel
theorem dX8_byList_122 : decode cX8_byList 122 = .ok (.ixor, 1) := by decide +kernel
theorem dX8_byList_123 : decode cX8_byList 123 = .ok (.iand, 1) := by decide +kernel
theorem dX8_byList_124 : decode cX8_byList 124 = .ok (.istore 5, 2) := by decide +kernel
theorem dX8_byList_126 : decode cX8_byList 126 = .ok (.iinc 7 1, 3) := by decide +kernel
theorem dX8_byList_129 : decode cX8_byList 129 = .ok (.goto (-113), 3) := by decide +kernel
theorem dX8_byList_132 : decode cX8_byList 132 = .ok (.iload 6, 2) := by decide +kernel
theorem dX8_byList_134 : decode cX8_byList 134 = .ok (.ifCond .eq 8, 3) := by decide +kernel
theorem dX8_byList_137 : decode cX8_byList 137 = .ok (.iload 4, 2) := by decide +kernel
theorem dX8_byList_139 : decode cX8_byList 139 = .ok (.goto 5, 3) := by decide +kernel
theorem dX8_byList_142 : decode cX8_byList 142 = .ok (.ldc 131, 2) := by decide +kernel
theorem dX8_byList_144 : decode cX8_byList 144 = .ok (.ireturn, 1) := by decide +kernel
set_option maxRecDepth 20000 in
theorem ggX8_byRoute_X8_routeOf : GoodIn wsX8_byRoute wsX8_routeOf := goodIn_r _ [11, 12, 2, 13, 14, 15, 16, 17, 10, 18, 19, 20, 21, 22, 23, 24, 25, 26, 27, 28, 29, 30, 31, 32, 33, 34, 35, 36, 37, 38, 39, 40, 41, 42, 43, 44, 45, 46, 47, 48, 49, 50] (by decide +kernel) (by decide +kernel)
set_option maxRecDepth 20000 in
theorem gX8_byRoute_X8_routeOf : GoodIn wsX8_byRoute (wsV RX8 128 RX8 yX8_routeOf wsX8_routeOf) := goodIn_app (goodIn_of _ (by decide +kernel)) ggX8_byRoute_X8_routeOf
theorem dX8_byRoute_0 : decode cX8_byRoute 0 = .ok (.aload_n 0, 1) := by decide +kernel
theorem dX8_byRoute_1 : decode cX8_byRoute 1 = .ok (.iload_n 1, 1) := by decide +kernel
theorem dX8_byRoute_2 : decode cX8_byRoute 2 = .ok (.aload_n 0, 1) := by decide +kernel
theorem dX8_byRoute_3 : decode cX8_byRoute 3 = .ok (.getfield 22, 3) := by decide +kernel
theorem dX8_byRoute_6 : decode cX8_byRoute 6 = .ok (.iload_n 2, 1) := by decide +kernel
theorem dX8_byRoute_7 : decode cX8_byRoute 7 = .ok (.iaload, 1) := by decide +kernel
theorem dX8_byRoute_8 : decode cX8_byRoute 8 = .ok (.invokevirtual 128, 3) := by decide +kernel
theorem dX8_byRoute_11 : decode cX8_byRoute 11 = .ok (.istore_n 3, 1) := by decide +kernel
theorem dX8_byRoute_12 : decode cX8_byRoute 12 = .ok (.aload_n 0, 1) := by decide +kernel
theorem dX8_byRoute_13 : decode cX8_byRoute 13 = .ok (.getfield 13, 3) := by decide +kernel
theorem dX8_byRoute_16 : decode cX8_byRoute 16 = .ok (.iload_n 1, 1) := by decide +kernel
theorem dX8_byRoute_17 : decode cX8_byRoute 17 = .ok (.iaload, 1) := by decide +kernel
theorem dX8_byRoute_18 : decode cX8_byRoute 18 = .ok (.istore 4, 2) := by decide +kernel
theorem dX8_byRoute_20 : decode cX8_byRoute 20 = .ok (.aload_n 0, 1) := by decide +kernel
theorem dX8_byRoute_21 : decode cX8_byRoute 21 = .ok (.getfield 13, 3) := by decide +kernel
theorem dX8_byRoute_24 : decode cX8_byRoute 24 = .ok (.aload_n 0, 1) := by decide +kernel
theorem dX8_byRoute_25 : decode cX8_byRoute 25 = .ok (.getfield 19, 3) := by decide +kernel
theorem dX8_byRoute_28 : decode cX8_byRoute 28 = .ok (.iload_n 2, 1) := by decide +kernel
theorem dX8_byRoute_29 : decode cX8_byRoute 29 = .ok (.iaload, 1) := by decide +kernel
theorem dX8_byRoute_30 : decode cX8_byRoute 30 = .ok (.iaload, 1) := by decide +kernel
theorem dX8_byRoute_31 : decode cX8_byRoute 31 = .ok (.istore 5, 2) := by decide +kernel
theorem dX8_byRoute_33 : decode cX8_byRoute 33 = .ok (.iload_n 3, 1) := by decide +kernel
theorem dX8_byRoute_34 : decode cX8_byRoute 34 = .ok (.ifCond .lt 51, 3) := by decide +kernel
theorem dX8_byRoute_37 : decode cX8_byRoute 37 = .ok (.aload_n 0, 1) := by decide +kernel
theorem dX8_byRoute_38 : decode cX8_byRoute 38 = .ok (.getfield 28, 3) := by decide +kernel
theorem dX8_byRoute_41 : decode cX8_byRoute 41 = .ok (.iload_n 3, 1) := by decide +kernel
theorem dX8_byRoute_42 : decode cX8_byRoute 42 = .ok (.iaload, 1) := by decide +kernel
theorem dX8_byRoute_43 : decode cX8_byRoute 43 = .ok (.iload 4, 2) := by decide +kernel
theorem dX8_byRoute_45 : decode cX8_byRoute 45 = .ok (.if_icmp .ne 14, 3) := by decide +kernel
theorem dX8_byRoute_48 : decode cX8_byRoute 48 = .ok (.aload_n 0, 1) := by decide +kernel
theorem dX8_byRoute_49 : decode cX8_byRoute 49 = .ok (.getfield 31, 3) := by decide +kernel
theorem dX8_byRoute_52 : decode cX8_byRoute 52 = .ok (.iload_n 3, 1) := by decide +kernel
theorem dX8_byRoute_53 : decode cX8_byRoute 53 = .ok (.iaload, 1) := by decide +kernel
theorem dX8_byRoute_54 : decode cX8_byRoute 54 = .ok (.iload 5, 2) := by decide +kernel
theorem dX8_byRoute_56 : decode cX8_byRoute 56 = .ok (.if_icmp .eq 25, 3) := by decide +kernel
theorem dX8_byRoute_59 : decode cX8_byRoute 59 = .ok (.aload_n 0, 1) := by decide +kernel
theorem dX8_byRoute_60 : decode cX8_byRoute 60 = .ok (.getfield 28, 3) := by decide +kernel
theorem dX8_byRoute_63 : decode cX8_byRoute 63 = .ok (.iload_n 3, 1) := by decide +kernel
theorem dX8_byRoute_64 : decode cX8_byRoute 64 = .ok (.iaload, 1) := by decide +kernel
theorem dX8_byRoute_65 : decode cX8_byRoute 65 = .ok (.iload 5, 2) := by decide +kernel
theorem dX8_byRoute_67 : decode cX8_byRoute 67 = .ok (.if_icmp .ne 18, 3) := by decide +kernel
theorem dX8_byRoute_70 : decode cX8_byRoute 70 = .ok (.aload_n 0, 1) := by decide +kernel
theorem dX8_byRoute_71 : decode cX8_byRoute 71 = .ok (.getfield 31, 3) := by decide +kernel
theorem dX8_byRoute_74 : decode cX8_byRoute 74 = .ok (.iload_n 3, 1) := by decide +kernel
theorem dX8_byRoute_75 : decode cX8_byRoute 75 = .ok (.iaload, 1) := by decide +kernel
theorem dX8_byRoute_76 : decode cX8_byRoute 76 = .ok (.iload 4, 2) := by decide +kernel
theorem dX8_byRoute_78 : decode cX8_byRoute 78 = .ok (.if_icmp .ne 7, 3) := by decide +kernel
theorem dX8_byRoute_81 : decode cX8_byRoute 81 = .ok (.iconst 1, 1) := by decide +kernel
theorem dX8_byRoute_82 : decode cX8_byRoute 82 = .ok (.goto 4, 3) := by decide +kernel
theorem dX8_byRoute_85 : decode cX8_byRoute 85 = .ok (.iconst 0, 1) := by decide +kernel
theorem dX8_byRoute_86 : decode cX8_byRoute 86 = .ok (.istore 6, 2) := by decide +kernel
theorem dX8_byRoute_88 : decode cX8_byRoute 88 = .ok (.iload_n 3, 1) := by decide +kernel
theorem dX8_byRoute_89 : decode cX8_byRoute 89 = .ok (.iconst (-1), 1) := by decide +kernel
theorem dX8_byRoute_90 : decode cX8_byRoute 90 = .ok (.if_icmp .eq 8, 3) := by decide +kernel
theorem dX8_byRoute_93 : decode cX8_byRoute 93 = .ok (.iload 6, 2) := by decide +kernel
theorem dX8_byRoute_95 : decode cX8_byRoute 95 = .ok (.ifCond .eq 8, 3) := by decide +kernel
theorem dX8_byRoute_98 : decode cX8_byRoute 98 = .ok (.ldc 131, 2) := by decide +kernel
theorem dX8_byRoute_100 : decode cX8_byRoute 100 = .ok (.goto 4, 3) := by decide +kernel
theorem dX8_byRoute_103 : decode cX8_byRoute 103 = .ok (.iconst 0, 1) := by decide +kernel
theorem dX8_byRoute_104 : decode cX8_byRoute 104 = .ok (.ireturn, 1) := by decide +kernel
set_option maxRecDepth 20000 in
theorem ggX8_byPart_X8_byGroups : GoodIn wsX8_byPart wsX8_byGroups := goodIn_r _ [8, 9, 10, 11, 12, 13, 14, 15, 16, 7, 17, 18, 19, 20, 21, 22, 23, 48, 49, 50, 51, 52, 53, 54, 55, 56, 57, 58, 59, 60, 61, 62, 63, 64, 65, 66, 67, 68, 69, 70, 71, 72, 73] (by decide +kernel) (by decide +kernel)
set_option maxRecDepth 20000 in
theorem gX8_byPart_X8_byGroups : GoodIn wsX8_byPart (wsV RX8 132 RX8 yX8_byGroups wsX8_byGroups) := goodIn_app (goodIn_of _ (by decide +kernel)) ggX8_byPart_X8_byGroups
set_option maxRecDepth 20000 in
theorem ggX8_byPart_X8_byRoute : GoodIn wsX8_byPart wsX8_byRoute := goodIn_r _ [27, 1, 28, 2, 29, 30, 3, 31, 32, 33, 7, 34, 35, 36, 37, 38, 15, 16, 17, 18, 19, 20, 21, 22, 23, 48, 49, 50, 51, 52, 53, 54, 55, 56, 57, 58, 59, 60, 61, 62, 63, 64, 65, 66, 67, 68, 69, 70, 71, 72, 73] (by decide +kernel) (by decide +kernel)
set_option maxRecDepth 20000 in
theorem gX8_byPart_X8_byRoute : GoodIn wsX8_byPart (wsV RX8 136 RX8 yX8_byRoute wsX8_byRoute) := goodIn_app (goodIn_of _ (by decide +kernel)) ggX8_byPart_X8_byRoute
set_option maxRecDepth 20000 in
theorem ggX8_byPart_X8_byList : GoodIn wsX8_byPart wsX8_byList := goodIn_r _ [42, 3, 43, 44, 45, 46, 47, 15, 16, 7, 17, 18, 19, 20, 21, 22, 23, 48, 49, 50, 51, 52, 53, 54, 55, 56, 57, 58, 59, 60, 61, 62, 63, 64, 65, 66, 67, 68, 69, 70, 71, 72, 73] (by decide +kernel) (by decide +kernel)
set_option maxRecDepth 20000 in
theorem gX8_byPart_X8_byList : GoodIn wsX8_byPart (wsV RX8 139 RX8 yX8_byList wsX8_byList) := goodIn_app (goodIn_of _ (by decide +kernel)) ggX8_byPart_X8_byList
theorem dX8_byPart_0 : decode cX8_byPart 0 = .ok (.iload_n 1, 1) := by decide +kernel
theorem dX8_byPart_1 : decode cX8_byPart 1 = .ok (.iconst 1, 1) := by decide +kernel
theorem dX8_byPart_2 : decode cX8_byPart 2 = .ok (.if_icmp .eq 8, 3) := by decide +kernel
theorem dX8_byPart_5 : decode cX8_byPart 5 = .ok (.iload_n 1, 1) := by decide +kernel
theorem dX8_byPart_6 : decode cX8_byPart 6 = .ok (.iconst 5, 1) := by decide +kernel
theorem dX8_byPart_7 : decode cX8_byPart 7 = .ok (.if_icmp .ne 36, 3) := by decide +kernel
theorem dX8_byPart_10 : decode cX8_byPart 10 = .ok (.iload_n 1, 1) := by decide +kernel
theorem dX8_byPart_11 : decode cX8_byPart 11 = .ok (.iconst 1, 1) := by decide +kernel
theorem dX8_byPart_12 : decode cX8_byPart 12 = .ok (.if_icmp .ne 18, 3) := by decide +kernel
theorem dX8_byPart_15 : decode cX8_byPart 15 = .ok (.aload_n 0, 1) := by decide +kernel
theorem dX8_byPart_16 : decode cX8_byPart 16 = .ok (.iload_n 2, 1) := by decide +kernel
theorem dX8_byPart_17 : decode cX8_byPart 17 = .ok (.iconst 0, 1) := by decide +kernel
theorem dX8_byPart_18 : decode cX8_byPart 18 = .ok (.aload_n 0, 1) := by decide +kernel
theorem dX8_byPart_19 : decode cX8_byPart 19 = .ok (.getfield 22, 3) := by decide +kernel
theorem dX8_byPart_22 : decode cX8_byPart 22 = .ok (.iload_n 3, 1) := by decide +kernel
theorem dX8_byPart_23 : decode cX8_byPart 23 = .ok (.iaload, 1) := by decide +kernel
theorem dX8_byPart_24 : decode cX8_byPart 24 = .ok (.invokevirtual 132, 3) := by decide +kernel
theorem dX8_byPart_27 : decode cX8_byPart 27 = .ok (.goto 15, 3) := by decide +kernel
theorem dX8_byPart_30 : decode cX8_byPart 30 = .ok (.aload_n 0, 1) := by decide +kernel
theorem dX8_byPart_31 : decode cX8_byPart 31 = .ok (.iload_n 3, 1) := by decide +kernel
theorem dX8_byPart_32 : decode cX8_byPart 32 = .ok (.iconst 1, 1) := by decide +kernel
theorem dX8_byPart_33 : decode cX8_byPart 33 = .ok (.aload_n 0, 1) := by decide +kernel
theorem dX8_byPart_34 : decode cX8_byPart 34 = .ok (.getfield 22, 3) := by decide +kernel
theorem dX8_byPart_37 : decode cX8_byPart 37 = .ok (.iload_n 2, 1) := by decide +kernel
theorem dX8_byPart_38 : decode cX8_byPart 38 = .ok (.iaload, 1) := by decide +kernel
theorem dX8_byPart_39 : decode cX8_byPart 39 = .ok (.invokevirtual 132, 3) := by decide +kernel
theorem dX8_byPart_42 : decode cX8_byPart 42 = .ok (.ireturn, 1) := by decide +kernel
theorem dX8_byPart_43 : decode cX8_byPart 43 = .ok (.aload_n 0, 1) := by decide +kernel
theorem dX8_byPart_44 : decode cX8_byPart 44 = .ok (.getfield 19, 3) := by decide +kernel
theorem dX8_byPart_47 : decode cX8_byPart 47 = .ok (.iload_n 2, 1) := by decide +kernel
theorem dX8_byPart_48 : decode cX8_byPart 48 = .ok (.iaload, 1) := by decide +kernel
theorem dX8_byPart_49 : decode cX8_byPart 49 = .ok (.istore 4, 2) := by decide +kernel
theorem dX8_byPart_51 : decode cX8_byPart 51 = .ok (.aload_n 0, 1) := by decide +kernel
theorem dX8_byPart_52 : decode cX8_byPart 52 = .ok (.getfield 19, 3) := by decide +kernel
theorem dX8_byPart_55 : decode cX8_byPart 55 = .ok (.iload_n 3, 1) := by decide +kernel
theorem dX8_byPart_56 : decode cX8_byPart 56 = .ok (.iaload, 1) := by decide +kernel
theorem dX8_byPart_57 : decode cX8_byPart 57 = .ok (.istore 5, 2) := by decide +kernel
theorem dX8_byPart_59 : decode cX8_byPart 59 = .ok (.iload 4, 2) := by decide +kernel
theorem dX8_byPart_61 : decode cX8_byPart 61 = .ok (.iload 5, 2) := by decide +kernel
theorem dX8_byPart_63 : decode cX8_byPart 63 = .ok (.if_icmp .ne 6, 3) := by decide +kernel
theorem dX8_byPart_66 : decode cX8_byPart 66 = .ok (.ldc 131, 2) := by decide +kernel
theorem dX8_byPart_68 : decode cX8_byPart 68 = .ok (.ireturn, 1) := by decide +kernel
theorem dX8_byPart_69 : decode cX8_byPart 69 = .ok (.iload_n 1, 1) := by decide +kernel
theorem dX8_byPart_70 : decode cX8_byPart 70 = .ok (.iconst 3, 1) := by decide +kernel
theorem dX8_byPart_71 : decode cX8_byPart 71 = .ok (.if_icmp .eq 9, 3) := by decide +kernel
theorem dX8_byPart_74 : decode cX8_byPart 74 = .ok (.iload_n 1, 1) := by decide +kernel
theorem dX8_byPart_75 : decode cX8_byPart 75 = .ok (.bipush 7, 2) := by decide +kernel
theorem dX8_byPart_77 : decode cX8_byPart 77 = .ok (.if_icmp .ne 26, 3) := by decide +kernel
theorem dX8_byPart_80 : decode cX8_byPart 80 = .ok (.iload_n 1, 1) := by decide +kernel
theorem dX8_byPart_81 : decode cX8_byPart 81 = .ok (.iconst 3, 1) := by decide +kernel
theorem dX8_byPart_82 : decode cX8_byPart 82 = .ok (.if_icmp .ne 13, 3) := by decide +kernel
theorem dX8_byPart_85 : decode cX8_byPart 85 = .ok (.aload_n 0, 1) := by decide +kernel
theorem dX8_byPart_86 : decode cX8_byPart 86 = .ok (.iload 4, 2) := by decide +kernel
theorem dX8_byPart_88 : decode cX8_byPart 88 = .ok (.iload_n 3, 1) := by decide +kernel
theorem dX8_byPart_89 : decode cX8_byPart 89 = .ok (.invokevirtual 136, 3) := by decide +kernel
theorem dX8_byPart_92 : decode cX8_byPart 92 = .ok (.goto 10, 3) := by decide +kernel
theorem dX8_byPart_95 : decode cX8_byPart 95 = .ok (.aload_n 0, 1) := by decide +kernel
theorem dX8_byPart_96 : decode cX8_byPart 96 = .ok (.iload 5, 2) := by decide +kernel
theorem dX8_byPart_98 : decode cX8_byPart 98 = .ok (.iload_n 2, 1) := by decide +kernel
theorem dX8_byPart_99 : decode cX8_byPart 99 = .ok (.invokevirtual 136, 3) := by decide +kernel
theorem dX8_byPart_102 : decode cX8_byPart 102 = .ok (.ireturn, 1) := by decide +kernel
theorem dX8_byPart_103 : decode cX8_byPart 103 = .ok (.iload_n 1, 1) := by decide +kernel
theorem dX8_byPart_104 : decode cX8_byPart 104 = .ok (.iconst 2, 1) := by decide +kernel
theorem dX8_byPart_105 : decode cX8_byPart 105 = .ok (.if_icmp .eq 8, 3) := by decide +kernel
theorem dX8_byPart_108 : decode cX8_byPart 108 = .ok (.iload_n 1, 1) := by decide +kernel
theorem dX8_byPart_109 : decode cX8_byPart 109 = .ok (.iconst 4, 1) := by decide +kernel
theorem dX8_byPart_110 : decode cX8_byPart 110 = .ok (.if_icmp .ne 38, 3) := by decide +kernel
theorem dX8_byPart_113 : decode cX8_byPart 113 = .ok (.iload_n 1, 1) := by decide +kernel
theorem dX8_byPart_114 : decode cX8_byPart 114 = .ok (.iconst 2, 1) := by decide +kernel
theorem dX8_byPart_115 : decode cX8_byPart 115 = .ok (.if_icmp .ne 19, 3) := by decide +kernel
theorem dX8_byPart_118 : decode cX8_byPart 118 = .ok (.aload_n 0, 1) := by decide +kernel
theorem dX8_byPart_119 : decode cX8_byPart 119 = .ok (.iload 4, 2) := by decide +kernel
theorem dX8_byPart_121 : decode cX8_byPart 121 = .ok (.iconst 0, 1) := by decide +kernel
theorem dX8_byPart_122 : decode cX8_byPart 122 = .ok (.aload_n 0, 1) := by decide +kernel
theorem dX8_byPart_123 : decode cX8_byPart 123 = .ok (.getfield 22, 3) := by decide +kernel
theorem dX8_byPart_126 : decode cX8_byPart 126 = .ok (.iload_n 3, 1) := by decide +kernel
theorem dX8_byPart_127 : decode cX8_byPart 127 = .ok (.iaload, 1) := by decide +kernel
theorem dX8_byPart_128 : decode cX8_byPart 128 = .ok (.invokevirtual 139, 3) := by decide +kernel
theorem dX8_byPart_131 : decode cX8_byPart 131 = .ok (.goto 16, 3) := by decide +kernel
theorem dX8_byPart_134 : decode cX8_byPart 134 = .ok (.aload_n 0, 1) := by decide +kernel
theorem dX8_byPart_135 : decode cX8_byPart 135 = .ok (.iload 5, 2) := by decide +kernel
theorem dX8_byPart_137 : decode cX8_byPart 137 = .ok (.iconst 1, 1) := by decide +kernel
theorem dX8_byPart_138 : decode cX8_byPart 138 = .ok (.aload_n 0, 1) := by decide +kernel
theorem dX8_byPart_139 : decode cX8_byPart 139 = .ok (.getfield 22, 3) := by decide +kernel
theorem dX8_byPart_142 : decode cX8_byPart 142 = .ok (.iload_n 2, 1) := by decide +kernel
theorem dX8_byPart_143 : decode cX8_byPart 143 = .ok (.iaload, 1) := by decide +kernel
theorem dX8_byPart_144 : decode cX8_byPart 144 = .ok (.invokevirtual 139, 3) := by decide +kernel
theorem dX8_byPart_147 : decode cX8_byPart 147 = .ok (.ireturn, 1) := by decide +kernel
theorem dX8_byPart_148 : decode cX8_byPart 148 = .ok (.iload_n 1, 1) := by decide +kernel
theorem dX8_byPart_149 : decode cX8_byPart 149 = .ok (.bipush 6, 2) := by decide +kernel
theorem dX8_byPart_151 : decode cX8_byPart 151 = .ok (.if_icmp .ne 19, 3) := by decide +kernel
theorem dX8_byPart_154 : decode cX8_byPart 154 = .ok (.aload_n 0, 1) := by decide +kernel
theorem dX8_byPart_155 : decode cX8_byPart 155 = .ok (.iload 5, 2) := by decide +kernel
theorem dX8_byPart_157 : decode cX8_byPart 157 = .ok (.iconst 0, 1) := by decide +kernel
theorem dX8_byPart_158 : decode cX8_byPart 158 = .ok (.aload_n 0, 1) := by decide +kernel
theorem dX8_byPart_159 : decode cX8_byPart 159 = .ok (.getfield 22, 3) := by decide +kernel
theorem dX8_byPart_162 : decode cX8_byPart 162 = .ok (.iload_n 2, 1) := by decide +kernel
theorem dX8_byPart_163 : decode cX8_byPart 163 = .ok (.iaload, 1) := by decide +kernel
theorem dX8_byPart_164 : decode cX8_byPart 164 = .ok (.invokevirtual 139, 3) := by decide +kernel
theorem dX8_byPart_167 : decode cX8_byPart 167 = .ok (.goto 16, 3) := by decide +kernel
theorem dX8_byPart_170 : decode cX8_byPart 170 = .ok (.aload_n 0, 1) := by decide +kernel
theorem dX8_byPart_171 : decode cX8_byPart 171 = .ok (.iload 4, 2) := by decide +kernel
theorem dX8_byPart_173 : decode cX8_byPart 173 = .ok (.iconst 1, 1) := by decide +kernel
theorem dX8_byPart_174 : decode cX8_byPart 174 = .ok (.aload_n 0, 1) := by decide +kernel
theorem dX8_byPart_175 : decode cX8_byPart 175 = .ok (.getfield 22, 3) := by decide +kernel
theorem dX8_byPart_178 : decode cX8_byPart 178 = .ok (.iload_n 3, 1) := by decide +kernel
theorem dX8_byPart_179 : decode cX8_byPart 179 = .ok (.iaload, 1) := by decide +kernel
theorem dX8_byPart_180 : decode cX8_byPart 180 = .ok (.invokevirtual 139, 3) := by decide +kernel
theorem dX8_byPart_183 : decode cX8_byPart 183 = .ok (.istore 6, 2) := by decide +kernel
theorem dX8_byPart_185 : decode cX8_byPart 185 = .ok (.iload 6, 2) := by decide +kernel
theorem dX8_byPart_187 : decode cX8_byPart 187 = .ok (.bipush 15, 2) := by decide +kernel
theorem dX8_byPart_189 : decode cX8_byPart 189 = .ok (.ishr, 1) := by decide +kernel
theorem dX8_byPart_190 : decode cX8_byPart 190 = .ok (.iconst 1, 1) := by decide +kernel
theorem dX8_byPart_191 : decode cX8_byPart 191 = .ok (.iand, 1) := by decide +kernel
theorem dX8_byPart_192 : decode cX8_byPart 192 = .ok (.iconst 1, 1) := by decide +kernel
theorem dX8_byPart_193 : decode cX8_byPart 193 = .ok (.if_icmp .ne 8, 3) := by decide +kernel
theorem dX8_byPart_196 : decode cX8_byPart 196 = .ok (.ldc 131, 2) := by decide +kernel
theorem dX8_byPart_198 : decode cX8_byPart 198 = .ok (.goto 4, 3) := by decide +kernel
theorem dX8_byPart_201 : decode cX8_byPart 201 = .ok (.iconst 0, 1) := by decide +kernel
theorem dX8_byPart_202 : decode cX8_byPart 202 = .ok (.ireturn, 1) := by decide +kernel
set_option maxRecDepth 20000 in
theorem ggX8_portsOf_X8_byPart : GoodIn wsX8_portsOf wsX8_byPart := goodIn_r _ [6, 7, 8, 1, 9, 10, 11, 5, 12, 13, 14, 15, 16, 17, 18, 19, 20, 21, 22, 23, 24, 25, 26, 27, 28, 29, 30, 31, 32, 33, 34, 35, 36, 37, 38, 39, 40, 41, 42, 43, 44, 45, 46, 47, 48, 49, 50, 51, 52, 53, 54, 55, 56, 57, 58, 59, 60, 61, 62, 63, 64, 65, 66, 67, 68, 69, 70, 71, 72, 73, 74, 75, 76, 77] (by decide +kernel) (by decide +kernel)
set_option maxRecDepth 20000 in
theorem gX8_portsOf_X8_byPart : GoodIn wsX8_portsOf (wsV RX8 142 RX8 yX8_byPart wsX8_byPart) := goodIn_app (goodIn_of _ (by decide +kernel)) ggX8_portsOf_X8_byPart
theorem dX8_portsOf_0 : decode cX8_portsOf 0 = .ok (.ldc 131, 2) := by decide +kernel
theorem dX8_portsOf_2 : decode cX8_portsOf 2 = .ok (.istore_n 3, 1) := by decide +kernel
theorem dX8_portsOf_3 : decode cX8_portsOf 3 = .ok (.iconst 1, 1) := by decide +kernel
theorem dX8_portsOf_4 : decode cX8_portsOf 4 = .ok (.istore 4, 2) := by decide +kernel
theorem dX8_portsOf_6 : decode cX8_portsOf 6 = .ok (.iload 4, 2) := by decide +kernel
theorem dX8_portsOf_8 : decode cX8_portsOf 8 = .ok (.bipush 8, 2) := by decide +kernel
theorem dX8_portsOf_10 : decode cX8_portsOf 10 = .ok (.if_icmp .gt 20, 3) := by decide +kernel
theorem dX8_portsOf_13 : decode cX8_portsOf 13 = .ok (.iload_n 3, 1) := by decide +kernel
theorem dX8_portsOf_14 : decode cX8_portsOf 14 = .ok (.aload_n 0, 1) := by decide +kernel
theorem dX8_portsOf_15 : decode cX8_portsOf 15 = .ok (.iload 4, 2) := by decide +kernel
theorem dX8_portsOf_17 : decode cX8_portsOf 17 = .ok (.iload_n 1, 1) := by decide +kernel
theorem dX8_portsOf_18 : decode cX8_portsOf 18 = .ok (.iload_n 2, 1) := by decide +kernel
theorem dX8_portsOf_19 : decode cX8_portsOf 19 = .ok (.invokevirtual 142, 3) := by decide +kernel
theorem dX8_portsOf_22 : decode cX8_portsOf 22 = .ok (.iand, 1) := by decide +kernel
theorem dX8_portsOf_23 : decode cX8_portsOf 23 = .ok (.istore_n 3, 1) := by decide +kernel
theorem dX8_portsOf_24 : decode cX8_portsOf 24 = .ok (.iinc 4 1, 3) := by decide +kernel
theorem dX8_portsOf_27 : decode cX8_portsOf 27 = .ok (.goto (-21), 3) := by decide +kernel
theorem dX8_portsOf_30 : decode cX8_portsOf 30 = .ok (.iload_n 3, 1) := by decide +kernel
theorem dX8_portsOf_31 : decode cX8_portsOf 31 = .ok (.ireturn, 1) := by decide +kernel
set_option maxRecDepth 20000 in
theorem ggX8_areHosts_X8_isIn : GoodIn wsX8_areHosts wsX8_isIn := goodIn_r _ [5] (by decide +kernel) (by decide +kernel)
set_option maxRecDepth 20000 in
theorem gX8_areHosts_X8_isIn : GoodIn wsX8_areHosts (va_wsS RX8 103 yX8_isIn wsX8_isIn) := goodIn_app (goodIn_of _ (by decide +kernel)) ggX8_areHosts_X8_isIn
theorem dX8_areHosts_0 : decode cX8_areHosts 0 = .ok (.iload_n 1, 1) := by decide +kernel
theorem dX8_areHosts_1 : decode cX8_areHosts 1 = .ok (.aload_n 0, 1) := by decide +kernel
theorem dX8_areHosts_2 : decode cX8_areHosts 2 = .ok (.getfield 109, 3) := by decide +kernel
theorem dX8_areHosts_5 : decode cX8_areHosts 5 = .ok (.invokestatic 103, 3) := by decide +kernel
theorem dX8_areHosts_8 : decode cX8_areHosts 8 = .ok (.ifCond .eq 18, 3) := by decide +kernel
theorem dX8_areHosts_11 : decode cX8_areHosts 11 = .ok (.iload_n 2, 1) := by decide +kernel
theorem dX8_areHosts_12 : decode cX8_areHosts 12 = .ok (.aload_n 0, 1) := by decide +kernel
theorem dX8_areHosts_13 : decode cX8_areHosts 13 = .ok (.getfield 109, 3) := by decide +kernel
theorem dX8_areHosts_16 : decode cX8_areHosts 16 = .ok (.invokestatic 103, 3) := by decide +kernel
theorem dX8_areHosts_19 : decode cX8_areHosts 19 = .ok (.ifCond .eq 7, 3) := by decide +kernel
theorem dX8_areHosts_22 : decode cX8_areHosts 22 = .ok (.iconst 1, 1) := by decide +kernel
theorem dX8_areHosts_23 : decode cX8_areHosts 23 = .ok (.goto 4, 3) := by decide +kernel
theorem dX8_areHosts_26 : decode cX8_areHosts 26 = .ok (.iconst 0, 1) := by decide +kernel
theorem dX8_areHosts_27 : decode cX8_areHosts 27 = .ok (.ireturn, 1) := by decide +kernel
set_option maxRecDepth 20000 in
theorem ggX8_ports_X8_areHosts : GoodIn wsX8_ports wsX8_areHosts := goodIn_r _ [5, 6, 7, 8, 4, 9, 69, 70, 71, 72, 73, 74, 75, 76, 77, 78, 79, 80, 81, 82, 83, 84, 85, 86, 87, 88, 89, 90, 91, 92, 93, 94] (by decide +kernel) (by decide +kernel)
set_option maxRecDepth 20000 in
theorem gX8_ports_X8_areHosts : GoodIn wsX8_ports (wsV RX8 146 RX8 yX8_areHosts wsX8_areHosts) := goodIn_app (goodIn_of _ (by decide +kernel)) ggX8_ports_X8_areHosts
set_option maxRecDepth 20000 in
theorem ggX8_ports_X8_holds : GoodIn wsX8_ports wsX8_holds := goodIn_r _ [13, 14, 69, 70, 71, 72, 73, 74, 75, 76, 77, 78, 79, 80, 81, 82, 83, 84, 85, 86, 87, 88, 89, 90, 91, 92, 93, 94] (by decide +kernel) (by decide +kernel)
set_option maxRecDepth 20000 in
theorem gX8_ports_X8_holds : GoodIn wsX8_ports (wsV RX8 99 RX8 yX8_holds wsX8_holds) := goodIn_app (goodIn_of _ (by decide +kernel)) ggX8_ports_X8_holds
set_option maxRecDepth 20000 in
theorem ggX8_ports_X8_portsOf : GoodIn wsX8_ports wsX8_portsOf := goodIn_r _ [18, 19, 20, 21, 22, 4, 23, 24, 25, 26, 27, 28, 29, 30, 31, 32, 33, 34, 35, 36, 37, 38, 39, 40, 41, 42, 43, 44, 45, 46, 47, 48, 49, 50, 51, 52, 53, 54, 55, 56, 57, 58, 59, 60, 61, 62, 63, 64, 65, 66, 67, 68, 69, 70, 71, 72, 73, 74, 75, 76, 77, 78, 79, 80, 81, 82, 83, 84, 85, 86, 87, 88, 89, 90, 91, 92, 93, 94] (by decide +kernel) (by decide +kernel)
set_option maxRecDepth 20000 in
theorem gX8_ports_X8_portsOf : GoodIn wsX8_ports (wsV RX8 149 RX8 yX8_portsOf wsX8_portsOf) := goodIn_app (goodIn_of _ (by decide +kernel)) ggX8_ports_X8_portsOf
theorem dX8_ports_0 : decode cX8_ports 0 = .ok (.aload_n 0, 1) := by decide +kernel
theorem dX8_ports_1 : decode cX8_ports 1 = .ok (.aload_n 0, 1) := by decide +kernel
theorem dX8_ports_2 : decode cX8_ports 2 = .ok (.iload_n 1, 1) := by decide +kernel
theorem dX8_ports_3 : decode cX8_ports 3 = .ok (.iload_n 2, 1) := by decide +kernel
theorem dX8_ports_4 : decode cX8_ports 4 = .ok (.invokevirtual 146, 3) := by decide +kernel
theorem dX8_ports_7 : decode cX8_ports 7 = .ok (.ifCond .ne 7, 3) := by decide +kernel
theorem dX8_ports_10 : decode cX8_ports 10 = .ok (.iconst 1, 1) := by decide +kernel
theorem dX8_ports_11 : decode cX8_ports 11 = .ok (.goto 13, 3) := by decide +kernel
theorem dX8_ports_14 : decode cX8_ports 14 = .ok (.iload_n 1, 1) := by decide +kernel
theorem dX8_ports_15 : decode cX8_ports 15 = .ok (.iload_n 2, 1) := by decide +kernel
theorem dX8_ports_16 : decode cX8_ports 16 = .ok (.if_icmp .ne 7, 3) := by decide +kernel
theorem dX8_ports_19 : decode cX8_ports 19 = .ok (.iconst 2, 1) := by decide +kernel
theorem dX8_ports_20 : decode cX8_ports 20 = .ok (.goto 4, 3) := by decide +kernel
theorem dX8_ports_23 : decode cX8_ports 23 = .ok (.iconst 0, 1) := by decide +kernel
theorem dX8_ports_24 : decode cX8_ports 24 = .ok (.invokevirtual 99, 3) := by decide +kernel
theorem dX8_ports_27 : decode cX8_ports 27 = .ok (.ifCond .eq 12, 3) := by decide +kernel
theorem dX8_ports_30 : decode cX8_ports 30 = .ok (.aload_n 0, 1) := by decide +kernel
theorem dX8_ports_31 : decode cX8_ports 31 = .ok (.iload_n 1, 1) := by decide +kernel
theorem dX8_ports_32 : decode cX8_ports 32 = .ok (.iload_n 2, 1) := by decide +kernel
theorem dX8_ports_33 : decode cX8_ports 33 = .ok (.invokevirtual 149, 3) := by decide +kernel
theorem dX8_ports_36 : decode cX8_ports 36 = .ok (.goto 4, 3) := by decide +kernel
theorem dX8_ports_39 : decode cX8_ports 39 = .ok (.iconst 0, 1) := by decide +kernel
theorem dX8_ports_40 : decode cX8_ports 40 = .ok (.ireturn, 1) := by decide +kernel
set_option maxRecDepth 20000 in
theorem ggX8_isConnection_X8_areHosts : GoodIn wsX8_isConnection wsX8_areHosts := goodIn_r _ [5, 6, 7, 8, 4, 9, 15, 16, 17, 18, 19, 20, 21, 22, 23, 24, 25, 26, 27, 28, 29, 30, 31, 32, 33, 34, 35, 36, 37, 38, 39, 40] (by decide +kernel) (by decide +kernel)
set_option maxRecDepth 20000 in
theorem gX8_isConnection_X8_areHosts : GoodIn wsX8_isConnection (wsV RX8 146 RX8 yX8_areHosts wsX8_areHosts) := goodIn_app (goodIn_of _ (by decide +kernel)) ggX8_isConnection_X8_areHosts
set_option maxRecDepth 20000 in
theorem ggX8_isConnection_X8_isIn : GoodIn wsX8_isConnection wsX8_isIn := goodIn_r _ [9] (by decide +kernel) (by decide +kernel)
set_option maxRecDepth 20000 in
theorem gX8_isConnection_X8_isIn : GoodIn wsX8_isConnection (va_wsS RX8 103 yX8_isIn wsX8_isIn) := goodIn_app (goodIn_of _ (by decide +kernel)) ggX8_isConnection_X8_isIn
set_option maxRecDepth 20000 in
theorem ggX8_isConnection_X8_holds : GoodIn wsX8_isConnection wsX8_holds := goodIn_r _ [13, 14, 15, 16, 17, 18, 19, 20, 21, 22, 23, 24, 25, 26, 27, 28, 29, 30, 31, 32, 33, 34, 35, 36, 37, 38, 39, 40] (by decide +kernel) (by decide +kernel)
set_option maxRecDepth 20000 in
theorem gX8_isConnection_X8_holds : GoodIn wsX8_isConnection (wsV RX8 99 RX8 yX8_holds wsX8_holds) := goodIn_app (goodIn_of _ (by decide +kernel)) ggX8_isConnection_X8_holds
theorem dX8_isConnection_0 : decode cX8_isConnection 0 = .ok (.aload_n 0, 1) := by decide +kernel
theorem dX8_isConnection_1 : decode cX8_isConnection 1 = .ok (.aload_n 0, 1) := by decide +kernel
theorem dX8_isConnection_2 : decode cX8_isConnection 2 = .ok (.iload_n 1, 1) := by decide +kernel
theorem dX8_isConnection_3 : decode cX8_isConnection 3 = .ok (.iload_n 2, 1) := by decide +kernel
theorem dX8_isConnection_4 : decode cX8_isConnection 4 = .ok (.invokevirtual 146, 3) := by decide +kernel
theorem dX8_isConnection_7 : decode cX8_isConnection 7 = .ok (.ifCond .ne 7, 3) := by decide +kernel
theorem dX8_isConnection_10 : decode cX8_isConnection 10 = .ok (.iconst 1, 1) := by decide +kernel
theorem dX8_isConnection_11 : decode cX8_isConnection 11 = .ok (.goto 22, 3) := by decide +kernel
theorem dX8_isConnection_14 : decode cX8_isConnection 14 = .ok (.iload_n 1, 1) := by decide +kernel
theorem dX8_isConnection_15 : decode cX8_isConnection 15 = .ok (.iload_n 2, 1) := by decide +kernel
theorem dX8_isConnection_16 : decode cX8_isConnection 16 = .ok (.if_icmp .eq 12, 3) := by decide +kernel
theorem dX8_isConnection_19 : decode cX8_isConnection 19 = .ok (.iload_n 3, 1) := by decide +kernel
theorem dX8_isConnection_20 : decode cX8_isConnection 20 = .ok (.bipush 16, 2) := by decide +kernel
theorem dX8_isConnection_22 : decode cX8_isConnection 22 = .ok (.invokestatic 103, 3) := by decide +kernel
theorem dX8_isConnection_25 : decode cX8_isConnection 25 = .ok (.ifCond .ne 7, 3) := by decide +kernel
theorem dX8_isConnection_28 : decode cX8_isConnection 28 = .ok (.iconst 2, 1) := by decide +kernel
theorem dX8_isConnection_29 : decode cX8_isConnection 29 = .ok (.goto 4, 3) := by decide +kernel
theorem dX8_isConnection_32 : decode cX8_isConnection 32 = .ok (.iconst 0, 1) := by decide +kernel
theorem dX8_isConnection_33 : decode cX8_isConnection 33 = .ok (.invokevirtual 99, 3) := by decide +kernel
theorem dX8_isConnection_36 : decode cX8_isConnection 36 = .ok (.ireturn, 1) := by decide +kernel
set_option maxRecDepth 20000 in
theorem ggX8_blockedBy_X8_isConnection : GoodIn wsX8_blockedBy wsX8_isConnection := goodIn_r _ [5, 6, 7, 8, 4, 9, 10, 11, 12, 13, 14, 15, 16, 17, 18, 69, 70, 71, 72, 73, 74, 75, 76, 77, 78, 79, 80, 81, 82, 83, 84, 85, 86, 87, 88, 89, 90, 91, 92, 93, 94] (by decide +kernel) (by decide +kernel)
set_option maxRecDepth 20000 in
theorem gX8_blockedBy_X8_isConnection : GoodIn wsX8_blockedBy (wsV RX8 152 RX8 yX8_isConnection wsX8_isConnection) := goodIn_app (goodIn_of _ (by decide +kernel)) ggX8_blockedBy_X8_isConnection
set_option maxRecDepth 20000 in
theorem ggX8_blockedBy_X8_byPart : GoodIn wsX8_blockedBy wsX8_byPart := goodIn_r _ [22, 23, 24, 25, 26, 27, 28, 4, 29, 30, 31, 32, 33, 34, 35, 36, 37, 38, 39, 40, 41, 42, 43, 44, 45, 46, 47, 48, 49, 50, 51, 52, 53, 54, 55, 56, 57, 58, 59, 60, 61, 62, 63, 64, 65, 66, 67, 68, 69, 70, 71, 72, 73, 74, 75, 76, 77, 78, 79, 80, 81, 82, 83, 84, 85, 86, 87, 88, 89, 90, 91, 92, 93, 94] (by decide +kernel) (by decide +kernel)
set_option maxRecDepth 20000 in
theorem gX8_blockedBy_X8_byPart : GoodIn wsX8_blockedBy (wsV RX8 142 RX8 yX8_byPart wsX8_byPart) := goodIn_app (goodIn_of _ (by decide +kernel)) ggX8_blockedBy_X8_byPart
theorem dX8_blockedBy_0 : decode cX8_blockedBy 0 = .ok (.aload_n 0, 1) := by decide +kernel
theorem dX8_blockedBy_1 : decode cX8_blockedBy 1 = .ok (.iload_n 1, 1) := by decide +kernel
theorem dX8_blockedBy_2 : decode cX8_blockedBy 2 = .ok (.iload_n 2, 1) := by decide +kernel
theorem dX8_blockedBy_3 : decode cX8_blockedBy 3 = .ok (.iload_n 3, 1) := by decide +kernel
theorem dX8_blockedBy_4 : decode cX8_blockedBy 4 = .ok (.invokevirtual 152, 3) := by decide +kernel
theorem dX8_blockedBy_7 : decode cX8_blockedBy 7 = .ok (.ifCond .ne 5, 3) := by decide +kernel
theorem dX8_blockedBy_10 : decode cX8_blockedBy 10 = .ok (.iconst 0, 1) := by decide +kernel
theorem dX8_blockedBy_11 : decode cX8_blockedBy 11 = .ok (.ireturn, 1) := by decide +kernel
theorem dX8_blockedBy_12 : decode cX8_blockedBy 12 = .ok (.iconst 0, 1) := by decide +kernel
theorem dX8_blockedBy_13 : decode cX8_blockedBy 13 = .ok (.istore 4, 2) := by decide +kernel
theorem dX8_blockedBy_15 : decode cX8_blockedBy 15 = .ok (.bipush 8, 2) := by decide +kernel
theorem dX8_blockedBy_17 : decode cX8_blockedBy 17 = .ok (.istore 5, 2) := by decide +kernel
theorem dX8_blockedBy_19 : decode cX8_blockedBy 19 = .ok (.iload 5, 2) := by decide +kernel
theorem dX8_blockedBy_21 : decode cX8_blockedBy 21 = .ok (.iconst 1, 1) := by decide +kernel
theorem dX8_blockedBy_22 : decode cX8_blockedBy 22 = .ok (.if_icmp .lt 33, 3) := by decide +kernel
theorem dX8_blockedBy_25 : decode cX8_blockedBy 25 = .ok (.aload_n 0, 1) := by decide +kernel
theorem dX8_blockedBy_26 : decode cX8_blockedBy 26 = .ok (.iload 5, 2) := by decide +kernel
theorem dX8_blockedBy_28 : decode cX8_blockedBy 28 = .ok (.iload_n 1, 1) := by decide +kernel
theorem dX8_blockedBy_29 : decode cX8_blockedBy 29 = .ok (.iload_n 2, 1) := by decide +kernel
theorem dX8_blockedBy_30 : decode cX8_blockedBy 30 = .ok (.invokevirtual 142, 3) := by decide +kernel
theorem dX8_blockedBy_33 : decode cX8_blockedBy 33 = .ok (.iload_n 3, 1) := by decide +kernel
theorem dX8_blockedBy_34 : decode cX8_blockedBy 34 = .ok (.ishr, 1) := by decide +kernel
theorem dX8_blockedBy_35 : decode cX8_blockedBy 35 = .ok (.iconst 1, 1) := by decide +kernel
theorem dX8_blockedBy_36 : decode cX8_blockedBy 36 = .ok (.iand, 1) := by decide +kernel
theorem dX8_blockedBy_37 : decode cX8_blockedBy 37 = .ok (.ifCond .ne 8, 3) := by decide +kernel
theorem dX8_blockedBy_40 : decode cX8_blockedBy 40 = .ok (.iload 5, 2) := by decide +kernel
theorem dX8_blockedBy_42 : decode cX8_blockedBy 42 = .ok (.goto 5, 3) := by decide +kernel
theorem dX8_blockedBy_45 : decode cX8_blockedBy 45 = .ok (.iload 4, 2) := by decide +kernel
theorem dX8_blockedBy_47 : decode cX8_blockedBy 47 = .ok (.istore 4, 2) := by decide +kernel
theorem dX8_blockedBy_49 : decode cX8_blockedBy 49 = .ok (.iinc 5 (-1), 3) := by decide +kernel
theorem dX8_blockedBy_52 : decode cX8_blockedBy 52 = .ok (.goto (-33), 3) := by decide +kernel
theorem dX8_blockedBy_55 : decode cX8_blockedBy 55 = .ok (.iload 4, 2) := by decide +kernel
theorem dX8_blockedBy_57 : decode cX8_blockedBy 57 = .ok (.ireturn, 1) := by decide +kernel
set_option maxRecDepth 20000 in
theorem ggX8_blocks_X8_isConnection : GoodIn wsX8_blocks wsX8_isConnection := goodIn_r _ [5, 6, 7, 8, 4, 9, 10, 11, 12, 13, 14, 15, 16, 17, 18, 69, 70, 71, 72, 73, 74, 75, 76, 77, 78, 79, 80, 81, 82, 83, 84, 85, 86, 87, 88, 89, 90, 91, 92, 93, 94] (by decide +kernel) (by decide +kernel)
set_option maxRecDepth 20000 in
theorem gX8_blocks_X8_isConnection : GoodIn wsX8_blocks (wsV RX8 152 RX8 yX8_isConnection wsX8_isConnection) := goodIn_app (goodIn_of _ (by decide +kernel)) ggX8_blocks_X8_isConnection
set_option maxRecDepth 20000 in
theorem ggX8_blocks_X8_byPart : GoodIn wsX8_blocks wsX8_byPart := goodIn_r _ [22, 23, 24, 25, 26, 27, 28, 4, 29, 30, 31, 32, 33, 34, 35, 36, 37, 38, 39, 40, 41, 42, 43, 44, 45, 46, 47, 48, 49, 50, 51, 52, 53, 54, 55, 56, 57, 58, 59, 60, 61, 62, 63, 64, 65, 66, 67, 68, 69, 70, 71, 72, 73, 74, 75, 76, 77, 78, 79, 80, 81, 82, 83, 84, 85, 86, 87, 88, 89, 90, 91, 92, 93, 94] (by decide +kernel) (by decide +kernel)
set_option maxRecDepth 20000 in
theorem gX8_blocks_X8_byPart : GoodIn wsX8_blocks (wsV RX8 142 RX8 yX8_byPart wsX8_byPart) := goodIn_app (goodIn_of _ (by decide +kernel)) ggX8_blocks_X8_byPart
theorem dX8_blocks_0 : decode cX8_blocks 0 = .ok (.aload_n 0, 1) := by decide +kernel
theorem dX8_blocks_1 : decode cX8_blocks 1 = .ok (.iload_n 1, 1) := by decide +kernel
theorem dX8_blocks_2 : decode cX8_blocks 2 = .ok (.iload_n 2, 1) := by decide +kernel
theorem dX8_blocks_3 : decode cX8_blocks 3 = .ok (.iload_n 3, 1) := by decide +kernel
theorem dX8_blocks_4 : decode cX8_blocks 4 = .ok (.invokevirtual 152, 3) := by decide +kernel
theorem dX8_blocks_7 : decode cX8_blocks 7 = .ok (.ifCond .ne 5, 3) := by decide +kernel
theorem dX8_blocks_10 : decode cX8_blocks 10 = .ok (.iconst 0, 1) := by decide +kernel
theorem dX8_blocks_11 : decode cX8_blocks 11 = .ok (.ireturn, 1) := by decide +kernel
theorem dX8_blocks_12 : decode cX8_blocks 12 = .ok (.iconst 0, 1) := by decide +kernel
theorem dX8_blocks_13 : decode cX8_blocks 13 = .ok (.istore 4, 2) := by decide +kernel
theorem dX8_blocks_15 : decode cX8_blocks 15 = .ok (.iconst 1, 1) := by decide +kernel
theorem dX8_blocks_16 : decode cX8_blocks 16 = .ok (.istore 5, 2) := by decide +kernel
theorem dX8_blocks_18 : decode cX8_blocks 18 = .ok (.iload 5, 2) := by decide +kernel
theorem dX8_blocks_20 : decode cX8_blocks 20 = .ok (.bipush 8, 2) := by decide +kernel
theorem dX8_blocks_22 : decode cX8_blocks 22 = .ok (.if_icmp .gt 37, 3) := by decide +kernel
theorem dX8_blocks_25 : decode cX8_blocks 25 = .ok (.iload 4, 2) := by decide +kernel
theorem dX8_blocks_27 : decode cX8_blocks 27 = .ok (.aload_n 0, 1) := by decide +kernel
theorem dX8_blocks_28 : decode cX8_blocks 28 = .ok (.iload 5, 2) := by decide +kernel
theorem dX8_blocks_30 : decode cX8_blocks 30 = .ok (.iload_n 1, 1) := by decide +kernel
theorem dX8_blocks_31 : decode cX8_blocks 31 = .ok (.iload_n 2, 1) := by decide +kernel
theorem dX8_blocks_32 : decode cX8_blocks 32 = .ok (.invokevirtual 142, 3) := by decide +kernel
theorem dX8_blocks_35 : decode cX8_blocks 35 = .ok (.iload_n 3, 1) := by decide +kernel
theorem dX8_blocks_36 : decode cX8_blocks 36 = .ok (.ishr, 1) := by decide +kernel
theorem dX8_blocks_37 : decode cX8_blocks 37 = .ok (.iconst 1, 1) := by decide +kernel
theorem dX8_blocks_38 : decode cX8_blocks 38 = .ok (.iand, 1) := by decide +kernel
theorem dX8_blocks_39 : decode cX8_blocks 39 = .ok (.ifCond .ne 10, 3) := by decide +kernel
theorem dX8_blocks_42 : decode cX8_blocks 42 = .ok (.iconst 1, 1) := by decide +kernel
theorem dX8_blocks_43 : decode cX8_blocks 43 = .ok (.iload 5, 2) := by decide +kernel
theorem dX8_blocks_45 : decode cX8_blocks 45 = .ok (.ishl, 1) := by decide +kernel
theorem dX8_blocks_46 : decode cX8_blocks 46 = .ok (.goto 4, 3) := by decide +kernel
theorem dX8_blocks_49 : decode cX8_blocks 49 = .ok (.iconst 0, 1) := by decide +kernel
theorem dX8_blocks_50 : decode cX8_blocks 50 = .ok (.ior, 1) := by decide +kernel
theorem dX8_blocks_51 : decode cX8_blocks 51 = .ok (.istore 4, 2) := by decide +kernel
theorem dX8_blocks_53 : decode cX8_blocks 53 = .ok (.iinc 5 1, 3) := by decide +kernel
theorem dX8_blocks_56 : decode cX8_blocks 56 = .ok (.goto (-38), 3) := by decide +kernel
theorem dX8_blocks_59 : decode cX8_blocks 59 = .ok (.iload 4, 2) := by decide +kernel
theorem dX8_blocks_61 : decode cX8_blocks 61 = .ok (.ireturn, 1) := by decide +kernel
set_option maxRecDepth 20000 in
theorem ggX8_pairs_X8_isIn : GoodIn wsX8_pairs wsX8_isIn := goodIn_r _ [5] (by decide +kernel) (by decide +kernel)
set_option maxRecDepth 20000 in
theorem gX8_pairs_X8_isIn : GoodIn wsX8_pairs (va_wsS RX8 103 yX8_isIn wsX8_isIn) := goodIn_app (goodIn_of _ (by decide +kernel)) ggX8_pairs_X8_isIn
set_option maxRecDepth 20000 in
theorem ggX8_pairs_X8_holds : GoodIn wsX8_pairs wsX8_holds := goodIn_r _ [9, 10, 65, 66, 67, 68, 69, 70, 71, 72, 73, 74, 75, 76, 77, 78, 79, 80, 81, 82, 83, 84, 85, 86, 87, 88, 89, 90] (by decide +kernel) (by decide +kernel)
set_option maxRecDepth 20000 in
theorem gX8_pairs_X8_holds : GoodIn wsX8_pairs (wsV RX8 99 RX8 yX8_holds wsX8_holds) := goodIn_app (goodIn_of _ (by decide +kernel)) ggX8_pairs_X8_holds
set_option maxRecDepth 20000 in
theorem ggX8_pairs_X8_portsOf : GoodIn wsX8_pairs wsX8_portsOf := goodIn_r _ [14, 15, 16, 17, 18, 4, 19, 20, 21, 22, 23, 24, 25, 26, 27, 28, 29, 30, 31, 32, 33, 34, 35, 36, 37, 38, 39, 40, 41, 42, 43, 44, 45, 46, 47, 48, 49, 50, 51, 52, 53, 54, 55, 56, 57, 58, 59, 60, 61, 62, 63, 64, 65, 66, 67, 68, 69, 70, 71, 72, 73, 74, 75, 76, 77, 78, 79, 80, 81, 82, 83, 84, 85, 86, 87, 88, 89, 90] (by decide +kernel) (by decide +kernel)
set_option maxRecDepth 20000 in
theorem gX8_pairs_X8_portsOf : GoodIn wsX8_pairs (wsV RX8 149 RX8 yX8_portsOf wsX8_portsOf) := goodIn_app (goodIn_of _ (by decide +kernel)) ggX8_pairs_X8_portsOf
theorem dX8_pairs_0 : decode cX8_pairs 0 = .ok (.aload_n 0, 1) := by decide +kernel
theorem dX8_pairs_1 : decode cX8_pairs 1 = .ok (.iload_n 1, 1) := by decide +kernel
theorem dX8_pairs_2 : decode cX8_pairs 2 = .ok (.bipush 16, 2) := by decide +kernel
theorem dX8_pairs_4 : decode cX8_pairs 4 = .ok (.invokestatic 103, 3) := by decide +kernel
theorem dX8_pairs_7 : decode cX8_pairs 7 = .ok (.ifCond .eq 7, 3) := by decide +kernel
theorem dX8_pairs_10 : decode cX8_pairs 10 = .ok (.iconst 0, 1) := by decide +kernel
theorem dX8_pairs_11 : decode cX8_pairs 11 = .ok (.goto 4, 3) := by decide +kernel
theorem dX8_pairs_14 : decode cX8_pairs 14 = .ok (.iconst 1, 1) := by decide +kernel
theorem dX8_pairs_15 : decode cX8_pairs 15 = .ok (.invokevirtual 99, 3) := by decide +kernel
theorem dX8_pairs_18 : decode cX8_pairs 18 = .ok (.ifCond .ne 5, 3) := by decide +kernel
theorem dX8_pairs_21 : decode cX8_pairs 21 = .ok (.iconst 0, 1) := by decide +kernel
theorem dX8_pairs_22 : decode cX8_pairs 22 = .ok (.ireturn, 1) := by decide +kernel
theorem dX8_pairs_23 : decode cX8_pairs 23 = .ok (.iconst 0, 1) := by decide +kernel
theorem dX8_pairs_24 : decode cX8_pairs 24 = .ok (.istore_n 2, 1) := by decide +kernel
theorem dX8_pairs_25 : decode cX8_pairs 25 = .ok (.iconst 0, 1) := by decide +kernel
theorem dX8_pairs_26 : decode cX8_pairs 26 = .ok (.istore_n 3, 1) := by decide +kernel
theorem dX8_pairs_27 : decode cX8_pairs 27 = .ok (.iload_n 3, 1) := by decide +kernel
theorem dX8_pairs_28 : decode cX8_pairs 28 = .ok (.aload_n 0, 1) := by decide +kernel
theorem dX8_pairs_29 : decode cX8_pairs 29 = .ok (.getfield 109, 3) := by decide +kernel
theorem dX8_pairs_32 : decode cX8_pairs 32 = .ok (.if_icmp .ge 51, 3) := by decide +kernel
theorem dX8_pairs_35 : decode cX8_pairs 35 = .ok (.iconst 0, 1) := by decide +kernel
theorem dX8_pairs_36 : decode cX8_pairs 36 = .ok (.istore 4, 2) := by decide +kernel
theorem dX8_pairs_38 : decode cX8_pairs 38 = .ok (.iload 4, 2) := by decide +kernel
theorem dX8_pairs_40 : decode cX8_pairs 40 = .ok (.aload_n 0, 1) := by decide +kernel
theorem dX8_pairs_41 : decode cX8_pairs 41 = .ok (.getfield 109, 3) := by decide +kernel
theorem dX8_pairs_44 : decode cX8_pairs 44 = .ok (.if_icmp .ge 33, 3) := by decide +kernel
theorem dX8_pairs_47 : decode cX8_pairs 47 = .ok (.iload_n 2, 1) := by decide +kernel
theorem dX8_pairs_48 : decode cX8_pairs 48 = .ok (.iload_n 3, 1) := by decide +kernel
theorem dX8_pairs_49 : decode cX8_pairs 49 = .ok (.iload 4, 2) := by decide +kernel
theorem dX8_pairs_51 : decode cX8_pairs 51 = .ok (.if_icmp .eq 17, 3) := by decide +kernel
theorem dX8_pairs_54 : decode cX8_pairs 54 = .ok (.aload_n 0, 1) := by decide +kernel
theorem dX8_pairs_55 : decode cX8_pairs 55 = .ok (.iload_n 3, 1) := by decide +kernel
theorem dX8_pairs_56 : decode cX8_pairs 56 = .ok (.iload 4, 2) := by decide +kernel
theorem dX8_pairs_58 : decode cX8_pairs 58 = .ok (.invokevirtual 149, 3) := by decide +kernel
theorem dX8_pairs_61 : decode cX8_pairs 61 = .ok (.iload_n 1, 1) := by decide +kernel
theorem dX8_pairs_62 : decode cX8_pairs 62 = .ok (.ishr, 1) := by decide +kernel
theorem dX8_pairs_63 : decode cX8_pairs 63 = .ok (.iconst 1, 1) := by decide +kernel
theorem dX8_pairs_64 : decode cX8_pairs 64 = .ok (.iand, 1) := by decide +kernel
theorem dX8_pairs_65 : decode cX8_pairs 65 = .ok (.goto 4, 3) := by decide +kernel
theorem dX8_pairs_68 : decode cX8_pairs 68 = .ok (.iconst 0, 1) := by decide +kernel
theorem dX8_pairs_69 : decode cX8_pairs 69 = .ok (.iadd, 1) := by decide +kernel
theorem dX8_pairs_70 : decode cX8_pairs 70 = .ok (.istore_n 2, 1) := by decide +kernel
theorem dX8_pairs_71 : decode cX8_pairs 71 = .ok (.iinc 4 1, 3) := by decide +kernel
theorem dX8_pairs_74 : decode cX8_pairs 74 = .ok (.goto (-36), 3) := by decide +kernel
theorem dX8_pairs_77 : decode cX8_pairs 77 = .ok (.iinc 3 1, 3) := by decide +kernel
theorem dX8_pairs_80 : decode cX8_pairs 80 = .ok (.goto (-53), 3) := by decide +kernel
theorem dX8_pairs_83 : decode cX8_pairs 83 = .ok (.iload_n 2, 1) := by decide +kernel
theorem dX8_pairs_84 : decode cX8_pairs 84 = .ok (.ireturn, 1) := by decide +kernel
set_option maxRecDepth 20000 in
theorem ggX8_reachedFrom_X8_isIn : GoodIn wsX8_reachedFrom wsX8_isIn := goodIn_r _ [5] (by decide +kernel) (by decide +kernel)
set_option maxRecDepth 20000 in
theorem gX8_reachedFrom_X8_isIn : GoodIn wsX8_reachedFrom (va_wsS RX8 103 yX8_isIn wsX8_isIn) := goodIn_app (goodIn_of _ (by decide +kernel)) ggX8_reachedFrom_X8_isIn
set_option maxRecDepth 20000 in
theorem ggX8_reachedFrom_X8_holds : GoodIn wsX8_reachedFrom wsX8_holds := goodIn_r _ [9, 10, 65, 66, 67, 68, 69, 70, 71, 72, 73, 74, 75, 76, 77, 78, 79, 80, 81, 82, 83, 84, 85, 86, 87, 88, 89, 90] (by decide +kernel) (by decide +kernel)
set_option maxRecDepth 20000 in
theorem gX8_reachedFrom_X8_holds : GoodIn wsX8_reachedFrom (wsV RX8 99 RX8 yX8_holds wsX8_holds) := goodIn_app (goodIn_of _ (by decide +kernel)) ggX8_reachedFrom_X8_holds
set_option maxRecDepth 20000 in
theorem ggX8_reachedFrom_X8_portsOf : GoodIn wsX8_reachedFrom wsX8_portsOf := goodIn_r _ [14, 15, 16, 17, 18, 4, 19, 20, 21, 22, 23, 24, 25, 26, 27, 28, 29, 30, 31, 32, 33, 34, 35, 36, 37, 38, 39, 40, 41, 42, 43, 44, 45, 46, 47, 48, 49, 50, 51, 52, 53, 54, 55, 56, 57, 58, 59, 60, 61, 62, 63, 64, 65, 66, 67, 68, 69, 70, 71, 72, 73, 74, 75, 76, 77, 78, 79, 80, 81, 82, 83, 84, 85, 86, 87, 88, 89, 90] (by decide +kernel) (by decide +kernel)
set_option maxRecDepth 20000 in
theorem gX8_reachedFrom_X8_portsOf : GoodIn wsX8_reachedFrom (wsV RX8 149 RX8 yX8_portsOf wsX8_portsOf) := goodIn_app (goodIn_of _ (by decide +kernel)) ggX8_reachedFrom_X8_portsOf
theorem dX8_reachedFrom_0 : decode cX8_reachedFrom 0 = .ok (.aload_n 0, 1) := by decide +kernel
theorem dX8_reachedFrom_1 : decode cX8_reachedFrom 1 = .ok (.iload_n 1, 1) := by decide +kernel
theorem dX8_reachedFrom_2 : decode cX8_reachedFrom 2 = .ok (.aload_n 0, 1) := by decide +kernel
theorem dX8_reachedFrom_3 : decode cX8_reachedFrom 3 = .ok (.getfield 109, 3) := by decide +kernel
theorem dX8_reachedFrom_6 : decode cX8_reachedFrom 6 = .ok (.invokestatic 103, 3) := by decide +kernel
theorem dX8_reachedFrom_9 : decode cX8_reachedFrom 9 = .ok (.ifCond .eq 7, 3) := by decide +kernel
theorem dX8_reachedFrom_12 : decode cX8_reachedFrom 12 = .ok (.iconst 0, 1) := by decide +kernel
theorem dX8_reachedFrom_13 : decode cX8_reachedFrom 13 = .ok (.goto 4, 3) := by decide +kernel
theorem dX8_reachedFrom_16 : decode cX8_reachedFrom 16 = .ok (.iconst 1, 1) := by decide +kernel
theorem dX8_reachedFrom_17 : decode cX8_reachedFrom 17 = .ok (.invokevirtual 99, 3) := by decide +kernel
theorem dX8_reachedFrom_20 : decode cX8_reachedFrom 20 = .ok (.ifCond .ne 5, 3) := by decide +kernel
theorem dX8_reachedFrom_23 : decode cX8_reachedFrom 23 = .ok (.iconst 0, 1) := by decide +kernel
theorem dX8_reachedFrom_24 : decode cX8_reachedFrom 24 = .ok (.ireturn, 1) := by decide +kernel
theorem dX8_reachedFrom_25 : decode cX8_reachedFrom 25 = .ok (.iconst 0, 1) := by decide +kernel
theorem dX8_reachedFrom_26 : decode cX8_reachedFrom 26 = .ok (.istore_n 2, 1) := by decide +kernel
theorem dX8_reachedFrom_27 : decode cX8_reachedFrom 27 = .ok (.iconst 0, 1) := by decide +kernel
theorem dX8_reachedFrom_28 : decode cX8_reachedFrom 28 = .ok (.istore_n 3, 1) := by decide +kernel
theorem dX8_reachedFrom_29 : decode cX8_reachedFrom 29 = .ok (.iload_n 3, 1) := by decide +kernel
theorem dX8_reachedFrom_30 : decode cX8_reachedFrom 30 = .ok (.aload_n 0, 1) := by decide +kernel
theorem dX8_reachedFrom_31 : decode cX8_reachedFrom 31 = .ok (.getfield 109, 3) := by decide +kernel
theorem dX8_reachedFrom_34 : decode cX8_reachedFrom 34 = .ok (.if_icmp .ge 33, 3) := by decide +kernel
theorem dX8_reachedFrom_37 : decode cX8_reachedFrom 37 = .ok (.iload_n 2, 1) := by decide +kernel
theorem dX8_reachedFrom_38 : decode cX8_reachedFrom 38 = .ok (.iload_n 3, 1) := by decide +kernel
theorem dX8_reachedFrom_39 : decode cX8_reachedFrom 39 = .ok (.iload_n 1, 1) := by decide +kernel
theorem dX8_reachedFrom_40 : decode cX8_reachedFrom 40 = .ok (.if_icmp .eq 18, 3) := by decide +kernel
theorem dX8_reachedFrom_43 : decode cX8_reachedFrom 43 = .ok (.aload_n 0, 1) := by decide +kernel
theorem dX8_reachedFrom_44 : decode cX8_reachedFrom 44 = .ok (.iload_n 3, 1) := by decide +kernel
theorem dX8_reachedFrom_45 : decode cX8_reachedFrom 45 = .ok (.iload_n 1, 1) := by decide +kernel
theorem dX8_reachedFrom_46 : decode cX8_reachedFrom 46 = .ok (.invokevirtual 149, 3) := by decide +kernel
theorem dX8_reachedFrom_49 : decode cX8_reachedFrom 49 = .ok (.ifCond .eq 9, 3) := by decide +kernel
theorem dX8_reachedFrom_52 : decode cX8_reachedFrom 52 = .ok (.iconst 1, 1) := by decide +kernel
theorem dX8_reachedFrom_53 : decode cX8_reachedFrom 53 = .ok (.iload_n 3, 1) := by decide +kernel
theorem dX8_reachedFrom_54 : decode cX8_reachedFrom 54 = .ok (.ishl, 1) := by decide +kernel
theorem dX8_reachedFrom_55 : decode cX8_reachedFrom 55 = .ok (.goto 4, 3) := by decide +kernel
theorem dX8_reachedFrom_58 : decode cX8_reachedFrom 58 = .ok (.iconst 0, 1) := by decide +kernel
theorem dX8_reachedFrom_59 : decode cX8_reachedFrom 59 = .ok (.ior, 1) := by decide +kernel
theorem dX8_reachedFrom_60 : decode cX8_reachedFrom 60 = .ok (.istore_n 2, 1) := by decide +kernel
theorem dX8_reachedFrom_61 : decode cX8_reachedFrom 61 = .ok (.iinc 3 1, 3) := by decide +kernel
theorem dX8_reachedFrom_64 : decode cX8_reachedFrom 64 = .ok (.goto (-35), 3) := by decide +kernel
theorem dX8_reachedFrom_67 : decode cX8_reachedFrom 67 = .ok (.iload_n 2, 1) := by decide +kernel
theorem dX8_reachedFrom_68 : decode cX8_reachedFrom 68 = .ok (.ireturn, 1) := by decide +kernel
set_option maxRecDepth 20000 in
theorem ggX8_isMet_X8_has : GoodIn wsX8_isMet wsX8_has := goodIn_r _ [8, 9, 10, 7, 11, 12, 13, 14] (by decide +kernel) (by decide +kernel)
set_option maxRecDepth 20000 in
theorem gX8_isMet_X8_has : GoodIn wsX8_isMet (va_wsS RX8 82 yX8_has wsX8_has) := goodIn_app (goodIn_of _ (by decide +kernel)) ggX8_isMet_X8_has
theorem dX8_isMet_0 : decode cX8_isMet 0 = .ok (.aload_n 0, 1) := by decide +kernel
theorem dX8_isMet_1 : decode cX8_isMet 1 = .ok (.getfield 59, 3) := by decide +kernel
theorem dX8_isMet_4 : decode cX8_isMet 4 = .ok (.iload_n 2, 1) := by decide +kernel
theorem dX8_isMet_5 : decode cX8_isMet 5 = .ok (.iaload, 1) := by decide +kernel
theorem dX8_isMet_6 : decode cX8_isMet 6 = .ok (.istore 4, 2) := by decide +kernel
theorem dX8_isMet_8 : decode cX8_isMet 8 = .ok (.iload_n 1, 1) := by decide +kernel
theorem dX8_isMet_9 : decode cX8_isMet 9 = .ok (.istore 5, 2) := by decide +kernel
theorem dX8_isMet_11 : decode cX8_isMet 11 = .ok (.iload 5, 2) := by decide +kernel
theorem dX8_isMet_13 : decode cX8_isMet 13 = .ok (.iload_n 2, 1) := by decide +kernel
theorem dX8_isMet_14 : decode cX8_isMet 14 = .ok (.if_icmp .ge 58, 3) := by decide +kernel
theorem dX8_isMet_17 : decode cX8_isMet 17 = .ok (.iload 4, 2) := by decide +kernel
theorem dX8_isMet_19 : decode cX8_isMet 19 = .ok (.aload_n 0, 1) := by decide +kernel
theorem dX8_isMet_20 : decode cX8_isMet 20 = .ok (.getfield 50, 3) := by decide +kernel
theorem dX8_isMet_23 : decode cX8_isMet 23 = .ok (.iload 5, 2) := by decide +kernel
theorem dX8_isMet_25 : decode cX8_isMet 25 = .ok (.baload, 1) := by decide +kernel
theorem dX8_isMet_26 : decode cX8_isMet 26 = .ok (.aload_n 0, 1) := by decide +kernel
theorem dX8_isMet_27 : decode cX8_isMet 27 = .ok (.getfield 50, 3) := by decide +kernel
theorem dX8_isMet_30 : decode cX8_isMet 30 = .ok (.iload_n 2, 1) := by decide +kernel
theorem dX8_isMet_31 : decode cX8_isMet 31 = .ok (.baload, 1) := by decide +kernel
theorem dX8_isMet_32 : decode cX8_isMet 32 = .ok (.if_icmp .ne 29, 3) := by decide +kernel
theorem dX8_isMet_35 : decode cX8_isMet 35 = .ok (.aload_n 0, 1) := by decide +kernel
theorem dX8_isMet_36 : decode cX8_isMet 36 = .ok (.getfield 56, 3) := by decide +kernel
theorem dX8_isMet_39 : decode cX8_isMet 39 = .ok (.iload 5, 2) := by decide +kernel
theorem dX8_isMet_41 : decode cX8_isMet 41 = .ok (.iaload, 1) := by decide +kernel
theorem dX8_isMet_42 : decode cX8_isMet 42 = .ok (.iload_n 3, 1) := by decide +kernel
theorem dX8_isMet_43 : decode cX8_isMet 43 = .ok (.invokestatic 82, 3) := by decide +kernel
theorem dX8_isMet_46 : decode cX8_isMet 46 = .ok (.ifCond .eq 15, 3) := by decide +kernel
theorem dX8_isMet_49 : decode cX8_isMet 49 = .ok (.aload_n 0, 1) := by decide +kernel
theorem dX8_isMet_50 : decode cX8_isMet 50 = .ok (.getfield 59, 3) := by decide +kernel
theorem dX8_isMet_53 : decode cX8_isMet 53 = .ok (.iload 5, 2) := by decide +kernel
theorem dX8_isMet_55 : decode cX8_isMet 55 = .ok (.iaload, 1) := by decide +kernel
theorem dX8_isMet_56 : decode cX8_isMet 56 = .ok (.iconst (-1), 1) := by decide +kernel
theorem dX8_isMet_57 : decode cX8_isMet 57 = .ok (.ixor, 1) := by decide +kernel
theorem dX8_isMet_58 : decode cX8_isMet 58 = .ok (.goto 5, 3) := by decide +kernel
theorem dX8_isMet_61 : decode cX8_isMet 61 = .ok (.ldc 131, 2) := by decide +kernel
theorem dX8_isMet_63 : decode cX8_isMet 63 = .ok (.iand, 1) := by decide +kernel
theorem dX8_isMet_64 : decode cX8_isMet 64 = .ok (.istore 4, 2) := by decide +kernel
theorem dX8_isMet_66 : decode cX8_isMet 66 = .ok (.iinc 5 1, 3) := by decide +kernel
theorem dX8_isMet_69 : decode cX8_isMet 69 = .ok (.goto (-58), 3) := by decide +kernel
theorem dX8_isMet_72 : decode cX8_isMet 72 = .ok (.iload 4, 2) := by decide +kernel
theorem dX8_isMet_74 : decode cX8_isMet 74 = .ok (.ifCond .ne 7, 3) := by decide +kernel
theorem dX8_isMet_77 : decode cX8_isMet 77 = .ok (.iconst 1, 1) := by decide +kernel
theorem dX8_isMet_78 : decode cX8_isMet 78 = .ok (.goto 4, 3) := by decide +kernel
theorem dX8_isMet_81 : decode cX8_isMet 81 = .ok (.iconst 0, 1) := by decide +kernel
theorem dX8_isMet_82 : decode cX8_isMet 82 = .ok (.ireturn, 1) := by decide +kernel
set_option maxRecDepth 20000 in
theorem ggX8_idleRules_X8_isIn : GoodIn wsX8_idleRules wsX8_isIn := goodIn_r _ [7] (by decide +kernel) (by decide +kernel)
set_option maxRecDepth 20000 in
theorem gX8_idleRules_X8_isIn : GoodIn wsX8_idleRules (va_wsS RX8 103 yX8_isIn wsX8_isIn) := goodIn_app (goodIn_of _ (by decide +kernel)) ggX8_idleRules_X8_isIn
set_option maxRecDepth 20000 in
theorem ggX8_idleRules_X8_holds : GoodIn wsX8_idleRules wsX8_holds := goodIn_r _ [11, 12, 29, 30, 31, 32, 33, 34, 35, 36, 37, 38, 39, 40, 41, 42, 43, 44, 45, 46, 47, 48, 49, 50, 51, 52, 53, 54] (by decide +kernel) (by decide +kernel)
set_option maxRecDepth 20000 in
theorem gX8_idleRules_X8_holds : GoodIn wsX8_idleRules (wsV RX8 99 RX8 yX8_holds wsX8_holds) := goodIn_app (goodIn_of _ (by decide +kernel)) ggX8_idleRules_X8_holds
set_option maxRecDepth 20000 in
theorem ggX8_idleRules_X8_first : GoodIn wsX8_idleRules wsX8_first := goodIn_r _ [15] (by decide +kernel) (by decide +kernel)
set_option maxRecDepth 20000 in
theorem gX8_idleRules_X8_first : GoodIn wsX8_idleRules (va_wsS RX8 75 yX8_first wsX8_first) := goodIn_app (goodIn_of _ (by decide +kernel)) ggX8_idleRules_X8_first
set_option maxRecDepth 20000 in
theorem ggX8_idleRules_X8_many : GoodIn wsX8_idleRules wsX8_many := goodIn_r _ [18] (by decide +kernel) (by decide +kernel)
set_option maxRecDepth 20000 in
theorem gX8_idleRules_X8_many : GoodIn wsX8_idleRules (va_wsS RX8 79 yX8_many wsX8_many) := goodIn_app (goodIn_of _ (by decide +kernel)) ggX8_idleRules_X8_many
set_option maxRecDepth 20000 in
theorem ggX8_idleRules_X8_isMet : GoodIn wsX8_idleRules wsX8_isMet := goodIn_r _ [22, 23, 24, 3, 25, 26, 27, 6, 28, 13, 14, 15, 16, 17, 18, 29, 30, 31, 32, 33, 34, 35, 36, 37, 38, 39, 40, 41, 42, 43, 44, 45, 46, 47, 48, 49, 50, 51, 52, 53, 54] (by decide +kernel) (by decide +kernel)
set_option maxRecDepth 20000 in
theorem gX8_idleRules_X8_isMet : GoodIn wsX8_idleRules (wsV RX8 156 RX8 yX8_isMet wsX8_isMet) := goodIn_app (goodIn_of _ (by decide +kernel)) ggX8_idleRules_X8_isMet
theorem dX8_idleRules_0 : decode cX8_idleRules 0 = .ok (.aload_n 0, 1) := by decide +kernel
theorem dX8_idleRules_1 : decode cX8_idleRules 1 = .ok (.iload_n 1, 1) := by decide +kernel
theorem dX8_idleRules_2 : decode cX8_idleRules 2 = .ok (.aload_n 0, 1) := by decide +kernel
theorem dX8_idleRules_3 : decode cX8_idleRules 3 = .ok (.getfield 106, 3) := by decide +kernel
theorem dX8_idleRules_6 : decode cX8_idleRules 6 = .ok (.invokestatic 103, 3) := by decide +kernel
theorem dX8_idleRules_9 : decode cX8_idleRules 9 = .ok (.ifCond .eq 7, 3) := by decide +kernel
theorem dX8_idleRules_12 : decode cX8_idleRules 12 = .ok (.iconst 0, 1) := by decide +kernel
theorem dX8_idleRules_13 : decode cX8_idleRules 13 = .ok (.goto 4, 3) := by decide +kernel
theorem dX8_idleRules_16 : decode cX8_idleRules 16 = .ok (.iconst 1, 1) := by decide +kernel
theorem dX8_idleRules_17 : decode cX8_idleRules 17 = .ok (.invokevirtual 99, 3) := by decide +kernel
theorem dX8_idleRules_20 : decode cX8_idleRules 20 = .ok (.ifCond .ne 5, 3) := by decide +kernel
theorem dX8_idleRules_23 : decode cX8_idleRules 23 = .ok (.iconst 0, 1) := by decide +kernel
theorem dX8_idleRules_24 : decode cX8_idleRules 24 = .ok (.ireturn, 1) := by decide +kernel
theorem dX8_idleRules_25 : decode cX8_idleRules 25 = .ok (.iconst 0, 1) := by decide +kernel
theorem dX8_idleRules_26 : decode cX8_idleRules 26 = .ok (.istore_n 2, 1) := by decide +kernel
theorem dX8_idleRules_27 : decode cX8_idleRules 27 = .ok (.bipush 12, 2) := by decide +kernel
theorem dX8_idleRules_29 : decode cX8_idleRules 29 = .ok (.iload_n 1, 1) := by decide +kernel
theorem dX8_idleRules_30 : decode cX8_idleRules 30 = .ok (.imul, 1) := by decide +kernel
theorem dX8_idleRules_31 : decode cX8_idleRules 31 = .ok (.istore_n 3, 1) := by decide +kernel
theorem dX8_idleRules_32 : decode cX8_idleRules 32 = .ok (.iload_n 3, 1) := by decide +kernel
theorem dX8_idleRules_33 : decode cX8_idleRules 33 = .ok (.istore 4, 2) := by decide +kernel
theorem dX8_idleRules_35 : decode cX8_idleRules 35 = .ok (.iload 4, 2) := by decide +kernel
theorem dX8_idleRules_37 : decode cX8_idleRules 37 = .ok (.iload_n 3, 1) := by decide +kernel
theorem dX8_idleRules_38 : decode cX8_idleRules 38 = .ok (.aload_n 0, 1) := by decide +kernel
theorem dX8_idleRules_39 : decode cX8_idleRules 39 = .ok (.getfield 47, 3) := by decide +kernel
theorem dX8_idleRules_42 : decode cX8_idleRules 42 = .ok (.iload_n 1, 1) := by decide +kernel
theorem dX8_idleRules_43 : decode cX8_idleRules 43 = .ok (.iaload, 1) := by decide +kernel
theorem dX8_idleRules_44 : decode cX8_idleRules 44 = .ok (.iadd, 1) := by decide +kernel
theorem dX8_idleRules_45 : decode cX8_idleRules 45 = .ok (.if_icmp .ge 79, 3) := by decide +kernel
theorem dX8_idleRules_48 : decode cX8_idleRules 48 = .ok (.iconst 1, 1) := by decide +kernel
theorem dX8_idleRules_49 : decode cX8_idleRules 49 = .ok (.istore 5, 2) := by decide +kernel
theorem dX8_idleRules_51 : decode cX8_idleRules 51 = .ok (.aload_n 0, 1) := by decide +kernel
theorem dX8_idleRules_52 : decode cX8_idleRules 52 = .ok (.getfield 56, 3) := by decide +kernel
theorem dX8_idleRules_55 : decode cX8_idleRules 55 = .ok (.iload 4, 2) := by decide +kernel
theorem dX8_idleRules_57 : decode cX8_idleRules 57 = .ok (.iaload, 1) := by decide +kernel
theorem dX8_idleRules_58 : decode cX8_idleRules 58 = .ok (.istore 6, 2) := by decide +kernel
theorem dX8_idleRules_60 : decode cX8_idleRules 60 = .ok (.iload 6, 2) := by decide +kernel
theorem dX8_idleRules_62 : decode cX8_idleRules 62 = .ok (.invokestatic 75, 3) := by decide +kernel
theorem dX8_idleRules_65 : decode cX8_idleRules 65 = .ok (.istore 7, 2) := by decide +kernel
theorem dX8_idleRules_67 : decode cX8_idleRules 67 = .ok (.iload 7, 2) := by decide +kernel
theorem dX8_idleRules_69 : decode cX8_idleRules 69 = .ok (.iload 6, 2) := by decide +kernel
theorem dX8_idleRules_71 : decode cX8_idleRules 71 = .ok (.invokestatic 75, 3) := by decide +kernel
theorem dX8_idleRules_74 : decode cX8_idleRules 74 = .ok (.iload 6, 2) := by decide +kernel
theorem dX8_idleRules_76 : decode cX8_idleRules 76 = .ok (.invokestatic 79, 3) := by decide +kernel
theorem dX8_idleRules_79 : decode cX8_idleRules 79 = .ok (.iadd, 1) := by decide +kernel
theorem dX8_idleRules_80 : decode cX8_idleRules 80 = .ok (.if_icmp .ge 25, 3) := by decide +kernel
theorem dX8_idleRules_83 : decode cX8_idleRules 83 = .ok (.iload 5, 2) := by decide +kernel
theorem dX8_idleRules_85 : decode cX8_idleRules 85 = .ok (.ifCond .eq 20, 3) := by decide +kernel
theorem dX8_idleRules_88 : decode cX8_idleRules 88 = .ok (.aload_n 0, 1) := by decide +kernel
theorem dX8_idleRules_89 : decode cX8_idleRules 89 = .ok (.iload_n 3, 1) := by decide +kernel
theorem dX8_idleRules_90 : decode cX8_idleRules 90 = .ok (.iload 4, 2) := by decide +kernel
theorem dX8_idleRules_92 : decode cX8_idleRules 92 = .ok (.iload 7, 2) := by decide +kernel
theorem dX8_idleRules_94 : decode cX8_idleRules 94 = .ok (.invokevirtual 156, 3) := by decide +kernel
theorem dX8_idleRules_97 : decode cX8_idleRules 97 = .ok (.istore 5, 2) := by decide +kernel
theorem dX8_idleRules_99 : decode cX8_idleRules 99 = .ok (.iinc 7 1, 3) := by decide +kernel
theorem dX8_idleRules_102 : decode cX8_idleRules 102 = .ok (.goto (-35), 3) := by decide +kernel
theorem dX8_idleRules_105 : decode cX8_idleRules 105 = .ok (.iload_n 2, 1) := by decide +kernel
theorem dX8_idleRules_106 : decode cX8_idleRules 106 = .ok (.iload 5, 2) := by decide +kernel
theorem dX8_idleRules_108 : decode cX8_idleRules 108 = .ok (.ifCond .eq 7, 3) := by decide +kernel
theorem dX8_idleRules_111 : decode cX8_idleRules 111 = .ok (.iconst 1, 1) := by decide +kernel
theorem dX8_idleRules_112 : decode cX8_idleRules 112 = .ok (.goto 4, 3) := by decide +kernel
theorem dX8_idleRules_115 : decode cX8_idleRules 115 = .ok (.iconst 0, 1) := by decide +kernel
theorem dX8_idleRules_116 : decode cX8_idleRules 116 = .ok (.iadd, 1) := by decide +kernel
theorem dX8_idleRules_117 : decode cX8_idleRules 117 = .ok (.istore_n 2, 1) := by decide +kernel
theorem dX8_idleRules_118 : decode cX8_idleRules 118 = .ok (.iinc 4 1, 3) := by decide +kernel
theorem dX8_idleRules_121 : decode cX8_idleRules 121 = .ok (.goto (-86), 3) := by decide +kernel
theorem dX8_idleRules_124 : decode cX8_idleRules 124 = .ok (.iload_n 2, 1) := by decide +kernel
theorem dX8_idleRules_125 : decode cX8_idleRules 125 = .ok (.ireturn, 1) := by decide +kernel
