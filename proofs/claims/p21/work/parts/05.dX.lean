theorem dX0_init_0 : decode cX0_init 0 = .ok (.aload_n 0, 1) := by decide +kernel
theorem dX0_init_1 : decode cX0_init 1 = .ok (.invokespecial 1, 3) := by decide +kernel
theorem dX0_init_4 : decode cX0_init 4 = .ok (.aload_n 0, 1) := by decide +kernel
theorem dX0_init_5 : decode cX0_init 5 = .ok (.iload_n 1, 1) := by decide +kernel
theorem dX0_init_6 : decode cX0_init 6 = .ok (.putfield 7, 3) := by decide +kernel
theorem dX0_init_9 : decode cX0_init 9 = .ok (.aload_n 0, 1) := by decide +kernel
theorem dX0_init_10 : decode cX0_init 10 = .ok (.iload_n 2, 1) := by decide +kernel
theorem dX0_init_11 : decode cX0_init 11 = .ok (.putfield 13, 3) := by decide +kernel
theorem dX0_init_14 : decode cX0_init 14 = .ok (.return_, 1) := by decide +kernel
theorem dX0_has_0 : decode cX0_has 0 = .ok (.iload_n 1, 1) := by decide +kernel
theorem dX0_has_1 : decode cX0_has 1 = .ok (.aload_n 0, 1) := by decide +kernel
theorem dX0_has_2 : decode cX0_has 2 = .ok (.getfield 13, 3) := by decide +kernel
theorem dX0_has_5 : decode cX0_has 5 = .ok (.ishr, 1) := by decide +kernel
theorem dX0_has_6 : decode cX0_has 6 = .ok (.aload_n 0, 1) := by decide +kernel
theorem dX0_has_7 : decode cX0_has 7 = .ok (.getfield 7, 3) := by decide +kernel
theorem dX0_has_10 : decode cX0_has 10 = .ok (.aload_n 0, 1) := by decide +kernel
theorem dX0_has_11 : decode cX0_has 11 = .ok (.getfield 13, 3) := by decide +kernel
theorem dX0_has_14 : decode cX0_has 14 = .ok (.ishr, 1) := by decide +kernel
theorem dX0_has_15 : decode cX0_has 15 = .ok (.if_icmp .ne 7, 3) := by decide +kernel
theorem dX0_has_18 : decode cX0_has 18 = .ok (.iconst 1, 1) := by decide +kernel
theorem dX0_has_19 : decode cX0_has 19 = .ok (.goto 4, 3) := by decide +kernel
theorem dX0_has_22 : decode cX0_has 22 = .ok (.iconst 0, 1) := by decide +kernel
theorem dX0_has_23 : decode cX0_has 23 = .ok (.ireturn, 1) := by decide +kernel
set_option maxRecDepth 20000 in
theorem ggX0_isWithin_X0_has : GoodIn wsX0_isWithin wsX0_has := goodIn_r _ [7, 1, 2, 8, 9] (by decide +kernel) (by decide +kernel)
set_option maxRecDepth 20000 in
theorem gX0_isWithin_X0_has : GoodIn wsX0_isWithin (wsV RX0 16 RX0 yX0_has wsX0_has) := goodIn_app (goodIn_of _ (by decide +kernel)) ggX0_isWithin_X0_has
theorem dX0_isWithin_0 : decode cX0_isWithin 0 = .ok (.aload_n 0, 1) := by decide +kernel
theorem dX0_isWithin_1 : decode cX0_isWithin 1 = .ok (.getfield 13, 3) := by decide +kernel
theorem dX0_isWithin_4 : decode cX0_isWithin 4 = .ok (.aload_n 1, 1) := by decide +kernel
theorem dX0_isWithin_5 : decode cX0_isWithin 5 = .ok (.getfield 13, 3) := by decide +kernel
theorem dX0_isWithin_8 : decode cX0_isWithin 8 = .ok (.if_icmp .gt 18, 3) := by decide +kernel
theorem dX0_isWithin_11 : decode cX0_isWithin 11 = .ok (.aload_n 1, 1) := by decide +kernel
theorem dX0_isWithin_12 : decode cX0_isWithin 12 = .ok (.aload_n 0, 1) := by decide +kernel
theorem dX0_isWithin_13 : decode cX0_isWithin 13 = .ok (.getfield 7, 3) := by decide +kernel
theorem dX0_isWithin_16 : decode cX0_isWithin 16 = .ok (.invokevirtual 16, 3) := by decide +kernel
theorem dX0_isWithin_19 : decode cX0_isWithin 19 = .ok (.ifCond .eq 7, 3) := by decide +kernel
theorem dX0_isWithin_22 : decode cX0_isWithin 22 = .ok (.iconst 1, 1) := by decide +kernel
theorem dX0_isWithin_23 : decode cX0_isWithin 23 = .ok (.goto 4, 3) := by decide +kernel
theorem dX0_isWithin_26 : decode cX0_isWithin 26 = .ok (.iconst 0, 1) := by decide +kernel
theorem dX0_isWithin_27 : decode cX0_isWithin 27 = .ok (.ireturn, 1) := by decide +kernel
set_option maxRecDepth 20000 in
theorem ggX0_overlaps_X0_has : GoodIn wsX0_overlaps wsX0_has := goodIn_r _ [6, 7, 1, 8, 9] (by decide +kernel) (by decide +kernel)
set_option maxRecDepth 20000 in
theorem gX0_overlaps_X0_has : GoodIn wsX0_overlaps (wsV RX0 16 RX0 yX0_has wsX0_has) := goodIn_app (goodIn_of _ (by decide +kernel)) ggX0_overlaps_X0_has
theorem dX0_overlaps_0 : decode cX0_overlaps 0 = .ok (.aload_n 0, 1) := by decide +kernel
theorem dX0_overlaps_1 : decode cX0_overlaps 1 = .ok (.aload_n 1, 1) := by decide +kernel
theorem dX0_overlaps_2 : decode cX0_overlaps 2 = .ok (.getfield 7, 3) := by decide +kernel
theorem dX0_overlaps_5 : decode cX0_overlaps 5 = .ok (.invokevirtual 16, 3) := by decide +kernel
theorem dX0_overlaps_8 : decode cX0_overlaps 8 = .ok (.ifCond .ne 14, 3) := by decide +kernel
theorem dX0_overlaps_11 : decode cX0_overlaps 11 = .ok (.aload_n 1, 1) := by decide +kernel
theorem dX0_overlaps_12 : decode cX0_overlaps 12 = .ok (.aload_n 0, 1) := by decide +kernel
theorem dX0_overlaps_13 : decode cX0_overlaps 13 = .ok (.getfield 7, 3) := by decide +kernel
theorem dX0_overlaps_16 : decode cX0_overlaps 16 = .ok (.invokevirtual 16, 3) := by decide +kernel
theorem dX0_overlaps_19 : decode cX0_overlaps 19 = .ok (.ifCond .eq 7, 3) := by decide +kernel
theorem dX0_overlaps_22 : decode cX0_overlaps 22 = .ok (.iconst 1, 1) := by decide +kernel
theorem dX0_overlaps_23 : decode cX0_overlaps 23 = .ok (.goto 4, 3) := by decide +kernel
theorem dX0_overlaps_26 : decode cX0_overlaps 26 = .ok (.iconst 0, 1) := by decide +kernel
theorem dX0_overlaps_27 : decode cX0_overlaps 27 = .ok (.ireturn, 1) := by decide +kernel
theorem dX0_isSame_0 : decode cX0_isSame 0 = .ok (.aload_n 0, 1) := by decide +kernel
theorem dX0_isSame_1 : decode cX0_isSame 1 = .ok (.getfield 7, 3) := by decide +kernel
theorem dX0_isSame_4 : decode cX0_isSame 4 = .ok (.aload_n 1, 1) := by decide +kernel
theorem dX0_isSame_5 : decode cX0_isSame 5 = .ok (.getfield 7, 3) := by decide +kernel
theorem dX0_isSame_8 : decode cX0_isSame 8 = .ok (.if_icmp .ne 18, 3) := by decide +kernel
theorem dX0_isSame_11 : decode cX0_isSame 11 = .ok (.aload_n 0, 1) := by decide +kernel
theorem dX0_isSame_12 : decode cX0_isSame 12 = .ok (.getfield 13, 3) := by decide +kernel
theorem dX0_isSame_15 : decode cX0_isSame 15 = .ok (.aload_n 1, 1) := by decide +kernel
theorem dX0_isSame_16 : decode cX0_isSame 16 = .ok (.getfield 13, 3) := by decide +kernel
theorem dX0_isSame_19 : decode cX0_isSame 19 = .ok (.if_icmp .ne 7, 3) := by decide +kernel
theorem dX0_isSame_22 : decode cX0_isSame 22 = .ok (.iconst 1, 1) := by decide +kernel
theorem dX0_isSame_23 : decode cX0_isSame 23 = .ok (.goto 4, 3) := by decide +kernel
theorem dX0_isSame_26 : decode cX0_isSame 26 = .ok (.iconst 0, 1) := by decide +kernel
theorem dX0_isSame_27 : decode cX0_isSame 27 = .ok (.ireturn, 1) := by decide +kernel
theorem dX0_end_0 : decode cX0_end 0 = .ok (.aload_n 0, 1) := by decide +kernel
theorem dX0_end_1 : decode cX0_end 1 = .ok (.getfield 7, 3) := by decide +kernel
theorem dX0_end_4 : decode cX0_end 4 = .ok (.iconst 1, 1) := by decide +kernel
theorem dX0_end_5 : decode cX0_end 5 = .ok (.aload_n 0, 1) := by decide +kernel
theorem dX0_end_6 : decode cX0_end 6 = .ok (.getfield 13, 3) := by decide +kernel
theorem dX0_end_9 : decode cX0_end 9 = .ok (.ishl, 1) := by decide +kernel
theorem dX0_end_10 : decode cX0_end 10 = .ok (.iadd, 1) := by decide +kernel
theorem dX0_end_11 : decode cX0_end 11 = .ok (.ireturn, 1) := by decide +kernel
set_option maxRecDepth 20000 in
theorem ggX1_init_Jx4a65c_init_da8c8 : GoodIn wsX1_init wsJx4a65c_init_da8c8 := goodIn_r _ [10, 11, 12, 13, 14, 15, 16, 17, 18, 19, 20, 21, 22, 2, 3, 23, 24, 25] (by decide +kernel) (by decide +kernel)
set_option maxRecDepth 20000 in
theorem gX1_init_Jx4a65c_init_da8c8 : GoodIn wsX1_init (wsJx4a65c_init_da8c8) := ggX1_init_Jx4a65c_init_da8c8
theorem dX1_init_0 : decode cX1_init 0 = .ok (.aload_n 0, 1) := by decide +kernel
theorem dX1_init_1 : decode cX1_init 1 = .ok (.invokespecial 1, 3) := by decide +kernel
theorem dX1_init_4 : decode cX1_init 4 = .ok (.aload_n 0, 1) := by decide +kernel
theorem dX1_init_5 : decode cX1_init 5 = .ok (.new 7, 3) := by decide +kernel
theorem dX1_init_8 : decode cX1_init 8 = .ok (.dup, 1) := by decide +kernel
theorem dX1_init_9 : decode cX1_init 9 = .ok (.invokespecial 9, 3) := by decide +kernel
theorem dX1_init_12 : decode cX1_init 12 = .ok (.putfield 10, 3) := by decide +kernel
theorem dX1_init_15 : decode cX1_init 15 = .ok (.return_, 1) := by decide +kernel
set_option maxRecDepth 20000 in
theorem ggX1_rulePorts_Jx4a65c_size_8abf5 : GoodIn wsX1_rulePorts wsJx4a65c_size_8abf5 := goodIn_r _ [8, 9, 46, 47, 48] (by decide +kernel) (by decide +kernel)
set_option maxRecDepth 20000 in
theorem gX1_rulePorts_Jx4a65c_size_8abf5 : GoodIn wsX1_rulePorts (wsV RX1 16 RJx4a65c yJx4a65c_size_8abf5 wsJx4a65c_size_8abf5) := goodIn_app (goodIn_of _ (by decide +kernel)) ggX1_rulePorts_Jx4a65c_size_8abf5
set_option maxRecDepth 20000 in
theorem ggX1_rulePorts_Jx4a65c_get_915e3 : GoodIn wsX1_rulePorts wsJx4a65c_get_915e3 := goodIn_r _ [13, 9, 14, 15, 16, 17, 18, 19, 20, 21, 22, 23, 24, 7, 25, 26, 46, 47, 48] (by decide +kernel) (by decide +kernel)
set_option maxRecDepth 20000 in
theorem gX1_rulePorts_Jx4a65c_get_915e3 : GoodIn wsX1_rulePorts (wsV RX1 20 RJx4a65c yJx4a65c_get_915e3 wsJx4a65c_get_915e3) := goodIn_app (goodIn_of _ (by decide +kernel)) ggX1_rulePorts_Jx4a65c_get_915e3
set_option maxRecDepth 20000 in
theorem ggX1_rulePorts_X5_isFor : GoodIn wsX1_rulePorts wsX5_isFor := goodIn_r _ [31, 32, 33, 34, 35, 36, 37, 38, 39, 40, 42, 43, 44, 45, 49, 50] (by decide +kernel) (by decide +kernel)
set_option maxRecDepth 20000 in
theorem gX1_rulePorts_X5_isFor : GoodIn wsX1_rulePorts (wsV RX1 26 RX5 yX5_isFor wsX5_isFor) := goodIn_app (goodIn_of _ (by decide +kernel)) ggX1_rulePorts_X5_isFor
theorem dX1_rulePorts_0 : decode cX1_rulePorts 0 = .ok (.iconst 0, 1) := by decide +kernel
theorem dX1_rulePorts_1 : decode cX1_rulePorts 1 = .ok (.istore_n 3, 1) := by decide +kernel
theorem dX1_rulePorts_2 : decode cX1_rulePorts 2 = .ok (.iconst 0, 1) := by decide +kernel
theorem dX1_rulePorts_3 : decode cX1_rulePorts 3 = .ok (.istore 4, 2) := by decide +kernel
theorem dX1_rulePorts_5 : decode cX1_rulePorts 5 = .ok (.iload 4, 2) := by decide +kernel
theorem dX1_rulePorts_7 : decode cX1_rulePorts 7 = .ok (.aload_n 0, 1) := by decide +kernel
theorem dX1_rulePorts_8 : decode cX1_rulePorts 8 = .ok (.getfield 10, 3) := by decide +kernel
theorem dX1_rulePorts_11 : decode cX1_rulePorts 11 = .ok (.invokevirtual 16, 3) := by decide +kernel
theorem dX1_rulePorts_14 : decode cX1_rulePorts 14 = .ok (.if_icmp .ge 41, 3) := by decide +kernel
theorem dX1_rulePorts_17 : decode cX1_rulePorts 17 = .ok (.aload_n 0, 1) := by decide +kernel
theorem dX1_rulePorts_18 : decode cX1_rulePorts 18 = .ok (.getfield 10, 3) := by decide +kernel
theorem dX1_rulePorts_21 : decode cX1_rulePorts 21 = .ok (.iload 4, 2) := by decide +kernel
theorem dX1_rulePorts_23 : decode cX1_rulePorts 23 = .ok (.invokevirtual 20, 3) := by decide +kernel
theorem dX1_rulePorts_26 : decode cX1_rulePorts 26 = .ok (.checkcast 24, 3) := by decide +kernel
theorem dX1_rulePorts_29 : decode cX1_rulePorts 29 = .ok (.astore 5, 2) := by decide +kernel
theorem dX1_rulePorts_31 : decode cX1_rulePorts 31 = .ok (.aload 5, 2) := by decide +kernel
theorem dX1_rulePorts_33 : decode cX1_rulePorts 33 = .ok (.iload_n 1, 1) := by decide +kernel
theorem dX1_rulePorts_34 : decode cX1_rulePorts 34 = .ok (.iload_n 2, 1) := by decide +kernel
theorem dX1_rulePorts_35 : decode cX1_rulePorts 35 = .ok (.invokevirtual 26, 3) := by decide +kernel
theorem dX1_rulePorts_38 : decode cX1_rulePorts 38 = .ok (.ifCond .eq 11, 3) := by decide +kernel
theorem dX1_rulePorts_41 : decode cX1_rulePorts 41 = .ok (.iload_n 3, 1) := by decide +kernel
theorem dX1_rulePorts_42 : decode cX1_rulePorts 42 = .ok (.aload 5, 2) := by decide +kernel
theorem dX1_rulePorts_44 : decode cX1_rulePorts 44 = .ok (.getfield 30, 3) := by decide +kernel
theorem dX1_rulePorts_47 : decode cX1_rulePorts 47 = .ok (.ior, 1) := by decide +kernel
theorem dX1_rulePorts_48 : decode cX1_rulePorts 48 = .ok (.istore_n 3, 1) := by decide +kernel
theorem dX1_rulePorts_49 : decode cX1_rulePorts 49 = .ok (.iinc 4 1, 3) := by decide +kernel
theorem dX1_rulePorts_52 : decode cX1_rulePorts 52 = .ok (.goto (-47), 3) := by decide +kernel
theorem dX1_rulePorts_55 : decode cX1_rulePorts 55 = .ok (.iload_n 3, 1) := by decide +kernel
theorem dX1_rulePorts_56 : decode cX1_rulePorts 56 = .ok (.ireturn, 1) := by decide +kernel
theorem dX2_init_0 : decode cX2_init 0 = .ok (.aload_n 0, 1) := by decide +kernel
theorem dX2_init_1 : decode cX2_init 1 = .ok (.invokespecial 1, 3) := by decide +kernel
theorem dX2_init_4 : decode cX2_init 4 = .ok (.aload_n 0, 1) := by decide +kernel
theorem dX2_init_5 : decode cX2_init 5 = .ok (.aload_n 1, 1) := by decide +kernel
theorem dX2_init_6 : decode cX2_init 6 = .ok (.putfield 7, 3) := by decide +kernel
theorem dX2_init_9 : decode cX2_init 9 = .ok (.aload_n 0, 1) := by decide +kernel
theorem dX2_init_10 : decode cX2_init 10 = .ok (.iload_n 2, 1) := by decide +kernel
theorem dX2_init_11 : decode cX2_init 11 = .ok (.putfield 13, 3) := by decide +kernel
theorem dX2_init_14 : decode cX2_init 14 = .ok (.return_, 1) := by decide +kernel
theorem dX2_isInGroup_0 : decode cX2_isInGroup 0 = .ok (.aload_n 0, 1) := by decide +kernel
theorem dX2_isInGroup_1 : decode cX2_isInGroup 1 = .ok (.getfield 17, 3) := by decide +kernel
theorem dX2_isInGroup_4 : decode cX2_isInGroup 4 = .ok (.iconst 1, 1) := by decide +kernel
theorem dX2_isInGroup_5 : decode cX2_isInGroup 5 = .ok (.iload_n 1, 1) := by decide +kernel
theorem dX2_isInGroup_6 : decode cX2_isInGroup 6 = .ok (.ishl, 1) := by decide +kernel
theorem dX2_isInGroup_7 : decode cX2_isInGroup 7 = .ok (.iand, 1) := by decide +kernel
theorem dX2_isInGroup_8 : decode cX2_isInGroup 8 = .ok (.ifCond .eq 7, 3) := by decide +kernel
theorem dX2_isInGroup_11 : decode cX2_isInGroup 11 = .ok (.iconst 1, 1) := by decide +kernel
theorem dX2_isInGroup_12 : decode cX2_isInGroup 12 = .ok (.goto 4, 3) := by decide +kernel
theorem dX2_isInGroup_15 : decode cX2_isInGroup 15 = .ok (.iconst 0, 1) := by decide +kernel
theorem dX2_isInGroup_16 : decode cX2_isInGroup 16 = .ok (.ireturn, 1) := by decide +kernel
theorem dX2_putInGroup_0 : decode cX2_putInGroup 0 = .ok (.iload_n 2, 1) := by decide +kernel
theorem dX2_putInGroup_1 : decode cX2_putInGroup 1 = .ok (.ifCond .eq 18, 3) := by decide +kernel
theorem dX2_putInGroup_4 : decode cX2_putInGroup 4 = .ok (.aload_n 0, 1) := by decide +kernel
theorem dX2_putInGroup_5 : decode cX2_putInGroup 5 = .ok (.dup, 1) := by decide +kernel
theorem dX2_putInGroup_6 : decode cX2_putInGroup 6 = .ok (.getfield 17, 3) := by decide +kernel
theorem dX2_putInGroup_9 : decode cX2_putInGroup 9 = .ok (.iconst 1, 1) := by decide +kernel
theorem dX2_putInGroup_10 : decode cX2_putInGroup 10 = .ok (.iload_n 1, 1) := by decide +kernel
theorem dX2_putInGroup_11 : decode cX2_putInGroup 11 = .ok (.ishl, 1) := by decide +kernel
theorem dX2_putInGroup_12 : decode cX2_putInGroup 12 = .ok (.ior, 1) := by decide +kernel
theorem dX2_putInGroup_13 : decode cX2_putInGroup 13 = .ok (.putfield 17, 3) := by decide +kernel
theorem dX2_putInGroup_16 : decode cX2_putInGroup 16 = .ok (.goto 17, 3) := by decide +kernel
theorem dX2_putInGroup_19 : decode cX2_putInGroup 19 = .ok (.aload_n 0, 1) := by decide +kernel
theorem dX2_putInGroup_20 : decode cX2_putInGroup 20 = .ok (.dup, 1) := by decide +kernel
theorem dX2_putInGroup_21 : decode cX2_putInGroup 21 = .ok (.getfield 17, 3) := by decide +kernel
theorem dX2_putInGroup_24 : decode cX2_putInGroup 24 = .ok (.iconst 1, 1) := by decide +kernel
theorem dX2_putInGroup_25 : decode cX2_putInGroup 25 = .ok (.iload_n 1, 1) := by decide +kernel
theorem dX2_putInGroup_26 : decode cX2_putInGroup 26 = .ok (.ishl, 1) := by decide +kernel
theorem dX2_putInGroup_27 : decode cX2_putInGroup 27 = .ok (.iconst (-1), 1) := by decide +kernel
theorem dX2_putInGroup_28 : decode cX2_putInGroup 28 = .ok (.ixor, 1) := by decide +kernel
theorem dX2_putInGroup_29 : decode cX2_putInGroup 29 = .ok (.iand, 1) := by decide +kernel
theorem dX2_putInGroup_30 : decode cX2_putInGroup 30 = .ok (.putfield 17, 3) := by decide +kernel
theorem dX2_putInGroup_33 : decode cX2_putInGroup 33 = .ok (.return_, 1) := by decide +kernel
theorem dX3_init_0 : decode cX3_init 0 = .ok (.aload_n 0, 1) := by decide +kernel
theorem dX3_init_1 : decode cX3_init 1 = .ok (.invokespecial 1, 3) := by decide +kernel
theorem dX3_init_4 : decode cX3_init 4 = .ok (.aload_n 0, 1) := by decide +kernel
theorem dX3_init_5 : decode cX3_init 5 = .ok (.aload_n 1, 1) := by decide +kernel
theorem dX3_init_6 : decode cX3_init 6 = .ok (.putfield 7, 3) := by decide +kernel
theorem dX3_init_9 : decode cX3_init 9 = .ok (.aload_n 0, 1) := by decide +kernel
theorem dX3_init_10 : decode cX3_init 10 = .ok (.aload_n 2, 1) := by decide +kernel
theorem dX3_init_11 : decode cX3_init 11 = .ok (.putfield 13, 3) := by decide +kernel
theorem dX3_init_14 : decode cX3_init 14 = .ok (.return_, 1) := by decide +kernel
theorem dX3_joins_0 : decode cX3_joins 0 = .ok (.aload_n 0, 1) := by decide +kernel
theorem dX3_joins_1 : decode cX3_joins 1 = .ok (.getfield 7, 3) := by decide +kernel
theorem dX3_joins_4 : decode cX3_joins 4 = .ok (.aload_n 1, 1) := by decide +kernel
theorem dX3_joins_5 : decode cX3_joins 5 = .ok (.if_acmp .ne 11, 3) := by decide +kernel
theorem dX3_joins_8 : decode cX3_joins 8 = .ok (.aload_n 0, 1) := by decide +kernel
theorem dX3_joins_9 : decode cX3_joins 9 = .ok (.getfield 13, 3) := by decide +kernel
theorem dX3_joins_12 : decode cX3_joins 12 = .ok (.aload_n 2, 1) := by decide +kernel
theorem dX3_joins_13 : decode cX3_joins 13 = .ok (.if_acmp .eq 19, 3) := by decide +kernel
theorem dX3_joins_16 : decode cX3_joins 16 = .ok (.aload_n 0, 1) := by decide +kernel
theorem dX3_joins_17 : decode cX3_joins 17 = .ok (.getfield 7, 3) := by decide +kernel
theorem dX3_joins_20 : decode cX3_joins 20 = .ok (.aload_n 2, 1) := by decide +kernel
theorem dX3_joins_21 : decode cX3_joins 21 = .ok (.if_acmp .ne 15, 3) := by decide +kernel
theorem dX3_joins_24 : decode cX3_joins 24 = .ok (.aload_n 0, 1) := by decide +kernel
theorem dX3_joins_25 : decode cX3_joins 25 = .ok (.getfield 13, 3) := by decide +kernel
theorem dX3_joins_28 : decode cX3_joins 28 = .ok (.aload_n 1, 1) := by decide +kernel
theorem dX3_joins_29 : decode cX3_joins 29 = .ok (.if_acmp .ne 7, 3) := by decide +kernel
theorem dX3_joins_32 : decode cX3_joins 32 = .ok (.iconst 1, 1) := by decide +kernel
theorem dX3_joins_33 : decode cX3_joins 33 = .ok (.goto 4, 3) := by decide +kernel
theorem dX3_joins_36 : decode cX3_joins 36 = .ok (.iconst 0, 1) := by decide +kernel
theorem dX3_joins_37 : decode cX3_joins 37 = .ok (.ireturn, 1) := by decide +kernel
theorem dX4_init_0 : decode cX4_init 0 = .ok (.aload_n 0, 1) := by decide +kernel
theorem dX4_init_1 : decode cX4_init 1 = .ok (.invokespecial 1, 3) := by decide +kernel
theorem dX4_init_4 : decode cX4_init 4 = .ok (.aload_n 0, 1) := by decide +kernel
theorem dX4_init_5 : decode cX4_init 5 = .ok (.aload_n 1, 1) := by decide +kernel
theorem dX4_init_6 : decode cX4_init 6 = .ok (.putfield 7, 3) := by decide +kernel
theorem dX4_init_9 : decode cX4_init 9 = .ok (.aload_n 0, 1) := by decide +kernel
theorem dX4_init_10 : decode cX4_init 10 = .ok (.iload_n 2, 1) := by decide +kernel
theorem dX4_init_11 : decode cX4_init 11 = .ok (.putfield 13, 3) := by decide +kernel
theorem dX4_init_14 : decode cX4_init 14 = .ok (.return_, 1) := by decide +kernel
theorem dX5_init_0 : decode cX5_init 0 = .ok (.aload_n 0, 1) := by decide +kernel
theorem dX5_init_1 : decode cX5_init 1 = .ok (.invokespecial 1, 3) := by decide +kernel
theorem dX5_init_4 : decode cX5_init 4 = .ok (.aload_n 0, 1) := by decide +kernel
theorem dX5_init_5 : decode cX5_init 5 = .ok (.iload_n 1, 1) := by decide +kernel
theorem dX5_init_6 : decode cX5_init 6 = .ok (.putfield 7, 3) := by decide +kernel
theorem dX5_init_9 : decode cX5_init 9 = .ok (.aload_n 0, 1) := by decide +kernel
theorem dX5_init_10 : decode cX5_init 10 = .ok (.iload_n 2, 1) := by decide +kernel
theorem dX5_init_11 : decode cX5_init 11 = .ok (.putfield 13, 3) := by decide +kernel
theorem dX5_init_14 : decode cX5_init 14 = .ok (.aload_n 0, 1) := by decide +kernel
theorem dX5_init_15 : decode cX5_init 15 = .ok (.aload_n 3, 1) := by decide +kernel
theorem dX5_init_16 : decode cX5_init 16 = .ok (.putfield 16, 3) := by decide +kernel
theorem dX5_init_19 : decode cX5_init 19 = .ok (.aload_n 0, 1) := by decide +kernel
theorem dX5_init_20 : decode cX5_init 20 = .ok (.iload 4, 2) := by decide +kernel
theorem dX5_init_22 : decode cX5_init 22 = .ok (.putfield 20, 3) := by decide +kernel
theorem dX5_init_25 : decode cX5_init 25 = .ok (.return_, 1) := by decide +kernel
set_option maxRecDepth 20000 in
theorem ggX5_isFor_X0_has : GoodIn wsX5_isFor wsX0_has := goodIn_r _ [7, 8, 9, 14, 15] (by decide +kernel) (by decide +kernel)
set_option maxRecDepth 20000 in
theorem gX5_isFor_X0_has : GoodIn wsX5_isFor (wsV RX5 24 RX0 yX0_has wsX0_has) := goodIn_app (goodIn_of _ (by decide +kernel)) ggX5_isFor_X0_has
theorem dX5_isFor_0 : decode cX5_isFor 0 = .ok (.aload_n 0, 1) := by decide +kernel
theorem dX5_isFor_1 : decode cX5_isFor 1 = .ok (.getfield 7, 3) := by decide +kernel
theorem dX5_isFor_4 : decode cX5_isFor 4 = .ok (.iload_n 1, 1) := by decide +kernel
theorem dX5_isFor_5 : decode cX5_isFor 5 = .ok (.if_icmp .ne 18, 3) := by decide +kernel
theorem dX5_isFor_8 : decode cX5_isFor 8 = .ok (.aload_n 0, 1) := by decide +kernel
theorem dX5_isFor_9 : decode cX5_isFor 9 = .ok (.getfield 16, 3) := by decide +kernel
theorem dX5_isFor_12 : decode cX5_isFor 12 = .ok (.iload_n 2, 1) := by decide +kernel
theorem dX5_isFor_13 : decode cX5_isFor 13 = .ok (.invokevirtual 24, 3) := by decide +kernel
theorem dX5_isFor_16 : decode cX5_isFor 16 = .ok (.ifCond .eq 7, 3) := by decide +kernel
theorem dX5_isFor_19 : decode cX5_isFor 19 = .ok (.iconst 1, 1) := by decide +kernel
theorem dX5_isFor_20 : decode cX5_isFor 20 = .ok (.goto 4, 3) := by decide +kernel
theorem dX5_isFor_23 : decode cX5_isFor 23 = .ok (.iconst 0, 1) := by decide +kernel
theorem dX5_isFor_24 : decode cX5_isFor 24 = .ok (.ireturn, 1) := by decide +kernel
set_option maxRecDepth 20000 in
theorem ggX6_init_Jx4a65c_init_da8c8 : GoodIn wsX6_init wsJx4a65c_init_da8c8 := goodIn_r _ [13, 14, 15, 16, 17, 18, 19, 20, 21, 22, 23, 24, 25, 2, 3, 30, 31, 32] (by decide +kernel) (by decide +kernel)
set_option maxRecDepth 20000 in
theorem gX6_init_Jx4a65c_init_da8c8 : GoodIn wsX6_init (wsJx4a65c_init_da8c8) := ggX6_init_Jx4a65c_init_da8c8
theorem dX6_init_0 : decode cX6_init 0 = .ok (.aload_n 0, 1) := by decide +kernel
theorem dX6_init_1 : decode cX6_init 1 = .ok (.invokespecial 3, 3) := by decide +kernel
theorem dX6_init_4 : decode cX6_init 4 = .ok (.aload_n 0, 1) := by decide +kernel
theorem dX6_init_5 : decode cX6_init 5 = .ok (.aload_n 1, 1) := by decide +kernel
theorem dX6_init_6 : decode cX6_init 6 = .ok (.putfield 9, 3) := by decide +kernel
theorem dX6_init_9 : decode cX6_init 9 = .ok (.aload_n 0, 1) := by decide +kernel
theorem dX6_init_10 : decode cX6_init 10 = .ok (.aload_n 2, 1) := by decide +kernel
theorem dX6_init_11 : decode cX6_init 11 = .ok (.putfield 15, 3) := by decide +kernel
theorem dX6_init_14 : decode cX6_init 14 = .ok (.aload_n 0, 1) := by decide +kernel
theorem dX6_init_15 : decode cX6_init 15 = .ok (.new 18, 3) := by decide +kernel
theorem dX6_init_18 : decode cX6_init 18 = .ok (.dup, 1) := by decide +kernel
theorem dX6_init_19 : decode cX6_init 19 = .ok (.invokespecial 20, 3) := by decide +kernel
theorem dX6_init_22 : decode cX6_init 22 = .ok (.putfield 21, 3) := by decide +kernel
theorem dX6_init_25 : decode cX6_init 25 = .ok (.aload_n 0, 1) := by decide +kernel
theorem dX6_init_26 : decode cX6_init 26 = .ok (.new 18, 3) := by decide +kernel
theorem dX6_init_29 : decode cX6_init 29 = .ok (.dup, 1) := by decide +kernel
theorem dX6_init_30 : decode cX6_init 30 = .ok (.invokespecial 20, 3) := by decide +kernel
theorem dX6_init_33 : decode cX6_init 33 = .ok (.putfield 25, 3) := by decide +kernel
theorem dX6_init_36 : decode cX6_init 36 = .ok (.return_, 1) := by decide +kernel
set_option maxRecDepth 20000 in
theorem ggX6_listPorts_Jx4a65c_size_8abf5 : GoodIn wsX6_listPorts wsJx4a65c_size_8abf5 := goodIn_r _ [11, 12, 52, 53, 54] (by decide +kernel) (by decide +kernel)
set_option maxRecDepth 20000 in
theorem gX6_listPorts_Jx4a65c_size_8abf5 : GoodIn wsX6_listPorts (wsV RX6 28 RJx4a65c yJx4a65c_size_8abf5 wsJx4a65c_size_8abf5) := goodIn_app (goodIn_of _ (by decide +kernel)) ggX6_listPorts_Jx4a65c_size_8abf5
set_option maxRecDepth 20000 in
theorem ggX6_listPorts_Jx4a65c_get_915e3 : GoodIn wsX6_listPorts wsJx4a65c_get_915e3 := goodIn_r _ [16, 12, 17, 18, 19, 20, 21, 22, 23, 24, 25, 26, 27, 10, 28, 29, 52, 53, 54] (by decide +kernel) (by decide +kernel)
set_option maxRecDepth 20000 in
theorem gX6_listPorts_Jx4a65c_get_915e3 : GoodIn wsX6_listPorts (wsV RX6 32 RJx4a65c yJx4a65c_get_915e3 wsJx4a65c_get_915e3) := goodIn_app (goodIn_of _ (by decide +kernel)) ggX6_listPorts_Jx4a65c_get_915e3
set_option maxRecDepth 20000 in
theorem ggX6_listPorts_X5_isFor : GoodIn wsX6_listPorts wsX5_isFor := goodIn_r _ [34, 35, 36, 37, 38, 39, 40, 41, 42, 43, 48, 49, 50, 51, 55, 56] (by decide +kernel) (by decide +kernel)
set_option maxRecDepth 20000 in
theorem gX6_listPorts_X5_isFor : GoodIn wsX6_listPorts (wsV RX6 42 RX5 yX5_isFor wsX5_isFor) := goodIn_app (goodIn_of _ (by decide +kernel)) ggX6_listPorts_X5_isFor
theorem dX6_listPorts_0 : decode cX6_listPorts 0 = .ok (.iconst 0, 1) := by decide +kernel
theorem dX6_listPorts_1 : decode cX6_listPorts 1 = .ok (.istore_n 3, 1) := by decide +kernel
theorem dX6_listPorts_2 : decode cX6_listPorts 2 = .ok (.iconst 0, 1) := by decide +kernel
theorem dX6_listPorts_3 : decode cX6_listPorts 3 = .ok (.istore 4, 2) := by decide +kernel
theorem dX6_listPorts_5 : decode cX6_listPorts 5 = .ok (.iconst 0, 1) := by decide +kernel
theorem dX6_listPorts_6 : decode cX6_listPorts 6 = .ok (.istore 5, 2) := by decide +kernel
theorem dX6_listPorts_8 : decode cX6_listPorts 8 = .ok (.iconst 0, 1) := by decide +kernel
theorem dX6_listPorts_9 : decode cX6_listPorts 9 = .ok (.istore 6, 2) := by decide +kernel
theorem dX6_listPorts_11 : decode cX6_listPorts 11 = .ok (.iload 6, 2) := by decide +kernel
theorem dX6_listPorts_13 : decode cX6_listPorts 13 = .ok (.aload_n 0, 1) := by decide +kernel
theorem dX6_listPorts_14 : decode cX6_listPorts 14 = .ok (.getfield 21, 3) := by decide +kernel
theorem dX6_listPorts_17 : decode cX6_listPorts 17 = .ok (.invokevirtual 28, 3) := by decide +kernel
theorem dX6_listPorts_20 : decode cX6_listPorts 20 = .ok (.if_icmp .ge 83, 3) := by decide +kernel
theorem dX6_listPorts_23 : decode cX6_listPorts 23 = .ok (.aload_n 0, 1) := by decide +kernel
theorem dX6_listPorts_24 : decode cX6_listPorts 24 = .ok (.getfield 21, 3) := by decide +kernel
theorem dX6_listPorts_27 : decode cX6_listPorts 27 = .ok (.iload 6, 2) := by decide +kernel
theorem dX6_listPorts_29 : decode cX6_listPorts 29 = .ok (.invokevirtual 32, 3) := by decide +kernel
theorem dX6_listPorts_32 : decode cX6_listPorts 32 = .ok (.checkcast 36, 3) := by decide +kernel
theorem dX6_listPorts_35 : decode cX6_listPorts 35 = .ok (.astore 7, 2) := by decide +kernel
theorem dX6_listPorts_37 : decode cX6_listPorts 37 = .ok (.iload_n 3, 1) := by decide +kernel
theorem dX6_listPorts_38 : decode cX6_listPorts 38 = .ok (.aload 7, 2) := by decide +kernel
theorem dX6_listPorts_40 : decode cX6_listPorts 40 = .ok (.getfield 38, 3) := by decide +kernel
theorem dX6_listPorts_43 : decode cX6_listPorts 43 = .ok (.iload_n 1, 1) := by decide +kernel
theorem dX6_listPorts_44 : decode cX6_listPorts 44 = .ok (.if_icmp .ne 7, 3) := by decide +kernel
theorem dX6_listPorts_47 : decode cX6_listPorts 47 = .ok (.iconst 1, 1) := by decide +kernel
theorem dX6_listPorts_48 : decode cX6_listPorts 48 = .ok (.goto 4, 3) := by decide +kernel
theorem dX6_listPorts_51 : decode cX6_listPorts 51 = .ok (.iconst 0, 1) := by decide +kernel
theorem dX6_listPorts_52 : decode cX6_listPorts 52 = .ok (.ior, 1) := by decide +kernel
theorem dX6_listPorts_53 : decode cX6_listPorts 53 = .ok (.istore_n 3, 1) := by decide +kernel
theorem dX6_listPorts_54 : decode cX6_listPorts 54 = .ok (.aload 7, 2) := by decide +kernel
theorem dX6_listPorts_56 : decode cX6_listPorts 56 = .ok (.iload_n 1, 1) := by decide +kernel
theorem dX6_listPorts_57 : decode cX6_listPorts 57 = .ok (.iload_n 2, 1) := by decide +kernel
theorem dX6_listPorts_58 : decode cX6_listPorts 58 = .ok (.invokevirtual 42, 3) := by decide +kernel
theorem dX6_listPorts_61 : decode cX6_listPorts 61 = .ok (.ifCond .eq 36, 3) := by decide +kernel
theorem dX6_listPorts_64 : decode cX6_listPorts 64 = .ok (.aload 7, 2) := by decide +kernel
theorem dX6_listPorts_66 : decode cX6_listPorts 66 = .ok (.getfield 46, 3) := by decide +kernel
theorem dX6_listPorts_69 : decode cX6_listPorts 69 = .ok (.ifCond .eq 18, 3) := by decide +kernel
theorem dX6_listPorts_72 : decode cX6_listPorts 72 = .ok (.iload 5, 2) := by decide +kernel
theorem dX6_listPorts_74 : decode cX6_listPorts 74 = .ok (.aload 7, 2) := by decide +kernel
theorem dX6_listPorts_76 : decode cX6_listPorts 76 = .ok (.getfield 49, 3) := by decide +kernel
theorem dX6_listPorts_79 : decode cX6_listPorts 79 = .ok (.iload 4, 2) := by decide +kernel
theorem dX6_listPorts_81 : decode cX6_listPorts 81 = .ok (.iconst (-1), 1) := by decide +kernel
theorem dX6_listPorts_82 : decode cX6_listPorts 82 = .ok (.ixor, 1) := by decide +kernel
theorem dX6_listPorts_83 : decode cX6_listPorts 83 = .ok (.iand, 1) := by decide +kernel
theorem dX6_listPorts_84 : decode cX6_listPorts 84 = .ok (.ior, 1) := by decide +kernel
theorem dX6_listPorts_85 : decode cX6_listPorts 85 = .ok (.istore 5, 2) := by decide +kernel
theorem dX6_listPorts_87 : decode cX6_listPorts 87 = .ok (.iload 4, 2) := by decide +kernel
theorem dX6_listPorts_89 : decode cX6_listPorts 89 = .ok (.aload 7, 2) := by decide +kernel
theorem dX6_listPorts_91 : decode cX6_listPorts 91 = .ok (.getfield 49, 3) := by decide +kernel
theorem dX6_listPorts_94 : decode cX6_listPorts 94 = .ok (.ior, 1) := by decide +kernel
theorem dX6_listPorts_95 : decode cX6_listPorts 95 = .ok (.istore 4, 2) := by decide +kernel
theorem dX6_listPorts_97 : decode cX6_listPorts 97 = .ok (.iinc 6 1, 3) := by decide +kernel
theorem dX6_listPorts_100 : decode cX6_listPorts 100 = .ok (.goto (-89), 3) := by decide +kernel
theorem dX6_listPorts_103 : decode cX6_listPorts 103 = .ok (.iload_n 3, 1) := by decide +kernel
theorem dX6_listPorts_104 : decode cX6_listPorts 104 = .ok (.ifCond .eq 8, 3) := by decide +kernel
theorem dX6_listPorts_107 : decode cX6_listPorts 107 = .ok (.iload 5, 2) := by decide +kernel
theorem dX6_listPorts_109 : decode cX6_listPorts 109 = .ok (.goto 5, 3) := by decide +kernel
theorem dX6_listPorts_112 : decode cX6_listPorts 112 = .ok (.ldc 53, 2) := by decide +kernel
theorem dX6_listPorts_114 : decode cX6_listPorts 114 = .ok (.ireturn, 1) := by decide +kernel
set_option maxRecDepth 20000 in
theorem ggX6_routePlace_Jx4a65c_size_8abf5 : GoodIn wsX6_routePlace wsJx4a65c_size_8abf5 := goodIn_r _ [8, 9, 40, 41, 42] (by decide +kernel) (by decide +kernel)
set_option maxRecDepth 20000 in
theorem gX6_routePlace_Jx4a65c_size_8abf5 : GoodIn wsX6_routePlace (wsV RX6 28 RJx4a65c yJx4a65c_size_8abf5 wsJx4a65c_size_8abf5) := goodIn_app (goodIn_of _ (by decide +kernel)) ggX6_routePlace_Jx4a65c_size_8abf5
set_option maxRecDepth 20000 in
theorem ggX6_routePlace_Jx4a65c_get_915e3 : GoodIn wsX6_routePlace wsJx4a65c_get_915e3 := goodIn_r _ [13, 9, 14, 15, 16, 17, 18, 19, 20, 21, 22, 23, 24, 7, 25, 26, 40, 41, 42] (by decide +kernel) (by decide +kernel)
set_option maxRecDepth 20000 in
theorem gX6_routePlace_Jx4a65c_get_915e3 : GoodIn wsX6_routePlace (wsV RX6 32 RJx4a65c yJx4a65c_get_915e3 wsJx4a65c_get_915e3) := goodIn_app (goodIn_of _ (by decide +kernel)) ggX6_routePlace_Jx4a65c_get_915e3
set_option maxRecDepth 20000 in
theorem ggX6_routePlace_X0_isSame : GoodIn wsX6_routePlace wsX0_isSame := goodIn_r _ [31, 32, 33, 43, 44] (by decide +kernel) (by decide +kernel)
set_option maxRecDepth 20000 in
theorem gX6_routePlace_X0_isSame : GoodIn wsX6_routePlace (wsV RX6 57 RX0 yX0_isSame wsX0_isSame) := goodIn_app (goodIn_of _ (by decide +kernel)) ggX6_routePlace_X0_isSame
theorem dX6_routePlace_0 : decode cX6_routePlace 0 = .ok (.iconst 0, 1) := by decide +kernel
theorem dX6_routePlace_1 : decode cX6_routePlace 1 = .ok (.istore_n 2, 1) := by decide +kernel
theorem dX6_routePlace_2 : decode cX6_routePlace 2 = .ok (.iload_n 2, 1) := by decide +kernel
theorem dX6_routePlace_3 : decode cX6_routePlace 3 = .ok (.aload_n 0, 1) := by decide +kernel
theorem dX6_routePlace_4 : decode cX6_routePlace 4 = .ok (.getfield 25, 3) := by decide +kernel
theorem dX6_routePlace_7 : decode cX6_routePlace 7 = .ok (.invokevirtual 28, 3) := by decide +kernel
theorem dX6_routePlace_10 : decode cX6_routePlace 10 = .ok (.if_icmp .ge 32, 3) := by decide +kernel
theorem dX6_routePlace_13 : decode cX6_routePlace 13 = .ok (.aload_n 0, 1) := by decide +kernel
theorem dX6_routePlace_14 : decode cX6_routePlace 14 = .ok (.getfield 25, 3) := by decide +kernel
theorem dX6_routePlace_17 : decode cX6_routePlace 17 = .ok (.iload_n 2, 1) := by decide +kernel
theorem dX6_routePlace_18 : decode cX6_routePlace 18 = .ok (.invokevirtual 32, 3) := by decide +kernel
theorem dX6_routePlace_21 : decode cX6_routePlace 21 = .ok (.checkcast 54, 3) := by decide +kernel
theorem dX6_routePlace_24 : decode cX6_routePlace 24 = .ok (.getfield 56, 3) := by decide +kernel
theorem dX6_routePlace_27 : decode cX6_routePlace 27 = .ok (.aload_n 1, 1) := by decide +kernel
theorem dX6_routePlace_28 : decode cX6_routePlace 28 = .ok (.invokevirtual 57, 3) := by decide +kernel
theorem dX6_routePlace_31 : decode cX6_routePlace 31 = .ok (.ifCond .eq 5, 3) := by decide +kernel
theorem dX6_routePlace_34 : decode cX6_routePlace 34 = .ok (.iload_n 2, 1) := by decide +kernel
theorem dX6_routePlace_35 : decode cX6_routePlace 35 = .ok (.ireturn, 1) := by decide +kernel
theorem dX6_routePlace_36 : decode cX6_routePlace 36 = .ok (.iinc 2 1, 3) := by decide +kernel
theorem dX6_routePlace_39 : decode cX6_routePlace 39 = .ok (.goto (-37), 3) := by decide +kernel
theorem dX6_routePlace_42 : decode cX6_routePlace 42 = .ok (.iconst (-1), 1) := by decide +kernel
theorem dX6_routePlace_43 : decode cX6_routePlace 43 = .ok (.ireturn, 1) := by decide +kernel
set_option maxRecDepth 20000 in
theorem ggX6_routeNumber_X0_has : GoodIn wsX6_routeNumber wsX0_has := goodIn_r _ [11, 12, 13, 41, 42] (by decide +kernel) (by decide +kernel)
set_option maxRecDepth 20000 in
theorem gX6_routeNumber_X0_has : GoodIn wsX6_routeNumber (wsV RX6 63 RX0 yX0_has wsX0_has) := goodIn_app (goodIn_of _ (by decide +kernel)) ggX6_routeNumber_X0_has
set_option maxRecDepth 20000 in
theorem ggX6_routeNumber_Jx4a65c_size_8abf5 : GoodIn wsX6_routeNumber wsJx4a65c_size_8abf5 := goodIn_r _ [18, 19, 45, 46, 47] (by decide +kernel) (by decide +kernel)
set_option maxRecDepth 20000 in
theorem gX6_routeNumber_Jx4a65c_size_8abf5 : GoodIn wsX6_routeNumber (wsV RX6 28 RJx4a65c yJx4a65c_size_8abf5 wsJx4a65c_size_8abf5) := goodIn_app (goodIn_of _ (by decide +kernel)) ggX6_routeNumber_Jx4a65c_size_8abf5
set_option maxRecDepth 20000 in
theorem ggX6_routeNumber_Jx4a65c_get_915e3 : GoodIn wsX6_routeNumber wsJx4a65c_get_915e3 := goodIn_r _ [23, 19, 24, 25, 26, 27, 28, 29, 30, 31, 32, 33, 34, 17, 35, 36, 45, 46, 47] (by decide +kernel) (by decide +kernel)
set_option maxRecDepth 20000 in
theorem gX6_routeNumber_Jx4a65c_get_915e3 : GoodIn wsX6_routeNumber (wsV RX6 32 RJx4a65c yJx4a65c_get_915e3 wsJx4a65c_get_915e3) := goodIn_app (goodIn_of _ (by decide +kernel)) ggX6_routeNumber_Jx4a65c_get_915e3
theorem dX6_routeNumber_0 : decode cX6_routeNumber 0 = .ok (.bipush (-2), 2) := by decide +kernel
theorem dX6_routeNumber_2 : decode cX6_routeNumber 2 = .ok (.istore_n 2, 1) := by decide +kernel
theorem dX6_routeNumber_3 : decode cX6_routeNumber 3 = .ok (.bipush 11, 2) := by decide +kernel
theorem dX6_routeNumber_5 : decode cX6_routeNumber 5 = .ok (.istore_n 3, 1) := by decide +kernel
theorem dX6_routeNumber_6 : decode cX6_routeNumber 6 = .ok (.aload_n 0, 1) := by decide +kernel
theorem dX6_routeNumber_7 : decode cX6_routeNumber 7 = .ok (.getfield 9, 3) := by decide +kernel
theorem dX6_routeNumber_10 : decode cX6_routeNumber 10 = .ok (.iload_n 1, 1) := by decide +kernel
theorem dX6_routeNumber_11 : decode cX6_routeNumber 11 = .ok (.invokevirtual 63, 3) := by decide +kernel
theorem dX6_routeNumber_14 : decode cX6_routeNumber 14 = .ok (.ifCond .eq 13, 3) := by decide +kernel
theorem dX6_routeNumber_17 : decode cX6_routeNumber 17 = .ok (.iconst (-1), 1) := by decide +kernel
theorem dX6_routeNumber_18 : decode cX6_routeNumber 18 = .ok (.istore_n 2, 1) := by decide +kernel
theorem dX6_routeNumber_19 : decode cX6_routeNumber 19 = .ok (.aload_n 0, 1) := by decide +kernel
theorem dX6_routeNumber_20 : decode cX6_routeNumber 20 = .ok (.getfield 9, 3) := by decide +kernel
theorem dX6_routeNumber_23 : decode cX6_routeNumber 23 = .ok (.getfield 67, 3) := by decide +kernel
theorem dX6_routeNumber_26 : decode cX6_routeNumber 26 = .ok (.istore_n 3, 1) := by decide +kernel
theorem dX6_routeNumber_27 : decode cX6_routeNumber 27 = .ok (.iconst 0, 1) := by decide +kernel
theorem dX6_routeNumber_28 : decode cX6_routeNumber 28 = .ok (.istore 4, 2) := by decide +kernel
theorem dX6_routeNumber_30 : decode cX6_routeNumber 30 = .ok (.iload 4, 2) := by decide +kernel
theorem dX6_routeNumber_32 : decode cX6_routeNumber 32 = .ok (.aload_n 0, 1) := by decide +kernel
theorem dX6_routeNumber_33 : decode cX6_routeNumber 33 = .ok (.getfield 25, 3) := by decide +kernel
theorem dX6_routeNumber_36 : decode cX6_routeNumber 36 = .ok (.invokevirtual 28, 3) := by decide +kernel
theorem dX6_routeNumber_39 : decode cX6_routeNumber 39 = .ok (.if_icmp .ge 62, 3) := by decide +kernel
theorem dX6_routeNumber_42 : decode cX6_routeNumber 42 = .ok (.aload_n 0, 1) := by decide +kernel
theorem dX6_routeNumber_43 : decode cX6_routeNumber 43 = .ok (.getfield 25, 3) := by decide +kernel
theorem dX6_routeNumber_46 : decode cX6_routeNumber 46 = .ok (.iload 4, 2) := by decide +kernel
theorem dX6_routeNumber_48 : decode cX6_routeNumber 48 = .ok (.invokevirtual 32, 3) := by decide +kernel
theorem dX6_routeNumber_51 : decode cX6_routeNumber 51 = .ok (.checkcast 54, 3) := by decide +kernel
theorem dX6_routeNumber_54 : decode cX6_routeNumber 54 = .ok (.astore 5, 2) := by decide +kernel
theorem dX6_routeNumber_56 : decode cX6_routeNumber 56 = .ok (.aload 5, 2) := by decide +kernel
theorem dX6_routeNumber_58 : decode cX6_routeNumber 58 = .ok (.getfield 56, 3) := by decide +kernel
theorem dX6_routeNumber_61 : decode cX6_routeNumber 61 = .ok (.getfield 67, 3) := by decide +kernel
theorem dX6_routeNumber_64 : decode cX6_routeNumber 64 = .ok (.iload_n 3, 1) := by decide +kernel
theorem dX6_routeNumber_65 : decode cX6_routeNumber 65 = .ok (.if_icmp .ge 30, 3) := by decide +kernel
theorem dX6_routeNumber_68 : decode cX6_routeNumber 68 = .ok (.aload 5, 2) := by decide +kernel
theorem dX6_routeNumber_70 : decode cX6_routeNumber 70 = .ok (.getfield 56, 3) := by decide +kernel
theorem dX6_routeNumber_73 : decode cX6_routeNumber 73 = .ok (.iload_n 1, 1) := by decide +kernel
theorem dX6_routeNumber_74 : decode cX6_routeNumber 74 = .ok (.invokevirtual 63, 3) := by decide +kernel
theorem dX6_routeNumber_77 : decode cX6_routeNumber 77 = .ok (.ifCond .eq 18, 3) := by decide +kernel
theorem dX6_routeNumber_80 : decode cX6_routeNumber 80 = .ok (.aload 5, 2) := by decide +kernel
theorem dX6_routeNumber_82 : decode cX6_routeNumber 82 = .ok (.getfield 69, 3) := by decide +kernel
theorem dX6_routeNumber_85 : decode cX6_routeNumber 85 = .ok (.istore_n 2, 1) := by decide +kernel
theorem dX6_routeNumber_86 : decode cX6_routeNumber 86 = .ok (.aload 5, 2) := by decide +kernel
theorem dX6_routeNumber_88 : decode cX6_routeNumber 88 = .ok (.getfield 56, 3) := by decide +kernel
theorem dX6_routeNumber_91 : decode cX6_routeNumber 91 = .ok (.getfield 67, 3) := by decide +kernel
theorem dX6_routeNumber_94 : decode cX6_routeNumber 94 = .ok (.istore_n 3, 1) := by decide +kernel
theorem dX6_routeNumber_95 : decode cX6_routeNumber 95 = .ok (.iinc 4 1, 3) := by decide +kernel
theorem dX6_routeNumber_98 : decode cX6_routeNumber 98 = .ok (.goto (-68), 3) := by decide +kernel
theorem dX6_routeNumber_101 : decode cX6_routeNumber 101 = .ok (.iload_n 2, 1) := by decide +kernel
theorem dX6_routeNumber_102 : decode cX6_routeNumber 102 = .ok (.ireturn, 1) := by decide +kernel
set_option maxRecDepth 20000 in
theorem ggX6_countIdleRules_Jx4a65c_size_8abf5 : GoodIn wsX6_countIdleRules wsJx4a65c_size_8abf5 := goodIn_r _ [7, 8, 62, 63, 64] (by decide +kernel) (by decide +kernel)
set_option maxRecDepth 20000 in
theorem gX6_countIdleRules_Jx4a65c_size_8abf5 : GoodIn wsX6_countIdleRules (wsV RX6 28 RJx4a65c yJx4a65c_size_8abf5 wsJx4a65c_size_8abf5) := goodIn_app (goodIn_of _ (by decide +kernel)) ggX6_countIdleRules_Jx4a65c_size_8abf5
set_option maxRecDepth 20000 in
theorem ggX6_countIdleRules_Jx4a65c_get_915e3 : GoodIn wsX6_countIdleRules wsJx4a65c_get_915e3 := goodIn_r _ [12, 8, 13, 14, 15, 16, 17, 18, 19, 20, 21, 22, 23, 6, 24, 25, 62, 63, 64] (by decide +kernel) (by decide +kernel)
set_option maxRecDepth 20000 in
theorem gX6_countIdleRules_Jx4a65c_get_915e3 : GoodIn wsX6_countIdleRules (wsV RX6 32 RJx4a65c yJx4a65c_get_915e3 wsJx4a65c_get_915e3) := goodIn_app (goodIn_of _ (by decide +kernel)) ggX6_countIdleRules_Jx4a65c_get_915e3
set_option maxRecDepth 20000 in
theorem ggX6_countIdleRules_X6_isIdle : GoodIn wsX6_countIdleRules wsX6_isIdle := goodIn_r _ [30, 31, 32, 1, 2, 33, 34, 35, 29, 36, 37, 38, 39, 40, 41, 42, 43, 44, 45, 3, 4, 5, 6, 7, 8, 9, 10, 11, 12, 13, 14, 15, 16, 17, 18, 19, 20, 21, 22, 23, 24, 25, 46, 47, 48, 49, 50, 51, 52, 53, 54, 55, 56, 57, 65, 66, 67, 68, 69, 70, 58, 59, 60, 61, 62, 63, 64] (by decide +kernel) (by decide +kernel)
set_option maxRecDepth 20000 in
theorem gX6_countIdleRules_X6_isIdle : GoodIn wsX6_countIdleRules (wsV RX6 72 RX6 yX6_isIdle wsX6_isIdle) := goodIn_app (goodIn_of _ (by decide +kernel)) ggX6_countIdleRules_X6_isIdle
theorem dX6_countIdleRules_0 : decode cX6_countIdleRules 0 = .ok (.iconst 0, 1) := by decide +kernel
theorem dX6_countIdleRules_1 : decode cX6_countIdleRules 1 = .ok (.istore_n 1, 1) := by decide +kernel
theorem dX6_countIdleRules_2 : decode cX6_countIdleRules 2 = .ok (.iconst 0, 1) := by decide +kernel
theorem dX6_countIdleRules_3 : decode cX6_countIdleRules 3 = .ok (.istore_n 2, 1) := by decide +kernel
theorem dX6_countIdleRules_4 : decode cX6_countIdleRules 4 = .ok (.iload_n 2, 1) := by decide +kernel
theorem dX6_countIdleRules_5 : decode cX6_countIdleRules 5 = .ok (.aload_n 0, 1) := by decide +kernel
theorem dX6_countIdleRules_6 : decode cX6_countIdleRules 6 = .ok (.getfield 21, 3) := by decide +kernel
theorem dX6_countIdleRules_9 : decode cX6_countIdleRules 9 = .ok (.invokevirtual 28, 3) := by decide +kernel
theorem dX6_countIdleRules_12 : decode cX6_countIdleRules 12 = .ok (.if_icmp .ge 30, 3) := by decide +kernel
theorem dX6_countIdleRules_15 : decode cX6_countIdleRules 15 = .ok (.aload_n 0, 1) := by decide +kernel
theorem dX6_countIdleRules_16 : decode cX6_countIdleRules 16 = .ok (.aload_n 0, 1) := by decide +kernel
theorem dX6_countIdleRules_17 : decode cX6_countIdleRules 17 = .ok (.getfield 21, 3) := by decide +kernel
theorem dX6_countIdleRules_20 : decode cX6_countIdleRules 20 = .ok (.iload_n 2, 1) := by decide +kernel
theorem dX6_countIdleRules_21 : decode cX6_countIdleRules 21 = .ok (.invokevirtual 32, 3) := by decide +kernel
theorem dX6_countIdleRules_24 : decode cX6_countIdleRules 24 = .ok (.checkcast 36, 3) := by decide +kernel
theorem dX6_countIdleRules_27 : decode cX6_countIdleRules 27 = .ok (.invokevirtual 72, 3) := by decide +kernel
theorem dX6_countIdleRules_30 : decode cX6_countIdleRules 30 = .ok (.ifCond .eq 6, 3) := by decide +kernel
theorem dX6_countIdleRules_33 : decode cX6_countIdleRules 33 = .ok (.iinc 1 1, 3) := by decide +kernel
theorem dX6_countIdleRules_36 : decode cX6_countIdleRules 36 = .ok (.iinc 2 1, 3) := by decide +kernel
theorem dX6_countIdleRules_39 : decode cX6_countIdleRules 39 = .ok (.goto (-35), 3) := by decide +kernel
theorem dX6_countIdleRules_42 : decode cX6_countIdleRules 42 = .ok (.iload_n 1, 1) := by decide +kernel
theorem dX6_countIdleRules_43 : decode cX6_countIdleRules 43 = .ok (.ireturn, 1) := by decide +kernel
set_option maxRecDepth 20000 in
theorem ggX6_isIdle_X6_isMetAt : GoodIn wsX6_isIdle wsX6_isMetAt := goodIn_r _ [9, 1, 10, 3, 4, 11, 12, 13, 14, 15, 16, 17, 18, 19, 20, 21, 22, 23, 24, 25, 26, 27, 28, 29, 30, 31, 32, 33, 34, 35, 36, 37, 38, 39, 40, 41, 42, 43, 44, 45, 46, 47, 48, 49, 54, 55, 56, 57, 60, 61, 62, 63, 58, 59, 64, 65, 66] (by decide +kernel) (by decide +kernel)
set_option maxRecDepth 20000 in
theorem gX6_isIdle_X6_isMetAt : GoodIn wsX6_isIdle (wsV RX6 80 RX6 yX6_isMetAt wsX6_isMetAt) := goodIn_app (goodIn_of _ (by decide +kernel)) ggX6_isIdle_X6_isMetAt
set_option maxRecDepth 20000 in
theorem ggX6_isIdle_Jx4a65c_size_8abf5 : GoodIn wsX6_isIdle wsJx4a65c_size_8abf5 := goodIn_r _ [23, 24, 64, 65, 66] (by decide +kernel) (by decide +kernel)
set_option maxRecDepth 20000 in
theorem gX6_isIdle_Jx4a65c_size_8abf5 : GoodIn wsX6_isIdle (wsV RX6 28 RJx4a65c yJx4a65c_size_8abf5 wsJx4a65c_size_8abf5) := goodIn_app (goodIn_of _ (by decide +kernel)) ggX6_isIdle_Jx4a65c_size_8abf5
set_option maxRecDepth 20000 in
theorem ggX6_isIdle_Jx4a65c_get_915e3 : GoodIn wsX6_isIdle wsJx4a65c_get_915e3 := goodIn_r _ [28, 24, 29, 30, 31, 32, 33, 34, 35, 36, 37, 38, 39, 22, 40, 41, 64, 65, 66] (by decide +kernel) (by decide +kernel)
set_option maxRecDepth 20000 in
theorem gX6_isIdle_Jx4a65c_get_915e3 : GoodIn wsX6_isIdle (wsV RX6 32 RJx4a65c yJx4a65c_get_915e3 wsJx4a65c_get_915e3) := goodIn_app (goodIn_of _ (by decide +kernel)) ggX6_isIdle_Jx4a65c_get_915e3
set_option maxRecDepth 20000 in
theorem ggX6_isIdle_X0_end : GoodIn wsX6_isIdle wsX0_end := goodIn_r _ [53, 18, 17, 58, 59] (by decide +kernel) (by decide +kernel)
set_option maxRecDepth 20000 in
theorem gX6_isIdle_X0_end : GoodIn wsX6_isIdle (wsV RX6 84 RX0 yX0_end wsX0_end) := goodIn_app (goodIn_of _ (by decide +kernel)) ggX6_isIdle_X0_end
theorem dX6_isIdle_0 : decode cX6_isIdle 0 = .ok (.aload_n 0, 1) := by decide +kernel
theorem dX6_isIdle_1 : decode cX6_isIdle 1 = .ok (.aload_n 1, 1) := by decide +kernel
theorem dX6_isIdle_2 : decode cX6_isIdle 2 = .ok (.aload_n 1, 1) := by decide +kernel
theorem dX6_isIdle_3 : decode cX6_isIdle 3 = .ok (.getfield 76, 3) := by decide +kernel
theorem dX6_isIdle_6 : decode cX6_isIdle 6 = .ok (.getfield 77, 3) := by decide +kernel
theorem dX6_isIdle_9 : decode cX6_isIdle 9 = .ok (.invokevirtual 80, 3) := by decide +kernel
theorem dX6_isIdle_12 : decode cX6_isIdle 12 = .ok (.ifCond .eq 5, 3) := by decide +kernel
theorem dX6_isIdle_15 : decode cX6_isIdle 15 = .ok (.iconst 0, 1) := by decide +kernel
theorem dX6_isIdle_16 : decode cX6_isIdle 16 = .ok (.ireturn, 1) := by decide +kernel
theorem dX6_isIdle_17 : decode cX6_isIdle 17 = .ok (.iconst 0, 1) := by decide +kernel
theorem dX6_isIdle_18 : decode cX6_isIdle 18 = .ok (.istore_n 2, 1) := by decide +kernel
theorem dX6_isIdle_19 : decode cX6_isIdle 19 = .ok (.iload_n 2, 1) := by decide +kernel
theorem dX6_isIdle_20 : decode cX6_isIdle 20 = .ok (.aload_n 0, 1) := by decide +kernel
theorem dX6_isIdle_21 : decode cX6_isIdle 21 = .ok (.getfield 21, 3) := by decide +kernel
theorem dX6_isIdle_24 : decode cX6_isIdle 24 = .ok (.invokevirtual 28, 3) := by decide +kernel
theorem dX6_isIdle_27 : decode cX6_isIdle 27 = .ok (.if_icmp .ge 48, 3) := by decide +kernel
theorem dX6_isIdle_30 : decode cX6_isIdle 30 = .ok (.aload_n 0, 1) := by decide +kernel
theorem dX6_isIdle_31 : decode cX6_isIdle 31 = .ok (.getfield 21, 3) := by decide +kernel
theorem dX6_isIdle_34 : decode cX6_isIdle 34 = .ok (.iload_n 2, 1) := by decide +kernel
theorem dX6_isIdle_35 : decode cX6_isIdle 35 = .ok (.invokevirtual 32, 3) := by decide +kernel
theorem dX6_isIdle_38 : decode cX6_isIdle 38 = .ok (.aload_n 1, 1) := by decide +kernel
theorem dX6_isIdle_39 : decode cX6_isIdle 39 = .ok (.if_acmp .eq 36, 3) := by decide +kernel
theorem dX6_isIdle_42 : decode cX6_isIdle 42 = .ok (.aload_n 0, 1) := by decide +kernel
theorem dX6_isIdle_43 : decode cX6_isIdle 43 = .ok (.aload_n 1, 1) := by decide +kernel
theorem dX6_isIdle_44 : decode cX6_isIdle 44 = .ok (.aload_n 0, 1) := by decide +kernel
theorem dX6_isIdle_45 : decode cX6_isIdle 45 = .ok (.getfield 21, 3) := by decide +kernel
theorem dX6_isIdle_48 : decode cX6_isIdle 48 = .ok (.iload_n 2, 1) := by decide +kernel
theorem dX6_isIdle_49 : decode cX6_isIdle 49 = .ok (.invokevirtual 32, 3) := by decide +kernel
theorem dX6_isIdle_52 : decode cX6_isIdle 52 = .ok (.checkcast 36, 3) := by decide +kernel
theorem dX6_isIdle_55 : decode cX6_isIdle 55 = .ok (.getfield 76, 3) := by decide +kernel
theorem dX6_isIdle_58 : decode cX6_isIdle 58 = .ok (.invokevirtual 84, 3) := by decide +kernel
theorem dX6_isIdle_61 : decode cX6_isIdle 61 = .ok (.invokevirtual 80, 3) := by decide +kernel
theorem dX6_isIdle_64 : decode cX6_isIdle 64 = .ok (.ifCond .eq 5, 3) := by decide +kernel
theorem dX6_isIdle_67 : decode cX6_isIdle 67 = .ok (.iconst 0, 1) := by decide +kernel
theorem dX6_isIdle_68 : decode cX6_isIdle 68 = .ok (.ireturn, 1) := by decide +kernel
theorem dX6_isIdle_69 : decode cX6_isIdle 69 = .ok (.iinc 2 1, 3) := by decide +kernel
theorem dX6_isIdle_72 : decode cX6_isIdle 72 = .ok (.goto (-53), 3) := by decide +kernel
theorem dX6_isIdle_75 : decode cX6_isIdle 75 = .ok (.iconst 1, 1) := by decide +kernel
theorem dX6_isIdle_76 : decode cX6_isIdle 76 = .ok (.ireturn, 1) := by decide +kernel
set_option maxRecDepth 20000 in
theorem ggX6_isMetAt_X0_has : GoodIn wsX6_isMetAt wsX0_has := goodIn_r _ [10, 11, 12, 52, 53] (by decide +kernel) (by decide +kernel)
set_option maxRecDepth 20000 in
theorem gX6_isMetAt_X0_has : GoodIn wsX6_isMetAt (wsV RX6 63 RX0 yX0_has wsX0_has) := goodIn_app (goodIn_of _ (by decide +kernel)) ggX6_isMetAt_X0_has
set_option maxRecDepth 20000 in
theorem ggX6_isMetAt_Jx4a65c_size_8abf5 : GoodIn wsX6_isMetAt wsJx4a65c_size_8abf5 := goodIn_r _ [17, 18, 54, 55, 56] (by decide +kernel) (by decide +kernel)
set_option maxRecDepth 20000 in
theorem gX6_isMetAt_Jx4a65c_size_8abf5 : GoodIn wsX6_isMetAt (wsV RX6 28 RJx4a65c yJx4a65c_size_8abf5 wsJx4a65c_size_8abf5) := goodIn_app (goodIn_of _ (by decide +kernel)) ggX6_isMetAt_Jx4a65c_size_8abf5
set_option maxRecDepth 20000 in
theorem ggX6_isMetAt_Jx4a65c_get_915e3 : GoodIn wsX6_isMetAt wsJx4a65c_get_915e3 := goodIn_r _ [22, 18, 23, 24, 25, 26, 27, 28, 29, 30, 31, 32, 33, 16, 34, 35, 54, 55, 56] (by decide +kernel) (by decide +kernel)
set_option maxRecDepth 20000 in
theorem gX6_isMetAt_Jx4a65c_get_915e3 : GoodIn wsX6_isMetAt (wsV RX6 32 RJx4a65c yJx4a65c_get_915e3 wsJx4a65c_get_915e3) := goodIn_app (goodIn_of _ (by decide +kernel)) ggX6_isMetAt_Jx4a65c_get_915e3
set_option maxRecDepth 20000 in
theorem ggX6_isMetAt_X5_isFor : GoodIn wsX6_isMetAt wsX5_isFor := goodIn_r _ [40, 41, 42, 43, 7, 8, 9, 10, 11, 12, 44, 45, 46, 47, 52, 53] (by decide +kernel) (by decide +kernel)
set_option maxRecDepth 20000 in
theorem gX6_isMetAt_X5_isFor : GoodIn wsX6_isMetAt (wsV RX6 42 RX5 yX5_isFor wsX5_isFor) := goodIn_app (goodIn_of _ (by decide +kernel)) ggX6_isMetAt_X5_isFor
theorem dX6_isMetAt_0 : decode cX6_isMetAt 0 = .ok (.aload_n 1, 1) := by decide +kernel
theorem dX6_isMetAt_1 : decode cX6_isMetAt 1 = .ok (.getfield 76, 3) := by decide +kernel
theorem dX6_isMetAt_4 : decode cX6_isMetAt 4 = .ok (.iload_n 2, 1) := by decide +kernel
theorem dX6_isMetAt_5 : decode cX6_isMetAt 5 = .ok (.invokevirtual 63, 3) := by decide +kernel
theorem dX6_isMetAt_8 : decode cX6_isMetAt 8 = .ok (.ifCond .ne 5, 3) := by decide +kernel
theorem dX6_isMetAt_11 : decode cX6_isMetAt 11 = .ok (.iconst 0, 1) := by decide +kernel
theorem dX6_isMetAt_12 : decode cX6_isMetAt 12 = .ok (.ireturn, 1) := by decide +kernel
theorem dX6_isMetAt_13 : decode cX6_isMetAt 13 = .ok (.aload_n 1, 1) := by decide +kernel
theorem dX6_isMetAt_14 : decode cX6_isMetAt 14 = .ok (.getfield 49, 3) := by decide +kernel
theorem dX6_isMetAt_17 : decode cX6_isMetAt 17 = .ok (.istore_n 3, 1) := by decide +kernel
theorem dX6_isMetAt_18 : decode cX6_isMetAt 18 = .ok (.iconst 0, 1) := by decide +kernel
theorem dX6_isMetAt_19 : decode cX6_isMetAt 19 = .ok (.istore 4, 2) := by decide +kernel
theorem dX6_isMetAt_21 : decode cX6_isMetAt 21 = .ok (.iload 4, 2) := by decide +kernel
theorem dX6_isMetAt_23 : decode cX6_isMetAt 23 = .ok (.aload_n 0, 1) := by decide +kernel
theorem dX6_isMetAt_24 : decode cX6_isMetAt 24 = .ok (.getfield 21, 3) := by decide +kernel
theorem dX6_isMetAt_27 : decode cX6_isMetAt 27 = .ok (.invokevirtual 28, 3) := by decide +kernel
theorem dX6_isMetAt_30 : decode cX6_isMetAt 30 = .ok (.if_icmp .ge 59, 3) := by decide +kernel
theorem dX6_isMetAt_33 : decode cX6_isMetAt 33 = .ok (.aload_n 0, 1) := by decide +kernel
theorem dX6_isMetAt_34 : decode cX6_isMetAt 34 = .ok (.getfield 21, 3) := by decide +kernel
theorem dX6_isMetAt_37 : decode cX6_isMetAt 37 = .ok (.iload 4, 2) := by decide +kernel
theorem dX6_isMetAt_39 : decode cX6_isMetAt 39 = .ok (.invokevirtual 32, 3) := by decide +kernel
theorem dX6_isMetAt_42 : decode cX6_isMetAt 42 = .ok (.aload_n 1, 1) := by decide +kernel
theorem dX6_isMetAt_43 : decode cX6_isMetAt 43 = .ok (.if_acmp .eq 46, 3) := by decide +kernel
theorem dX6_isMetAt_46 : decode cX6_isMetAt 46 = .ok (.aload_n 0, 1) := by decide +kernel
theorem dX6_isMetAt_47 : decode cX6_isMetAt 47 = .ok (.getfield 21, 3) := by decide +kernel
theorem dX6_isMetAt_50 : decode cX6_isMetAt 50 = .ok (.iload 4, 2) := by decide +kernel
theorem dX6_isMetAt_52 : decode cX6_isMetAt 52 = .ok (.invokevirtual 32, 3) := by decide +kernel
theorem dX6_isMetAt_55 : decode cX6_isMetAt 55 = .ok (.checkcast 36, 3) := by decide +kernel
theorem dX6_isMetAt_58 : decode cX6_isMetAt 58 = .ok (.astore 5, 2) := by decide +kernel
theorem dX6_isMetAt_60 : decode cX6_isMetAt 60 = .ok (.aload 5, 2) := by decide +kernel
theorem dX6_isMetAt_62 : decode cX6_isMetAt 62 = .ok (.aload_n 1, 1) := by decide +kernel
theorem dX6_isMetAt_63 : decode cX6_isMetAt 63 = .ok (.getfield 38, 3) := by decide +kernel
theorem dX6_isMetAt_66 : decode cX6_isMetAt 66 = .ok (.iload_n 2, 1) := by decide +kernel
theorem dX6_isMetAt_67 : decode cX6_isMetAt 67 = .ok (.invokevirtual 42, 3) := by decide +kernel
theorem dX6_isMetAt_70 : decode cX6_isMetAt 70 = .ok (.ifCond .eq 13, 3) := by decide +kernel
theorem dX6_isMetAt_73 : decode cX6_isMetAt 73 = .ok (.iload_n 3, 1) := by decide +kernel
theorem dX6_isMetAt_74 : decode cX6_isMetAt 74 = .ok (.aload 5, 2) := by decide +kernel
theorem dX6_isMetAt_76 : decode cX6_isMetAt 76 = .ok (.getfield 49, 3) := by decide +kernel
theorem dX6_isMetAt_79 : decode cX6_isMetAt 79 = .ok (.iconst (-1), 1) := by decide +kernel
theorem dX6_isMetAt_80 : decode cX6_isMetAt 80 = .ok (.ixor, 1) := by decide +kernel
theorem dX6_isMetAt_81 : decode cX6_isMetAt 81 = .ok (.iand, 1) := by decide +kernel
theorem dX6_isMetAt_82 : decode cX6_isMetAt 82 = .ok (.istore_n 3, 1) := by decide +kernel
theorem dX6_isMetAt_83 : decode cX6_isMetAt 83 = .ok (.iinc 4 1, 3) := by decide +kernel
theorem dX6_isMetAt_86 : decode cX6_isMetAt 86 = .ok (.goto (-65), 3) := by decide +kernel
theorem dX6_isMetAt_89 : decode cX6_isMetAt 89 = .ok (.iload_n 3, 1) := by decide +kernel
theorem dX6_isMetAt_90 : decode cX6_isMetAt 90 = .ok (.ifCond .eq 7, 3) := by decide +kernel
theorem dX6_isMetAt_93 : decode cX6_isMetAt 93 = .ok (.iconst 1, 1) := by decide +kernel
theorem dX6_isMetAt_94 : decode cX6_isMetAt 94 = .ok (.goto 4, 3) := by decide +kernel
theorem dX6_isMetAt_97 : decode cX6_isMetAt 97 = .ok (.iconst 0, 1) := by decide +kernel
theorem dX6_isMetAt_98 : decode cX6_isMetAt 98 = .ok (.ireturn, 1) := by decide +kernel
set_option maxRecDepth 20000 in
theorem ggX7_init_Jx4a65c_init_da8c8 : GoodIn wsX7_init wsJx4a65c_init_da8c8 := goodIn_r _ [14, 15, 16, 17, 18, 19, 20, 21, 22, 23, 24, 25, 26, 2, 3, 27, 28, 29] (by decide +kernel) (by decide +kernel)
set_option maxRecDepth 20000 in
theorem gX7_init_Jx4a65c_init_da8c8 : GoodIn wsX7_init (wsJx4a65c_init_da8c8) := ggX7_init_Jx4a65c_init_da8c8
theorem dX7_init_0 : decode cX7_init 0 = .ok (.aload_n 0, 1) := by decide +kernel
theorem dX7_init_1 : decode cX7_init 1 = .ok (.invokespecial 3, 3) := by decide +kernel
theorem dX7_init_4 : decode cX7_init 4 = .ok (.aload_n 0, 1) := by decide +kernel
theorem dX7_init_5 : decode cX7_init 5 = .ok (.new 9, 3) := by decide +kernel
theorem dX7_init_8 : decode cX7_init 8 = .ok (.dup, 1) := by decide +kernel
theorem dX7_init_9 : decode cX7_init 9 = .ok (.invokespecial 11, 3) := by decide +kernel
theorem dX7_init_12 : decode cX7_init 12 = .ok (.putfield 12, 3) := by decide +kernel
theorem dX7_init_15 : decode cX7_init 15 = .ok (.aload_n 0, 1) := by decide +kernel
theorem dX7_init_16 : decode cX7_init 16 = .ok (.new 9, 3) := by decide +kernel
theorem dX7_init_19 : decode cX7_init 19 = .ok (.dup, 1) := by decide +kernel
theorem dX7_init_20 : decode cX7_init 20 = .ok (.invokespecial 11, 3) := by decide +kernel
theorem dX7_init_23 : decode cX7_init 23 = .ok (.putfield 16, 3) := by decide +kernel
theorem dX7_init_26 : decode cX7_init 26 = .ok (.aload_n 0, 1) := by decide +kernel
theorem dX7_init_27 : decode cX7_init 27 = .ok (.new 9, 3) := by decide +kernel
theorem dX7_init_30 : decode cX7_init 30 = .ok (.dup, 1) := by decide +kernel
theorem dX7_init_31 : decode cX7_init 31 = .ok (.invokespecial 11, 3) := by decide +kernel
theorem dX7_init_34 : decode cX7_init 34 = .ok (.putfield 19, 3) := by decide +kernel
theorem dX7_init_37 : decode cX7_init 37 = .ok (.aload_n 0, 1) := by decide +kernel
theorem dX7_init_38 : decode cX7_init 38 = .ok (.new 9, 3) := by decide +kernel
theorem dX7_init_41 : decode cX7_init 41 = .ok (.dup, 1) := by decide +kernel
theorem dX7_init_42 : decode cX7_init 42 = .ok (.invokespecial 11, 3) := by decide +kernel
theorem dX7_init_45 : decode cX7_init 45 = .ok (.putfield 22, 3) := by decide +kernel
theorem dX7_init_48 : decode cX7_init 48 = .ok (.aload_n 0, 1) := by decide +kernel
theorem dX7_init_49 : decode cX7_init 49 = .ok (.new 9, 3) := by decide +kernel
theorem dX7_init_52 : decode cX7_init 52 = .ok (.dup, 1) := by decide +kernel
theorem dX7_init_53 : decode cX7_init 53 = .ok (.invokespecial 11, 3) := by decide +kernel
theorem dX7_init_56 : decode cX7_init 56 = .ok (.putfield 25, 3) := by decide +kernel
theorem dX7_init_59 : decode cX7_init 59 = .ok (.return_, 1) := by decide +kernel
set_option maxRecDepth 20000 in
theorem ggX7_addNetwork_X7_blockOf : GoodIn wsX7_addNetwork wsX7_blockOf := goodIn_ca (goodIn_r _ [8, 9, 10, 11, 12, 13, 14, 15, 16, 17, 18, 19, 20, 21, 111, 112] (by decide +kernel) (by decide +kernel)) (goodIn_sub (fun _ h => List.mem_cons_of_mem _ (List.mem_append_right _ h)) (by decide +kernel))
set_option maxRecDepth 20000 in
theorem gX7_addNetwork_X7_blockOf : GoodIn wsX7_addNetwork (va_wsS RX7 28 yX7_blockOf wsX7_blockOf) := goodIn_app (goodIn_of _ (by decide +kernel)) ggX7_addNetwork_X7_blockOf
set_option maxRecDepth 20000 in
theorem ggX7_addNetwork_Jx4a65c_size_8abf5 : GoodIn wsX7_addNetwork wsJx4a65c_size_8abf5 := goodIn_r _ [26, 27, 113, 114, 115] (by decide +kernel) (by decide +kernel)
set_option maxRecDepth 20000 in
theorem gX7_addNetwork_Jx4a65c_size_8abf5 : GoodIn wsX7_addNetwork (wsV RX7 32 RJx4a65c yJx4a65c_size_8abf5 wsJx4a65c_size_8abf5) := goodIn_app (goodIn_of _ (by decide +kernel)) ggX7_addNetwork_Jx4a65c_size_8abf5
set_option maxRecDepth 20000 in
theorem ggX7_addNetwork_Jx4a65c_get_915e3 : GoodIn wsX7_addNetwork wsJx4a65c_get_915e3 := goodIn_r _ [31, 27, 32, 33, 34, 35, 36, 37, 38, 39, 40, 41, 42, 25, 43, 44, 113, 114, 115] (by decide +kernel) (by decide +kernel)
set_option maxRecDepth 20000 in
theorem gX7_addNetwork_Jx4a65c_get_915e3 : GoodIn wsX7_addNetwork (wsV RX7 43 RJx4a65c yJx4a65c_get_915e3 wsJx4a65c_get_915e3) := goodIn_app (goodIn_of _ (by decide +kernel)) ggX7_addNetwork_Jx4a65c_get_915e3
set_option maxRecDepth 20000 in
theorem ggX7_addNetwork_X0_overlaps : GoodIn wsX7_addNetwork wsX0_overlaps := goodIn_r _ [48, 20, 49, 50, 51, 13, 52, 21, 111, 112] (by decide +kernel) (by decide +kernel)
set_option maxRecDepth 20000 in
theorem gX7_addNetwork_X0_overlaps : GoodIn wsX7_addNetwork (wsV RX7 49 RX0 yX0_overlaps wsX0_overlaps) := goodIn_app (goodIn_of _ (by decide +kernel)) ggX7_addNetwork_X0_overlaps
set_option maxRecDepth 20000 in
theorem ggX7_addNetwork_Jx4a65c_add_9ea2d : GoodIn wsX7_addNetwork wsJx4a65c_add_9ea2d := goodIn_r _ [56, 57, 58, 44, 27, 59, 60, 61, 25, 62, 63, 64, 65, 66, 67, 68, 69, 70, 71, 72, 73, 74, 75, 76, 77, 78, 79, 80, 81, 82, 83, 84, 85, 86, 87, 88, 89, 90, 91, 92, 93, 94, 95, 96, 97, 98, 99, 100, 101, 102, 103, 104, 105, 113, 114, 115] (by decide +kernel) (by decide +kernel)
set_option maxRecDepth 20000 in
theorem gX7_addNetwork_Jx4a65c_add_9ea2d : GoodIn wsX7_addNetwork (wsV RX7 55 RJx4a65c yJx4a65c_add_9ea2d wsJx4a65c_add_9ea2d) := goodIn_app (goodIn_of _ (by decide +kernel)) ggX7_addNetwork_Jx4a65c_add_9ea2d
theorem dX7_addNetwork_0 : decode cX7_addNetwork 0 = .ok (.iload_n 1, 1) := by decide +kernel
theorem dX7_addNetwork_1 : decode cX7_addNetwork 1 = .ok (.iload_n 2, 1) := by decide +kernel
theorem dX7_addNetwork_2 : decode cX7_addNetwork 2 = .ok (.invokestatic 28, 3) := by decide +kernel
theorem dX7_addNetwork_5 : decode cX7_addNetwork 5 = .ok (.astore_n 3, 1) := by decide +kernel
theorem dX7_addNetwork_6 : decode cX7_addNetwork 6 = .ok (.aload_n 0, 1) := by decide +kernel
theorem dX7_addNetwork_7 : decode cX7_addNetwork 7 = .ok (.getfield 12, 3) := by decide +kernel
theorem dX7_addNetwork_10 : decode cX7_addNetwork 10 = .ok (.invokevirtual 32, 3) := by decide +kernel
theorem dX7_addNetwork_13 : decode cX7_addNetwork 13 = .ok (.iconst 4, 1) := by decide +kernel
theorem dX7_addNetwork_14 : decode cX7_addNetwork 14 = .ok (.if_icmp .lt 13, 3) := by decide +kernel
theorem dX7_addNetwork_17 : decode cX7_addNetwork 17 = .ok (.new 36, 3) := by decide +kernel
theorem dX7_addNetwork_20 : decode cX7_addNetwork 20 = .ok (.dup, 1) := by decide +kernel
theorem dX7_addNetwork_21 : decode cX7_addNetwork 21 = .ok (.ldc 38, 2) := by decide +kernel
theorem dX7_addNetwork_23 : decode cX7_addNetwork 23 = .ok (.invokespecial 40, 3) := by decide +kernel
theorem dX7_addNetwork_26 : decode cX7_addNetwork 26 = .ok (.athrow, 1) := by decide +kernel
theorem dX7_addNetwork_27 : decode cX7_addNetwork 27 = .ok (.iconst 0, 1) := by decide +kernel
theorem dX7_addNetwork_28 : decode cX7_addNetwork 28 = .ok (.istore 4, 2) := by decide +kernel
theorem dX7_addNetwork_30 : decode cX7_addNetwork 30 = .ok (.iload 4, 2) := by decide +kernel
theorem dX7_addNetwork_32 : decode cX7_addNetwork 32 = .ok (.aload_n 0, 1) := by decide +kernel
theorem dX7_addNetwork_33 : decode cX7_addNetwork 33 = .ok (.getfield 12, 3) := by decide +kernel
theorem dX7_addNetwork_36 : decode cX7_addNetwork 36 = .ok (.invokevirtual 32, 3) := by decide +kernel
theorem dX7_addNetwork_39 : decode cX7_addNetwork 39 = .ok (.if_icmp .ge 38, 3) := by decide +kernel
theorem dX7_addNetwork_42 : decode cX7_addNetwork 42 = .ok (.aload_n 0, 1) := by decide +kernel
theorem dX7_addNetwork_43 : decode cX7_addNetwork 43 = .ok (.getfield 12, 3) := by decide +kernel
theorem dX7_addNetwork_46 : decode cX7_addNetwork 46 = .ok (.iload 4, 2) := by decide +kernel
theorem dX7_addNetwork_48 : decode cX7_addNetwork 48 = .ok (.invokevirtual 43, 3) := by decide +kernel
theorem dX7_addNetwork_51 : decode cX7_addNetwork 51 = .ok (.checkcast 47, 3) := by decide +kernel
theorem dX7_addNetwork_54 : decode cX7_addNetwork 54 = .ok (.aload_n 3, 1) := by decide +kernel
theorem dX7_addNetwork_55 : decode cX7_addNetwork 55 = .ok (.invokevirtual 49, 3) := by decide +kernel
theorem dX7_addNetwork_58 : decode cX7_addNetwork 58 = .ok (.ifCond .eq 13, 3) := by decide +kernel
theorem dX7_addNetwork_61 : decode cX7_addNetwork 61 = .ok (.new 36, 3) := by decide +kernel
theorem dX7_addNetwork_64 : decode cX7_addNetwork 64 = .ok (.dup, 1) := by decide +kernel
theorem dX7_addNetwork_65 : decode cX7_addNetwork 65 = .ok (.ldc 53, 2) := by decide +kernel
theorem dX7_addNetwork_67 : decode cX7_addNetwork 67 = .ok (.invokespecial 40, 3) := by decide +kernel
theorem dX7_addNetwork_70 : decode cX7_addNetwork 70 = .ok (.athrow, 1) := by decide +kernel
theorem dX7_addNetwork_71 : decode cX7_addNetwork 71 = .ok (.iinc 4 1, 3) := by decide +kernel
theorem dX7_addNetwork_74 : decode cX7_addNetwork 74 = .ok (.goto (-44), 3) := by decide +kernel
theorem dX7_addNetwork_77 : decode cX7_addNetwork 77 = .ok (.aload_n 0, 1) := by decide +kernel
theorem dX7_addNetwork_78 : decode cX7_addNetwork 78 = .ok (.getfield 12, 3) := by decide +kernel
theorem dX7_addNetwork_81 : decode cX7_addNetwork 81 = .ok (.aload_n 3, 1) := by decide +kernel
theorem dX7_addNetwork_82 : decode cX7_addNetwork 82 = .ok (.invokevirtual 55, 3) := by decide +kernel
theorem dX7_addNetwork_85 : decode cX7_addNetwork 85 = .ok (.pop, 1) := by decide +kernel
theorem dX7_addNetwork_86 : decode cX7_addNetwork 86 = .ok (.aload_n 0, 1) := by decide +kernel
theorem dX7_addNetwork_87 : decode cX7_addNetwork 87 = .ok (.getfield 12, 3) := by decide +kernel
theorem dX7_addNetwork_90 : decode cX7_addNetwork 90 = .ok (.invokevirtual 32, 3) := by decide +kernel
theorem dX7_addNetwork_93 : decode cX7_addNetwork 93 = .ok (.iconst 1, 1) := by decide +kernel
theorem dX7_addNetwork_94 : decode cX7_addNetwork 94 = .ok (.isub, 1) := by decide +kernel
theorem dX7_addNetwork_95 : decode cX7_addNetwork 95 = .ok (.ireturn, 1) := by decide +kernel
set_option maxRecDepth 20000 in
theorem ggX7_addSubnet_X7_networkAt : GoodIn wsX7_addSubnet wsX7_networkAt := goodIn_ca (goodIn_r _ [15, 16, 17, 18, 19, 20, 21, 22, 23, 24, 25, 14, 26, 27, 28, 29, 30, 31, 32, 33, 34, 35, 36, 37, 38, 39, 40, 41, 42, 43, 44, 45, 148, 149, 150, 151, 152, 157, 158, 159] (by decide +kernel) (by decide +kernel)) (goodIn_sub (fun _ h => List.mem_cons_of_mem _ (List.mem_append_right _ h)) (by decide +kernel))
set_option maxRecDepth 20000 in
theorem gX7_addSubnet_X7_networkAt : GoodIn wsX7_addSubnet (wsV RX7 59 RX7 yX7_networkAt wsX7_networkAt) := goodIn_app (goodIn_of _ (by decide +kernel)) ggX7_addSubnet_X7_networkAt
set_option maxRecDepth 20000 in
theorem ggX7_addSubnet_X7_blockOf : GoodIn wsX7_addSubnet wsX7_blockOf := goodIn_ca (goodIn_r _ [48, 1, 2, 49, 50, 51, 52, 53, 54, 55, 56, 57, 58, 59, 160, 161] (by decide +kernel) (by decide +kernel)) (goodIn_sub (fun _ h => List.mem_cons_of_mem _ (List.mem_append_left _ (List.mem_append_left _ (List.mem_append_right _ h)))) (by decide +kernel))
set_option maxRecDepth 20000 in
theorem gX7_addSubnet_X7_blockOf : GoodIn wsX7_addSubnet (va_wsS RX7 28 yX7_blockOf wsX7_blockOf) := goodIn_app (goodIn_of _ (by decide +kernel)) ggX7_addSubnet_X7_blockOf
set_option maxRecDepth 20000 in
theorem ggX7_addSubnet_X0_isWithin : GoodIn wsX7_addSubnet wsX0_isWithin := goodIn_r _ [63, 59, 58, 64, 65, 66, 51, 67, 160, 161] (by decide +kernel) (by decide +kernel)
set_option maxRecDepth 20000 in
theorem gX7_addSubnet_X0_isWithin : GoodIn wsX7_addSubnet (wsV RX7 63 RX0 yX0_isWithin wsX0_isWithin) := goodIn_app (goodIn_of _ (by decide +kernel)) ggX7_addSubnet_X0_isWithin
set_option maxRecDepth 20000 in
theorem ggX7_addSubnet_Jx4a65c_size_8abf5 : GoodIn wsX7_addSubnet wsJx4a65c_size_8abf5 := goodIn_r _ [22, 23, 157, 158, 159] (by decide +kernel) (by decide +kernel)
set_option maxRecDepth 20000 in
theorem gX7_addSubnet_Jx4a65c_size_8abf5 : GoodIn wsX7_addSubnet (wsV RX7 32 RJx4a65c yJx4a65c_size_8abf5 wsJx4a65c_size_8abf5) := goodIn_app (goodIn_of _ (by decide +kernel)) ggX7_addSubnet_Jx4a65c_size_8abf5
set_option maxRecDepth 20000 in
theorem ggX7_addSubnet_Jx4a65c_get_915e3 : GoodIn wsX7_addSubnet wsJx4a65c_get_915e3 := goodIn_r _ [32, 23, 33, 34, 35, 36, 37, 38, 39, 40, 41, 42, 43, 21, 44, 45, 157, 158, 159] (by decide +kernel) (by decide +kernel)
set_option maxRecDepth 20000 in
theorem gX7_addSubnet_Jx4a65c_get_915e3 : GoodIn wsX7_addSubnet (wsV RX7 43 RJx4a65c yJx4a65c_get_915e3 wsJx4a65c_get_915e3) := goodIn_app (goodIn_of _ (by decide +kernel)) ggX7_addSubnet_Jx4a65c_get_915e3
set_option maxRecDepth 20000 in
theorem ggX7_addSubnet_X0_overlaps : GoodIn wsX7_addSubnet wsX0_overlaps := goodIn_r _ [71, 58, 64, 65, 66, 51, 67, 59, 160, 161] (by decide +kernel) (by decide +kernel)
set_option maxRecDepth 20000 in
theorem gX7_addSubnet_X0_overlaps : GoodIn wsX7_addSubnet (wsV RX7 49 RX0 yX0_overlaps wsX0_overlaps) := goodIn_app (goodIn_of _ (by decide +kernel)) ggX7_addSubnet_X0_overlaps
set_option maxRecDepth 20000 in
theorem ggX7_addSubnet_X6_init : GoodIn wsX7_addSubnet wsX6_init := goodIn_r _ [74, 75, 56, 57, 76, 77, 78, 79, 21, 80, 81, 82, 83, 84, 85, 45, 86, 87, 88, 89, 90, 91, 92, 93, 94, 95, 153, 154, 155, 156, 157, 158, 159] (by decide +kernel) (by decide +kernel)
set_option maxRecDepth 20000 in
theorem gX7_addSubnet_X6_init : GoodIn wsX7_addSubnet (wsX6_init) := ggX7_addSubnet_X6_init
set_option maxRecDepth 20000 in
theorem ggX7_addSubnet_Jx4a65c_add_9ea2d : GoodIn wsX7_addSubnet wsJx4a65c_add_9ea2d := goodIn_r _ [99, 100, 101, 45, 23, 102, 103, 104, 21, 105, 106, 107, 108, 109, 110, 111, 112, 113, 85, 114, 115, 116, 117, 118, 119, 120, 121, 122, 123, 124, 125, 126, 127, 128, 129, 130, 131, 132, 133, 134, 135, 136, 137, 138, 139, 140, 141, 142, 143, 144, 145, 146, 147, 157, 158, 159] (by decide +kernel) (by decide +kernel)
set_option maxRecDepth 20000 in
theorem gX7_addSubnet_Jx4a65c_add_9ea2d : GoodIn wsX7_addSubnet (wsV RX7 55 RJx4a65c yJx4a65c_add_9ea2d wsJx4a65c_add_9ea2d) := goodIn_app (goodIn_of _ (by decide +kernel)) ggX7_addSubnet_Jx4a65c_add_9ea2d
theorem dX7_addSubnet_0 : decode cX7_addSubnet 0 = .ok (.aload_n 0, 1) := by decide +kernel
theorem dX7_addSubnet_1 : decode cX7_addSubnet 1 = .ok (.iload_n 1, 1) := by decide +kernel
theorem dX7_addSubnet_2 : decode cX7_addSubnet 2 = .ok (.invokevirtual 59, 3) := by decide +kernel
theorem dX7_addSubnet_5 : decode cX7_addSubnet 5 = .ok (.astore 4, 2) := by decide +kernel
theorem dX7_addSubnet_7 : decode cX7_addSubnet 7 = .ok (.iload_n 2, 1) := by decide +kernel
theorem dX7_addSubnet_8 : decode cX7_addSubnet 8 = .ok (.iload_n 3, 1) := by decide +kernel
theorem dX7_addSubnet_9 : decode cX7_addSubnet 9 = .ok (.invokestatic 28, 3) := by decide +kernel
theorem dX7_addSubnet_12 : decode cX7_addSubnet 12 = .ok (.astore 5, 2) := by decide +kernel
theorem dX7_addSubnet_14 : decode cX7_addSubnet 14 = .ok (.aload 5, 2) := by decide +kernel
theorem dX7_addSubnet_16 : decode cX7_addSubnet 16 = .ok (.aload 4, 2) := by decide +kernel
theorem dX7_addSubnet_18 : decode cX7_addSubnet 18 = .ok (.invokevirtual 63, 3) := by decide +kernel
theorem dX7_addSubnet_21 : decode cX7_addSubnet 21 = .ok (.ifCond .ne 13, 3) := by decide +kernel
theorem dX7_addSubnet_24 : decode cX7_addSubnet 24 = .ok (.new 66, 3) := by decide +kernel
theorem dX7_addSubnet_27 : decode cX7_addSubnet 27 = .ok (.dup, 1) := by decide +kernel
theorem dX7_addSubnet_28 : decode cX7_addSubnet 28 = .ok (.ldc 68, 2) := by decide +kernel
theorem dX7_addSubnet_30 : decode cX7_addSubnet 30 = .ok (.invokespecial 70, 3) := by decide +kernel
theorem dX7_addSubnet_33 : decode cX7_addSubnet 33 = .ok (.athrow, 1) := by decide +kernel
theorem dX7_addSubnet_34 : decode cX7_addSubnet 34 = .ok (.aload_n 0, 1) := by decide +kernel
theorem dX7_addSubnet_35 : decode cX7_addSubnet 35 = .ok (.getfield 16, 3) := by decide +kernel
theorem dX7_addSubnet_38 : decode cX7_addSubnet 38 = .ok (.invokevirtual 32, 3) := by decide +kernel
theorem dX7_addSubnet_41 : decode cX7_addSubnet 41 = .ok (.bipush 8, 2) := by decide +kernel
theorem dX7_addSubnet_43 : decode cX7_addSubnet 43 = .ok (.if_icmp .lt 13, 3) := by decide +kernel
theorem dX7_addSubnet_46 : decode cX7_addSubnet 46 = .ok (.new 36, 3) := by decide +kernel
theorem dX7_addSubnet_49 : decode cX7_addSubnet 49 = .ok (.dup, 1) := by decide +kernel
theorem dX7_addSubnet_50 : decode cX7_addSubnet 50 = .ok (.ldc 71, 2) := by decide +kernel
theorem dX7_addSubnet_52 : decode cX7_addSubnet 52 = .ok (.invokespecial 40, 3) := by decide +kernel
theorem dX7_addSubnet_55 : decode cX7_addSubnet 55 = .ok (.athrow, 1) := by decide +kernel
theorem dX7_addSubnet_56 : decode cX7_addSubnet 56 = .ok (.iconst 0, 1) := by decide +kernel
theorem dX7_addSubnet_57 : decode cX7_addSubnet 57 = .ok (.istore 6, 2) := by decide +kernel
theorem dX7_addSubnet_59 : decode cX7_addSubnet 59 = .ok (.iload 6, 2) := by decide +kernel
theorem dX7_addSubnet_61 : decode cX7_addSubnet 61 = .ok (.aload_n 0, 1) := by decide +kernel
theorem dX7_addSubnet_62 : decode cX7_addSubnet 62 = .ok (.getfield 16, 3) := by decide +kernel
theorem dX7_addSubnet_65 : decode cX7_addSubnet 65 = .ok (.invokevirtual 32, 3) := by decide +kernel
theorem dX7_addSubnet_68 : decode cX7_addSubnet 68 = .ok (.if_icmp .ge 42, 3) := by decide +kernel
theorem dX7_addSubnet_71 : decode cX7_addSubnet 71 = .ok (.aload_n 0, 1) := by decide +kernel
theorem dX7_addSubnet_72 : decode cX7_addSubnet 72 = .ok (.getfield 16, 3) := by decide +kernel
theorem dX7_addSubnet_75 : decode cX7_addSubnet 75 = .ok (.iload 6, 2) := by decide +kernel
theorem dX7_addSubnet_77 : decode cX7_addSubnet 77 = .ok (.invokevirtual 43, 3) := by decide +kernel
theorem dX7_addSubnet_80 : decode cX7_addSubnet 80 = .ok (.checkcast 73, 3) := by decide +kernel
theorem dX7_addSubnet_83 : decode cX7_addSubnet 83 = .ok (.getfield 75, 3) := by decide +kernel
theorem dX7_addSubnet_86 : decode cX7_addSubnet 86 = .ok (.aload 5, 2) := by decide +kernel
theorem dX7_addSubnet_88 : decode cX7_addSubnet 88 = .ok (.invokevirtual 49, 3) := by decide +kernel
theorem dX7_addSubnet_91 : decode cX7_addSubnet 91 = .ok (.ifCond .eq 13, 3) := by decide +kernel
theorem dX7_addSubnet_94 : decode cX7_addSubnet 94 = .ok (.new 36, 3) := by decide +kernel
theorem dX7_addSubnet_97 : decode cX7_addSubnet 97 = .ok (.dup, 1) := by decide +kernel
theorem dX7_addSubnet_98 : decode cX7_addSubnet 98 = .ok (.ldc 79, 2) := by decide +kernel
theorem dX7_addSubnet_100 : decode cX7_addSubnet 100 = .ok (.invokespecial 40, 3) := by decide +kernel
theorem dX7_addSubnet_103 : decode cX7_addSubnet 103 = .ok (.athrow, 1) := by decide +kernel
theorem dX7_addSubnet_104 : decode cX7_addSubnet 104 = .ok (.iinc 6 1, 3) := by decide +kernel
theorem dX7_addSubnet_107 : decode cX7_addSubnet 107 = .ok (.goto (-48), 3) := by decide +kernel
theorem dX7_addSubnet_110 : decode cX7_addSubnet 110 = .ok (.aload_n 0, 1) := by decide +kernel
theorem dX7_addSubnet_111 : decode cX7_addSubnet 111 = .ok (.getfield 16, 3) := by decide +kernel
theorem dX7_addSubnet_114 : decode cX7_addSubnet 114 = .ok (.new 73, 3) := by decide +kernel
theorem dX7_addSubnet_117 : decode cX7_addSubnet 117 = .ok (.dup, 1) := by decide +kernel
theorem dX7_addSubnet_118 : decode cX7_addSubnet 118 = .ok (.aload 4, 2) := by decide +kernel
theorem dX7_addSubnet_120 : decode cX7_addSubnet 120 = .ok (.aload 5, 2) := by decide +kernel
theorem dX7_addSubnet_122 : decode cX7_addSubnet 122 = .ok (.invokespecial 81, 3) := by decide +kernel
theorem dX7_addSubnet_125 : decode cX7_addSubnet 125 = .ok (.invokevirtual 55, 3) := by decide +kernel
theorem dX7_addSubnet_128 : decode cX7_addSubnet 128 = .ok (.pop, 1) := by decide +kernel
theorem dX7_addSubnet_129 : decode cX7_addSubnet 129 = .ok (.aload_n 0, 1) := by decide +kernel
theorem dX7_addSubnet_130 : decode cX7_addSubnet 130 = .ok (.getfield 16, 3) := by decide +kernel
theorem dX7_addSubnet_133 : decode cX7_addSubnet 133 = .ok (.invokevirtual 32, 3) := by decide +kernel
theorem dX7_addSubnet_136 : decode cX7_addSubnet 136 = .ok (.iconst 1, 1) := by decide +kernel
theorem dX7_addSubnet_137 : decode cX7_addSubnet 137 = .ok (.isub, 1) := by decide +kernel
theorem dX7_addSubnet_138 : decode cX7_addSubnet 138 = .ok (.ireturn, 1) := by decide +kernel
set_option maxRecDepth 20000 in
theorem ggX7_addHost_X7_subnetAt : GoodIn wsX7_addHost wsX7_subnetAt := goodIn_ca (goodIn_r _ [16, 17, 18, 19, 20, 21, 22, 23, 24, 25, 26, 15, 27, 28, 29, 30, 31, 32, 33, 34, 35, 36, 37, 38, 39, 40, 41, 42, 43, 44, 45, 46, 119, 120, 121, 122, 123, 127, 128, 129] (by decide +kernel) (by decide +kernel)) (goodIn_sub (fun _ h => List.mem_cons_of_mem _ (List.mem_append_right _ h)) (by decide +kernel))
set_option maxRecDepth 20000 in
theorem gX7_addHost_X7_subnetAt : GoodIn wsX7_addHost (wsV RX7 84 RX7 yX7_subnetAt wsX7_subnetAt) := goodIn_app (goodIn_of _ (by decide +kernel)) ggX7_addHost_X7_subnetAt
set_option maxRecDepth 20000 in
theorem ggX7_addHost_X0_has : GoodIn wsX7_addHost wsX0_has := goodIn_r _ [51, 52, 53, 130, 131] (by decide +kernel) (by decide +kernel)
set_option maxRecDepth 20000 in
theorem gX7_addHost_X0_has : GoodIn wsX7_addHost (wsV RX7 88 RX0 yX0_has wsX0_has) := goodIn_app (goodIn_of _ (by decide +kernel)) ggX7_addHost_X0_has
set_option maxRecDepth 20000 in
theorem ggX7_addHost_Jx4a65c_size_8abf5 : GoodIn wsX7_addHost wsJx4a65c_size_8abf5 := goodIn_r _ [23, 24, 127, 128, 129] (by decide +kernel) (by decide +kernel)
set_option maxRecDepth 20000 in
theorem gX7_addHost_Jx4a65c_size_8abf5 : GoodIn wsX7_addHost (wsV RX7 32 RJx4a65c yJx4a65c_size_8abf5 wsJx4a65c_size_8abf5) := goodIn_app (goodIn_of _ (by decide +kernel)) ggX7_addHost_Jx4a65c_size_8abf5
set_option maxRecDepth 20000 in
theorem ggX7_addHost_Jx4a65c_get_915e3 : GoodIn wsX7_addHost wsJx4a65c_get_915e3 := goodIn_r _ [33, 24, 34, 35, 36, 37, 38, 39, 40, 41, 42, 43, 44, 22, 45, 46, 127, 128, 129] (by decide +kernel) (by decide +kernel)
set_option maxRecDepth 20000 in
theorem gX7_addHost_Jx4a65c_get_915e3 : GoodIn wsX7_addHost (wsV RX7 43 RJx4a65c yJx4a65c_get_915e3 wsJx4a65c_get_915e3) := goodIn_app (goodIn_of _ (by decide +kernel)) ggX7_addHost_Jx4a65c_get_915e3
set_option maxRecDepth 20000 in
theorem ggX7_addHost_X2_init : GoodIn wsX7_addHost wsX2_init := goodIn_r _ [56, 57, 58, 59, 60, 61, 124, 125, 126] (by decide +kernel) (by decide +kernel)
set_option maxRecDepth 20000 in
theorem gX7_addHost_X2_init : GoodIn wsX7_addHost (wsX2_init) := ggX7_addHost_X2_init
set_option maxRecDepth 20000 in
theorem ggX7_addHost_Jx4a65c_add_9ea2d : GoodIn wsX7_addHost wsJx4a65c_add_9ea2d := goodIn_r _ [65, 66, 67, 46, 24, 68, 69, 70, 22, 71, 72, 73, 74, 75, 76, 77, 78, 79, 80, 81, 82, 83, 84, 85, 86, 87, 88, 89, 90, 91, 92, 93, 94, 95, 96, 97, 98, 99, 100, 101, 102, 103, 104, 105, 106, 107, 108, 109, 110, 111, 112, 113, 114, 127, 128, 129] (by decide +kernel) (by decide +kernel)
set_option maxRecDepth 20000 in
theorem gX7_addHost_Jx4a65c_add_9ea2d : GoodIn wsX7_addHost (wsV RX7 55 RJx4a65c yJx4a65c_add_9ea2d wsJx4a65c_add_9ea2d) := goodIn_app (goodIn_of _ (by decide +kernel)) ggX7_addHost_Jx4a65c_add_9ea2d
theorem dX7_addHost_0 : decode cX7_addHost 0 = .ok (.aload_n 0, 1) := by decide +kernel
theorem dX7_addHost_1 : decode cX7_addHost 1 = .ok (.iload_n 1, 1) := by decide +kernel
theorem dX7_addHost_2 : decode cX7_addHost 2 = .ok (.invokevirtual 84, 3) := by decide +kernel
theorem dX7_addHost_5 : decode cX7_addHost 5 = .ok (.astore_n 3, 1) := by decide +kernel
theorem dX7_addHost_6 : decode cX7_addHost 6 = .ok (.aload_n 3, 1) := by decide +kernel
theorem dX7_addHost_7 : decode cX7_addHost 7 = .ok (.getfield 75, 3) := by decide +kernel
theorem dX7_addHost_10 : decode cX7_addHost 10 = .ok (.iload_n 2, 1) := by decide +kernel
theorem dX7_addHost_11 : decode cX7_addHost 11 = .ok (.invokevirtual 88, 3) := by decide +kernel
theorem dX7_addHost_14 : decode cX7_addHost 14 = .ok (.ifCond .ne 13, 3) := by decide +kernel
theorem dX7_addHost_17 : decode cX7_addHost 17 = .ok (.new 66, 3) := by decide +kernel
theorem dX7_addHost_20 : decode cX7_addHost 20 = .ok (.dup, 1) := by decide +kernel
theorem dX7_addHost_21 : decode cX7_addHost 21 = .ok (.ldc 92, 2) := by decide +kernel
theorem dX7_addHost_23 : decode cX7_addHost 23 = .ok (.invokespecial 70, 3) := by decide +kernel
theorem dX7_addHost_26 : decode cX7_addHost 26 = .ok (.athrow, 1) := by decide +kernel
theorem dX7_addHost_27 : decode cX7_addHost 27 = .ok (.aload_n 0, 1) := by decide +kernel
theorem dX7_addHost_28 : decode cX7_addHost 28 = .ok (.getfield 19, 3) := by decide +kernel
theorem dX7_addHost_31 : decode cX7_addHost 31 = .ok (.invokevirtual 32, 3) := by decide +kernel
theorem dX7_addHost_34 : decode cX7_addHost 34 = .ok (.bipush 12, 2) := by decide +kernel
theorem dX7_addHost_36 : decode cX7_addHost 36 = .ok (.if_icmp .lt 13, 3) := by decide +kernel
theorem dX7_addHost_39 : decode cX7_addHost 39 = .ok (.new 36, 3) := by decide +kernel
theorem dX7_addHost_42 : decode cX7_addHost 42 = .ok (.dup, 1) := by decide +kernel
theorem dX7_addHost_43 : decode cX7_addHost 43 = .ok (.ldc 94, 2) := by decide +kernel
theorem dX7_addHost_45 : decode cX7_addHost 45 = .ok (.invokespecial 40, 3) := by decide +kernel
theorem dX7_addHost_48 : decode cX7_addHost 48 = .ok (.athrow, 1) := by decide +kernel
theorem dX7_addHost_49 : decode cX7_addHost 49 = .ok (.iconst 0, 1) := by decide +kernel
theorem dX7_addHost_50 : decode cX7_addHost 50 = .ok (.istore 4, 2) := by decide +kernel
theorem dX7_addHost_52 : decode cX7_addHost 52 = .ok (.iload 4, 2) := by decide +kernel
theorem dX7_addHost_54 : decode cX7_addHost 54 = .ok (.aload_n 0, 1) := by decide +kernel
theorem dX7_addHost_55 : decode cX7_addHost 55 = .ok (.getfield 19, 3) := by decide +kernel
theorem dX7_addHost_58 : decode cX7_addHost 58 = .ok (.invokevirtual 32, 3) := by decide +kernel
theorem dX7_addHost_61 : decode cX7_addHost 61 = .ok (.if_icmp .ge 38, 3) := by decide +kernel
theorem dX7_addHost_64 : decode cX7_addHost 64 = .ok (.aload_n 0, 1) := by decide +kernel
theorem dX7_addHost_65 : decode cX7_addHost 65 = .ok (.getfield 19, 3) := by decide +kernel
theorem dX7_addHost_68 : decode cX7_addHost 68 = .ok (.iload 4, 2) := by decide +kernel
theorem dX7_addHost_70 : decode cX7_addHost 70 = .ok (.invokevirtual 43, 3) := by decide +kernel
theorem dX7_addHost_73 : decode cX7_addHost 73 = .ok (.checkcast 96, 3) := by decide +kernel
theorem dX7_addHost_76 : decode cX7_addHost 76 = .ok (.getfield 98, 3) := by decide +kernel
theorem dX7_addHost_79 : decode cX7_addHost 79 = .ok (.iload_n 2, 1) := by decide +kernel
theorem dX7_addHost_80 : decode cX7_addHost 80 = .ok (.if_icmp .ne 13, 3) := by decide +kernel
theorem dX7_addHost_83 : decode cX7_addHost 83 = .ok (.new 36, 3) := by decide +kernel
theorem dX7_addHost_86 : decode cX7_addHost 86 = .ok (.dup, 1) := by decide +kernel
theorem dX7_addHost_87 : decode cX7_addHost 87 = .ok (.ldc 102, 2) := by decide +kernel
theorem dX7_addHost_89 : decode cX7_addHost 89 = .ok (.invokespecial 40, 3) := by decide +kernel
theorem dX7_addHost_92 : decode cX7_addHost 92 = .ok (.athrow, 1) := by decide +kernel
theorem dX7_addHost_93 : decode cX7_addHost 93 = .ok (.iinc 4 1, 3) := by decide +kernel
theorem dX7_addHost_96 : decode cX7_addHost 96 = .ok (.goto (-44), 3) := by decide +kernel
theorem dX7_addHost_99 : decode cX7_addHost 99 = .ok (.aload_n 0, 1) := by decide +kernel
theorem dX7_addHost_100 : decode cX7_addHost 100 = .ok (.getfield 19, 3) := by decide +kernel
theorem dX7_addHost_103 : decode cX7_addHost 103 = .ok (.new 96, 3) := by decide +kernel
theorem dX7_addHost_106 : decode cX7_addHost 106 = .ok (.dup, 1) := by decide +kernel
theorem dX7_addHost_107 : decode cX7_addHost 107 = .ok (.aload_n 3, 1) := by decide +kernel
theorem dX7_addHost_108 : decode cX7_addHost 108 = .ok (.iload_n 2, 1) := by decide +kernel
theorem dX7_addHost_109 : decode cX7_addHost 109 = .ok (.invokespecial 104, 3) := by decide +kernel
theorem dX7_addHost_112 : decode cX7_addHost 112 = .ok (.invokevirtual 55, 3) := by decide +kernel
theorem dX7_addHost_115 : decode cX7_addHost 115 = .ok (.pop, 1) := by decide +kernel
theorem dX7_addHost_116 : decode cX7_addHost 116 = .ok (.aload_n 0, 1) := by decide +kernel
theorem dX7_addHost_117 : decode cX7_addHost 117 = .ok (.getfield 19, 3) := by decide +kernel
theorem dX7_addHost_120 : decode cX7_addHost 120 = .ok (.invokevirtual 32, 3) := by decide +kernel
theorem dX7_addHost_123 : decode cX7_addHost 123 = .ok (.iconst 1, 1) := by decide +kernel
theorem dX7_addHost_124 : decode cX7_addHost 124 = .ok (.isub, 1) := by decide +kernel
theorem dX7_addHost_125 : decode cX7_addHost 125 = .ok (.ireturn, 1) := by decide +kernel
set_option maxRecDepth 20000 in
theorem ggX7_addPeering_X7_networkAt : GoodIn wsX7_addPeering wsX7_networkAt := goodIn_ca (goodIn_r _ [13, 14, 15, 16, 17, 18, 19, 20, 21, 22, 23, 12, 24, 25, 26, 27, 28, 29, 30, 31, 32, 33, 34, 35, 36, 37, 38, 39, 40, 41, 42, 43, 105, 106, 107, 108, 109, 112, 113, 114] (by decide +kernel) (by decide +kernel)) (goodIn_sub (fun _ h => List.mem_cons_of_mem _ (List.mem_append_right _ h)) (by decide +kernel))
set_option maxRecDepth 20000 in
theorem gX7_addPeering_X7_networkAt : GoodIn wsX7_addPeering (wsV RX7 59 RX7 yX7_networkAt wsX7_networkAt) := goodIn_app (goodIn_of _ (by decide +kernel)) ggX7_addPeering_X7_networkAt
set_option maxRecDepth 20000 in
theorem ggX7_addPeering_Jx4a65c_size_8abf5 : GoodIn wsX7_addPeering wsJx4a65c_size_8abf5 := goodIn_r _ [20, 21, 112, 113, 114] (by decide +kernel) (by decide +kernel)
set_option maxRecDepth 20000 in
theorem gX7_addPeering_Jx4a65c_size_8abf5 : GoodIn wsX7_addPeering (wsV RX7 32 RJx4a65c yJx4a65c_size_8abf5 wsJx4a65c_size_8abf5) := goodIn_app (goodIn_of _ (by decide +kernel)) ggX7_addPeering_Jx4a65c_size_8abf5
set_option maxRecDepth 20000 in
theorem ggX7_addPeering_X3_init : GoodIn wsX7_addPeering wsX3_init := goodIn_r _ [46, 47, 48, 49, 50, 51, 110, 111] (by decide +kernel) (by decide +kernel)
set_option maxRecDepth 20000 in
theorem gX7_addPeering_X3_init : GoodIn wsX7_addPeering (wsX3_init) := ggX7_addPeering_X3_init
set_option maxRecDepth 20000 in
theorem ggX7_addPeering_Jx4a65c_add_9ea2d : GoodIn wsX7_addPeering wsJx4a65c_add_9ea2d := goodIn_r _ [55, 56, 57, 43, 21, 58, 59, 60, 19, 61, 62, 63, 64, 65, 66, 67, 68, 69, 70, 71, 72, 73, 74, 75, 76, 77, 78, 79, 80, 81, 82, 83, 84, 85, 86, 87, 88, 89, 90, 91, 92, 93, 94, 95, 96, 97, 98, 99, 100, 101, 102, 103, 104, 112, 113, 114] (by decide +kernel) (by decide +kernel)
set_option maxRecDepth 20000 in
theorem gX7_addPeering_Jx4a65c_add_9ea2d : GoodIn wsX7_addPeering (wsV RX7 55 RJx4a65c yJx4a65c_add_9ea2d wsJx4a65c_add_9ea2d) := goodIn_app (goodIn_of _ (by decide +kernel)) ggX7_addPeering_Jx4a65c_add_9ea2d
theorem dX7_addPeering_0 : decode cX7_addPeering 0 = .ok (.aload_n 0, 1) := by decide +kernel
theorem dX7_addPeering_1 : decode cX7_addPeering 1 = .ok (.iload_n 1, 1) := by decide +kernel
theorem dX7_addPeering_2 : decode cX7_addPeering 2 = .ok (.invokevirtual 59, 3) := by decide +kernel
theorem dX7_addPeering_5 : decode cX7_addPeering 5 = .ok (.astore_n 3, 1) := by decide +kernel
theorem dX7_addPeering_6 : decode cX7_addPeering 6 = .ok (.aload_n 0, 1) := by decide +kernel
theorem dX7_addPeering_7 : decode cX7_addPeering 7 = .ok (.iload_n 2, 1) := by decide +kernel
theorem dX7_addPeering_8 : decode cX7_addPeering 8 = .ok (.invokevirtual 59, 3) := by decide +kernel
theorem dX7_addPeering_11 : decode cX7_addPeering 11 = .ok (.astore 4, 2) := by decide +kernel
theorem dX7_addPeering_13 : decode cX7_addPeering 13 = .ok (.iload_n 1, 1) := by decide +kernel
theorem dX7_addPeering_14 : decode cX7_addPeering 14 = .ok (.iload_n 2, 1) := by decide +kernel
theorem dX7_addPeering_15 : decode cX7_addPeering 15 = .ok (.if_icmp .ne 13, 3) := by decide +kernel
theorem dX7_addPeering_18 : decode cX7_addPeering 18 = .ok (.new 66, 3) := by decide +kernel
theorem dX7_addPeering_21 : decode cX7_addPeering 21 = .ok (.dup, 1) := by decide +kernel
theorem dX7_addPeering_22 : decode cX7_addPeering 22 = .ok (.ldc 107, 2) := by decide +kernel
theorem dX7_addPeering_24 : decode cX7_addPeering 24 = .ok (.invokespecial 70, 3) := by decide +kernel
theorem dX7_addPeering_27 : decode cX7_addPeering 27 = .ok (.athrow, 1) := by decide +kernel
theorem dX7_addPeering_28 : decode cX7_addPeering 28 = .ok (.aload_n 0, 1) := by decide +kernel
theorem dX7_addPeering_29 : decode cX7_addPeering 29 = .ok (.getfield 22, 3) := by decide +kernel
theorem dX7_addPeering_32 : decode cX7_addPeering 32 = .ok (.invokevirtual 32, 3) := by decide +kernel
theorem dX7_addPeering_35 : decode cX7_addPeering 35 = .ok (.bipush 6, 2) := by decide +kernel
theorem dX7_addPeering_37 : decode cX7_addPeering 37 = .ok (.if_icmp .lt 13, 3) := by decide +kernel
theorem dX7_addPeering_40 : decode cX7_addPeering 40 = .ok (.new 36, 3) := by decide +kernel
theorem dX7_addPeering_43 : decode cX7_addPeering 43 = .ok (.dup, 1) := by decide +kernel
theorem dX7_addPeering_44 : decode cX7_addPeering 44 = .ok (.ldc 109, 2) := by decide +kernel
theorem dX7_addPeering_46 : decode cX7_addPeering 46 = .ok (.invokespecial 40, 3) := by decide +kernel
theorem dX7_addPeering_49 : decode cX7_addPeering 49 = .ok (.athrow, 1) := by decide +kernel
theorem dX7_addPeering_50 : decode cX7_addPeering 50 = .ok (.aload_n 0, 1) := by decide +kernel
theorem dX7_addPeering_51 : decode cX7_addPeering 51 = .ok (.getfield 22, 3) := by decide +kernel
theorem dX7_addPeering_54 : decode cX7_addPeering 54 = .ok (.new 111, 3) := by decide +kernel
theorem dX7_addPeering_57 : decode cX7_addPeering 57 = .ok (.dup, 1) := by decide +kernel
theorem dX7_addPeering_58 : decode cX7_addPeering 58 = .ok (.aload_n 3, 1) := by decide +kernel
theorem dX7_addPeering_59 : decode cX7_addPeering 59 = .ok (.aload 4, 2) := by decide +kernel
theorem dX7_addPeering_61 : decode cX7_addPeering 61 = .ok (.invokespecial 113, 3) := by decide +kernel
theorem dX7_addPeering_64 : decode cX7_addPeering 64 = .ok (.invokevirtual 55, 3) := by decide +kernel
theorem dX7_addPeering_67 : decode cX7_addPeering 67 = .ok (.pop, 1) := by decide +kernel
theorem dX7_addPeering_68 : decode cX7_addPeering 68 = .ok (.aload_n 0, 1) := by decide +kernel
theorem dX7_addPeering_69 : decode cX7_addPeering 69 = .ok (.getfield 22, 3) := by decide +kernel
theorem dX7_addPeering_72 : decode cX7_addPeering 72 = .ok (.invokevirtual 32, 3) := by decide +kernel
theorem dX7_addPeering_75 : decode cX7_addPeering 75 = .ok (.iconst 1, 1) := by decide +kernel
theorem dX7_addPeering_76 : decode cX7_addPeering 76 = .ok (.isub, 1) := by decide +kernel
theorem dX7_addPeering_77 : decode cX7_addPeering 77 = .ok (.ireturn, 1) := by decide +kernel
set_option maxRecDepth 20000 in
theorem ggX7_addGroup_Jx4a65c_size_8abf5 : GoodIn wsX7_addGroup wsJx4a65c_size_8abf5 := goodIn_r _ [11, 12, 95, 96, 97] (by decide +kernel) (by decide +kernel)
set_option maxRecDepth 20000 in
theorem gX7_addGroup_Jx4a65c_size_8abf5 : GoodIn wsX7_addGroup (wsV RX7 32 RJx4a65c yJx4a65c_size_8abf5 wsJx4a65c_size_8abf5) := goodIn_app (goodIn_of _ (by decide +kernel)) ggX7_addGroup_Jx4a65c_size_8abf5
set_option maxRecDepth 20000 in
theorem ggX7_addGroup_X1_init : GoodIn wsX7_addGroup wsX1_init := goodIn_r _ [15, 16, 17, 18, 19, 20, 10, 21, 22, 23, 24, 25, 26, 27, 28, 29, 30, 31, 32, 33, 34, 35, 36, 95, 96, 97, 94] (by decide +kernel) (by decide +kernel)
set_option maxRecDepth 20000 in
theorem gX7_addGroup_X1_init : GoodIn wsX7_addGroup (wsX1_init) := ggX7_addGroup_X1_init
set_option maxRecDepth 20000 in
theorem ggX7_addGroup_Jx4a65c_add_9ea2d : GoodIn wsX7_addGroup wsJx4a65c_add_9ea2d := goodIn_r _ [40, 41, 42, 26, 12, 43, 44, 45, 10, 46, 47, 48, 49, 50, 51, 52, 53, 54, 25, 55, 56, 57, 58, 59, 60, 61, 62, 63, 64, 65, 66, 67, 68, 69, 70, 71, 72, 73, 74, 75, 76, 77, 78, 79, 80, 81, 82, 83, 84, 85, 86, 87, 88, 95, 96, 97] (by decide +kernel) (by decide +kernel)
set_option maxRecDepth 20000 in
theorem gX7_addGroup_Jx4a65c_add_9ea2d : GoodIn wsX7_addGroup (wsV RX7 55 RJx4a65c yJx4a65c_add_9ea2d wsJx4a65c_add_9ea2d) := goodIn_app (goodIn_of _ (by decide +kernel)) ggX7_addGroup_Jx4a65c_add_9ea2d
theorem dX7_addGroup_0 : decode cX7_addGroup 0 = .ok (.aload_n 0, 1) := by decide +kernel
theorem dX7_addGroup_1 : decode cX7_addGroup 1 = .ok (.getfield 25, 3) := by decide +kernel
theorem dX7_addGroup_4 : decode cX7_addGroup 4 = .ok (.invokevirtual 32, 3) := by decide +kernel
theorem dX7_addGroup_7 : decode cX7_addGroup 7 = .ok (.bipush 6, 2) := by decide +kernel
theorem dX7_addGroup_9 : decode cX7_addGroup 9 = .ok (.if_icmp .lt 13, 3) := by decide +kernel
theorem dX7_addGroup_12 : decode cX7_addGroup 12 = .ok (.new 36, 3) := by decide +kernel
theorem dX7_addGroup_15 : decode cX7_addGroup 15 = .ok (.dup, 1) := by decide +kernel
theorem dX7_addGroup_16 : decode cX7_addGroup 16 = .ok (.ldc 114, 2) := by decide +kernel
theorem dX7_addGroup_18 : decode cX7_addGroup 18 = .ok (.invokespecial 40, 3) := by decide +kernel
theorem dX7_addGroup_21 : decode cX7_addGroup 21 = .ok (.athrow, 1) := by decide +kernel
theorem dX7_addGroup_22 : decode cX7_addGroup 22 = .ok (.aload_n 0, 1) := by decide +kernel
theorem dX7_addGroup_23 : decode cX7_addGroup 23 = .ok (.getfield 25, 3) := by decide +kernel
theorem dX7_addGroup_26 : decode cX7_addGroup 26 = .ok (.new 116, 3) := by decide +kernel
theorem dX7_addGroup_29 : decode cX7_addGroup 29 = .ok (.dup, 1) := by decide +kernel
theorem dX7_addGroup_30 : decode cX7_addGroup 30 = .ok (.invokespecial 118, 3) := by decide +kernel
theorem dX7_addGroup_33 : decode cX7_addGroup 33 = .ok (.invokevirtual 55, 3) := by decide +kernel
theorem dX7_addGroup_36 : decode cX7_addGroup 36 = .ok (.pop, 1) := by decide +kernel
theorem dX7_addGroup_37 : decode cX7_addGroup 37 = .ok (.aload_n 0, 1) := by decide +kernel
theorem dX7_addGroup_38 : decode cX7_addGroup 38 = .ok (.getfield 25, 3) := by decide +kernel
theorem dX7_addGroup_41 : decode cX7_addGroup 41 = .ok (.invokevirtual 32, 3) := by decide +kernel
theorem dX7_addGroup_44 : decode cX7_addGroup 44 = .ok (.iconst 1, 1) := by decide +kernel
theorem dX7_addGroup_45 : decode cX7_addGroup 45 = .ok (.isub, 1) := by decide +kernel
theorem dX7_addGroup_46 : decode cX7_addGroup 46 = .ok (.ireturn, 1) := by decide +kernel
set_option maxRecDepth 20000 in
theorem ggX7_allow_X7_groupAt : GoodIn wsX7_allow wsX7_groupAt := goodIn_ca (goodIn_r _ [11, 12, 13, 14, 15, 16, 17, 18, 19, 20, 21, 10, 22, 23, 24, 25, 26, 27, 28, 29, 30, 31, 32, 33, 34, 35, 36, 37, 38, 39, 40, 41, 127, 128, 129, 130, 131, 132, 133, 134] (by decide +kernel) (by decide +kernel)) (goodIn_sub (fun _ h => List.mem_cons_of_mem _ (List.mem_append_left _ (List.mem_append_right _ h))) (by decide +kernel))
set_option maxRecDepth 20000 in
theorem gX7_allow_X7_groupAt : GoodIn wsX7_allow (wsV RX7 119 RX7 yX7_groupAt wsX7_groupAt) := goodIn_app (goodIn_of _ (by decide +kernel)) ggX7_allow_X7_groupAt
set_option maxRecDepth 20000 in
theorem ggX7_allow_X7_blockOf : GoodIn wsX7_allow wsX7_blockOf := goodIn_ca (goodIn_r _ [44, 45, 46, 47, 48, 49, 50, 51, 52, 53, 54, 55, 56, 57, 135, 136] (by decide +kernel) (by decide +kernel)) (goodIn_sub (fun _ h => List.mem_cons_of_mem _ (List.mem_append_right _ h)) (by decide +kernel))
set_option maxRecDepth 20000 in
theorem gX7_allow_X7_blockOf : GoodIn wsX7_allow (va_wsS RX7 28 yX7_blockOf wsX7_blockOf) := goodIn_app (goodIn_of _ (by decide +kernel)) ggX7_allow_X7_blockOf
set_option maxRecDepth 20000 in
theorem ggX7_allow_X7_portRange : GoodIn wsX7_allow wsX7_portRange := goodIn_ca (goodIn_r _ [60, 45, 46] (by decide +kernel) (by decide +kernel)) (goodIn_sub (fun _ h => List.mem_cons_of_mem _ (List.mem_append_right _ h)) (by decide +kernel))
set_option maxRecDepth 20000 in
theorem gX7_allow_X7_portRange : GoodIn wsX7_allow (va_wsS RX7 123 yX7_portRange wsX7_portRange) := goodIn_app (goodIn_of _ (by decide +kernel)) ggX7_allow_X7_portRange
set_option maxRecDepth 20000 in
theorem ggX7_allow_Jx4a65c_size_8abf5 : GoodIn wsX7_allow wsJx4a65c_size_8abf5 := goodIn_r _ [18, 19, 132, 133, 134] (by decide +kernel) (by decide +kernel)
set_option maxRecDepth 20000 in
theorem gX7_allow_Jx4a65c_size_8abf5 : GoodIn wsX7_allow (wsV RX7 32 RJx4a65c yJx4a65c_size_8abf5 wsJx4a65c_size_8abf5) := goodIn_app (goodIn_of _ (by decide +kernel)) ggX7_allow_Jx4a65c_size_8abf5
set_option maxRecDepth 20000 in
theorem ggX7_allow_X5_init : GoodIn wsX7_allow wsX5_init := goodIn_r _ [63, 64, 54, 55, 65, 66, 67, 68, 123, 124, 125, 126] (by decide +kernel) (by decide +kernel)
set_option maxRecDepth 20000 in
theorem gX7_allow_X5_init : GoodIn wsX7_allow (wsX5_init) := ggX7_allow_X5_init
set_option maxRecDepth 20000 in
theorem ggX7_allow_Jx4a65c_add_9ea2d : GoodIn wsX7_allow wsJx4a65c_add_9ea2d := goodIn_r _ [72, 73, 74, 41, 19, 75, 76, 77, 17, 78, 79, 80, 81, 82, 83, 84, 85, 86, 87, 88, 89, 90, 91, 92, 93, 94, 95, 96, 97, 98, 99, 100, 101, 102, 103, 104, 105, 106, 107, 108, 109, 110, 111, 112, 113, 114, 115, 116, 117, 118, 119, 120, 121, 132, 133, 134] (by decide +kernel) (by decide +kernel)
set_option maxRecDepth 20000 in
theorem gX7_allow_Jx4a65c_add_9ea2d : GoodIn wsX7_allow (wsV RX7 55 RJx4a65c yJx4a65c_add_9ea2d wsJx4a65c_add_9ea2d) := goodIn_app (goodIn_of _ (by decide +kernel)) ggX7_allow_Jx4a65c_add_9ea2d
theorem dX7_allow_0 : decode cX7_allow 0 = .ok (.aload_n 0, 1) := by decide +kernel
theorem dX7_allow_1 : decode cX7_allow 1 = .ok (.iload_n 1, 1) := by decide +kernel
theorem dX7_allow_2 : decode cX7_allow 2 = .ok (.invokevirtual 119, 3) := by decide +kernel
theorem dX7_allow_5 : decode cX7_allow 5 = .ok (.astore 7, 2) := by decide +kernel
theorem dX7_allow_7 : decode cX7_allow 7 = .ok (.iload_n 3, 1) := by decide +kernel
theorem dX7_allow_8 : decode cX7_allow 8 = .ok (.iload 4, 2) := by decide +kernel
theorem dX7_allow_10 : decode cX7_allow 10 = .ok (.invokestatic 28, 3) := by decide +kernel
theorem dX7_allow_13 : decode cX7_allow 13 = .ok (.astore 8, 2) := by decide +kernel
theorem dX7_allow_15 : decode cX7_allow 15 = .ok (.iload 5, 2) := by decide +kernel
theorem dX7_allow_17 : decode cX7_allow 17 = .ok (.iload 6, 2) := by decide +kernel
theorem dX7_allow_19 : decode cX7_allow 19 = .ok (.invokestatic 123, 3) := by decide +kernel
theorem dX7_allow_22 : decode cX7_allow 22 = .ok (.istore 9, 2) := by decide +kernel
theorem dX7_allow_24 : decode cX7_allow 24 = .ok (.aload 7, 2) := by decide +kernel
theorem dX7_allow_26 : decode cX7_allow 26 = .ok (.getfield 127, 3) := by decide +kernel
theorem dX7_allow_29 : decode cX7_allow 29 = .ok (.invokevirtual 32, 3) := by decide +kernel
theorem dX7_allow_32 : decode cX7_allow 32 = .ok (.bipush 10, 2) := by decide +kernel
theorem dX7_allow_34 : decode cX7_allow 34 = .ok (.if_icmp .lt 13, 3) := by decide +kernel
theorem dX7_allow_37 : decode cX7_allow 37 = .ok (.new 36, 3) := by decide +kernel
theorem dX7_allow_40 : decode cX7_allow 40 = .ok (.dup, 1) := by decide +kernel
theorem dX7_allow_41 : decode cX7_allow 41 = .ok (.ldc 130, 2) := by decide +kernel
theorem dX7_allow_43 : decode cX7_allow 43 = .ok (.invokespecial 40, 3) := by decide +kernel
theorem dX7_allow_46 : decode cX7_allow 46 = .ok (.athrow, 1) := by decide +kernel
theorem dX7_allow_47 : decode cX7_allow 47 = .ok (.aload 7, 2) := by decide +kernel
theorem dX7_allow_49 : decode cX7_allow 49 = .ok (.getfield 127, 3) := by decide +kernel
theorem dX7_allow_52 : decode cX7_allow 52 = .ok (.new 132, 3) := by decide +kernel
theorem dX7_allow_55 : decode cX7_allow 55 = .ok (.dup, 1) := by decide +kernel
theorem dX7_allow_56 : decode cX7_allow 56 = .ok (.iload_n 2, 1) := by decide +kernel
theorem dX7_allow_57 : decode cX7_allow 57 = .ok (.iconst 1, 1) := by decide +kernel
theorem dX7_allow_58 : decode cX7_allow 58 = .ok (.aload 8, 2) := by decide +kernel
theorem dX7_allow_60 : decode cX7_allow 60 = .ok (.iload 9, 2) := by decide +kernel
theorem dX7_allow_62 : decode cX7_allow 62 = .ok (.invokespecial 134, 3) := by decide +kernel
theorem dX7_allow_65 : decode cX7_allow 65 = .ok (.invokevirtual 55, 3) := by decide +kernel
theorem dX7_allow_68 : decode cX7_allow 68 = .ok (.pop, 1) := by decide +kernel
theorem dX7_allow_69 : decode cX7_allow 69 = .ok (.aload 7, 2) := by decide +kernel
theorem dX7_allow_71 : decode cX7_allow 71 = .ok (.getfield 127, 3) := by decide +kernel
theorem dX7_allow_74 : decode cX7_allow 74 = .ok (.invokevirtual 32, 3) := by decide +kernel
theorem dX7_allow_77 : decode cX7_allow 77 = .ok (.ireturn, 1) := by decide +kernel
set_option maxRecDepth 20000 in
theorem ggX7_clearGroup_X7_groupAt : GoodIn wsX7_clearGroup wsX7_groupAt := goodIn_ca (goodIn_r _ [6, 7, 8, 9, 10, 11, 12, 13, 14, 15, 16, 5, 17, 18, 19, 20, 21, 22, 23, 24, 25, 26, 27, 28, 29, 30, 31, 32, 33, 34, 35, 36, 44, 45, 46, 47, 48, 49, 50, 51] (by decide +kernel) (by decide +kernel)) (goodIn_sub (fun _ h => List.mem_cons_of_mem _ (List.mem_append_right _ h)) (by decide +kernel))
set_option maxRecDepth 20000 in
theorem gX7_clearGroup_X7_groupAt : GoodIn wsX7_clearGroup (wsV RX7 119 RX7 yX7_groupAt wsX7_groupAt) := goodIn_app (goodIn_of _ (by decide +kernel)) ggX7_clearGroup_X7_groupAt
set_option maxRecDepth 20000 in
theorem ggX7_clearGroup_Jx4a65c_size_8abf5 : GoodIn wsX7_clearGroup wsJx4a65c_size_8abf5 := goodIn_r _ [13, 14, 49, 50, 51] (by decide +kernel) (by decide +kernel)
set_option maxRecDepth 20000 in
theorem gX7_clearGroup_Jx4a65c_size_8abf5 : GoodIn wsX7_clearGroup (wsV RX7 32 RJx4a65c yJx4a65c_size_8abf5 wsJx4a65c_size_8abf5) := goodIn_app (goodIn_of _ (by decide +kernel)) ggX7_clearGroup_Jx4a65c_size_8abf5
set_option maxRecDepth 20000 in
theorem ggX7_clearGroup_Jx4a65c_clear_da8c8 : GoodIn wsX7_clearGroup wsJx4a65c_clear_da8c8 := goodIn_r _ [40, 41, 42, 36, 14, 49, 50, 51] (by decide +kernel) (by decide +kernel)
set_option maxRecDepth 20000 in
theorem gX7_clearGroup_Jx4a65c_clear_da8c8 : GoodIn wsX7_clearGroup (wsV RX7 137 RJx4a65c yJx4a65c_clear_da8c8 wsJx4a65c_clear_da8c8) := goodIn_app (goodIn_of _ (by decide +kernel)) ggX7_clearGroup_Jx4a65c_clear_da8c8
theorem dX7_clearGroup_0 : decode cX7_clearGroup 0 = .ok (.aload_n 0, 1) := by decide +kernel
theorem dX7_clearGroup_1 : decode cX7_clearGroup 1 = .ok (.iload_n 1, 1) := by decide +kernel
theorem dX7_clearGroup_2 : decode cX7_clearGroup 2 = .ok (.invokevirtual 119, 3) := by decide +kernel
theorem dX7_clearGroup_5 : decode cX7_clearGroup 5 = .ok (.astore_n 2, 1) := by decide +kernel
theorem dX7_clearGroup_6 : decode cX7_clearGroup 6 = .ok (.aload_n 2, 1) := by decide +kernel
theorem dX7_clearGroup_7 : decode cX7_clearGroup 7 = .ok (.getfield 127, 3) := by decide +kernel
theorem dX7_clearGroup_10 : decode cX7_clearGroup 10 = .ok (.invokevirtual 32, 3) := by decide +kernel
theorem dX7_clearGroup_13 : decode cX7_clearGroup 13 = .ok (.istore_n 3, 1) := by decide +kernel
theorem dX7_clearGroup_14 : decode cX7_clearGroup 14 = .ok (.aload_n 2, 1) := by decide +kernel
theorem dX7_clearGroup_15 : decode cX7_clearGroup 15 = .ok (.getfield 127, 3) := by decide +kernel
theorem dX7_clearGroup_18 : decode cX7_clearGroup 18 = .ok (.invokevirtual 137, 3) := by decide +kernel
theorem dX7_clearGroup_21 : decode cX7_clearGroup 21 = .ok (.iload_n 3, 1) := by decide +kernel
theorem dX7_clearGroup_22 : decode cX7_clearGroup 22 = .ok (.ireturn, 1) := by decide +kernel
set_option maxRecDepth 20000 in
theorem ggX7_setGroup_X7_hostAt : GoodIn wsX7_setGroup wsX7_hostAt := goodIn_ca (goodIn_r _ [6, 7, 8, 9, 10, 11, 12, 13, 14, 15, 16, 5, 17, 18, 19, 20, 21, 22, 23, 24, 25, 26, 27, 28, 29, 30, 31, 32, 33, 34, 35, 36, 47, 48, 49, 50, 51, 52, 53, 54] (by decide +kernel) (by decide +kernel)) (goodIn_sub (fun _ h => List.mem_cons_of_mem _ (List.mem_append_right _ h)) (by decide +kernel))
set_option maxRecDepth 20000 in
theorem gX7_setGroup_X7_hostAt : GoodIn wsX7_setGroup (wsV RX7 140 RX7 yX7_hostAt wsX7_hostAt) := goodIn_app (goodIn_of _ (by decide +kernel)) ggX7_setGroup_X7_hostAt
set_option maxRecDepth 20000 in
theorem ggX7_setGroup_Jx4a65c_size_8abf5 : GoodIn wsX7_setGroup wsJx4a65c_size_8abf5 := goodIn_r _ [13, 14, 52, 53, 54] (by decide +kernel) (by decide +kernel)
set_option maxRecDepth 20000 in
theorem gX7_setGroup_Jx4a65c_size_8abf5 : GoodIn wsX7_setGroup (wsV RX7 32 RJx4a65c yJx4a65c_size_8abf5 wsJx4a65c_size_8abf5) := goodIn_app (goodIn_of _ (by decide +kernel)) ggX7_setGroup_Jx4a65c_size_8abf5
set_option maxRecDepth 20000 in
theorem ggX7_setGroup_X7_checkIndex : GoodIn wsX7_setGroup wsX7_checkIndex := goodIn_ca (goodIn_r _ [17, 18, 19] (by decide +kernel) (by decide +kernel)) (goodIn_sub (fun _ h => List.mem_cons_of_mem _ (List.mem_append_right _ h)) (by decide +kernel))
set_option maxRecDepth 20000 in
theorem gX7_setGroup_X7_checkIndex : GoodIn wsX7_setGroup (va_wsS RX7 144 yX7_checkIndex wsX7_checkIndex) := goodIn_app (goodIn_of _ (by decide +kernel)) ggX7_setGroup_X7_checkIndex
set_option maxRecDepth 20000 in
theorem ggX7_setGroup_X2_isInGroup : GoodIn wsX7_setGroup wsX2_isInGroup := goodIn_r _ [41, 42, 55, 56, 57] (by decide +kernel) (by decide +kernel)
set_option maxRecDepth 20000 in
theorem gX7_setGroup_X2_isInGroup : GoodIn wsX7_setGroup (wsV RX7 148 RX2 yX2_isInGroup wsX2_isInGroup) := goodIn_app (goodIn_of _ (by decide +kernel)) ggX7_setGroup_X2_isInGroup
set_option maxRecDepth 20000 in
theorem ggX7_setGroup_X2_putInGroup : GoodIn wsX7_setGroup wsX2_putInGroup := goodIn_r _ [46, 42, 55, 56, 57] (by decide +kernel) (by decide +kernel)
set_option maxRecDepth 20000 in
theorem gX7_setGroup_X2_putInGroup : GoodIn wsX7_setGroup (wsV RX7 151 RX2 yX2_putInGroup wsX2_putInGroup) := goodIn_app (goodIn_of _ (by decide +kernel)) ggX7_setGroup_X2_putInGroup
theorem dX7_setGroup_0 : decode cX7_setGroup 0 = .ok (.aload_n 0, 1) := by decide +kernel
theorem dX7_setGroup_1 : decode cX7_setGroup 1 = .ok (.iload_n 1, 1) := by decide +kernel
theorem dX7_setGroup_2 : decode cX7_setGroup 2 = .ok (.invokevirtual 140, 3) := by decide +kernel
theorem dX7_setGroup_5 : decode cX7_setGroup 5 = .ok (.astore 4, 2) := by decide +kernel
theorem dX7_setGroup_7 : decode cX7_setGroup 7 = .ok (.iload_n 2, 1) := by decide +kernel
theorem dX7_setGroup_8 : decode cX7_setGroup 8 = .ok (.aload_n 0, 1) := by decide +kernel
theorem dX7_setGroup_9 : decode cX7_setGroup 9 = .ok (.getfield 25, 3) := by decide +kernel
theorem dX7_setGroup_12 : decode cX7_setGroup 12 = .ok (.invokevirtual 32, 3) := by decide +kernel
theorem dX7_setGroup_15 : decode cX7_setGroup 15 = .ok (.invokestatic 144, 3) := by decide +kernel
theorem dX7_setGroup_18 : decode cX7_setGroup 18 = .ok (.aload 4, 2) := by decide +kernel
theorem dX7_setGroup_20 : decode cX7_setGroup 20 = .ok (.iload_n 2, 1) := by decide +kernel
theorem dX7_setGroup_21 : decode cX7_setGroup 21 = .ok (.invokevirtual 148, 3) := by decide +kernel
theorem dX7_setGroup_24 : decode cX7_setGroup 24 = .ok (.istore 5, 2) := by decide +kernel
theorem dX7_setGroup_26 : decode cX7_setGroup 26 = .ok (.aload 4, 2) := by decide +kernel
theorem dX7_setGroup_28 : decode cX7_setGroup 28 = .ok (.iload_n 2, 1) := by decide +kernel
theorem dX7_setGroup_29 : decode cX7_setGroup 29 = .ok (.iload_n 3, 1) := by decide +kernel
theorem dX7_setGroup_30 : decode cX7_setGroup 30 = .ok (.invokevirtual 151, 3) := by decide +kernel
theorem dX7_setGroup_33 : decode cX7_setGroup 33 = .ok (.iload 5, 2) := by decide +kernel
theorem dX7_setGroup_35 : decode cX7_setGroup 35 = .ok (.ireturn, 1) := by decide +kernel
set_option maxRecDepth 20000 in
theorem ggX7_putRule_X7_subnetAt : GoodIn wsX7_putRule wsX7_subnetAt := goodIn_ca (goodIn_r _ [13, 14, 15, 16, 17, 18, 19, 20, 21, 22, 23, 12, 24, 1, 2, 25, 26, 27, 28, 29, 30, 31, 32, 33, 34, 35, 36, 37, 38, 39, 40, 41, 131, 132, 133, 134, 135, 136, 137, 138] (by decide +kernel) (by decide +kernel)) (goodIn_sub (fun _ h => List.mem_cons_of_mem _ (List.mem_append_left _ (List.mem_append_left _ (List.mem_append_right _ h)))) (by decide +kernel))
set_option maxRecDepth 20000 in
theorem gX7_putRule_X7_subnetAt : GoodIn wsX7_putRule (wsV RX7 84 RX7 yX7_subnetAt wsX7_subnetAt) := goodIn_app (goodIn_of _ (by decide +kernel)) ggX7_putRule_X7_subnetAt
set_option maxRecDepth 20000 in
theorem ggX7_putRule_Jx4a65c_size_8abf5 : GoodIn wsX7_putRule wsJx4a65c_size_8abf5 := goodIn_r _ [20, 21, 136, 137, 138] (by decide +kernel) (by decide +kernel)
set_option maxRecDepth 20000 in
theorem gX7_putRule_Jx4a65c_size_8abf5 : GoodIn wsX7_putRule (wsV RX7 32 RJx4a65c yJx4a65c_size_8abf5 wsJx4a65c_size_8abf5) := goodIn_app (goodIn_of _ (by decide +kernel)) ggX7_putRule_Jx4a65c_size_8abf5
set_option maxRecDepth 20000 in
theorem ggX7_putRule_X7_blockOf : GoodIn wsX7_putRule wsX7_blockOf := goodIn_ca (goodIn_r _ [44, 45, 46, 47, 48, 49, 50, 51, 52, 53, 54, 55, 56, 57, 139, 140] (by decide +kernel) (by decide +kernel)) (goodIn_sub (fun _ h => List.mem_cons_of_mem _ (List.mem_append_right _ h)) (by decide +kernel))
set_option maxRecDepth 20000 in
theorem gX7_putRule_X7_blockOf : GoodIn wsX7_putRule (va_wsS RX7 28 yX7_blockOf wsX7_blockOf) := goodIn_app (goodIn_of _ (by decide +kernel)) ggX7_putRule_X7_blockOf
set_option maxRecDepth 20000 in
theorem ggX7_putRule_X7_portRange : GoodIn wsX7_putRule wsX7_portRange := goodIn_ca (goodIn_r _ [60, 45, 46] (by decide +kernel) (by decide +kernel)) (goodIn_sub (fun _ h => List.mem_cons_of_mem _ (List.mem_append_right _ h)) (by decide +kernel))
set_option maxRecDepth 20000 in
theorem gX7_putRule_X7_portRange : GoodIn wsX7_putRule (va_wsS RX7 123 yX7_portRange wsX7_portRange) := goodIn_app (goodIn_of _ (by decide +kernel)) ggX7_putRule_X7_portRange
set_option maxRecDepth 20000 in
theorem ggX7_putRule_X5_init : GoodIn wsX7_putRule wsX5_init := goodIn_r _ [63, 64, 54, 55, 65, 66, 67, 68, 127, 128, 129, 130] (by decide +kernel) (by decide +kernel)
set_option maxRecDepth 20000 in
theorem gX7_putRule_X5_init : GoodIn wsX7_putRule (wsX5_init) := ggX7_putRule_X5_init
set_option maxRecDepth 20000 in
theorem ggX7_putRule_Jx4a65c_add_7a177 : GoodIn wsX7_putRule wsJx4a65c_add_7a177 := goodIn_r _ [72, 73, 74, 21, 41, 75, 76, 77, 78, 79, 80, 81, 19, 82, 83, 84, 85, 86, 87, 88, 89, 90, 91, 92, 93, 94, 95, 96, 97, 98, 99, 100, 101, 102, 103, 104, 105, 106, 107, 108, 109, 110, 111, 112, 113, 114, 115, 116, 117, 118, 119, 120, 121, 122, 136, 137, 138] (by decide +kernel) (by decide +kernel)
set_option maxRecDepth 20000 in
theorem gX7_putRule_Jx4a65c_add_7a177 : GoodIn wsX7_putRule (wsV RX7 163 RJx4a65c yJx4a65c_add_7a177 wsJx4a65c_add_7a177) := goodIn_app (goodIn_of _ (by decide +kernel)) ggX7_putRule_Jx4a65c_add_7a177
theorem dX7_putRule_0 : decode cX7_putRule 0 = .ok (.aload_n 0, 1) := by decide +kernel
theorem dX7_putRule_1 : decode cX7_putRule 1 = .ok (.iload_n 1, 1) := by decide +kernel
theorem dX7_putRule_2 : decode cX7_putRule 2 = .ok (.invokevirtual 84, 3) := by decide +kernel
theorem dX7_putRule_5 : decode cX7_putRule 5 = .ok (.astore 9, 2) := by decide +kernel
theorem dX7_putRule_7 : decode cX7_putRule 7 = .ok (.iload_n 2, 1) := by decide +kernel
theorem dX7_putRule_8 : decode cX7_putRule 8 = .ok (.ifCond .lt 15, 3) := by decide +kernel
theorem dX7_putRule_11 : decode cX7_putRule 11 = .ok (.iload_n 2, 1) := by decide +kernel
theorem dX7_putRule_12 : decode cX7_putRule 12 = .ok (.aload 9, 2) := by decide +kernel
theorem dX7_putRule_14 : decode cX7_putRule 14 = .ok (.getfield 155, 3) := by decide +kernel
theorem dX7_putRule_17 : decode cX7_putRule 17 = .ok (.invokevirtual 32, 3) := by decide +kernel
theorem dX7_putRule_20 : decode cX7_putRule 20 = .ok (.if_icmp .le 13, 3) := by decide +kernel
theorem dX7_putRule_23 : decode cX7_putRule 23 = .ok (.new 156, 3) := by decide +kernel
theorem dX7_putRule_26 : decode cX7_putRule 26 = .ok (.dup, 1) := by decide +kernel
theorem dX7_putRule_27 : decode cX7_putRule 27 = .ok (.ldc 158, 2) := by decide +kernel
theorem dX7_putRule_29 : decode cX7_putRule 29 = .ok (.invokespecial 160, 3) := by decide +kernel
theorem dX7_putRule_32 : decode cX7_putRule 32 = .ok (.athrow, 1) := by decide +kernel
theorem dX7_putRule_33 : decode cX7_putRule 33 = .ok (.iload 5, 2) := by decide +kernel
theorem dX7_putRule_35 : decode cX7_putRule 35 = .ok (.iload 6, 2) := by decide +kernel
theorem dX7_putRule_37 : decode cX7_putRule 37 = .ok (.invokestatic 28, 3) := by decide +kernel
theorem dX7_putRule_40 : decode cX7_putRule 40 = .ok (.astore 10, 2) := by decide +kernel
theorem dX7_putRule_42 : decode cX7_putRule 42 = .ok (.iload 7, 2) := by decide +kernel
theorem dX7_putRule_44 : decode cX7_putRule 44 = .ok (.iload 8, 2) := by decide +kernel
theorem dX7_putRule_46 : decode cX7_putRule 46 = .ok (.invokestatic 123, 3) := by decide +kernel
theorem dX7_putRule_49 : decode cX7_putRule 49 = .ok (.istore 11, 2) := by decide +kernel
theorem dX7_putRule_51 : decode cX7_putRule 51 = .ok (.aload 9, 2) := by decide +kernel
theorem dX7_putRule_53 : decode cX7_putRule 53 = .ok (.getfield 155, 3) := by decide +kernel
theorem dX7_putRule_56 : decode cX7_putRule 56 = .ok (.invokevirtual 32, 3) := by decide +kernel
theorem dX7_putRule_59 : decode cX7_putRule 59 = .ok (.bipush 12, 2) := by decide +kernel
theorem dX7_putRule_61 : decode cX7_putRule 61 = .ok (.if_icmp .lt 13, 3) := by decide +kernel
theorem dX7_putRule_64 : decode cX7_putRule 64 = .ok (.new 36, 3) := by decide +kernel
theorem dX7_putRule_67 : decode cX7_putRule 67 = .ok (.dup, 1) := by decide +kernel
theorem dX7_putRule_68 : decode cX7_putRule 68 = .ok (.ldc 161, 2) := by decide +kernel
theorem dX7_putRule_70 : decode cX7_putRule 70 = .ok (.invokespecial 40, 3) := by decide +kernel
theorem dX7_putRule_73 : decode cX7_putRule 73 = .ok (.athrow, 1) := by decide +kernel
theorem dX7_putRule_74 : decode cX7_putRule 74 = .ok (.aload 9, 2) := by decide +kernel
theorem dX7_putRule_76 : decode cX7_putRule 76 = .ok (.getfield 155, 3) := by decide +kernel
theorem dX7_putRule_79 : decode cX7_putRule 79 = .ok (.iload_n 2, 1) := by decide +kernel
theorem dX7_putRule_80 : decode cX7_putRule 80 = .ok (.new 132, 3) := by decide +kernel
theorem dX7_putRule_83 : decode cX7_putRule 83 = .ok (.dup, 1) := by decide +kernel
theorem dX7_putRule_84 : decode cX7_putRule 84 = .ok (.iload_n 3, 1) := by decide +kernel
theorem dX7_putRule_85 : decode cX7_putRule 85 = .ok (.iload 4, 2) := by decide +kernel
theorem dX7_putRule_87 : decode cX7_putRule 87 = .ok (.aload 10, 2) := by decide +kernel
theorem dX7_putRule_89 : decode cX7_putRule 89 = .ok (.iload 11, 2) := by decide +kernel
theorem dX7_putRule_91 : decode cX7_putRule 91 = .ok (.invokespecial 134, 3) := by decide +kernel
theorem dX7_putRule_94 : decode cX7_putRule 94 = .ok (.invokevirtual 163, 3) := by decide +kernel
theorem dX7_putRule_97 : decode cX7_putRule 97 = .ok (.aload 9, 2) := by decide +kernel
theorem dX7_putRule_99 : decode cX7_putRule 99 = .ok (.getfield 155, 3) := by decide +kernel
theorem dX7_putRule_102 : decode cX7_putRule 102 = .ok (.invokevirtual 32, 3) := by decide +kernel
theorem dX7_putRule_105 : decode cX7_putRule 105 = .ok (.ireturn, 1) := by decide +kernel
set_option maxRecDepth 20000 in
theorem ggX7_removeRule_X7_subnetAt : GoodIn wsX7_removeRule wsX7_subnetAt := goodIn_ca (goodIn_r _ [6, 7, 8, 9, 10, 11, 12, 13, 14, 15, 16, 5, 17, 18, 19, 20, 21, 22, 23, 24, 25, 26, 27, 28, 29, 30, 31, 32, 33, 34, 35, 36, 55, 56, 57, 58, 59, 60, 61, 62] (by decide +kernel) (by decide +kernel)) (goodIn_sub (fun _ h => List.mem_cons_of_mem _ (List.mem_append_right _ h)) (by decide +kernel))
set_option maxRecDepth 20000 in
theorem gX7_removeRule_X7_subnetAt : GoodIn wsX7_removeRule (wsV RX7 84 RX7 yX7_subnetAt wsX7_subnetAt) := goodIn_app (goodIn_of _ (by decide +kernel)) ggX7_removeRule_X7_subnetAt
set_option maxRecDepth 20000 in
theorem ggX7_removeRule_Jx4a65c_size_8abf5 : GoodIn wsX7_removeRule wsJx4a65c_size_8abf5 := goodIn_r _ [13, 14, 60, 61, 62] (by decide +kernel) (by decide +kernel)
set_option maxRecDepth 20000 in
theorem gX7_removeRule_Jx4a65c_size_8abf5 : GoodIn wsX7_removeRule (wsV RX7 32 RJx4a65c yJx4a65c_size_8abf5 wsJx4a65c_size_8abf5) := goodIn_app (goodIn_of _ (by decide +kernel)) ggX7_removeRule_Jx4a65c_size_8abf5
set_option maxRecDepth 20000 in
theorem ggX7_removeRule_X7_checkIndex : GoodIn wsX7_removeRule wsX7_checkIndex := goodIn_ca (goodIn_r _ [17, 18, 19] (by decide +kernel) (by decide +kernel)) (goodIn_sub (fun _ h => List.mem_cons_of_mem _ (List.mem_append_right _ h)) (by decide +kernel))
set_option maxRecDepth 20000 in
theorem gX7_removeRule_X7_checkIndex : GoodIn wsX7_removeRule (va_wsS RX7 144 yX7_checkIndex wsX7_checkIndex) := goodIn_app (goodIn_of _ (by decide +kernel)) ggX7_removeRule_X7_checkIndex
set_option maxRecDepth 20000 in
theorem ggX7_removeRule_Jx4a65c_remove_915e3 : GoodIn wsX7_removeRule wsJx4a65c_remove_915e3 := goodIn_r _ [40, 14, 36, 24, 25, 26, 27, 28, 29, 30, 31, 41, 42, 43, 12, 44, 45, 46, 47, 48, 49, 50, 60, 61, 62] (by decide +kernel) (by decide +kernel)
set_option maxRecDepth 20000 in
theorem gX7_removeRule_Jx4a65c_remove_915e3 : GoodIn wsX7_removeRule (wsV RX7 166 RJx4a65c yJx4a65c_remove_915e3 wsJx4a65c_remove_915e3) := goodIn_app (goodIn_of _ (by decide +kernel)) ggX7_removeRule_Jx4a65c_remove_915e3
theorem dX7_removeRule_0 : decode cX7_removeRule 0 = .ok (.aload_n 0, 1) := by decide +kernel
theorem dX7_removeRule_1 : decode cX7_removeRule 1 = .ok (.iload_n 1, 1) := by decide +kernel
theorem dX7_removeRule_2 : decode cX7_removeRule 2 = .ok (.invokevirtual 84, 3) := by decide +kernel
theorem dX7_removeRule_5 : decode cX7_removeRule 5 = .ok (.astore_n 3, 1) := by decide +kernel
theorem dX7_removeRule_6 : decode cX7_removeRule 6 = .ok (.iload_n 2, 1) := by decide +kernel
theorem dX7_removeRule_7 : decode cX7_removeRule 7 = .ok (.aload_n 3, 1) := by decide +kernel
theorem dX7_removeRule_8 : decode cX7_removeRule 8 = .ok (.getfield 155, 3) := by decide +kernel
theorem dX7_removeRule_11 : decode cX7_removeRule 11 = .ok (.invokevirtual 32, 3) := by decide +kernel
theorem dX7_removeRule_14 : decode cX7_removeRule 14 = .ok (.invokestatic 144, 3) := by decide +kernel
theorem dX7_removeRule_17 : decode cX7_removeRule 17 = .ok (.aload_n 3, 1) := by decide +kernel
theorem dX7_removeRule_18 : decode cX7_removeRule 18 = .ok (.getfield 155, 3) := by decide +kernel
theorem dX7_removeRule_21 : decode cX7_removeRule 21 = .ok (.iload_n 2, 1) := by decide +kernel
theorem dX7_removeRule_22 : decode cX7_removeRule 22 = .ok (.invokevirtual 166, 3) := by decide +kernel
theorem dX7_removeRule_25 : decode cX7_removeRule 25 = .ok (.pop, 1) := by decide +kernel
theorem dX7_removeRule_26 : decode cX7_removeRule 26 = .ok (.aload_n 3, 1) := by decide +kernel
theorem dX7_removeRule_27 : decode cX7_removeRule 27 = .ok (.getfield 155, 3) := by decide +kernel
theorem dX7_removeRule_30 : decode cX7_removeRule 30 = .ok (.invokevirtual 32, 3) := by decide +kernel
theorem dX7_removeRule_33 : decode cX7_removeRule 33 = .ok (.ireturn, 1) := by decide +kernel
set_option maxRecDepth 20000 in
theorem ggX7_setRoute_X7_subnetAt : GoodIn wsX7_setRoute wsX7_subnetAt := goodIn_ca (goodIn_r _ [12, 13, 14, 15, 16, 17, 18, 19, 20, 21, 22, 11, 23, 24, 25, 26, 27, 28, 29, 30, 31, 32, 33, 34, 35, 36, 37, 38, 39, 40, 41, 42, 146, 147, 148, 149, 150, 157, 158, 159] (by decide +kernel) (by decide +kernel)) (goodIn_sub (fun _ h => List.mem_cons_of_mem _ (List.mem_append_left _ (List.mem_append_right _ h))) (by decide +kernel))
set_option maxRecDepth 20000 in
theorem gX7_setRoute_X7_subnetAt : GoodIn wsX7_setRoute (wsV RX7 84 RX7 yX7_subnetAt wsX7_subnetAt) := goodIn_app (goodIn_of _ (by decide +kernel)) ggX7_setRoute_X7_subnetAt
set_option maxRecDepth 20000 in
theorem ggX7_setRoute_Jx4a65c_size_8abf5 : GoodIn wsX7_setRoute wsJx4a65c_size_8abf5 := goodIn_r _ [19, 20, 157, 158, 159] (by decide +kernel) (by decide +kernel)
set_option maxRecDepth 20000 in
theorem gX7_setRoute_Jx4a65c_size_8abf5 : GoodIn wsX7_setRoute (wsV RX7 32 RJx4a65c yJx4a65c_size_8abf5 wsJx4a65c_size_8abf5) := goodIn_app (goodIn_of _ (by decide +kernel)) ggX7_setRoute_Jx4a65c_size_8abf5
set_option maxRecDepth 20000 in
theorem ggX7_setRoute_X7_checkIndex : GoodIn wsX7_setRoute wsX7_checkIndex := goodIn_ca (goodIn_r _ [23, 24, 25] (by decide +kernel) (by decide +kernel)) (goodIn_sub (fun _ h => List.mem_cons_of_mem _ (List.mem_append_left _ (List.mem_append_right _ h))) (by decide +kernel))
set_option maxRecDepth 20000 in
theorem gX7_setRoute_X7_checkIndex : GoodIn wsX7_setRoute (va_wsS RX7 144 yX7_checkIndex wsX7_checkIndex) := goodIn_app (goodIn_of _ (by decide +kernel)) ggX7_setRoute_X7_checkIndex
set_option maxRecDepth 20000 in
theorem ggX7_setRoute_X7_blockOf : GoodIn wsX7_setRoute wsX7_blockOf := goodIn_ca (goodIn_r _ [45, 46, 47, 48, 49, 50, 51, 52, 53, 54, 55, 56, 57, 58, 160, 161] (by decide +kernel) (by decide +kernel)) (goodIn_sub (fun _ h => List.mem_cons_of_mem _ (List.mem_append_right _ h)) (by decide +kernel))
set_option maxRecDepth 20000 in
theorem gX7_setRoute_X7_blockOf : GoodIn wsX7_setRoute (va_wsS RX7 28 yX7_blockOf wsX7_blockOf) := goodIn_app (goodIn_of _ (by decide +kernel)) ggX7_setRoute_X7_blockOf
set_option maxRecDepth 20000 in
theorem ggX7_setRoute_X6_routePlace : GoodIn wsX7_setRoute wsX6_routePlace := goodIn_r _ [63, 64, 65, 66, 67, 16, 17, 18, 19, 20, 68, 27, 28, 29, 30, 31, 32, 33, 34, 35, 36, 37, 38, 39, 40, 41, 42, 69, 70, 71, 50, 72, 57, 58, 151, 152, 153, 154, 155, 156, 157, 158, 159, 160, 161] (by decide +kernel) (by decide +kernel)
set_option maxRecDepth 20000 in
theorem gX7_setRoute_X6_routePlace : GoodIn wsX7_setRoute (wsV RX7 169 RX6 yX6_routePlace wsX6_routePlace) := goodIn_app (goodIn_of _ (by decide +kernel)) ggX7_setRoute_X6_routePlace
set_option maxRecDepth 20000 in
theorem ggX7_setRoute_X7_replaceRoute : GoodIn wsX7_setRoute wsX7_replaceRoute := goodIn_r _ [75, 4, 76, 77, 26, 27, 28, 18, 29, 20, 30, 31, 32, 33, 34, 35, 36, 37, 38, 39, 40, 41, 42, 78, 79, 80, 81, 82, 83, 84, 85, 86, 87, 88, 89, 90, 91, 151, 152, 153, 154, 155, 156, 157, 158, 159] (by decide +kernel) (by decide +kernel)
set_option maxRecDepth 20000 in
theorem gX7_setRoute_X7_replaceRoute : GoodIn wsX7_setRoute (va_wsS RX7 176 yX7_replaceRoute wsX7_replaceRoute) := goodIn_app (goodIn_of _ (by decide +kernel)) ggX7_setRoute_X7_replaceRoute
set_option maxRecDepth 20000 in
theorem ggX7_setRoute_X4_init : GoodIn wsX7_setRoute wsX4_init := goodIn_r _ [94, 95, 55, 56, 96, 97, 155, 156] (by decide +kernel) (by decide +kernel)
set_option maxRecDepth 20000 in
theorem gX7_setRoute_X4_init : GoodIn wsX7_setRoute (wsX4_init) := ggX7_setRoute_X4_init
set_option maxRecDepth 20000 in
theorem ggX7_setRoute_Jx4a65c_add_9ea2d : GoodIn wsX7_setRoute wsJx4a65c_add_9ea2d := goodIn_r _ [101, 86, 87, 42, 20, 102, 103, 104, 18, 105, 106, 107, 108, 109, 110, 111, 112, 113, 114, 115, 116, 117, 118, 119, 120, 121, 122, 123, 124, 125, 126, 127, 128, 129, 130, 131, 132, 133, 134, 135, 136, 137, 138, 139, 140, 141, 142, 143, 144, 145, 89, 90, 91, 157, 158, 159] (by decide +kernel) (by decide +kernel)
set_option maxRecDepth 20000 in
theorem gX7_setRoute_Jx4a65c_add_9ea2d : GoodIn wsX7_setRoute (wsV RX7 55 RJx4a65c yJx4a65c_add_9ea2d wsJx4a65c_add_9ea2d) := goodIn_app (goodIn_of _ (by decide +kernel)) ggX7_setRoute_Jx4a65c_add_9ea2d
theorem dX7_setRoute_0 : decode cX7_setRoute 0 = .ok (.aload_n 0, 1) := by decide +kernel
theorem dX7_setRoute_1 : decode cX7_setRoute 1 = .ok (.iload_n 1, 1) := by decide +kernel
theorem dX7_setRoute_2 : decode cX7_setRoute 2 = .ok (.invokevirtual 84, 3) := by decide +kernel
theorem dX7_setRoute_5 : decode cX7_setRoute 5 = .ok (.astore 5, 2) := by decide +kernel
theorem dX7_setRoute_7 : decode cX7_setRoute 7 = .ok (.iload 4, 2) := by decide +kernel
theorem dX7_setRoute_9 : decode cX7_setRoute 9 = .ok (.iconst (-1), 1) := by decide +kernel
theorem dX7_setRoute_10 : decode cX7_setRoute 10 = .ok (.if_icmp .eq 15, 3) := by decide +kernel
theorem dX7_setRoute_13 : decode cX7_setRoute 13 = .ok (.iload 4, 2) := by decide +kernel
theorem dX7_setRoute_15 : decode cX7_setRoute 15 = .ok (.aload_n 0, 1) := by decide +kernel
theorem dX7_setRoute_16 : decode cX7_setRoute 16 = .ok (.getfield 22, 3) := by decide +kernel
theorem dX7_setRoute_19 : decode cX7_setRoute 19 = .ok (.invokevirtual 32, 3) := by decide +kernel
theorem dX7_setRoute_22 : decode cX7_setRoute 22 = .ok (.invokestatic 144, 3) := by decide +kernel
theorem dX7_setRoute_25 : decode cX7_setRoute 25 = .ok (.iload_n 2, 1) := by decide +kernel
theorem dX7_setRoute_26 : decode cX7_setRoute 26 = .ok (.iload_n 3, 1) := by decide +kernel
theorem dX7_setRoute_27 : decode cX7_setRoute 27 = .ok (.invokestatic 28, 3) := by decide +kernel
theorem dX7_setRoute_30 : decode cX7_setRoute 30 = .ok (.astore 6, 2) := by decide +kernel
theorem dX7_setRoute_32 : decode cX7_setRoute 32 = .ok (.aload 5, 2) := by decide +kernel
theorem dX7_setRoute_34 : decode cX7_setRoute 34 = .ok (.aload 6, 2) := by decide +kernel
theorem dX7_setRoute_36 : decode cX7_setRoute 36 = .ok (.invokevirtual 169, 3) := by decide +kernel
theorem dX7_setRoute_39 : decode cX7_setRoute 39 = .ok (.istore 7, 2) := by decide +kernel
theorem dX7_setRoute_41 : decode cX7_setRoute 41 = .ok (.iload 7, 2) := by decide +kernel
theorem dX7_setRoute_43 : decode cX7_setRoute 43 = .ok (.ifCond .lt 26, 3) := by decide +kernel
theorem dX7_setRoute_46 : decode cX7_setRoute 46 = .ok (.iload 7, 2) := by decide +kernel
theorem dX7_setRoute_48 : decode cX7_setRoute 48 = .ok (.aload 5, 2) := by decide +kernel
theorem dX7_setRoute_50 : decode cX7_setRoute 50 = .ok (.getfield 173, 3) := by decide +kernel
theorem dX7_setRoute_53 : decode cX7_setRoute 53 = .ok (.invokevirtual 32, 3) := by decide +kernel
theorem dX7_setRoute_56 : decode cX7_setRoute 56 = .ok (.if_icmp .ge 13, 3) := by decide +kernel
theorem dX7_setRoute_59 : decode cX7_setRoute 59 = .ok (.aload 5, 2) := by decide +kernel
theorem dX7_setRoute_61 : decode cX7_setRoute 61 = .ok (.iload 7, 2) := by decide +kernel
theorem dX7_setRoute_63 : decode cX7_setRoute 63 = .ok (.iload 4, 2) := by decide +kernel
theorem dX7_setRoute_65 : decode cX7_setRoute 65 = .ok (.invokestatic 176, 3) := by decide +kernel
theorem dX7_setRoute_68 : decode cX7_setRoute 68 = .ok (.ireturn, 1) := by decide +kernel
theorem dX7_setRoute_69 : decode cX7_setRoute 69 = .ok (.iload 4, 2) := by decide +kernel
theorem dX7_setRoute_71 : decode cX7_setRoute 71 = .ok (.iconst (-1), 1) := by decide +kernel
theorem dX7_setRoute_72 : decode cX7_setRoute 72 = .ok (.if_icmp .ne 5, 3) := by decide +kernel
theorem dX7_setRoute_75 : decode cX7_setRoute 75 = .ok (.iconst (-1), 1) := by decide +kernel
theorem dX7_setRoute_76 : decode cX7_setRoute 76 = .ok (.ireturn, 1) := by decide +kernel
theorem dX7_setRoute_77 : decode cX7_setRoute 77 = .ok (.aload 5, 2) := by decide +kernel
theorem dX7_setRoute_79 : decode cX7_setRoute 79 = .ok (.getfield 173, 3) := by decide +kernel
theorem dX7_setRoute_82 : decode cX7_setRoute 82 = .ok (.invokevirtual 32, 3) := by decide +kernel
theorem dX7_setRoute_85 : decode cX7_setRoute 85 = .ok (.bipush 8, 2) := by decide +kernel
theorem dX7_setRoute_87 : decode cX7_setRoute 87 = .ok (.if_icmp .lt 13, 3) := by decide +kernel
theorem dX7_setRoute_90 : decode cX7_setRoute 90 = .ok (.new 36, 3) := by decide +kernel
theorem dX7_setRoute_93 : decode cX7_setRoute 93 = .ok (.dup, 1) := by decide +kernel
theorem dX7_setRoute_94 : decode cX7_setRoute 94 = .ok (.ldc 180, 2) := by decide +kernel
theorem dX7_setRoute_96 : decode cX7_setRoute 96 = .ok (.invokespecial 40, 3) := by decide +kernel
theorem dX7_setRoute_99 : decode cX7_setRoute 99 = .ok (.athrow, 1) := by decide +kernel
theorem dX7_setRoute_100 : decode cX7_setRoute 100 = .ok (.aload 5, 2) := by decide +kernel
theorem dX7_setRoute_102 : decode cX7_setRoute 102 = .ok (.getfield 173, 3) := by decide +kernel
theorem dX7_setRoute_105 : decode cX7_setRoute 105 = .ok (.new 182, 3) := by decide +kernel
theorem dX7_setRoute_108 : decode cX7_setRoute 108 = .ok (.dup, 1) := by decide +kernel
theorem dX7_setRoute_109 : decode cX7_setRoute 109 = .ok (.aload 6, 2) := by decide +kernel
theorem dX7_setRoute_111 : decode cX7_setRoute 111 = .ok (.iload 4, 2) := by decide +kernel
theorem dX7_setRoute_113 : decode cX7_setRoute 113 = .ok (.invokespecial 184, 3) := by decide +kernel
theorem dX7_setRoute_116 : decode cX7_setRoute 116 = .ok (.invokevirtual 55, 3) := by decide +kernel
theorem dX7_setRoute_119 : decode cX7_setRoute 119 = .ok (.pop, 1) := by decide +kernel
theorem dX7_setRoute_120 : decode cX7_setRoute 120 = .ok (.iconst (-1), 1) := by decide +kernel
theorem dX7_setRoute_121 : decode cX7_setRoute 121 = .ok (.ireturn, 1) := by decide +kernel
set_option maxRecDepth 20000 in
theorem ggX7_routeFor_X7_subnetAt : GoodIn wsX7_routeFor wsX7_subnetAt := goodIn_ca (goodIn_r _ [7, 8, 9, 10, 11, 12, 13, 14, 15, 16, 17, 6, 18, 19, 20, 21, 22, 23, 24, 25, 26, 27, 28, 29, 30, 31, 32, 33, 34, 35, 36, 37, 58, 59, 60, 61, 62, 63, 64, 65] (by decide +kernel) (by decide +kernel)) (goodIn_sub (fun _ h => List.mem_cons_of_mem _ (List.mem_append_right _ h)) (by decide +kernel))
set_option maxRecDepth 20000 in
theorem gX7_routeFor_X7_subnetAt : GoodIn wsX7_routeFor (wsV RX7 84 RX7 yX7_subnetAt wsX7_subnetAt) := goodIn_app (goodIn_of _ (by decide +kernel)) ggX7_routeFor_X7_subnetAt
set_option maxRecDepth 20000 in
theorem ggX7_routeFor_X6_routeNumber : GoodIn wsX7_routeFor wsX6_routeNumber := goodIn_r _ [42, 43, 44, 45, 46, 47, 48, 49, 50, 51, 52, 53, 54, 55, 56, 11, 12, 13, 14, 15, 57, 22, 23, 24, 25, 26, 27, 28, 29, 30, 31, 32, 33, 34, 35, 36, 37, 66, 67, 68, 69, 70, 71, 72, 73, 63, 64, 65] (by decide +kernel) (by decide +kernel)
set_option maxRecDepth 20000 in
theorem gX7_routeFor_X6_routeNumber : GoodIn wsX7_routeFor (wsV RX7 189 RX6 yX6_routeNumber wsX6_routeNumber) := goodIn_app (goodIn_of _ (by decide +kernel)) ggX7_routeFor_X6_routeNumber
theorem dX7_routeFor_0 : decode cX7_routeFor 0 = .ok (.aload_n 0, 1) := by decide +kernel
theorem dX7_routeFor_1 : decode cX7_routeFor 1 = .ok (.iload_n 1, 1) := by decide +kernel
theorem dX7_routeFor_2 : decode cX7_routeFor 2 = .ok (.invokevirtual 84, 3) := by decide +kernel
theorem dX7_routeFor_5 : decode cX7_routeFor 5 = .ok (.astore_n 3, 1) := by decide +kernel
theorem dX7_routeFor_6 : decode cX7_routeFor 6 = .ok (.iload_n 2, 1) := by decide +kernel
theorem dX7_routeFor_7 : decode cX7_routeFor 7 = .ok (.ifCond .lt 10, 3) := by decide +kernel
theorem dX7_routeFor_10 : decode cX7_routeFor 10 = .ok (.iload_n 2, 1) := by decide +kernel
theorem dX7_routeFor_11 : decode cX7_routeFor 11 = .ok (.sipush 1024, 3) := by decide +kernel
theorem dX7_routeFor_14 : decode cX7_routeFor 14 = .ok (.if_icmp .lt 13, 3) := by decide +kernel
theorem dX7_routeFor_17 : decode cX7_routeFor 17 = .ok (.new 66, 3) := by decide +kernel
theorem dX7_routeFor_20 : decode cX7_routeFor 20 = .ok (.dup, 1) := by decide +kernel
theorem dX7_routeFor_21 : decode cX7_routeFor 21 = .ok (.ldc 187, 2) := by decide +kernel
theorem dX7_routeFor_23 : decode cX7_routeFor 23 = .ok (.invokespecial 70, 3) := by decide +kernel
theorem dX7_routeFor_26 : decode cX7_routeFor 26 = .ok (.athrow, 1) := by decide +kernel
theorem dX7_routeFor_27 : decode cX7_routeFor 27 = .ok (.aload_n 3, 1) := by decide +kernel
theorem dX7_routeFor_28 : decode cX7_routeFor 28 = .ok (.iload_n 2, 1) := by decide +kernel
theorem dX7_routeFor_29 : decode cX7_routeFor 29 = .ok (.invokevirtual 189, 3) := by decide +kernel
theorem dX7_routeFor_32 : decode cX7_routeFor 32 = .ok (.ireturn, 1) := by decide +kernel
set_option maxRecDepth 20000 in
theorem ggX7_ports_X7_hostAt : GoodIn wsX7_ports wsX7_hostAt := goodIn_ca (goodIn_r _ [5, 6, 7, 8, 9, 10, 11, 12, 13, 14, 15, 4, 16, 17, 18, 19, 20, 21, 22, 23, 24, 25, 26, 27, 28, 29, 30, 31, 32, 33, 34, 35, 134, 135, 136, 137, 138, 139, 140, 141] (by decide +kernel) (by decide +kernel)) (goodIn_sub (fun _ h => List.mem_cons_of_mem _ (List.mem_append_left _ (List.mem_append_right _ h))) (by decide +kernel))
set_option maxRecDepth 20000 in
theorem gX7_ports_X7_hostAt : GoodIn wsX7_ports (wsV RX7 140 RX7 yX7_hostAt wsX7_hostAt) := goodIn_app (goodIn_of _ (by decide +kernel)) ggX7_ports_X7_hostAt
set_option maxRecDepth 20000 in
theorem ggX7_ports_X7_checkDifferent : GoodIn wsX7_ports wsX7_checkDifferent := goodIn_ca (goodIn_r _ [38, 39, 40] (by decide +kernel) (by decide +kernel)) (goodIn_sub (fun _ h => List.mem_cons_of_mem _ (List.mem_append_right _ h)) (by decide +kernel))
set_option maxRecDepth 20000 in
theorem gX7_ports_X7_checkDifferent : GoodIn wsX7_ports (va_wsS RX7 193 yX7_checkDifferent wsX7_checkDifferent) := goodIn_app (goodIn_of _ (by decide +kernel)) ggX7_ports_X7_checkDifferent
set_option maxRecDepth 20000 in
theorem ggX7_ports_X7_workingPorts : GoodIn wsX7_ports wsX7_workingPorts := goodIn_r _ [44, 45, 46, 47, 48, 4, 49, 50, 51, 52, 53, 54, 55, 56, 57, 8, 9, 10, 11, 12, 13, 58, 59, 60, 61, 62, 63, 19, 20, 21, 22, 23, 24, 25, 26, 27, 28, 29, 30, 31, 32, 33, 34, 35, 64, 65, 66, 67, 68, 69, 70, 71, 72, 73, 74, 75, 76, 77, 78, 79, 80, 81, 82, 83, 84, 85, 86, 87, 88, 89, 90, 91, 92, 93, 94, 95, 96, 97, 98, 99, 100, 101, 102, 103, 104, 105, 106, 107, 108, 109, 110, 111, 112, 113, 114, 115, 116, 117, 118, 119, 120, 121, 122, 123, 124, 125, 126, 127, 128, 129, 130, 131, 132, 133, 142, 143, 144, 134, 135, 136, 137, 138, 139, 140, 141, 145, 146, 147, 148, 149, 150, 151, 152, 153, 154, 155, 156, 157, 158, 159] (by decide +kernel) (by decide +kernel)
set_option maxRecDepth 20000 in
theorem gX7_ports_X7_workingPorts : GoodIn wsX7_ports (wsV RX7 196 RX7 yX7_workingPorts wsX7_workingPorts) := goodIn_app (goodIn_of _ (by decide +kernel)) ggX7_ports_X7_workingPorts
theorem dX7_ports_0 : decode cX7_ports 0 = .ok (.aload_n 0, 1) := by decide +kernel
theorem dX7_ports_1 : decode cX7_ports 1 = .ok (.iload_n 1, 1) := by decide +kernel
theorem dX7_ports_2 : decode cX7_ports 2 = .ok (.invokevirtual 140, 3) := by decide +kernel
theorem dX7_ports_5 : decode cX7_ports 5 = .ok (.astore_n 3, 1) := by decide +kernel
theorem dX7_ports_6 : decode cX7_ports 6 = .ok (.aload_n 0, 1) := by decide +kernel
theorem dX7_ports_7 : decode cX7_ports 7 = .ok (.iload_n 2, 1) := by decide +kernel
theorem dX7_ports_8 : decode cX7_ports 8 = .ok (.invokevirtual 140, 3) := by decide +kernel
theorem dX7_ports_11 : decode cX7_ports 11 = .ok (.astore 4, 2) := by decide +kernel
theorem dX7_ports_13 : decode cX7_ports 13 = .ok (.iload_n 1, 1) := by decide +kernel
theorem dX7_ports_14 : decode cX7_ports 14 = .ok (.iload_n 2, 1) := by decide +kernel
theorem dX7_ports_15 : decode cX7_ports 15 = .ok (.invokestatic 193, 3) := by decide +kernel
theorem dX7_ports_18 : decode cX7_ports 18 = .ok (.aload_n 0, 1) := by decide +kernel
theorem dX7_ports_19 : decode cX7_ports 19 = .ok (.aload_n 3, 1) := by decide +kernel
theorem dX7_ports_20 : decode cX7_ports 20 = .ok (.aload 4, 2) := by decide +kernel
theorem dX7_ports_22 : decode cX7_ports 22 = .ok (.invokevirtual 196, 3) := by decide +kernel
theorem dX7_ports_25 : decode cX7_ports 25 = .ok (.ireturn, 1) := by decide +kernel
set_option maxRecDepth 20000 in
theorem ggX7_blockedBy_X7_hostAt : GoodIn wsX7_blockedBy wsX7_hostAt := goodIn_ca (goodIn_r _ [5, 6, 7, 8, 9, 10, 11, 12, 13, 14, 15, 4, 16, 17, 18, 19, 20, 21, 22, 23, 24, 25, 26, 27, 28, 29, 30, 31, 32, 33, 34, 35, 133, 134, 135, 136, 137, 138, 139, 140] (by decide +kernel) (by decide +kernel)) (goodIn_sub (fun _ h => List.mem_cons_of_mem _ (List.mem_append_left _ (List.mem_append_right _ h))) (by decide +kernel))
set_option maxRecDepth 20000 in
theorem gX7_blockedBy_X7_hostAt : GoodIn wsX7_blockedBy (wsV RX7 140 RX7 yX7_hostAt wsX7_hostAt) := goodIn_app (goodIn_of _ (by decide +kernel)) ggX7_blockedBy_X7_hostAt
set_option maxRecDepth 20000 in
theorem ggX7_blockedBy_X7_checkDifferent : GoodIn wsX7_blockedBy wsX7_checkDifferent := goodIn_ca (goodIn_r _ [38, 39, 40] (by decide +kernel) (by decide +kernel)) (goodIn_sub (fun _ h => List.mem_cons_of_mem _ (List.mem_append_right _ h)) (by decide +kernel))
set_option maxRecDepth 20000 in
theorem gX7_blockedBy_X7_checkDifferent : GoodIn wsX7_blockedBy (va_wsS RX7 193 yX7_checkDifferent wsX7_checkDifferent) := goodIn_app (goodIn_of _ (by decide +kernel)) ggX7_blockedBy_X7_checkDifferent
set_option maxRecDepth 20000 in
theorem ggX7_blockedBy_X7_singlePort : GoodIn wsX7_blockedBy wsX7_singlePort := goodIn_ca (goodIn_r _ [43, 39, 40] (by decide +kernel) (by decide +kernel)) (goodIn_sub (fun _ h => List.mem_cons_of_mem _ (List.mem_append_right _ h)) (by decide +kernel))
set_option maxRecDepth 20000 in
theorem gX7_blockedBy_X7_singlePort : GoodIn wsX7_blockedBy (va_wsS RX7 200 yX7_singlePort wsX7_singlePort) := goodIn_app (goodIn_of _ (by decide +kernel)) ggX7_blockedBy_X7_singlePort
set_option maxRecDepth 20000 in
theorem ggX7_blockedBy_X7_openPorts : GoodIn wsX7_blockedBy wsX7_openPorts := goodIn_r _ [47, 48, 49, 50, 51, 52, 53, 4, 54, 55, 56, 8, 9, 10, 11, 12, 13, 57, 58, 59, 60, 61, 62, 19, 20, 21, 22, 23, 24, 25, 26, 27, 28, 29, 30, 31, 32, 33, 34, 35, 63, 64, 65, 66, 67, 68, 69, 70, 71, 72, 73, 74, 75, 76, 77, 78, 79, 80, 81, 82, 83, 84, 85, 86, 87, 88, 89, 90, 91, 92, 93, 94, 95, 96, 97, 98, 99, 100, 101, 102, 103, 104, 105, 106, 107, 108, 109, 110, 111, 112, 113, 114, 115, 116, 117, 118, 119, 120, 121, 122, 123, 124, 125, 126, 127, 128, 129, 130, 131, 132, 141, 142, 143, 133, 134, 135, 136, 137, 138, 139, 140, 144, 145, 146, 147, 148, 149, 150, 151, 152, 153, 154, 155, 156, 157, 158] (by decide +kernel) (by decide +kernel)
set_option maxRecDepth 20000 in
theorem gX7_blockedBy_X7_openPorts : GoodIn wsX7_blockedBy (wsV RX7 203 RX7 yX7_openPorts wsX7_openPorts) := goodIn_app (goodIn_of _ (by decide +kernel)) ggX7_blockedBy_X7_openPorts
theorem dX7_blockedBy_0 : decode cX7_blockedBy 0 = .ok (.aload_n 0, 1) := by decide +kernel
theorem dX7_blockedBy_1 : decode cX7_blockedBy 1 = .ok (.iload_n 1, 1) := by decide +kernel
theorem dX7_blockedBy_2 : decode cX7_blockedBy 2 = .ok (.invokevirtual 140, 3) := by decide +kernel
theorem dX7_blockedBy_5 : decode cX7_blockedBy 5 = .ok (.astore 4, 2) := by decide +kernel
theorem dX7_blockedBy_7 : decode cX7_blockedBy 7 = .ok (.aload_n 0, 1) := by decide +kernel
theorem dX7_blockedBy_8 : decode cX7_blockedBy 8 = .ok (.iload_n 2, 1) := by decide +kernel
theorem dX7_blockedBy_9 : decode cX7_blockedBy 9 = .ok (.invokevirtual 140, 3) := by decide +kernel
theorem dX7_blockedBy_12 : decode cX7_blockedBy 12 = .ok (.astore 5, 2) := by decide +kernel
theorem dX7_blockedBy_14 : decode cX7_blockedBy 14 = .ok (.iload_n 1, 1) := by decide +kernel
theorem dX7_blockedBy_15 : decode cX7_blockedBy 15 = .ok (.iload_n 2, 1) := by decide +kernel
theorem dX7_blockedBy_16 : decode cX7_blockedBy 16 = .ok (.invokestatic 193, 3) := by decide +kernel
theorem dX7_blockedBy_19 : decode cX7_blockedBy 19 = .ok (.iload_n 3, 1) := by decide +kernel
theorem dX7_blockedBy_20 : decode cX7_blockedBy 20 = .ok (.invokestatic 200, 3) := by decide +kernel
theorem dX7_blockedBy_23 : decode cX7_blockedBy 23 = .ok (.istore 6, 2) := by decide +kernel
theorem dX7_blockedBy_25 : decode cX7_blockedBy 25 = .ok (.iconst 1, 1) := by decide +kernel
theorem dX7_blockedBy_26 : decode cX7_blockedBy 26 = .ok (.istore 7, 2) := by decide +kernel
theorem dX7_blockedBy_28 : decode cX7_blockedBy 28 = .ok (.iload 7, 2) := by decide +kernel
theorem dX7_blockedBy_30 : decode cX7_blockedBy 30 = .ok (.bipush 8, 2) := by decide +kernel
theorem dX7_blockedBy_32 : decode cX7_blockedBy 32 = .ok (.if_icmp .gt 28, 3) := by decide +kernel
theorem dX7_blockedBy_35 : decode cX7_blockedBy 35 = .ok (.aload_n 0, 1) := by decide +kernel
theorem dX7_blockedBy_36 : decode cX7_blockedBy 36 = .ok (.iload 7, 2) := by decide +kernel
theorem dX7_blockedBy_38 : decode cX7_blockedBy 38 = .ok (.aload 4, 2) := by decide +kernel
theorem dX7_blockedBy_40 : decode cX7_blockedBy 40 = .ok (.aload 5, 2) := by decide +kernel
theorem dX7_blockedBy_42 : decode cX7_blockedBy 42 = .ok (.invokevirtual 203, 3) := by decide +kernel
theorem dX7_blockedBy_45 : decode cX7_blockedBy 45 = .ok (.iload 6, 2) := by decide +kernel
theorem dX7_blockedBy_47 : decode cX7_blockedBy 47 = .ok (.iand, 1) := by decide +kernel
theorem dX7_blockedBy_48 : decode cX7_blockedBy 48 = .ok (.ifCond .ne 6, 3) := by decide +kernel
theorem dX7_blockedBy_51 : decode cX7_blockedBy 51 = .ok (.iload 7, 2) := by decide +kernel
theorem dX7_blockedBy_53 : decode cX7_blockedBy 53 = .ok (.ireturn, 1) := by decide +kernel
theorem dX7_blockedBy_54 : decode cX7_blockedBy 54 = .ok (.iinc 7 1, 3) := by decide +kernel
theorem dX7_blockedBy_57 : decode cX7_blockedBy 57 = .ok (.goto (-29), 3) := by decide +kernel
theorem dX7_blockedBy_60 : decode cX7_blockedBy 60 = .ok (.iconst 0, 1) := by decide +kernel
theorem dX7_blockedBy_61 : decode cX7_blockedBy 61 = .ok (.ireturn, 1) := by decide +kernel
set_option maxRecDepth 20000 in
theorem ggX7_blocks_X7_hostAt : GoodIn wsX7_blocks wsX7_hostAt := goodIn_ca (goodIn_r _ [5, 6, 7, 8, 9, 10, 11, 12, 13, 14, 15, 4, 16, 17, 18, 19, 20, 21, 22, 23, 24, 25, 26, 27, 28, 29, 30, 31, 32, 33, 34, 35, 133, 134, 135, 136, 137, 138, 139, 140] (by decide +kernel) (by decide +kernel)) (goodIn_sub (fun _ h => List.mem_cons_of_mem _ (List.mem_append_left _ (List.mem_append_right _ h))) (by decide +kernel))
set_option maxRecDepth 20000 in
theorem gX7_blocks_X7_hostAt : GoodIn wsX7_blocks (wsV RX7 140 RX7 yX7_hostAt wsX7_hostAt) := goodIn_app (goodIn_of _ (by decide +kernel)) ggX7_blocks_X7_hostAt
set_option maxRecDepth 20000 in
theorem ggX7_blocks_X7_checkDifferent : GoodIn wsX7_blocks wsX7_checkDifferent := goodIn_ca (goodIn_r _ [38, 39, 40] (by decide +kernel) (by decide +kernel)) (goodIn_sub (fun _ h => List.mem_cons_of_mem _ (List.mem_append_right _ h)) (by decide +kernel))
set_option maxRecDepth 20000 in
theorem gX7_blocks_X7_checkDifferent : GoodIn wsX7_blocks (va_wsS RX7 193 yX7_checkDifferent wsX7_checkDifferent) := goodIn_app (goodIn_of _ (by decide +kernel)) ggX7_blocks_X7_checkDifferent
set_option maxRecDepth 20000 in
theorem ggX7_blocks_X7_singlePort : GoodIn wsX7_blocks wsX7_singlePort := goodIn_ca (goodIn_r _ [43, 39, 40] (by decide +kernel) (by decide +kernel)) (goodIn_sub (fun _ h => List.mem_cons_of_mem _ (List.mem_append_right _ h)) (by decide +kernel))
set_option maxRecDepth 20000 in
theorem gX7_blocks_X7_singlePort : GoodIn wsX7_blocks (va_wsS RX7 200 yX7_singlePort wsX7_singlePort) := goodIn_app (goodIn_of _ (by decide +kernel)) ggX7_blocks_X7_singlePort
set_option maxRecDepth 20000 in
theorem ggX7_blocks_X7_openPorts : GoodIn wsX7_blocks wsX7_openPorts := goodIn_r _ [47, 48, 49, 50, 51, 52, 53, 4, 54, 55, 56, 8, 9, 10, 11, 12, 13, 57, 58, 59, 60, 61, 62, 19, 20, 21, 22, 23, 24, 25, 26, 27, 28, 29, 30, 31, 32, 33, 34, 35, 63, 64, 65, 66, 67, 68, 69, 70, 71, 72, 73, 74, 75, 76, 77, 78, 79, 80, 81, 82, 83, 84, 85, 86, 87, 88, 89, 90, 91, 92, 93, 94, 95, 96, 97, 98, 99, 100, 101, 102, 103, 104, 105, 106, 107, 108, 109, 110, 111, 112, 113, 114, 115, 116, 117, 118, 119, 120, 121, 122, 123, 124, 125, 126, 127, 128, 129, 130, 131, 132, 141, 142, 143, 133, 134, 135, 136, 137, 138, 139, 140, 144, 145, 146, 147, 148, 149, 150, 151, 152, 153, 154, 155, 156, 157, 158] (by decide +kernel) (by decide +kernel)
set_option maxRecDepth 20000 in
theorem gX7_blocks_X7_openPorts : GoodIn wsX7_blocks (wsV RX7 203 RX7 yX7_openPorts wsX7_openPorts) := goodIn_app (goodIn_of _ (by decide +kernel)) ggX7_blocks_X7_openPorts
theorem dX7_blocks_0 : decode cX7_blocks 0 = .ok (.aload_n 0, 1) := by decide +kernel
theorem dX7_blocks_1 : decode cX7_blocks 1 = .ok (.iload_n 1, 1) := by decide +kernel
theorem dX7_blocks_2 : decode cX7_blocks 2 = .ok (.invokevirtual 140, 3) := by decide +kernel
theorem dX7_blocks_5 : decode cX7_blocks 5 = .ok (.astore 4, 2) := by decide +kernel
theorem dX7_blocks_7 : decode cX7_blocks 7 = .ok (.aload_n 0, 1) := by decide +kernel
theorem dX7_blocks_8 : decode cX7_blocks 8 = .ok (.iload_n 2, 1) := by decide +kernel
theorem dX7_blocks_9 : decode cX7_blocks 9 = .ok (.invokevirtual 140, 3) := by decide +kernel
theorem dX7_blocks_12 : decode cX7_blocks 12 = .ok (.astore 5, 2) := by decide +kernel
theorem dX7_blocks_14 : decode cX7_blocks 14 = .ok (.iload_n 1, 1) := by decide +kernel
theorem dX7_blocks_15 : decode cX7_blocks 15 = .ok (.iload_n 2, 1) := by decide +kernel
theorem dX7_blocks_16 : decode cX7_blocks 16 = .ok (.invokestatic 193, 3) := by decide +kernel
theorem dX7_blocks_19 : decode cX7_blocks 19 = .ok (.iload_n 3, 1) := by decide +kernel
theorem dX7_blocks_20 : decode cX7_blocks 20 = .ok (.invokestatic 200, 3) := by decide +kernel
theorem dX7_blocks_23 : decode cX7_blocks 23 = .ok (.istore 6, 2) := by decide +kernel
theorem dX7_blocks_25 : decode cX7_blocks 25 = .ok (.iconst 0, 1) := by decide +kernel
theorem dX7_blocks_26 : decode cX7_blocks 26 = .ok (.istore 7, 2) := by decide +kernel
theorem dX7_blocks_28 : decode cX7_blocks 28 = .ok (.iconst 1, 1) := by decide +kernel
theorem dX7_blocks_29 : decode cX7_blocks 29 = .ok (.istore 8, 2) := by decide +kernel
theorem dX7_blocks_31 : decode cX7_blocks 31 = .ok (.iload 8, 2) := by decide +kernel
theorem dX7_blocks_33 : decode cX7_blocks 33 = .ok (.bipush 8, 2) := by decide +kernel
theorem dX7_blocks_35 : decode cX7_blocks 35 = .ok (.if_icmp .gt 34, 3) := by decide +kernel
theorem dX7_blocks_38 : decode cX7_blocks 38 = .ok (.aload_n 0, 1) := by decide +kernel
theorem dX7_blocks_39 : decode cX7_blocks 39 = .ok (.iload 8, 2) := by decide +kernel
theorem dX7_blocks_41 : decode cX7_blocks 41 = .ok (.aload 4, 2) := by decide +kernel
theorem dX7_blocks_43 : decode cX7_blocks 43 = .ok (.aload 5, 2) := by decide +kernel
theorem dX7_blocks_45 : decode cX7_blocks 45 = .ok (.invokevirtual 203, 3) := by decide +kernel
theorem dX7_blocks_48 : decode cX7_blocks 48 = .ok (.iload 6, 2) := by decide +kernel
theorem dX7_blocks_50 : decode cX7_blocks 50 = .ok (.iand, 1) := by decide +kernel
theorem dX7_blocks_51 : decode cX7_blocks 51 = .ok (.ifCond .ne 12, 3) := by decide +kernel
theorem dX7_blocks_54 : decode cX7_blocks 54 = .ok (.iload 7, 2) := by decide +kernel
theorem dX7_blocks_56 : decode cX7_blocks 56 = .ok (.iconst 1, 1) := by decide +kernel
theorem dX7_blocks_57 : decode cX7_blocks 57 = .ok (.iload 8, 2) := by decide +kernel
theorem dX7_blocks_59 : decode cX7_blocks 59 = .ok (.ishl, 1) := by decide +kernel
theorem dX7_blocks_60 : decode cX7_blocks 60 = .ok (.iadd, 1) := by decide +kernel
theorem dX7_blocks_61 : decode cX7_blocks 61 = .ok (.istore 7, 2) := by decide +kernel
theorem dX7_blocks_63 : decode cX7_blocks 63 = .ok (.iinc 8 1, 3) := by decide +kernel
theorem dX7_blocks_66 : decode cX7_blocks 66 = .ok (.goto (-35), 3) := by decide +kernel
theorem dX7_blocks_69 : decode cX7_blocks 69 = .ok (.iload 7, 2) := by decide +kernel
theorem dX7_blocks_71 : decode cX7_blocks 71 = .ok (.ireturn, 1) := by decide +kernel
set_option maxRecDepth 20000 in
theorem ggX7_pairs_X7_singlePort : GoodIn wsX7_pairs wsX7_singlePort := goodIn_ca (goodIn_r _ [6, 7, 8] (by decide +kernel) (by decide +kernel)) (goodIn_sub (fun _ h => List.mem_cons_of_mem _ (List.mem_append_right _ h)) (by decide +kernel))
set_option maxRecDepth 20000 in
theorem gX7_pairs_X7_singlePort : GoodIn wsX7_pairs (va_wsS RX7 200 yX7_singlePort wsX7_singlePort) := goodIn_app (goodIn_of _ (by decide +kernel)) ggX7_pairs_X7_singlePort
set_option maxRecDepth 20000 in
theorem ggX7_pairs_Jx4a65c_size_8abf5 : GoodIn wsX7_pairs wsJx4a65c_size_8abf5 := goodIn_r _ [13, 14, 130, 131, 132] (by decide +kernel) (by decide +kernel)
set_option maxRecDepth 20000 in
theorem gX7_pairs_Jx4a65c_size_8abf5 : GoodIn wsX7_pairs (wsV RX7 32 RJx4a65c yJx4a65c_size_8abf5 wsJx4a65c_size_8abf5) := goodIn_app (goodIn_of _ (by decide +kernel)) ggX7_pairs_Jx4a65c_size_8abf5
set_option maxRecDepth 20000 in
theorem ggX7_pairs_Jx4a65c_get_915e3 : GoodIn wsX7_pairs wsJx4a65c_get_915e3 := goodIn_r _ [18, 14, 19, 20, 21, 22, 23, 24, 25, 26, 27, 28, 29, 12, 30, 31, 130, 131, 132] (by decide +kernel) (by decide +kernel)
set_option maxRecDepth 20000 in
theorem gX7_pairs_Jx4a65c_get_915e3 : GoodIn wsX7_pairs (wsV RX7 43 RJx4a65c yJx4a65c_get_915e3 wsJx4a65c_get_915e3) := goodIn_app (goodIn_of _ (by decide +kernel)) ggX7_pairs_Jx4a65c_get_915e3
set_option maxRecDepth 20000 in
theorem ggX7_pairs_X7_workingPorts : GoodIn wsX7_pairs wsX7_workingPorts := goodIn_r _ [35, 36, 37, 38, 39, 5, 40, 41, 42, 43, 44, 45, 46, 47, 48, 9, 10, 11, 12, 13, 14, 49, 50, 51, 52, 53, 54, 15, 16, 17, 18, 19, 20, 21, 22, 23, 24, 25, 26, 27, 28, 29, 30, 31, 55, 56, 57, 58, 59, 60, 61, 62, 63, 64, 65, 66, 67, 68, 69, 70, 71, 72, 73, 74, 75, 76, 77, 78, 79, 80, 81, 82, 83, 84, 85, 86, 87, 88, 89, 90, 91, 92, 93, 94, 95, 96, 97, 98, 99, 100, 101, 102, 103, 104, 105, 106, 107, 108, 109, 110, 111, 112, 113, 114, 115, 116, 117, 118, 119, 120, 121, 122, 123, 124, 133, 134, 135, 125, 126, 127, 128, 129, 130, 131, 132, 136, 137, 138, 139, 140, 141, 142, 143, 144, 145, 146, 147, 148, 149, 150] (by decide +kernel) (by decide +kernel)
set_option maxRecDepth 20000 in
theorem gX7_pairs_X7_workingPorts : GoodIn wsX7_pairs (wsV RX7 196 RX7 yX7_workingPorts wsX7_workingPorts) := goodIn_app (goodIn_of _ (by decide +kernel)) ggX7_pairs_X7_workingPorts
theorem dX7_pairs_0 : decode cX7_pairs 0 = .ok (.iload_n 1, 1) := by decide +kernel
theorem dX7_pairs_1 : decode cX7_pairs 1 = .ok (.invokestatic 200, 3) := by decide +kernel
theorem dX7_pairs_4 : decode cX7_pairs 4 = .ok (.istore_n 2, 1) := by decide +kernel
theorem dX7_pairs_5 : decode cX7_pairs 5 = .ok (.iconst 0, 1) := by decide +kernel
theorem dX7_pairs_6 : decode cX7_pairs 6 = .ok (.istore_n 3, 1) := by decide +kernel
theorem dX7_pairs_7 : decode cX7_pairs 7 = .ok (.iconst 0, 1) := by decide +kernel
theorem dX7_pairs_8 : decode cX7_pairs 8 = .ok (.istore 4, 2) := by decide +kernel
theorem dX7_pairs_10 : decode cX7_pairs 10 = .ok (.iload 4, 2) := by decide +kernel
theorem dX7_pairs_12 : decode cX7_pairs 12 = .ok (.aload_n 0, 1) := by decide +kernel
theorem dX7_pairs_13 : decode cX7_pairs 13 = .ok (.getfield 19, 3) := by decide +kernel
theorem dX7_pairs_16 : decode cX7_pairs 16 = .ok (.invokevirtual 32, 3) := by decide +kernel
theorem dX7_pairs_19 : decode cX7_pairs 19 = .ok (.if_icmp .ge 73, 3) := by decide +kernel
theorem dX7_pairs_22 : decode cX7_pairs 22 = .ok (.iconst 0, 1) := by decide +kernel
theorem dX7_pairs_23 : decode cX7_pairs 23 = .ok (.istore 5, 2) := by decide +kernel
theorem dX7_pairs_25 : decode cX7_pairs 25 = .ok (.iload 5, 2) := by decide +kernel
theorem dX7_pairs_27 : decode cX7_pairs 27 = .ok (.aload_n 0, 1) := by decide +kernel
theorem dX7_pairs_28 : decode cX7_pairs 28 = .ok (.getfield 19, 3) := by decide +kernel
theorem dX7_pairs_31 : decode cX7_pairs 31 = .ok (.invokevirtual 32, 3) := by decide +kernel
theorem dX7_pairs_34 : decode cX7_pairs 34 = .ok (.if_icmp .ge 52, 3) := by decide +kernel
theorem dX7_pairs_37 : decode cX7_pairs 37 = .ok (.iload 4, 2) := by decide +kernel
theorem dX7_pairs_39 : decode cX7_pairs 39 = .ok (.iload 5, 2) := by decide +kernel
theorem dX7_pairs_41 : decode cX7_pairs 41 = .ok (.if_icmp .eq 39, 3) := by decide +kernel
theorem dX7_pairs_44 : decode cX7_pairs 44 = .ok (.aload_n 0, 1) := by decide +kernel
theorem dX7_pairs_45 : decode cX7_pairs 45 = .ok (.aload_n 0, 1) := by decide +kernel
theorem dX7_pairs_46 : decode cX7_pairs 46 = .ok (.getfield 19, 3) := by decide +kernel
theorem dX7_pairs_49 : decode cX7_pairs 49 = .ok (.iload 4, 2) := by decide +kernel
theorem dX7_pairs_51 : decode cX7_pairs 51 = .ok (.invokevirtual 43, 3) := by decide +kernel
theorem dX7_pairs_54 : decode cX7_pairs 54 = .ok (.checkcast 96, 3) := by decide +kernel
theorem dX7_pairs_57 : decode cX7_pairs 57 = .ok (.aload_n 0, 1) := by decide +kernel
theorem dX7_pairs_58 : decode cX7_pairs 58 = .ok (.getfield 19, 3) := by decide +kernel
theorem dX7_pairs_61 : decode cX7_pairs 61 = .ok (.iload 5, 2) := by decide +kernel
theorem dX7_pairs_63 : decode cX7_pairs 63 = .ok (.invokevirtual 43, 3) := by decide +kernel
theorem dX7_pairs_66 : decode cX7_pairs 66 = .ok (.checkcast 96, 3) := by decide +kernel
theorem dX7_pairs_69 : decode cX7_pairs 69 = .ok (.invokevirtual 196, 3) := by decide +kernel
theorem dX7_pairs_72 : decode cX7_pairs 72 = .ok (.iload_n 2, 1) := by decide +kernel
theorem dX7_pairs_73 : decode cX7_pairs 73 = .ok (.iand, 1) := by decide +kernel
theorem dX7_pairs_74 : decode cX7_pairs 74 = .ok (.ifCond .eq 6, 3) := by decide +kernel
theorem dX7_pairs_77 : decode cX7_pairs 77 = .ok (.iinc 3 1, 3) := by decide +kernel
theorem dX7_pairs_80 : decode cX7_pairs 80 = .ok (.iinc 5 1, 3) := by decide +kernel
theorem dX7_pairs_83 : decode cX7_pairs 83 = .ok (.goto (-58), 3) := by decide +kernel
theorem dX7_pairs_86 : decode cX7_pairs 86 = .ok (.iinc 4 1, 3) := by decide +kernel
theorem dX7_pairs_89 : decode cX7_pairs 89 = .ok (.goto (-79), 3) := by decide +kernel
theorem dX7_pairs_92 : decode cX7_pairs 92 = .ok (.iload_n 3, 1) := by decide +kernel
theorem dX7_pairs_93 : decode cX7_pairs 93 = .ok (.ireturn, 1) := by decide +kernel
set_option maxRecDepth 20000 in
theorem ggX7_reachedFrom_X7_hostAt : GoodIn wsX7_reachedFrom wsX7_hostAt := goodIn_ca (goodIn_r _ [7, 1, 2, 8, 9, 10, 11, 12, 13, 14, 15, 6, 16, 17, 18, 19, 20, 21, 22, 23, 24, 25, 26, 27, 28, 29, 30, 31, 32, 33, 34, 35, 129, 130, 131, 132, 133, 134, 135, 136] (by decide +kernel) (by decide +kernel)) (goodIn_sub (fun _ h => List.mem_cons_of_mem _ (List.mem_append_right _ h)) (by decide +kernel))
set_option maxRecDepth 20000 in
theorem gX7_reachedFrom_X7_hostAt : GoodIn wsX7_reachedFrom (wsV RX7 140 RX7 yX7_hostAt wsX7_hostAt) := goodIn_app (goodIn_of _ (by decide +kernel)) ggX7_reachedFrom_X7_hostAt
set_option maxRecDepth 20000 in
theorem ggX7_reachedFrom_Jx4a65c_size_8abf5 : GoodIn wsX7_reachedFrom wsJx4a65c_size_8abf5 := goodIn_r _ [12, 13, 134, 135, 136] (by decide +kernel) (by decide +kernel)
set_option maxRecDepth 20000 in
theorem gX7_reachedFrom_Jx4a65c_size_8abf5 : GoodIn wsX7_reachedFrom (wsV RX7 32 RJx4a65c yJx4a65c_size_8abf5 wsJx4a65c_size_8abf5) := goodIn_app (goodIn_of _ (by decide +kernel)) ggX7_reachedFrom_Jx4a65c_size_8abf5
set_option maxRecDepth 20000 in
theorem ggX7_reachedFrom_Jx4a65c_get_915e3 : GoodIn wsX7_reachedFrom wsJx4a65c_get_915e3 := goodIn_r _ [22, 13, 23, 24, 25, 26, 27, 28, 29, 30, 31, 32, 33, 11, 34, 35, 134, 135, 136] (by decide +kernel) (by decide +kernel)
set_option maxRecDepth 20000 in
theorem gX7_reachedFrom_Jx4a65c_get_915e3 : GoodIn wsX7_reachedFrom (wsV RX7 43 RJx4a65c yJx4a65c_get_915e3 wsJx4a65c_get_915e3) := goodIn_app (goodIn_of _ (by decide +kernel)) ggX7_reachedFrom_Jx4a65c_get_915e3
set_option maxRecDepth 20000 in
theorem ggX7_reachedFrom_X7_workingPorts : GoodIn wsX7_reachedFrom wsX7_workingPorts := goodIn_r _ [39, 40, 41, 42, 43, 6, 44, 45, 46, 47, 48, 49, 50, 51, 52, 8, 9, 10, 11, 12, 13, 53, 54, 55, 56, 57, 58, 19, 20, 21, 22, 23, 24, 25, 26, 27, 28, 29, 30, 31, 32, 33, 34, 35, 59, 60, 61, 62, 63, 64, 65, 66, 67, 68, 69, 70, 71, 72, 73, 74, 75, 76, 77, 78, 79, 80, 81, 82, 83, 84, 85, 86, 87, 88, 89, 90, 91, 92, 93, 94, 95, 96, 97, 98, 99, 100, 101, 102, 103, 104, 105, 106, 107, 108, 109, 110, 111, 112, 113, 114, 115, 116, 117, 118, 119, 120, 121, 122, 123, 124, 125, 126, 127, 128, 137, 138, 139, 129, 130, 131, 132, 133, 134, 135, 136, 140, 141, 142, 143, 144, 145, 146, 147, 148, 149, 150, 151, 152, 153, 154] (by decide +kernel) (by decide +kernel)
set_option maxRecDepth 20000 in
theorem gX7_reachedFrom_X7_workingPorts : GoodIn wsX7_reachedFrom (wsV RX7 196 RX7 yX7_workingPorts wsX7_workingPorts) := goodIn_app (goodIn_of _ (by decide +kernel)) ggX7_reachedFrom_X7_workingPorts
theorem dX7_reachedFrom_0 : decode cX7_reachedFrom 0 = .ok (.aload_n 0, 1) := by decide +kernel
theorem dX7_reachedFrom_1 : decode cX7_reachedFrom 1 = .ok (.iload_n 1, 1) := by decide +kernel
theorem dX7_reachedFrom_2 : decode cX7_reachedFrom 2 = .ok (.invokevirtual 140, 3) := by decide +kernel
theorem dX7_reachedFrom_5 : decode cX7_reachedFrom 5 = .ok (.astore_n 2, 1) := by decide +kernel
theorem dX7_reachedFrom_6 : decode cX7_reachedFrom 6 = .ok (.iconst 0, 1) := by decide +kernel
theorem dX7_reachedFrom_7 : decode cX7_reachedFrom 7 = .ok (.istore_n 3, 1) := by decide +kernel
theorem dX7_reachedFrom_8 : decode cX7_reachedFrom 8 = .ok (.iconst 0, 1) := by decide +kernel
theorem dX7_reachedFrom_9 : decode cX7_reachedFrom 9 = .ok (.istore 4, 2) := by decide +kernel
theorem dX7_reachedFrom_11 : decode cX7_reachedFrom 11 = .ok (.iload 4, 2) := by decide +kernel
theorem dX7_reachedFrom_13 : decode cX7_reachedFrom 13 = .ok (.aload_n 0, 1) := by decide +kernel
theorem dX7_reachedFrom_14 : decode cX7_reachedFrom 14 = .ok (.getfield 19, 3) := by decide +kernel
theorem dX7_reachedFrom_17 : decode cX7_reachedFrom 17 = .ok (.invokevirtual 32, 3) := by decide +kernel
theorem dX7_reachedFrom_20 : decode cX7_reachedFrom 20 = .ok (.if_icmp .ge 42, 3) := by decide +kernel
theorem dX7_reachedFrom_23 : decode cX7_reachedFrom 23 = .ok (.iload 4, 2) := by decide +kernel
theorem dX7_reachedFrom_25 : decode cX7_reachedFrom 25 = .ok (.iload_n 1, 1) := by decide +kernel
theorem dX7_reachedFrom_26 : decode cX7_reachedFrom 26 = .ok (.if_icmp .eq 30, 3) := by decide +kernel
theorem dX7_reachedFrom_29 : decode cX7_reachedFrom 29 = .ok (.aload_n 0, 1) := by decide +kernel
theorem dX7_reachedFrom_30 : decode cX7_reachedFrom 30 = .ok (.aload_n 0, 1) := by decide +kernel
theorem dX7_reachedFrom_31 : decode cX7_reachedFrom 31 = .ok (.getfield 19, 3) := by decide +kernel
theorem dX7_reachedFrom_34 : decode cX7_reachedFrom 34 = .ok (.iload 4, 2) := by decide +kernel
theorem dX7_reachedFrom_36 : decode cX7_reachedFrom 36 = .ok (.invokevirtual 43, 3) := by decide +kernel
theorem dX7_reachedFrom_39 : decode cX7_reachedFrom 39 = .ok (.checkcast 96, 3) := by decide +kernel
theorem dX7_reachedFrom_42 : decode cX7_reachedFrom 42 = .ok (.aload_n 2, 1) := by decide +kernel
theorem dX7_reachedFrom_43 : decode cX7_reachedFrom 43 = .ok (.invokevirtual 196, 3) := by decide +kernel
theorem dX7_reachedFrom_46 : decode cX7_reachedFrom 46 = .ok (.ifCond .eq 10, 3) := by decide +kernel
theorem dX7_reachedFrom_49 : decode cX7_reachedFrom 49 = .ok (.iload_n 3, 1) := by decide +kernel
theorem dX7_reachedFrom_50 : decode cX7_reachedFrom 50 = .ok (.iconst 1, 1) := by decide +kernel
theorem dX7_reachedFrom_51 : decode cX7_reachedFrom 51 = .ok (.iload 4, 2) := by decide +kernel
theorem dX7_reachedFrom_53 : decode cX7_reachedFrom 53 = .ok (.ishl, 1) := by decide +kernel
theorem dX7_reachedFrom_54 : decode cX7_reachedFrom 54 = .ok (.iadd, 1) := by decide +kernel
theorem dX7_reachedFrom_55 : decode cX7_reachedFrom 55 = .ok (.istore_n 3, 1) := by decide +kernel
theorem dX7_reachedFrom_56 : decode cX7_reachedFrom 56 = .ok (.iinc 4 1, 3) := by decide +kernel
theorem dX7_reachedFrom_59 : decode cX7_reachedFrom 59 = .ok (.goto (-48), 3) := by decide +kernel
theorem dX7_reachedFrom_62 : decode cX7_reachedFrom 62 = .ok (.iload_n 3, 1) := by decide +kernel
theorem dX7_reachedFrom_63 : decode cX7_reachedFrom 63 = .ok (.ireturn, 1) := by decide +kernel
set_option maxRecDepth 20000 in
theorem ggX7_idleRules_X7_subnetAt : GoodIn wsX7_idleRules wsX7_subnetAt := goodIn_ca (goodIn_r _ [5, 6, 7, 8, 9, 10, 11, 12, 13, 14, 15, 4, 16, 17, 18, 19, 20, 21, 22, 23, 24, 25, 26, 27, 28, 29, 30, 31, 32, 33, 34, 35, 76, 77, 78, 79, 80, 81, 82, 83] (by decide +kernel) (by decide +kernel)) (goodIn_sub (fun _ h => List.mem_cons_of_mem _ (List.mem_append_right _ h)) (by decide +kernel))
set_option maxRecDepth 20000 in
theorem gX7_idleRules_X7_subnetAt : GoodIn wsX7_idleRules (wsV RX7 84 RX7 yX7_subnetAt wsX7_subnetAt) := goodIn_app (goodIn_of _ (by decide +kernel)) ggX7_idleRules_X7_subnetAt
set_option maxRecDepth 20000 in
theorem ggX7_idleRules_X6_countIdleRules : GoodIn wsX7_idleRules wsX6_countIdleRules := goodIn_r _ [40, 41, 42, 43, 9, 10, 11, 12, 13, 44, 20, 21, 22, 23, 24, 25, 26, 27, 28, 29, 30, 31, 32, 33, 34, 35, 45, 46, 47, 39, 48, 49, 50, 51, 52, 53, 54, 55, 56, 57, 58, 59, 60, 61, 62, 63, 64, 65, 66, 67, 68, 69, 70, 71, 72, 73, 74, 75, 84, 85, 86, 87, 81, 82, 83, 88, 89, 90, 91, 92, 93] (by decide +kernel) (by decide +kernel)
set_option maxRecDepth 20000 in
theorem gX7_idleRules_X6_countIdleRules : GoodIn wsX7_idleRules (wsV RX7 207 RX6 yX6_countIdleRules wsX6_countIdleRules) := goodIn_app (goodIn_of _ (by decide +kernel)) ggX7_idleRules_X6_countIdleRules
theorem dX7_idleRules_0 : decode cX7_idleRules 0 = .ok (.aload_n 0, 1) := by decide +kernel
theorem dX7_idleRules_1 : decode cX7_idleRules 1 = .ok (.iload_n 1, 1) := by decide +kernel
theorem dX7_idleRules_2 : decode cX7_idleRules 2 = .ok (.invokevirtual 84, 3) := by decide +kernel
theorem dX7_idleRules_5 : decode cX7_idleRules 5 = .ok (.invokevirtual 207, 3) := by decide +kernel
theorem dX7_idleRules_8 : decode cX7_idleRules 8 = .ok (.ireturn, 1) := by decide +kernel
theorem dX7_checkIndex_0 : decode cX7_checkIndex 0 = .ok (.iload_n 0, 1) := by decide +kernel
theorem dX7_checkIndex_1 : decode cX7_checkIndex 1 = .ok (.ifCond .lt 8, 3) := by decide +kernel
theorem dX7_checkIndex_4 : decode cX7_checkIndex 4 = .ok (.iload_n 0, 1) := by decide +kernel
theorem dX7_checkIndex_5 : decode cX7_checkIndex 5 = .ok (.iload_n 1, 1) := by decide +kernel
theorem dX7_checkIndex_6 : decode cX7_checkIndex 6 = .ok (.if_icmp .lt 13, 3) := by decide +kernel
theorem dX7_checkIndex_9 : decode cX7_checkIndex 9 = .ok (.new 156, 3) := by decide +kernel
theorem dX7_checkIndex_12 : decode cX7_checkIndex 12 = .ok (.dup, 1) := by decide +kernel
theorem dX7_checkIndex_13 : decode cX7_checkIndex 13 = .ok (.ldc 210, 2) := by decide +kernel
theorem dX7_checkIndex_15 : decode cX7_checkIndex 15 = .ok (.invokespecial 160, 3) := by decide +kernel
theorem dX7_checkIndex_18 : decode cX7_checkIndex 18 = .ok (.athrow, 1) := by decide +kernel
theorem dX7_checkIndex_19 : decode cX7_checkIndex 19 = .ok (.return_, 1) := by decide +kernel
set_option maxRecDepth 20000 in
theorem ggX7_networkAt_Jx4a65c_size_8abf5 : GoodIn wsX7_networkAt wsJx4a65c_size_8abf5 := goodIn_r _ [7, 8, 37, 38, 39] (by decide +kernel) (by decide +kernel)
set_option maxRecDepth 20000 in
theorem gX7_networkAt_Jx4a65c_size_8abf5 : GoodIn wsX7_networkAt (wsV RX7 32 RJx4a65c yJx4a65c_size_8abf5 wsJx4a65c_size_8abf5) := goodIn_app (goodIn_of _ (by decide +kernel)) ggX7_networkAt_Jx4a65c_size_8abf5
set_option maxRecDepth 20000 in
theorem ggX7_networkAt_X7_checkIndex : GoodIn wsX7_networkAt wsX7_checkIndex := goodIn_ca (goodIn_r _ [12, 13, 14] (by decide +kernel) (by decide +kernel)) (goodIn_sub (fun _ h => List.mem_cons_of_mem _ (List.mem_append_right _ h)) (by decide +kernel))
set_option maxRecDepth 20000 in
theorem gX7_networkAt_X7_checkIndex : GoodIn wsX7_networkAt (va_wsS RX7 144 yX7_checkIndex wsX7_checkIndex) := goodIn_app (goodIn_of _ (by decide +kernel)) ggX7_networkAt_X7_checkIndex
set_option maxRecDepth 20000 in
theorem ggX7_networkAt_Jx4a65c_get_915e3 : GoodIn wsX7_networkAt wsJx4a65c_get_915e3 := goodIn_r _ [18, 8, 19, 20, 21, 22, 23, 24, 25, 26, 27, 28, 29, 6, 30, 31, 37, 38, 39] (by decide +kernel) (by decide +kernel)
set_option maxRecDepth 20000 in
theorem gX7_networkAt_Jx4a65c_get_915e3 : GoodIn wsX7_networkAt (wsV RX7 43 RJx4a65c yJx4a65c_get_915e3 wsJx4a65c_get_915e3) := goodIn_app (goodIn_of _ (by decide +kernel)) ggX7_networkAt_Jx4a65c_get_915e3
theorem dX7_networkAt_0 : decode cX7_networkAt 0 = .ok (.iload_n 1, 1) := by decide +kernel
theorem dX7_networkAt_1 : decode cX7_networkAt 1 = .ok (.aload_n 0, 1) := by decide +kernel
theorem dX7_networkAt_2 : decode cX7_networkAt 2 = .ok (.getfield 12, 3) := by decide +kernel
theorem dX7_networkAt_5 : decode cX7_networkAt 5 = .ok (.invokevirtual 32, 3) := by decide +kernel
theorem dX7_networkAt_8 : decode cX7_networkAt 8 = .ok (.invokestatic 144, 3) := by decide +kernel
theorem dX7_networkAt_11 : decode cX7_networkAt 11 = .ok (.aload_n 0, 1) := by decide +kernel
theorem dX7_networkAt_12 : decode cX7_networkAt 12 = .ok (.getfield 12, 3) := by decide +kernel
theorem dX7_networkAt_15 : decode cX7_networkAt 15 = .ok (.iload_n 1, 1) := by decide +kernel
theorem dX7_networkAt_16 : decode cX7_networkAt 16 = .ok (.invokevirtual 43, 3) := by decide +kernel
theorem dX7_networkAt_19 : decode cX7_networkAt 19 = .ok (.checkcast 47, 3) := by decide +kernel
theorem dX7_networkAt_22 : decode cX7_networkAt 22 = .ok (.areturn, 1) := by decide +kernel
set_option maxRecDepth 20000 in
theorem ggX7_subnetAt_Jx4a65c_size_8abf5 : GoodIn wsX7_subnetAt wsJx4a65c_size_8abf5 := goodIn_r _ [7, 8, 37, 38, 39] (by decide +kernel) (by decide +kernel)
set_option maxRecDepth 20000 in
theorem gX7_subnetAt_Jx4a65c_size_8abf5 : GoodIn wsX7_subnetAt (wsV RX7 32 RJx4a65c yJx4a65c_size_8abf5 wsJx4a65c_size_8abf5) := goodIn_app (goodIn_of _ (by decide +kernel)) ggX7_subnetAt_Jx4a65c_size_8abf5
set_option maxRecDepth 20000 in
theorem ggX7_subnetAt_X7_checkIndex : GoodIn wsX7_subnetAt wsX7_checkIndex := goodIn_ca (goodIn_r _ [12, 13, 14] (by decide +kernel) (by decide +kernel)) (goodIn_sub (fun _ h => List.mem_cons_of_mem _ (List.mem_append_right _ h)) (by decide +kernel))
set_option maxRecDepth 20000 in
theorem gX7_subnetAt_X7_checkIndex : GoodIn wsX7_subnetAt (va_wsS RX7 144 yX7_checkIndex wsX7_checkIndex) := goodIn_app (goodIn_of _ (by decide +kernel)) ggX7_subnetAt_X7_checkIndex
set_option maxRecDepth 20000 in
theorem ggX7_subnetAt_Jx4a65c_get_915e3 : GoodIn wsX7_subnetAt wsJx4a65c_get_915e3 := goodIn_r _ [18, 8, 19, 20, 21, 22, 23, 24, 25, 26, 27, 28, 29, 6, 30, 31, 37, 38, 39] (by decide +kernel) (by decide +kernel)
set_option maxRecDepth 20000 in
theorem gX7_subnetAt_Jx4a65c_get_915e3 : GoodIn wsX7_subnetAt (wsV RX7 43 RJx4a65c yJx4a65c_get_915e3 wsJx4a65c_get_915e3) := goodIn_app (goodIn_of _ (by decide +kernel)) ggX7_subnetAt_Jx4a65c_get_915e3
theorem dX7_subnetAt_0 : decode cX7_subnetAt 0 = .ok (.iload_n 1, 1) := by decide +kernel
theorem dX7_subnetAt_1 : decode cX7_subnetAt 1 = .ok (.aload_n 0, 1) := by decide +kernel
theorem dX7_subnetAt_2 : decode cX7_subnetAt 2 = .ok (.getfield 16, 3) := by decide +kernel
theorem dX7_subnetAt_5 : decode cX7_subnetAt 5 = .ok (.invokevirtual 32, 3) := by decide +kernel
theorem dX7_subnetAt_8 : decode cX7_subnetAt 8 = .ok (.invokestatic 144, 3) := by decide +kernel
theorem dX7_subnetAt_11 : decode cX7_subnetAt 11 = .ok (.aload_n 0, 1) := by decide +kernel
theorem dX7_subnetAt_12 : decode cX7_subnetAt 12 = .ok (.getfield 16, 3) := by decide +kernel
theorem dX7_subnetAt_15 : decode cX7_subnetAt 15 = .ok (.iload_n 1, 1) := by decide +kernel
theorem dX7_subnetAt_16 : decode cX7_subnetAt 16 = .ok (.invokevirtual 43, 3) := by decide +kernel
theorem dX7_subnetAt_19 : decode cX7_subnetAt 19 = .ok (.checkcast 73, 3) := by decide +kernel
theorem dX7_subnetAt_22 : decode cX7_subnetAt 22 = .ok (.areturn, 1) := by decide +kernel
set_option maxRecDepth 20000 in
theorem ggX7_hostAt_Jx4a65c_size_8abf5 : GoodIn wsX7_hostAt wsJx4a65c_size_8abf5 := goodIn_r _ [7, 8, 37, 38, 39] (by decide +kernel) (by decide +kernel)
set_option maxRecDepth 20000 in
theorem gX7_hostAt_Jx4a65c_size_8abf5 : GoodIn wsX7_hostAt (wsV RX7 32 RJx4a65c yJx4a65c_size_8abf5 wsJx4a65c_size_8abf5) := goodIn_app (goodIn_of _ (by decide +kernel)) ggX7_hostAt_Jx4a65c_size_8abf5
set_option maxRecDepth 20000 in
theorem ggX7_hostAt_X7_checkIndex : GoodIn wsX7_hostAt wsX7_checkIndex := goodIn_ca (goodIn_r _ [12, 13, 14] (by decide +kernel) (by decide +kernel)) (goodIn_sub (fun _ h => List.mem_cons_of_mem _ (List.mem_append_right _ h)) (by decide +kernel))
set_option maxRecDepth 20000 in
theorem gX7_hostAt_X7_checkIndex : GoodIn wsX7_hostAt (va_wsS RX7 144 yX7_checkIndex wsX7_checkIndex) := goodIn_app (goodIn_of _ (by decide +kernel)) ggX7_hostAt_X7_checkIndex
set_option maxRecDepth 20000 in
theorem ggX7_hostAt_Jx4a65c_get_915e3 : GoodIn wsX7_hostAt wsJx4a65c_get_915e3 := goodIn_r _ [18, 8, 19, 20, 21, 22, 23, 24, 25, 26, 27, 28, 29, 6, 30, 31, 37, 38, 39] (by decide +kernel) (by decide +kernel)
set_option maxRecDepth 20000 in
theorem gX7_hostAt_Jx4a65c_get_915e3 : GoodIn wsX7_hostAt (wsV RX7 43 RJx4a65c yJx4a65c_get_915e3 wsJx4a65c_get_915e3) := goodIn_app (goodIn_of _ (by decide +kernel)) ggX7_hostAt_Jx4a65c_get_915e3
theorem dX7_hostAt_0 : decode cX7_hostAt 0 = .ok (.iload_n 1, 1) := by decide +kernel
theorem dX7_hostAt_1 : decode cX7_hostAt 1 = .ok (.aload_n 0, 1) := by decide +kernel
theorem dX7_hostAt_2 : decode cX7_hostAt 2 = .ok (.getfield 19, 3) := by decide +kernel
theorem dX7_hostAt_5 : decode cX7_hostAt 5 = .ok (.invokevirtual 32, 3) := by decide +kernel
theorem dX7_hostAt_8 : decode cX7_hostAt 8 = .ok (.invokestatic 144, 3) := by decide +kernel
theorem dX7_hostAt_11 : decode cX7_hostAt 11 = .ok (.aload_n 0, 1) := by decide +kernel
theorem dX7_hostAt_12 : decode cX7_hostAt 12 = .ok (.getfield 19, 3) := by decide +kernel
theorem dX7_hostAt_15 : decode cX7_hostAt 15 = .ok (.iload_n 1, 1) := by decide +kernel
theorem dX7_hostAt_16 : decode cX7_hostAt 16 = .ok (.invokevirtual 43, 3) := by decide +kernel
theorem dX7_hostAt_19 : decode cX7_hostAt 19 = .ok (.checkcast 96, 3) := by decide +kernel
theorem dX7_hostAt_22 : decode cX7_hostAt 22 = .ok (.areturn, 1) := by decide +kernel
set_option maxRecDepth 20000 in
theorem ggX7_groupAt_Jx4a65c_size_8abf5 : GoodIn wsX7_groupAt wsJx4a65c_size_8abf5 := goodIn_r _ [7, 8, 37, 38, 39] (by decide +kernel) (by decide +kernel)
set_option maxRecDepth 20000 in
theorem gX7_groupAt_Jx4a65c_size_8abf5 : GoodIn wsX7_groupAt (wsV RX7 32 RJx4a65c yJx4a65c_size_8abf5 wsJx4a65c_size_8abf5) := goodIn_app (goodIn_of _ (by decide +kernel)) ggX7_groupAt_Jx4a65c_size_8abf5
set_option maxRecDepth 20000 in
theorem ggX7_groupAt_X7_checkIndex : GoodIn wsX7_groupAt wsX7_checkIndex := goodIn_ca (goodIn_r _ [12, 13, 14] (by decide +kernel) (by decide +kernel)) (goodIn_sub (fun _ h => List.mem_cons_of_mem _ (List.mem_append_right _ h)) (by decide +kernel))
set_option maxRecDepth 20000 in
theorem gX7_groupAt_X7_checkIndex : GoodIn wsX7_groupAt (va_wsS RX7 144 yX7_checkIndex wsX7_checkIndex) := goodIn_app (goodIn_of _ (by decide +kernel)) ggX7_groupAt_X7_checkIndex
set_option maxRecDepth 20000 in
theorem ggX7_groupAt_Jx4a65c_get_915e3 : GoodIn wsX7_groupAt wsJx4a65c_get_915e3 := goodIn_r _ [18, 8, 19, 20, 21, 22, 23, 24, 25, 26, 27, 28, 29, 6, 30, 31, 37, 38, 39] (by decide +kernel) (by decide +kernel)
set_option maxRecDepth 20000 in
theorem gX7_groupAt_Jx4a65c_get_915e3 : GoodIn wsX7_groupAt (wsV RX7 43 RJx4a65c yJx4a65c_get_915e3 wsJx4a65c_get_915e3) := goodIn_app (goodIn_of _ (by decide +kernel)) ggX7_groupAt_Jx4a65c_get_915e3
theorem dX7_groupAt_0 : decode cX7_groupAt 0 = .ok (.iload_n 1, 1) := by decide +kernel
theorem dX7_groupAt_1 : decode cX7_groupAt 1 = .ok (.aload_n 0, 1) := by decide +kernel
theorem dX7_groupAt_2 : decode cX7_groupAt 2 = .ok (.getfield 25, 3) := by decide +kernel
theorem dX7_groupAt_5 : decode cX7_groupAt 5 = .ok (.invokevirtual 32, 3) := by decide +kernel
theorem dX7_groupAt_8 : decode cX7_groupAt 8 = .ok (.invokestatic 144, 3) := by decide +kernel
theorem dX7_groupAt_11 : decode cX7_groupAt 11 = .ok (.aload_n 0, 1) := by decide +kernel
theorem dX7_groupAt_12 : decode cX7_groupAt 12 = .ok (.getfield 25, 3) := by decide +kernel
theorem dX7_groupAt_15 : decode cX7_groupAt 15 = .ok (.iload_n 1, 1) := by decide +kernel
theorem dX7_groupAt_16 : decode cX7_groupAt 16 = .ok (.invokevirtual 43, 3) := by decide +kernel
theorem dX7_groupAt_19 : decode cX7_groupAt 19 = .ok (.checkcast 116, 3) := by decide +kernel
theorem dX7_groupAt_22 : decode cX7_groupAt 22 = .ok (.areturn, 1) := by decide +kernel
set_option maxRecDepth 20000 in
theorem ggX7_blockOf_X0_init : GoodIn wsX7_blockOf wsX0_init := goodIn_r _ [8, 9, 10, 11, 12, 13, 14, 15] (by decide +kernel) (by decide +kernel)
set_option maxRecDepth 20000 in
theorem gX7_blockOf_X0_init : GoodIn wsX7_blockOf (wsX0_init) := ggX7_blockOf_X0_init
theorem dX7_blockOf_0 : decode cX7_blockOf 0 = .ok (.iload_n 1, 1) := by decide +kernel
theorem dX7_blockOf_1 : decode cX7_blockOf 1 = .ok (.ifCond .lt 30, 3) := by decide +kernel
theorem dX7_blockOf_4 : decode cX7_blockOf 4 = .ok (.iload_n 1, 1) := by decide +kernel
theorem dX7_blockOf_5 : decode cX7_blockOf 5 = .ok (.bipush 10, 2) := by decide +kernel
theorem dX7_blockOf_7 : decode cX7_blockOf 7 = .ok (.if_icmp .gt 24, 3) := by decide +kernel
theorem dX7_blockOf_10 : decode cX7_blockOf 10 = .ok (.iload_n 0, 1) := by decide +kernel
theorem dX7_blockOf_11 : decode cX7_blockOf 11 = .ok (.ifCond .lt 20, 3) := by decide +kernel
theorem dX7_blockOf_14 : decode cX7_blockOf 14 = .ok (.iload_n 0, 1) := by decide +kernel
theorem dX7_blockOf_15 : decode cX7_blockOf 15 = .ok (.sipush 1024, 3) := by decide +kernel
theorem dX7_blockOf_18 : decode cX7_blockOf 18 = .ok (.if_icmp .ge 13, 3) := by decide +kernel
theorem dX7_blockOf_21 : decode cX7_blockOf 21 = .ok (.iload_n 0, 1) := by decide +kernel
theorem dX7_blockOf_22 : decode cX7_blockOf 22 = .ok (.iconst 1, 1) := by decide +kernel
theorem dX7_blockOf_23 : decode cX7_blockOf 23 = .ok (.iload_n 1, 1) := by decide +kernel
theorem dX7_blockOf_24 : decode cX7_blockOf 24 = .ok (.ishl, 1) := by decide +kernel
theorem dX7_blockOf_25 : decode cX7_blockOf 25 = .ok (.iconst 1, 1) := by decide +kernel
theorem dX7_blockOf_26 : decode cX7_blockOf 26 = .ok (.isub, 1) := by decide +kernel
theorem dX7_blockOf_27 : decode cX7_blockOf 27 = .ok (.iand, 1) := by decide +kernel
theorem dX7_blockOf_28 : decode cX7_blockOf 28 = .ok (.ifCond .eq 13, 3) := by decide +kernel
theorem dX7_blockOf_31 : decode cX7_blockOf 31 = .ok (.new 66, 3) := by decide +kernel
theorem dX7_blockOf_34 : decode cX7_blockOf 34 = .ok (.dup, 1) := by decide +kernel
theorem dX7_blockOf_35 : decode cX7_blockOf 35 = .ok (.ldc 212, 2) := by decide +kernel
theorem dX7_blockOf_37 : decode cX7_blockOf 37 = .ok (.invokespecial 70, 3) := by decide +kernel
theorem dX7_blockOf_40 : decode cX7_blockOf 40 = .ok (.athrow, 1) := by decide +kernel
theorem dX7_blockOf_41 : decode cX7_blockOf 41 = .ok (.new 47, 3) := by decide +kernel
theorem dX7_blockOf_44 : decode cX7_blockOf 44 = .ok (.dup, 1) := by decide +kernel
theorem dX7_blockOf_45 : decode cX7_blockOf 45 = .ok (.iload_n 0, 1) := by decide +kernel
theorem dX7_blockOf_46 : decode cX7_blockOf 46 = .ok (.iload_n 1, 1) := by decide +kernel
theorem dX7_blockOf_47 : decode cX7_blockOf 47 = .ok (.invokespecial 214, 3) := by decide +kernel
theorem dX7_blockOf_50 : decode cX7_blockOf 50 = .ok (.areturn, 1) := by decide +kernel
theorem dX7_portRange_0 : decode cX7_portRange 0 = .ok (.iload_n 0, 1) := by decide +kernel
theorem dX7_portRange_1 : decode cX7_portRange 1 = .ok (.ifCond .lt 14, 3) := by decide +kernel
theorem dX7_portRange_4 : decode cX7_portRange 4 = .ok (.iload_n 1, 1) := by decide +kernel
theorem dX7_portRange_5 : decode cX7_portRange 5 = .ok (.iload_n 0, 1) := by decide +kernel
theorem dX7_portRange_6 : decode cX7_portRange 6 = .ok (.if_icmp .lt 9, 3) := by decide +kernel
theorem dX7_portRange_9 : decode cX7_portRange 9 = .ok (.iload_n 1, 1) := by decide +kernel
theorem dX7_portRange_10 : decode cX7_portRange 10 = .ok (.bipush 16, 2) := by decide +kernel
theorem dX7_portRange_12 : decode cX7_portRange 12 = .ok (.if_icmp .lt 13, 3) := by decide +kernel
theorem dX7_portRange_15 : decode cX7_portRange 15 = .ok (.new 66, 3) := by decide +kernel
theorem dX7_portRange_18 : decode cX7_portRange 18 = .ok (.dup, 1) := by decide +kernel
theorem dX7_portRange_19 : decode cX7_portRange 19 = .ok (.ldc 216, 2) := by decide +kernel
theorem dX7_portRange_21 : decode cX7_portRange 21 = .ok (.invokespecial 70, 3) := by decide +kernel
theorem dX7_portRange_24 : decode cX7_portRange 24 = .ok (.athrow, 1) := by decide +kernel
theorem dX7_portRange_25 : decode cX7_portRange 25 = .ok (.iconst 1, 1) := by decide +kernel
theorem dX7_portRange_26 : decode cX7_portRange 26 = .ok (.iload_n 1, 1) := by decide +kernel
theorem dX7_portRange_27 : decode cX7_portRange 27 = .ok (.iconst 1, 1) := by decide +kernel
theorem dX7_portRange_28 : decode cX7_portRange 28 = .ok (.iadd, 1) := by decide +kernel
theorem dX7_portRange_29 : decode cX7_portRange 29 = .ok (.ishl, 1) := by decide +kernel
theorem dX7_portRange_30 : decode cX7_portRange 30 = .ok (.iconst 1, 1) := by decide +kernel
theorem dX7_portRange_31 : decode cX7_portRange 31 = .ok (.iload_n 0, 1) := by decide +kernel
theorem dX7_portRange_32 : decode cX7_portRange 32 = .ok (.ishl, 1) := by decide +kernel
theorem dX7_portRange_33 : decode cX7_portRange 33 = .ok (.isub, 1) := by decide +kernel
theorem dX7_portRange_34 : decode cX7_portRange 34 = .ok (.ireturn, 1) := by decide +kernel
theorem dX7_singlePort_0 : decode cX7_singlePort 0 = .ok (.iload_n 0, 1) := by decide +kernel
theorem dX7_singlePort_1 : decode cX7_singlePort 1 = .ok (.ifCond .lt 9, 3) := by decide +kernel
theorem dX7_singlePort_4 : decode cX7_singlePort 4 = .ok (.iload_n 0, 1) := by decide +kernel
theorem dX7_singlePort_5 : decode cX7_singlePort 5 = .ok (.bipush 16, 2) := by decide +kernel
theorem dX7_singlePort_7 : decode cX7_singlePort 7 = .ok (.if_icmp .lt 13, 3) := by decide +kernel
theorem dX7_singlePort_10 : decode cX7_singlePort 10 = .ok (.new 66, 3) := by decide +kernel
theorem dX7_singlePort_13 : decode cX7_singlePort 13 = .ok (.dup, 1) := by decide +kernel
theorem dX7_singlePort_14 : decode cX7_singlePort 14 = .ok (.ldc 218, 2) := by decide +kernel
theorem dX7_singlePort_16 : decode cX7_singlePort 16 = .ok (.invokespecial 70, 3) := by decide +kernel
theorem dX7_singlePort_19 : decode cX7_singlePort 19 = .ok (.athrow, 1) := by decide +kernel
theorem dX7_singlePort_20 : decode cX7_singlePort 20 = .ok (.iconst 1, 1) := by decide +kernel
theorem dX7_singlePort_21 : decode cX7_singlePort 21 = .ok (.iload_n 0, 1) := by decide +kernel
theorem dX7_singlePort_22 : decode cX7_singlePort 22 = .ok (.ishl, 1) := by decide +kernel
theorem dX7_singlePort_23 : decode cX7_singlePort 23 = .ok (.ireturn, 1) := by decide +kernel
theorem dX7_checkDifferent_0 : decode cX7_checkDifferent 0 = .ok (.iload_n 0, 1) := by decide +kernel
theorem dX7_checkDifferent_1 : decode cX7_checkDifferent 1 = .ok (.iload_n 1, 1) := by decide +kernel
theorem dX7_checkDifferent_2 : decode cX7_checkDifferent 2 = .ok (.if_icmp .ne 13, 3) := by decide +kernel
theorem dX7_checkDifferent_5 : decode cX7_checkDifferent 5 = .ok (.new 66, 3) := by decide +kernel
theorem dX7_checkDifferent_8 : decode cX7_checkDifferent 8 = .ok (.dup, 1) := by decide +kernel
theorem dX7_checkDifferent_9 : decode cX7_checkDifferent 9 = .ok (.ldc 220, 2) := by decide +kernel
theorem dX7_checkDifferent_11 : decode cX7_checkDifferent 11 = .ok (.invokespecial 70, 3) := by decide +kernel
theorem dX7_checkDifferent_14 : decode cX7_checkDifferent 14 = .ok (.athrow, 1) := by decide +kernel
theorem dX7_checkDifferent_15 : decode cX7_checkDifferent 15 = .ok (.return_, 1) := by decide +kernel
set_option maxRecDepth 20000 in
theorem ggX7_replaceRoute_Jx4a65c_get_915e3 : GoodIn wsX7_replaceRoute wsJx4a65c_get_915e3 := goodIn_r _ [8, 9, 10, 11, 12, 13, 14, 15, 16, 17, 18, 19, 20, 7, 21, 22, 43, 44, 45] (by decide +kernel) (by decide +kernel)
set_option maxRecDepth 20000 in
theorem gX7_replaceRoute_Jx4a65c_get_915e3 : GoodIn wsX7_replaceRoute (wsV RX7 43 RJx4a65c yJx4a65c_get_915e3 wsJx4a65c_get_915e3) := goodIn_app (goodIn_of _ (by decide +kernel)) ggX7_replaceRoute_Jx4a65c_get_915e3
set_option maxRecDepth 20000 in
theorem ggX7_replaceRoute_Jx4a65c_remove_915e3 : GoodIn wsX7_replaceRoute wsJx4a65c_remove_915e3 := goodIn_r _ [26, 9, 22, 10, 11, 12, 13, 14, 15, 16, 17, 27, 28, 29, 7, 30, 31, 32, 33, 34, 35, 36, 43, 44, 45] (by decide +kernel) (by decide +kernel)
set_option maxRecDepth 20000 in
theorem gX7_replaceRoute_Jx4a65c_remove_915e3 : GoodIn wsX7_replaceRoute (wsV RX7 166 RJx4a65c yJx4a65c_remove_915e3 wsJx4a65c_remove_915e3) := goodIn_app (goodIn_of _ (by decide +kernel)) ggX7_replaceRoute_Jx4a65c_remove_915e3
theorem dX7_replaceRoute_0 : decode cX7_replaceRoute 0 = .ok (.aload_n 0, 1) := by decide +kernel
theorem dX7_replaceRoute_1 : decode cX7_replaceRoute 1 = .ok (.getfield 173, 3) := by decide +kernel
theorem dX7_replaceRoute_4 : decode cX7_replaceRoute 4 = .ok (.iload_n 1, 1) := by decide +kernel
theorem dX7_replaceRoute_5 : decode cX7_replaceRoute 5 = .ok (.invokevirtual 43, 3) := by decide +kernel
theorem dX7_replaceRoute_8 : decode cX7_replaceRoute 8 = .ok (.checkcast 182, 3) := by decide +kernel
theorem dX7_replaceRoute_11 : decode cX7_replaceRoute 11 = .ok (.astore_n 3, 1) := by decide +kernel
theorem dX7_replaceRoute_12 : decode cX7_replaceRoute 12 = .ok (.aload_n 3, 1) := by decide +kernel
theorem dX7_replaceRoute_13 : decode cX7_replaceRoute 13 = .ok (.getfield 222, 3) := by decide +kernel
theorem dX7_replaceRoute_16 : decode cX7_replaceRoute 16 = .ok (.istore 4, 2) := by decide +kernel
theorem dX7_replaceRoute_18 : decode cX7_replaceRoute 18 = .ok (.iload_n 2, 1) := by decide +kernel
theorem dX7_replaceRoute_19 : decode cX7_replaceRoute 19 = .ok (.iconst (-1), 1) := by decide +kernel
theorem dX7_replaceRoute_20 : decode cX7_replaceRoute 20 = .ok (.if_icmp .ne 15, 3) := by decide +kernel
theorem dX7_replaceRoute_23 : decode cX7_replaceRoute 23 = .ok (.aload_n 0, 1) := by decide +kernel
theorem dX7_replaceRoute_24 : decode cX7_replaceRoute 24 = .ok (.getfield 173, 3) := by decide +kernel
theorem dX7_replaceRoute_27 : decode cX7_replaceRoute 27 = .ok (.iload_n 1, 1) := by decide +kernel
theorem dX7_replaceRoute_28 : decode cX7_replaceRoute 28 = .ok (.invokevirtual 166, 3) := by decide +kernel
theorem dX7_replaceRoute_31 : decode cX7_replaceRoute 31 = .ok (.pop, 1) := by decide +kernel
theorem dX7_replaceRoute_32 : decode cX7_replaceRoute 32 = .ok (.goto 8, 3) := by decide +kernel
theorem dX7_replaceRoute_35 : decode cX7_replaceRoute 35 = .ok (.aload_n 3, 1) := by decide +kernel
theorem dX7_replaceRoute_36 : decode cX7_replaceRoute 36 = .ok (.iload_n 2, 1) := by decide +kernel
theorem dX7_replaceRoute_37 : decode cX7_replaceRoute 37 = .ok (.putfield 222, 3) := by decide +kernel
theorem dX7_replaceRoute_40 : decode cX7_replaceRoute 40 = .ok (.iload 4, 2) := by decide +kernel
theorem dX7_replaceRoute_42 : decode cX7_replaceRoute 42 = .ok (.ireturn, 1) := by decide +kernel
set_option maxRecDepth 20000 in
theorem ggX7_workingPorts_X7_openPorts : GoodIn wsX7_workingPorts wsX7_openPorts := goodIn_r _ [6, 7, 1, 8, 9, 10, 11, 5, 12, 13, 14, 15, 16, 17, 18, 19, 20, 21, 22, 23, 24, 25, 26, 27, 28, 29, 30, 31, 32, 33, 34, 35, 36, 37, 38, 39, 40, 41, 42, 43, 44, 45, 46, 47, 48, 49, 50, 51, 52, 53, 54, 55, 56, 57, 58, 59, 60, 61, 62, 63, 64, 65, 66, 67, 68, 69, 70, 71, 72, 73, 74, 75, 76, 77, 78, 79, 80, 81, 82, 83, 84, 85, 86, 87, 88, 89, 90, 91, 92, 93, 94, 95, 96, 97, 98, 99, 100, 101, 102, 103, 104, 105, 106, 107, 108, 109, 110, 111, 112, 113, 114, 115, 116, 117, 118, 119, 120, 121, 122, 123, 124, 125, 126, 127, 128, 129, 130, 131, 132, 133, 134, 135, 136, 137, 138, 139] (by decide +kernel) (by decide +kernel)
set_option maxRecDepth 20000 in
theorem gX7_workingPorts_X7_openPorts : GoodIn wsX7_workingPorts (wsV RX7 203 RX7 yX7_openPorts wsX7_openPorts) := goodIn_app (goodIn_of _ (by decide +kernel)) ggX7_workingPorts_X7_openPorts
theorem dX7_workingPorts_0 : decode cX7_workingPorts 0 = .ok (.ldc 225, 2) := by decide +kernel
theorem dX7_workingPorts_2 : decode cX7_workingPorts 2 = .ok (.istore_n 3, 1) := by decide +kernel
theorem dX7_workingPorts_3 : decode cX7_workingPorts 3 = .ok (.iconst 1, 1) := by decide +kernel
theorem dX7_workingPorts_4 : decode cX7_workingPorts 4 = .ok (.istore 4, 2) := by decide +kernel
theorem dX7_workingPorts_6 : decode cX7_workingPorts 6 = .ok (.iload 4, 2) := by decide +kernel
theorem dX7_workingPorts_8 : decode cX7_workingPorts 8 = .ok (.bipush 8, 2) := by decide +kernel
theorem dX7_workingPorts_10 : decode cX7_workingPorts 10 = .ok (.if_icmp .gt 20, 3) := by decide +kernel
theorem dX7_workingPorts_13 : decode cX7_workingPorts 13 = .ok (.iload_n 3, 1) := by decide +kernel
theorem dX7_workingPorts_14 : decode cX7_workingPorts 14 = .ok (.aload_n 0, 1) := by decide +kernel
theorem dX7_workingPorts_15 : decode cX7_workingPorts 15 = .ok (.iload 4, 2) := by decide +kernel
theorem dX7_workingPorts_17 : decode cX7_workingPorts 17 = .ok (.aload_n 1, 1) := by decide +kernel
theorem dX7_workingPorts_18 : decode cX7_workingPorts 18 = .ok (.aload_n 2, 1) := by decide +kernel
theorem dX7_workingPorts_19 : decode cX7_workingPorts 19 = .ok (.invokevirtual 203, 3) := by decide +kernel
theorem dX7_workingPorts_22 : decode cX7_workingPorts 22 = .ok (.iand, 1) := by decide +kernel
theorem dX7_workingPorts_23 : decode cX7_workingPorts 23 = .ok (.istore_n 3, 1) := by decide +kernel
theorem dX7_workingPorts_24 : decode cX7_workingPorts 24 = .ok (.iinc 4 1, 3) := by decide +kernel
theorem dX7_workingPorts_27 : decode cX7_workingPorts 27 = .ok (.goto (-21), 3) := by decide +kernel
theorem dX7_workingPorts_30 : decode cX7_workingPorts 30 = .ok (.iload_n 3, 1) := by decide +kernel
theorem dX7_workingPorts_31 : decode cX7_workingPorts 31 = .ok (.ireturn, 1) := by decide +kernel
set_option maxRecDepth 20000 in
theorem ggX7_openPorts_X7_groupPorts : GoodIn wsX7_openPorts wsX7_groupPorts := goodIn_r _ [8, 9, 10, 11, 12, 13, 14, 15, 16, 17, 18, 19, 20, 21, 22, 23, 24, 25, 26, 27, 28, 29, 30, 31, 32, 33, 34, 35, 36, 37, 38, 39, 40, 41, 42, 43, 44, 45, 46, 47, 48, 49, 50, 51, 52, 53, 54, 55, 56, 57, 58, 59, 60, 61, 62, 63, 113, 114, 115, 116, 117, 118, 119, 120, 110, 111, 112, 121, 122, 123, 124, 125, 126, 127] (by decide +kernel) (by decide +kernel)
set_option maxRecDepth 20000 in
theorem gX7_openPorts_X7_groupPorts : GoodIn wsX7_openPorts (wsV RX7 230 RX7 yX7_groupPorts wsX7_groupPorts) := goodIn_app (goodIn_of _ (by decide +kernel)) ggX7_openPorts_X7_groupPorts
set_option maxRecDepth 20000 in
theorem ggX7_openPorts_X6_listPorts : GoodIn wsX7_openPorts wsX6_listPorts := goodIn_r _ [68, 69, 70, 71, 72, 73, 74, 75, 12, 13, 14, 15, 16, 76, 24, 25, 26, 27, 28, 29, 30, 31, 32, 33, 34, 35, 36, 37, 38, 39, 77, 51, 52, 53, 54, 55, 56, 57, 58, 59, 60, 61, 62, 63, 128, 129, 130, 131, 122, 123, 124, 125, 118, 119, 120, 126, 127] (by decide +kernel) (by decide +kernel)
set_option maxRecDepth 20000 in
theorem gX7_openPorts_X6_listPorts : GoodIn wsX7_openPorts (wsV RX7 234 RX6 yX6_listPorts wsX6_listPorts) := goodIn_app (goodIn_of _ (by decide +kernel)) ggX7_openPorts_X6_listPorts
set_option maxRecDepth 20000 in
theorem ggX7_openPorts_X7_isRouted : GoodIn wsX7_openPorts wsX7_isRouted := goodIn_r _ [81, 3, 82, 1, 83, 84, 85, 86, 87, 67, 88, 89, 90, 91, 92, 93, 94, 95, 58, 59, 60, 61, 62, 63, 75, 12, 13, 14, 15, 16, 76, 24, 25, 26, 27, 28, 29, 30, 31, 32, 33, 34, 35, 36, 37, 38, 39, 11, 23, 96, 97, 98, 99, 100, 101, 102, 110, 111, 112, 128, 129, 130, 131, 113, 114, 115, 116, 117, 126, 127, 132, 133, 118, 119, 120, 134, 135] (by decide +kernel) (by decide +kernel)
set_option maxRecDepth 20000 in
theorem gX7_openPorts_X7_isRouted : GoodIn wsX7_openPorts (wsV RX7 238 RX7 yX7_isRouted wsX7_isRouted) := goodIn_app (goodIn_of _ (by decide +kernel)) ggX7_openPorts_X7_isRouted
set_option maxRecDepth 20000 in
theorem ggX7_openPorts_X7_allOrNone : GoodIn wsX7_openPorts wsX7_allOrNone := goodIn_r _ [105, 2] (by decide +kernel) (by decide +kernel)
set_option maxRecDepth 20000 in
theorem gX7_openPorts_X7_allOrNone : GoodIn wsX7_openPorts (va_wsS RX7 242 yX7_allOrNone wsX7_allOrNone) := goodIn_app (goodIn_of _ (by decide +kernel)) ggX7_openPorts_X7_allOrNone
set_option maxRecDepth 20000 in
theorem ggX7_openPorts_X7_hasReplyPort : GoodIn wsX7_openPorts wsX7_hasReplyPort := goodIn_r _ [108, 109] (by decide +kernel) (by decide +kernel)
set_option maxRecDepth 20000 in
theorem gX7_openPorts_X7_hasReplyPort : GoodIn wsX7_openPorts (va_wsS RX7 246 yX7_hasReplyPort wsX7_hasReplyPort) := goodIn_app (goodIn_of _ (by decide +kernel)) ggX7_openPorts_X7_hasReplyPort
theorem dX7_openPorts_0 : decode cX7_openPorts 0 = .ok (.aload_n 2, 1) := by decide +kernel
theorem dX7_openPorts_1 : decode cX7_openPorts 1 = .ok (.getfield 226, 3) := by decide +kernel
theorem dX7_openPorts_4 : decode cX7_openPorts 4 = .ok (.aload_n 3, 1) := by decide +kernel
theorem dX7_openPorts_5 : decode cX7_openPorts 5 = .ok (.getfield 226, 3) := by decide +kernel
theorem dX7_openPorts_8 : decode cX7_openPorts 8 = .ok (.if_acmp .ne 16, 3) := by decide +kernel
theorem dX7_openPorts_11 : decode cX7_openPorts 11 = .ok (.iload_n 1, 1) := by decide +kernel
theorem dX7_openPorts_12 : decode cX7_openPorts 12 = .ok (.iconst 1, 1) := by decide +kernel
theorem dX7_openPorts_13 : decode cX7_openPorts 13 = .ok (.if_icmp .eq 11, 3) := by decide +kernel
theorem dX7_openPorts_16 : decode cX7_openPorts 16 = .ok (.iload_n 1, 1) := by decide +kernel
theorem dX7_openPorts_17 : decode cX7_openPorts 17 = .ok (.iconst 5, 1) := by decide +kernel
theorem dX7_openPorts_18 : decode cX7_openPorts 18 = .ok (.if_icmp .eq 6, 3) := by decide +kernel
theorem dX7_openPorts_21 : decode cX7_openPorts 21 = .ok (.ldc 225, 2) := by decide +kernel
theorem dX7_openPorts_23 : decode cX7_openPorts 23 = .ok (.ireturn, 1) := by decide +kernel
theorem dX7_openPorts_24 : decode cX7_openPorts 24 = .ok (.iload_n 1, 1) := by decide +kernel
theorem dX7_openPorts_25 : decode cX7_openPorts 25 = .ok (.tableswitch 136 1 7 #[43, 54, 67, 80, 93, 104, 123], 43) := by decide +kernel
theorem dX7_openPorts_68 : decode cX7_openPorts 68 = .ok (.aload_n 0, 1) := by decide +kernel
theorem dX7_openPorts_69 : decode cX7_openPorts 69 = .ok (.aload_n 2, 1) := by decide +kernel
theorem dX7_openPorts_70 : decode cX7_openPorts 70 = .ok (.iconst 0, 1) := by decide +kernel
theorem dX7_openPorts_71 : decode cX7_openPorts 71 = .ok (.aload_n 3, 1) := by decide +kernel
theorem dX7_openPorts_72 : decode cX7_openPorts 72 = .ok (.getfield 98, 3) := by decide +kernel
theorem dX7_openPorts_75 : decode cX7_openPorts 75 = .ok (.invokevirtual 230, 3) := by decide +kernel
theorem dX7_openPorts_78 : decode cX7_openPorts 78 = .ok (.ireturn, 1) := by decide +kernel
theorem dX7_openPorts_79 : decode cX7_openPorts 79 = .ok (.aload_n 2, 1) := by decide +kernel
theorem dX7_openPorts_80 : decode cX7_openPorts 80 = .ok (.getfield 226, 3) := by decide +kernel
theorem dX7_openPorts_83 : decode cX7_openPorts 83 = .ok (.iconst 0, 1) := by decide +kernel
theorem dX7_openPorts_84 : decode cX7_openPorts 84 = .ok (.aload_n 3, 1) := by decide +kernel
theorem dX7_openPorts_85 : decode cX7_openPorts 85 = .ok (.getfield 98, 3) := by decide +kernel
theorem dX7_openPorts_88 : decode cX7_openPorts 88 = .ok (.invokevirtual 234, 3) := by decide +kernel
theorem dX7_openPorts_91 : decode cX7_openPorts 91 = .ok (.ireturn, 1) := by decide +kernel
theorem dX7_openPorts_92 : decode cX7_openPorts 92 = .ok (.aload_n 0, 1) := by decide +kernel
theorem dX7_openPorts_93 : decode cX7_openPorts 93 = .ok (.aload_n 2, 1) := by decide +kernel
theorem dX7_openPorts_94 : decode cX7_openPorts 94 = .ok (.getfield 226, 3) := by decide +kernel
theorem dX7_openPorts_97 : decode cX7_openPorts 97 = .ok (.aload_n 3, 1) := by decide +kernel
theorem dX7_openPorts_98 : decode cX7_openPorts 98 = .ok (.invokevirtual 238, 3) := by decide +kernel
theorem dX7_openPorts_101 : decode cX7_openPorts 101 = .ok (.invokestatic 242, 3) := by decide +kernel
theorem dX7_openPorts_104 : decode cX7_openPorts 104 = .ok (.ireturn, 1) := by decide +kernel
theorem dX7_openPorts_105 : decode cX7_openPorts 105 = .ok (.aload_n 3, 1) := by decide +kernel
theorem dX7_openPorts_106 : decode cX7_openPorts 106 = .ok (.getfield 226, 3) := by decide +kernel
theorem dX7_openPorts_109 : decode cX7_openPorts 109 = .ok (.iconst 1, 1) := by decide +kernel
theorem dX7_openPorts_110 : decode cX7_openPorts 110 = .ok (.aload_n 2, 1) := by decide +kernel
theorem dX7_openPorts_111 : decode cX7_openPorts 111 = .ok (.getfield 98, 3) := by decide +kernel
theorem dX7_openPorts_114 : decode cX7_openPorts 114 = .ok (.invokevirtual 234, 3) := by decide +kernel
theorem dX7_openPorts_117 : decode cX7_openPorts 117 = .ok (.ireturn, 1) := by decide +kernel
theorem dX7_openPorts_118 : decode cX7_openPorts 118 = .ok (.aload_n 0, 1) := by decide +kernel
theorem dX7_openPorts_119 : decode cX7_openPorts 119 = .ok (.aload_n 3, 1) := by decide +kernel
theorem dX7_openPorts_120 : decode cX7_openPorts 120 = .ok (.iconst 1, 1) := by decide +kernel
theorem dX7_openPorts_121 : decode cX7_openPorts 121 = .ok (.aload_n 2, 1) := by decide +kernel
theorem dX7_openPorts_122 : decode cX7_openPorts 122 = .ok (.getfield 98, 3) := by decide +kernel
theorem dX7_openPorts_125 : decode cX7_openPorts 125 = .ok (.invokevirtual 230, 3) := by decide +kernel
theorem dX7_openPorts_128 : decode cX7_openPorts 128 = .ok (.ireturn, 1) := by decide +kernel
theorem dX7_openPorts_129 : decode cX7_openPorts 129 = .ok (.aload_n 3, 1) := by decide +kernel
theorem dX7_openPorts_130 : decode cX7_openPorts 130 = .ok (.getfield 226, 3) := by decide +kernel
theorem dX7_openPorts_133 : decode cX7_openPorts 133 = .ok (.iconst 0, 1) := by decide +kernel
theorem dX7_openPorts_134 : decode cX7_openPorts 134 = .ok (.aload_n 2, 1) := by decide +kernel
theorem dX7_openPorts_135 : decode cX7_openPorts 135 = .ok (.getfield 98, 3) := by decide +kernel
theorem dX7_openPorts_138 : decode cX7_openPorts 138 = .ok (.invokevirtual 234, 3) := by decide +kernel
theorem dX7_openPorts_141 : decode cX7_openPorts 141 = .ok (.invokestatic 246, 3) := by decide +kernel
theorem dX7_openPorts_144 : decode cX7_openPorts 144 = .ok (.invokestatic 242, 3) := by decide +kernel
theorem dX7_openPorts_147 : decode cX7_openPorts 147 = .ok (.ireturn, 1) := by decide +kernel
theorem dX7_openPorts_148 : decode cX7_openPorts 148 = .ok (.aload_n 0, 1) := by decide +kernel
theorem dX7_openPorts_149 : decode cX7_openPorts 149 = .ok (.aload_n 3, 1) := by decide +kernel
theorem dX7_openPorts_150 : decode cX7_openPorts 150 = .ok (.getfield 226, 3) := by decide +kernel
theorem dX7_openPorts_153 : decode cX7_openPorts 153 = .ok (.aload_n 2, 1) := by decide +kernel
theorem dX7_openPorts_154 : decode cX7_openPorts 154 = .ok (.invokevirtual 238, 3) := by decide +kernel
theorem dX7_openPorts_157 : decode cX7_openPorts 157 = .ok (.invokestatic 242, 3) := by decide +kernel
theorem dX7_openPorts_160 : decode cX7_openPorts 160 = .ok (.ireturn, 1) := by decide +kernel
theorem dX7_openPorts_161 : decode cX7_openPorts 161 = .ok (.aload_n 2, 1) := by decide +kernel
theorem dX7_openPorts_162 : decode cX7_openPorts 162 = .ok (.getfield 226, 3) := by decide +kernel
theorem dX7_openPorts_165 : decode cX7_openPorts 165 = .ok (.iconst 1, 1) := by decide +kernel
theorem dX7_openPorts_166 : decode cX7_openPorts 166 = .ok (.aload_n 3, 1) := by decide +kernel
theorem dX7_openPorts_167 : decode cX7_openPorts 167 = .ok (.getfield 98, 3) := by decide +kernel
theorem dX7_openPorts_170 : decode cX7_openPorts 170 = .ok (.invokevirtual 234, 3) := by decide +kernel
theorem dX7_openPorts_173 : decode cX7_openPorts 173 = .ok (.invokestatic 246, 3) := by decide +kernel
theorem dX7_openPorts_176 : decode cX7_openPorts 176 = .ok (.invokestatic 242, 3) := by decide +kernel
theorem dX7_openPorts_179 : decode cX7_openPorts 179 = .ok (.ireturn, 1) := by decide +kernel
theorem dX7_allOrNone_0 : decode cX7_allOrNone 0 = .ok (.iload_n 0, 1) := by decide +kernel
theorem dX7_allOrNone_1 : decode cX7_allOrNone 1 = .ok (.ifCond .eq 8, 3) := by decide +kernel
theorem dX7_allOrNone_4 : decode cX7_allOrNone 4 = .ok (.ldc 225, 2) := by decide +kernel
theorem dX7_allOrNone_6 : decode cX7_allOrNone 6 = .ok (.goto 4, 3) := by decide +kernel
theorem dX7_allOrNone_9 : decode cX7_allOrNone 9 = .ok (.iconst 0, 1) := by decide +kernel
theorem dX7_allOrNone_10 : decode cX7_allOrNone 10 = .ok (.ireturn, 1) := by decide +kernel
theorem dX7_hasReplyPort_0 : decode cX7_hasReplyPort 0 = .ok (.iload_n 0, 1) := by decide +kernel
theorem dX7_hasReplyPort_1 : decode cX7_hasReplyPort 1 = .ok (.ldc 249, 2) := by decide +kernel
theorem dX7_hasReplyPort_3 : decode cX7_hasReplyPort 3 = .ok (.iand, 1) := by decide +kernel
theorem dX7_hasReplyPort_4 : decode cX7_hasReplyPort 4 = .ok (.ifCond .eq 7, 3) := by decide +kernel
theorem dX7_hasReplyPort_7 : decode cX7_hasReplyPort 7 = .ok (.iconst 1, 1) := by decide +kernel
theorem dX7_hasReplyPort_8 : decode cX7_hasReplyPort 8 = .ok (.goto 4, 3) := by decide +kernel
theorem dX7_hasReplyPort_11 : decode cX7_hasReplyPort 11 = .ok (.iconst 0, 1) := by decide +kernel
theorem dX7_hasReplyPort_12 : decode cX7_hasReplyPort 12 = .ok (.ireturn, 1) := by decide +kernel
set_option maxRecDepth 20000 in
theorem ggX7_groupPorts_Jx4a65c_size_8abf5 : GoodIn wsX7_groupPorts wsJx4a65c_size_8abf5 := goodIn_r _ [7, 8, 61, 62, 63] (by decide +kernel) (by decide +kernel)
set_option maxRecDepth 20000 in
theorem gX7_groupPorts_Jx4a65c_size_8abf5 : GoodIn wsX7_groupPorts (wsV RX7 32 RJx4a65c yJx4a65c_size_8abf5 wsJx4a65c_size_8abf5) := goodIn_app (goodIn_of _ (by decide +kernel)) ggX7_groupPorts_Jx4a65c_size_8abf5
set_option maxRecDepth 20000 in
theorem ggX7_groupPorts_X2_isInGroup : GoodIn wsX7_groupPorts wsX2_isInGroup := goodIn_r _ [13, 14, 64, 65, 66] (by decide +kernel) (by decide +kernel)
set_option maxRecDepth 20000 in
theorem gX7_groupPorts_X2_isInGroup : GoodIn wsX7_groupPorts (wsV RX7 148 RX2 yX2_isInGroup wsX2_isInGroup) := goodIn_app (goodIn_of _ (by decide +kernel)) ggX7_groupPorts_X2_isInGroup
set_option maxRecDepth 20000 in
theorem ggX7_groupPorts_Jx4a65c_get_915e3 : GoodIn wsX7_groupPorts wsJx4a65c_get_915e3 := goodIn_r _ [18, 8, 19, 20, 21, 22, 23, 24, 25, 26, 27, 28, 29, 6, 30, 31, 61, 62, 63] (by decide +kernel) (by decide +kernel)
set_option maxRecDepth 20000 in
theorem gX7_groupPorts_Jx4a65c_get_915e3 : GoodIn wsX7_groupPorts (wsV RX7 43 RJx4a65c yJx4a65c_get_915e3 wsJx4a65c_get_915e3) := goodIn_app (goodIn_of _ (by decide +kernel)) ggX7_groupPorts_Jx4a65c_get_915e3
set_option maxRecDepth 20000 in
theorem ggX7_groupPorts_X1_rulePorts : GoodIn wsX7_groupPorts wsX1_rulePorts := goodIn_r _ [36, 37, 38, 39, 40, 4, 5, 6, 7, 8, 41, 16, 17, 18, 19, 20, 21, 22, 23, 24, 25, 26, 27, 28, 29, 30, 31, 42, 43, 44, 45, 46, 47, 48, 49, 50, 51, 52, 53, 54, 55, 67, 68, 69, 70, 71, 61, 62, 63, 72, 73] (by decide +kernel) (by decide +kernel)
set_option maxRecDepth 20000 in
theorem gX7_groupPorts_X1_rulePorts : GoodIn wsX7_groupPorts (wsV RX7 250 RX1 yX1_rulePorts wsX1_rulePorts) := goodIn_app (goodIn_of _ (by decide +kernel)) ggX7_groupPorts_X1_rulePorts
theorem dX7_groupPorts_0 : decode cX7_groupPorts 0 = .ok (.iconst 0, 1) := by decide +kernel
theorem dX7_groupPorts_1 : decode cX7_groupPorts 1 = .ok (.istore 4, 2) := by decide +kernel
theorem dX7_groupPorts_3 : decode cX7_groupPorts 3 = .ok (.iconst 0, 1) := by decide +kernel
theorem dX7_groupPorts_4 : decode cX7_groupPorts 4 = .ok (.istore 5, 2) := by decide +kernel
theorem dX7_groupPorts_6 : decode cX7_groupPorts 6 = .ok (.iload 5, 2) := by decide +kernel
theorem dX7_groupPorts_8 : decode cX7_groupPorts 8 = .ok (.aload_n 0, 1) := by decide +kernel
theorem dX7_groupPorts_9 : decode cX7_groupPorts 9 = .ok (.getfield 25, 3) := by decide +kernel
theorem dX7_groupPorts_12 : decode cX7_groupPorts 12 = .ok (.invokevirtual 32, 3) := by decide +kernel
theorem dX7_groupPorts_15 : decode cX7_groupPorts 15 = .ok (.if_icmp .ge 40, 3) := by decide +kernel
theorem dX7_groupPorts_18 : decode cX7_groupPorts 18 = .ok (.aload_n 1, 1) := by decide +kernel
theorem dX7_groupPorts_19 : decode cX7_groupPorts 19 = .ok (.iload 5, 2) := by decide +kernel
theorem dX7_groupPorts_21 : decode cX7_groupPorts 21 = .ok (.invokevirtual 148, 3) := by decide +kernel
theorem dX7_groupPorts_24 : decode cX7_groupPorts 24 = .ok (.ifCond .eq 25, 3) := by decide +kernel
theorem dX7_groupPorts_27 : decode cX7_groupPorts 27 = .ok (.iload 4, 2) := by decide +kernel
theorem dX7_groupPorts_29 : decode cX7_groupPorts 29 = .ok (.aload_n 0, 1) := by decide +kernel
theorem dX7_groupPorts_30 : decode cX7_groupPorts 30 = .ok (.getfield 25, 3) := by decide +kernel
theorem dX7_groupPorts_33 : decode cX7_groupPorts 33 = .ok (.iload 5, 2) := by decide +kernel
theorem dX7_groupPorts_35 : decode cX7_groupPorts 35 = .ok (.invokevirtual 43, 3) := by decide +kernel
theorem dX7_groupPorts_38 : decode cX7_groupPorts 38 = .ok (.checkcast 116, 3) := by decide +kernel
theorem dX7_groupPorts_41 : decode cX7_groupPorts 41 = .ok (.iload_n 2, 1) := by decide +kernel
theorem dX7_groupPorts_42 : decode cX7_groupPorts 42 = .ok (.iload_n 3, 1) := by decide +kernel
theorem dX7_groupPorts_43 : decode cX7_groupPorts 43 = .ok (.invokevirtual 250, 3) := by decide +kernel
theorem dX7_groupPorts_46 : decode cX7_groupPorts 46 = .ok (.ior, 1) := by decide +kernel
theorem dX7_groupPorts_47 : decode cX7_groupPorts 47 = .ok (.istore 4, 2) := by decide +kernel
theorem dX7_groupPorts_49 : decode cX7_groupPorts 49 = .ok (.iinc 5 1, 3) := by decide +kernel
theorem dX7_groupPorts_52 : decode cX7_groupPorts 52 = .ok (.goto (-46), 3) := by decide +kernel
theorem dX7_groupPorts_55 : decode cX7_groupPorts 55 = .ok (.iload 4, 2) := by decide +kernel
theorem dX7_groupPorts_57 : decode cX7_groupPorts 57 = .ok (.ireturn, 1) := by decide +kernel
set_option maxRecDepth 20000 in
theorem ggX7_isRouted_X6_routeNumber : GoodIn wsX7_isRouted wsX6_routeNumber := goodIn_r _ [10, 11, 12, 13, 14, 15, 16, 17, 18, 19, 20, 21, 22, 23, 24, 25, 26, 27, 28, 29, 30, 31, 32, 33, 34, 35, 36, 37, 38, 39, 40, 41, 42, 43, 44, 45, 46, 59, 60, 61, 62, 68, 69, 70, 71, 72, 73, 74] (by decide +kernel) (by decide +kernel)
set_option maxRecDepth 20000 in
theorem gX7_isRouted_X6_routeNumber : GoodIn wsX7_isRouted (wsV RX7 189 RX6 yX6_routeNumber wsX6_routeNumber) := goodIn_app (goodIn_of _ (by decide +kernel)) ggX7_isRouted_X6_routeNumber
set_option maxRecDepth 20000 in
theorem ggX7_isRouted_Jx4a65c_size_8abf5 : GoodIn wsX7_isRouted wsJx4a65c_size_8abf5 := goodIn_r _ [28, 29, 72, 73, 74] (by decide +kernel) (by decide +kernel)
set_option maxRecDepth 20000 in
theorem gX7_isRouted_Jx4a65c_size_8abf5 : GoodIn wsX7_isRouted (wsV RX7 32 RJx4a65c yJx4a65c_size_8abf5 wsJx4a65c_size_8abf5) := goodIn_app (goodIn_of _ (by decide +kernel)) ggX7_isRouted_Jx4a65c_size_8abf5
set_option maxRecDepth 20000 in
theorem ggX7_isRouted_Jx4a65c_get_915e3 : GoodIn wsX7_isRouted wsJx4a65c_get_915e3 := goodIn_r _ [33, 29, 34, 35, 36, 37, 38, 39, 40, 41, 42, 43, 44, 27, 45, 46, 72, 73, 74] (by decide +kernel) (by decide +kernel)
set_option maxRecDepth 20000 in
theorem gX7_isRouted_Jx4a65c_get_915e3 : GoodIn wsX7_isRouted (wsV RX7 43 RJx4a65c yJx4a65c_get_915e3 wsJx4a65c_get_915e3) := goodIn_app (goodIn_of _ (by decide +kernel)) ggX7_isRouted_Jx4a65c_get_915e3
set_option maxRecDepth 20000 in
theorem ggX7_isRouted_X3_joins : GoodIn wsX7_isRouted wsX3_joins := goodIn_r _ [53, 54, 55, 75, 76] (by decide +kernel) (by decide +kernel)
set_option maxRecDepth 20000 in
theorem gX7_isRouted_X3_joins : GoodIn wsX7_isRouted (wsV RX7 256 RX3 yX3_joins wsX3_joins) := goodIn_app (goodIn_of _ (by decide +kernel)) ggX7_isRouted_X3_joins
theorem dX7_isRouted_0 : decode cX7_isRouted 0 = .ok (.aload_n 1, 1) := by decide +kernel
theorem dX7_isRouted_1 : decode cX7_isRouted 1 = .ok (.aload_n 2, 1) := by decide +kernel
theorem dX7_isRouted_2 : decode cX7_isRouted 2 = .ok (.getfield 98, 3) := by decide +kernel
theorem dX7_isRouted_5 : decode cX7_isRouted 5 = .ok (.invokevirtual 189, 3) := by decide +kernel
theorem dX7_isRouted_8 : decode cX7_isRouted 8 = .ok (.istore_n 3, 1) := by decide +kernel
theorem dX7_isRouted_9 : decode cX7_isRouted 9 = .ok (.iload_n 3, 1) := by decide +kernel
theorem dX7_isRouted_10 : decode cX7_isRouted 10 = .ok (.iconst (-1), 1) := by decide +kernel
theorem dX7_isRouted_11 : decode cX7_isRouted 11 = .ok (.if_icmp .ne 23, 3) := by decide +kernel
theorem dX7_isRouted_14 : decode cX7_isRouted 14 = .ok (.aload_n 1, 1) := by decide +kernel
theorem dX7_isRouted_15 : decode cX7_isRouted 15 = .ok (.getfield 253, 3) := by decide +kernel
theorem dX7_isRouted_18 : decode cX7_isRouted 18 = .ok (.aload_n 2, 1) := by decide +kernel
theorem dX7_isRouted_19 : decode cX7_isRouted 19 = .ok (.getfield 226, 3) := by decide +kernel
theorem dX7_isRouted_22 : decode cX7_isRouted 22 = .ok (.getfield 253, 3) := by decide +kernel
theorem dX7_isRouted_25 : decode cX7_isRouted 25 = .ok (.if_acmp .ne 7, 3) := by decide +kernel
theorem dX7_isRouted_28 : decode cX7_isRouted 28 = .ok (.iconst 1, 1) := by decide +kernel
theorem dX7_isRouted_29 : decode cX7_isRouted 29 = .ok (.goto 4, 3) := by decide +kernel
theorem dX7_isRouted_32 : decode cX7_isRouted 32 = .ok (.iconst 0, 1) := by decide +kernel
theorem dX7_isRouted_33 : decode cX7_isRouted 33 = .ok (.ireturn, 1) := by decide +kernel
theorem dX7_isRouted_34 : decode cX7_isRouted 34 = .ok (.iload_n 3, 1) := by decide +kernel
theorem dX7_isRouted_35 : decode cX7_isRouted 35 = .ok (.ifCond .lt 46, 3) := by decide +kernel
theorem dX7_isRouted_38 : decode cX7_isRouted 38 = .ok (.iload_n 3, 1) := by decide +kernel
theorem dX7_isRouted_39 : decode cX7_isRouted 39 = .ok (.aload_n 0, 1) := by decide +kernel
theorem dX7_isRouted_40 : decode cX7_isRouted 40 = .ok (.getfield 22, 3) := by decide +kernel
theorem dX7_isRouted_43 : decode cX7_isRouted 43 = .ok (.invokevirtual 32, 3) := by decide +kernel
theorem dX7_isRouted_46 : decode cX7_isRouted 46 = .ok (.if_icmp .ge 35, 3) := by decide +kernel
theorem dX7_isRouted_49 : decode cX7_isRouted 49 = .ok (.aload_n 0, 1) := by decide +kernel
theorem dX7_isRouted_50 : decode cX7_isRouted 50 = .ok (.getfield 22, 3) := by decide +kernel
theorem dX7_isRouted_53 : decode cX7_isRouted 53 = .ok (.iload_n 3, 1) := by decide +kernel
theorem dX7_isRouted_54 : decode cX7_isRouted 54 = .ok (.invokevirtual 43, 3) := by decide +kernel
theorem dX7_isRouted_57 : decode cX7_isRouted 57 = .ok (.checkcast 111, 3) := by decide +kernel
theorem dX7_isRouted_60 : decode cX7_isRouted 60 = .ok (.aload_n 1, 1) := by decide +kernel
theorem dX7_isRouted_61 : decode cX7_isRouted 61 = .ok (.getfield 253, 3) := by decide +kernel
theorem dX7_isRouted_64 : decode cX7_isRouted 64 = .ok (.aload_n 2, 1) := by decide +kernel
theorem dX7_isRouted_65 : decode cX7_isRouted 65 = .ok (.getfield 226, 3) := by decide +kernel
theorem dX7_isRouted_68 : decode cX7_isRouted 68 = .ok (.getfield 253, 3) := by decide +kernel
theorem dX7_isRouted_71 : decode cX7_isRouted 71 = .ok (.invokevirtual 256, 3) := by decide +kernel
theorem dX7_isRouted_74 : decode cX7_isRouted 74 = .ok (.ifCond .eq 7, 3) := by decide +kernel
theorem dX7_isRouted_77 : decode cX7_isRouted 77 = .ok (.iconst 1, 1) := by decide +kernel
theorem dX7_isRouted_78 : decode cX7_isRouted 78 = .ok (.goto 4, 3) := by decide +kernel
theorem dX7_isRouted_81 : decode cX7_isRouted 81 = .ok (.iconst 0, 1) := by decide +kernel
theorem dX7_isRouted_82 : decode cX7_isRouted 82 = .ok (.ireturn, 1) := by decide +kernel
