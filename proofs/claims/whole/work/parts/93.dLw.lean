set_option maxRecDepth 20000 in
theorem ggL_addNetwork_X7_addNetwork : GoodIn wsL_addNetwork wsX7_addNetwork := goodIn_ca (goodIn_ca (goodIn_r _ [6, 7, 8, 9, 10, 11, 12, 5, 13, 14, 15, 16, 17, 18, 19, 20, 21, 22, 23, 24, 25, 26, 27, 28, 29, 30, 31, 32, 33, 34, 35, 36, 37, 38, 39, 40, 41, 42, 43, 44, 45, 46, 47, 48, 49, 50, 51, 52, 53, 54, 55, 56, 57, 58, 59, 60, 61, 62, 63, 64, 65, 66, 67, 68, 69, 70, 71, 72, 73, 74, 75, 76, 77, 78, 79, 80, 81, 82, 83, 84, 85, 86, 87, 88, 89, 90, 91, 92, 93, 94, 95, 96, 97, 98, 99, 100, 101, 102, 103, 104, 105, 106, 107, 108, 109, 110, 111, 112, 113, 114, 115, 116, 117, 118, 119, 120] (by decide +kernel) (by decide +kernel)) (goodIn_sub (fun _ h => List.mem_cons_of_mem _ (List.mem_append_left _ (List.mem_append_right _ h))) (by decide +kernel))) (goodIn_sub (fun _ h => List.mem_cons_of_mem _ (List.mem_append_right _ h)) (by decide +kernel))
set_option maxRecDepth 20000 in
theorem gL_addNetwork_X7_addNetwork : GoodIn wsL_addNetwork (wsV RL 7 RX7 yX7_addNetwork wsX7_addNetwork) := goodIn_app (goodIn_of _ (by decide +kernel)) ggL_addNetwork_X7_addNetwork
theorem dL_addNetwork_0 : decode cL_addNetwork 0 = .ok (.aload_n 3, 1) := by decide +kernel
theorem dL_addNetwork_1 : decode cL_addNetwork 1 = .ok (.iconst 0, 1) := by decide +kernel
theorem dL_addNetwork_2 : decode cL_addNetwork 2 = .ok (.aload_n 0, 1) := by decide +kernel
theorem dL_addNetwork_3 : decode cL_addNetwork 3 = .ok (.iload_n 1, 1) := by decide +kernel
theorem dL_addNetwork_4 : decode cL_addNetwork 4 = .ok (.iload_n 2, 1) := by decide +kernel
theorem dL_addNetwork_5 : decode cL_addNetwork 5 = .ok (.invokevirtual 7, 3) := by decide +kernel
theorem dL_addNetwork_8 : decode cL_addNetwork 8 = .ok (.i2l, 1) := by decide +kernel
theorem dL_addNetwork_9 : decode cL_addNetwork 9 = .ok (.lastore, 1) := by decide +kernel
theorem dL_addNetwork_10 : decode cL_addNetwork 10 = .ok (.goto 11, 3) := by decide +kernel
theorem dL_addNetwork_13 : decode cL_addNetwork 13 = .ok (.astore 4, 2) := by decide +kernel
theorem dL_addNetwork_15 : decode cL_addNetwork 15 = .ok (.iconst 1, 1) := by decide +kernel
theorem dL_addNetwork_16 : decode cL_addNetwork 16 = .ok (.ireturn, 1) := by decide +kernel
theorem dL_addNetwork_17 : decode cL_addNetwork 17 = .ok (.astore 4, 2) := by decide +kernel
theorem dL_addNetwork_19 : decode cL_addNetwork 19 = .ok (.iconst 2, 1) := by decide +kernel
theorem dL_addNetwork_20 : decode cL_addNetwork 20 = .ok (.ireturn, 1) := by decide +kernel
theorem dL_addNetwork_21 : decode cL_addNetwork 21 = .ok (.iconst 0, 1) := by decide +kernel
theorem dL_addNetwork_22 : decode cL_addNetwork 22 = .ok (.ireturn, 1) := by decide +kernel
set_option maxRecDepth 20000 in
theorem ggL_addSubnet_X7_addSubnet : GoodIn wsL_addSubnet wsX7_addSubnet := goodIn_ca (goodIn_ca (goodIn_ca (goodIn_r _ [6, 7, 8, 9, 10, 11, 12, 13, 14, 15, 16, 17, 18, 19, 5, 20, 21, 22, 23, 24, 25, 26, 27, 28, 29, 30, 31, 32, 33, 34, 35, 36, 37, 38, 39, 40, 41, 42, 43, 44, 45, 46, 47, 48, 49, 50, 51, 52, 53, 54, 55, 56, 57, 58, 59, 60, 61, 62, 63, 64, 65, 66, 67, 68, 69, 70, 71, 72, 73, 74, 75, 76, 77, 78, 79, 80, 81, 82, 83, 84, 85, 86, 87, 88, 89, 90, 91, 92, 93, 94, 95, 96, 97, 98, 99, 100, 101, 102, 103, 104, 105, 106, 107, 108, 109, 110, 111, 112, 113, 114, 115, 116, 117, 118, 119, 120, 121, 122, 123, 124, 125, 126, 127, 128, 129, 130, 131, 132, 133, 134, 135, 136, 137, 138, 139, 140, 141, 142, 143, 144, 145, 146, 147, 148, 149, 150, 151, 152, 153, 154, 155, 156, 157, 158, 159, 160, 161, 162, 163, 164, 165, 166] (by decide +kernel) (by decide +kernel)) (goodIn_sub (fun _ h => List.mem_cons_of_mem _ (List.mem_append_left _ (List.mem_append_left _ (List.mem_append_right _ h)))) (by decide +kernel))) (goodIn_sub (fun _ h => List.mem_cons_of_mem _ (List.mem_append_left _ (List.mem_append_right _ h))) (by decide +kernel))) (goodIn_sub (fun _ h => List.mem_cons_of_mem _ (List.mem_append_right _ h)) (by decide +kernel))
set_option maxRecDepth 20000 in
theorem gL_addSubnet_X7_addSubnet : GoodIn wsL_addSubnet (wsV RL 17 RX7 yX7_addSubnet wsX7_addSubnet) := goodIn_app (goodIn_of _ (by decide +kernel)) ggL_addSubnet_X7_addSubnet
theorem dL_addSubnet_0 : decode cL_addSubnet 0 = .ok (.aload 4, 2) := by decide +kernel
theorem dL_addSubnet_2 : decode cL_addSubnet 2 = .ok (.iconst 0, 1) := by decide +kernel
theorem dL_addSubnet_3 : decode cL_addSubnet 3 = .ok (.aload_n 0, 1) := by decide +kernel
theorem dL_addSubnet_4 : decode cL_addSubnet 4 = .ok (.iload_n 1, 1) := by decide +kernel
theorem dL_addSubnet_5 : decode cL_addSubnet 5 = .ok (.iload_n 2, 1) := by decide +kernel
theorem dL_addSubnet_6 : decode cL_addSubnet 6 = .ok (.iload_n 3, 1) := by decide +kernel
theorem dL_addSubnet_7 : decode cL_addSubnet 7 = .ok (.invokevirtual 17, 3) := by decide +kernel
theorem dL_addSubnet_10 : decode cL_addSubnet 10 = .ok (.i2l, 1) := by decide +kernel
theorem dL_addSubnet_11 : decode cL_addSubnet 11 = .ok (.lastore, 1) := by decide +kernel
theorem dL_addSubnet_12 : decode cL_addSubnet 12 = .ok (.goto 15, 3) := by decide +kernel
theorem dL_addSubnet_15 : decode cL_addSubnet 15 = .ok (.astore 5, 2) := by decide +kernel
theorem dL_addSubnet_17 : decode cL_addSubnet 17 = .ok (.iconst 1, 1) := by decide +kernel
theorem dL_addSubnet_18 : decode cL_addSubnet 18 = .ok (.ireturn, 1) := by decide +kernel
theorem dL_addSubnet_19 : decode cL_addSubnet 19 = .ok (.astore 5, 2) := by decide +kernel
theorem dL_addSubnet_21 : decode cL_addSubnet 21 = .ok (.iconst 2, 1) := by decide +kernel
theorem dL_addSubnet_22 : decode cL_addSubnet 22 = .ok (.ireturn, 1) := by decide +kernel
theorem dL_addSubnet_23 : decode cL_addSubnet 23 = .ok (.astore 5, 2) := by decide +kernel
theorem dL_addSubnet_25 : decode cL_addSubnet 25 = .ok (.iconst 3, 1) := by decide +kernel
theorem dL_addSubnet_26 : decode cL_addSubnet 26 = .ok (.ireturn, 1) := by decide +kernel
theorem dL_addSubnet_27 : decode cL_addSubnet 27 = .ok (.iconst 0, 1) := by decide +kernel
theorem dL_addSubnet_28 : decode cL_addSubnet 28 = .ok (.ireturn, 1) := by decide +kernel
set_option maxRecDepth 20000 in
theorem ggL_addHost_X7_addHost : GoodIn wsL_addHost wsX7_addHost := goodIn_ca (goodIn_ca (goodIn_ca (goodIn_r _ [6, 7, 8, 9, 10, 11, 12, 13, 14, 15, 16, 17, 18, 19, 20, 5, 21, 22, 23, 24, 25, 26, 27, 28, 29, 30, 31, 32, 33, 34, 35, 36, 37, 38, 39, 40, 41, 42, 43, 44, 45, 46, 47, 48, 49, 50, 51, 52, 53, 54, 55, 56, 57, 58, 59, 60, 61, 62, 63, 64, 65, 66, 67, 68, 69, 70, 71, 72, 73, 74, 75, 76, 77, 78, 79, 80, 81, 82, 83, 84, 85, 86, 87, 88, 89, 90, 91, 92, 93, 94, 95, 96, 97, 98, 99, 100, 101, 102, 103, 104, 105, 106, 107, 108, 109, 110, 111, 112, 113, 114, 115, 116, 117, 118, 119, 120, 121, 122, 123, 124, 125, 126, 127, 128, 129, 130, 131, 132, 133, 134, 135, 136] (by decide +kernel) (by decide +kernel)) (goodIn_sub (fun _ h => List.mem_cons_of_mem _ (List.mem_append_left _ (List.mem_append_left _ (List.mem_append_right _ h)))) (by decide +kernel))) (goodIn_sub (fun _ h => List.mem_cons_of_mem _ (List.mem_append_left _ (List.mem_append_right _ h))) (by decide +kernel))) (goodIn_sub (fun _ h => List.mem_cons_of_mem _ (List.mem_append_right _ h)) (by decide +kernel))
set_option maxRecDepth 20000 in
theorem gL_addHost_X7_addHost : GoodIn wsL_addHost (wsV RL 23 RX7 yX7_addHost wsX7_addHost) := goodIn_app (goodIn_of _ (by decide +kernel)) ggL_addHost_X7_addHost
theorem dL_addHost_0 : decode cL_addHost 0 = .ok (.aload_n 3, 1) := by decide +kernel
theorem dL_addHost_1 : decode cL_addHost 1 = .ok (.iconst 0, 1) := by decide +kernel
theorem dL_addHost_2 : decode cL_addHost 2 = .ok (.aload_n 0, 1) := by decide +kernel
theorem dL_addHost_3 : decode cL_addHost 3 = .ok (.iload_n 1, 1) := by decide +kernel
theorem dL_addHost_4 : decode cL_addHost 4 = .ok (.iload_n 2, 1) := by decide +kernel
theorem dL_addHost_5 : decode cL_addHost 5 = .ok (.invokevirtual 23, 3) := by decide +kernel
theorem dL_addHost_8 : decode cL_addHost 8 = .ok (.i2l, 1) := by decide +kernel
theorem dL_addHost_9 : decode cL_addHost 9 = .ok (.lastore, 1) := by decide +kernel
theorem dL_addHost_10 : decode cL_addHost 10 = .ok (.goto 15, 3) := by decide +kernel
theorem dL_addHost_13 : decode cL_addHost 13 = .ok (.astore 4, 2) := by decide +kernel
theorem dL_addHost_15 : decode cL_addHost 15 = .ok (.iconst 1, 1) := by decide +kernel
theorem dL_addHost_16 : decode cL_addHost 16 = .ok (.ireturn, 1) := by decide +kernel
theorem dL_addHost_17 : decode cL_addHost 17 = .ok (.astore 4, 2) := by decide +kernel
theorem dL_addHost_19 : decode cL_addHost 19 = .ok (.iconst 2, 1) := by decide +kernel
theorem dL_addHost_20 : decode cL_addHost 20 = .ok (.ireturn, 1) := by decide +kernel
theorem dL_addHost_21 : decode cL_addHost 21 = .ok (.astore 4, 2) := by decide +kernel
theorem dL_addHost_23 : decode cL_addHost 23 = .ok (.iconst 3, 1) := by decide +kernel
theorem dL_addHost_24 : decode cL_addHost 24 = .ok (.ireturn, 1) := by decide +kernel
theorem dL_addHost_25 : decode cL_addHost 25 = .ok (.iconst 0, 1) := by decide +kernel
theorem dL_addHost_26 : decode cL_addHost 26 = .ok (.ireturn, 1) := by decide +kernel
set_option maxRecDepth 20000 in
theorem ggL_addPeering_X7_addPeering : GoodIn wsL_addPeering wsX7_addPeering := goodIn_ca (goodIn_ca (goodIn_ca (goodIn_r _ [6, 7, 8, 9, 10, 11, 12, 13, 14, 15, 16, 17, 5, 18, 19, 20, 21, 22, 23, 24, 25, 26, 27, 28, 29, 30, 31, 32, 33, 34, 35, 36, 37, 38, 39, 40, 41, 42, 43, 44, 45, 46, 47, 48, 49, 50, 51, 52, 53, 54, 55, 56, 57, 58, 59, 60, 61, 62, 63, 64, 65, 66, 67, 68, 69, 70, 71, 72, 73, 74, 75, 76, 77, 78, 79, 80, 81, 82, 83, 84, 85, 86, 87, 88, 89, 90, 91, 92, 93, 94, 95, 96, 97, 98, 99, 100, 101, 102, 103, 104, 105, 106, 107, 108, 109, 110, 111, 112, 113, 114, 115, 116, 117, 118, 119] (by decide +kernel) (by decide +kernel)) (goodIn_sub (fun _ h => List.mem_cons_of_mem _ (List.mem_append_left _ (List.mem_append_left _ (List.mem_append_right _ h)))) (by decide +kernel))) (goodIn_sub (fun _ h => List.mem_cons_of_mem _ (List.mem_append_left _ (List.mem_append_right _ h))) (by decide +kernel))) (goodIn_sub (fun _ h => List.mem_cons_of_mem _ (List.mem_append_right _ h)) (by decide +kernel))
set_option maxRecDepth 20000 in
theorem gL_addPeering_X7_addPeering : GoodIn wsL_addPeering (wsV RL 26 RX7 yX7_addPeering wsX7_addPeering) := goodIn_app (goodIn_of _ (by decide +kernel)) ggL_addPeering_X7_addPeering
theorem dL_addPeering_0 : decode cL_addPeering 0 = .ok (.aload_n 3, 1) := by decide +kernel
theorem dL_addPeering_1 : decode cL_addPeering 1 = .ok (.iconst 0, 1) := by decide +kernel
theorem dL_addPeering_2 : decode cL_addPeering 2 = .ok (.aload_n 0, 1) := by decide +kernel
theorem dL_addPeering_3 : decode cL_addPeering 3 = .ok (.iload_n 1, 1) := by decide +kernel
theorem dL_addPeering_4 : decode cL_addPeering 4 = .ok (.iload_n 2, 1) := by decide +kernel
theorem dL_addPeering_5 : decode cL_addPeering 5 = .ok (.invokevirtual 26, 3) := by decide +kernel
theorem dL_addPeering_8 : decode cL_addPeering 8 = .ok (.i2l, 1) := by decide +kernel
theorem dL_addPeering_9 : decode cL_addPeering 9 = .ok (.lastore, 1) := by decide +kernel
theorem dL_addPeering_10 : decode cL_addPeering 10 = .ok (.goto 15, 3) := by decide +kernel
theorem dL_addPeering_13 : decode cL_addPeering 13 = .ok (.astore 4, 2) := by decide +kernel
theorem dL_addPeering_15 : decode cL_addPeering 15 = .ok (.iconst 1, 1) := by decide +kernel
theorem dL_addPeering_16 : decode cL_addPeering 16 = .ok (.ireturn, 1) := by decide +kernel
theorem dL_addPeering_17 : decode cL_addPeering 17 = .ok (.astore 4, 2) := by decide +kernel
theorem dL_addPeering_19 : decode cL_addPeering 19 = .ok (.iconst 2, 1) := by decide +kernel
theorem dL_addPeering_20 : decode cL_addPeering 20 = .ok (.ireturn, 1) := by decide +kernel
theorem dL_addPeering_21 : decode cL_addPeering 21 = .ok (.astore 4, 2) := by decide +kernel
theorem dL_addPeering_23 : decode cL_addPeering 23 = .ok (.iconst 3, 1) := by decide +kernel
theorem dL_addPeering_24 : decode cL_addPeering 24 = .ok (.ireturn, 1) := by decide +kernel
theorem dL_addPeering_25 : decode cL_addPeering 25 = .ok (.iconst 0, 1) := by decide +kernel
theorem dL_addPeering_26 : decode cL_addPeering 26 = .ok (.ireturn, 1) := by decide +kernel
set_option maxRecDepth 20000 in
theorem ggL_addGroup_X7_addGroup : GoodIn wsL_addGroup wsX7_addGroup := goodIn_ca (goodIn_r _ [6, 7, 8, 9, 10, 11, 12, 13, 14, 15, 16, 17, 18, 19, 20, 21, 22, 23, 24, 25, 26, 27, 28, 29, 30, 31, 32, 33, 34, 35, 36, 37, 38, 39, 40, 41, 42, 43, 44, 45, 46, 47, 48, 49, 50, 51, 52, 53, 54, 55, 56, 57, 58, 59, 60, 61, 62, 63, 64, 65, 66, 67, 68, 69, 70, 71, 72, 73, 74, 75, 76, 77, 78, 79, 80, 81, 82, 83, 84, 85, 86, 87, 88, 89, 90, 91, 92, 93, 94, 95, 96, 97, 98, 99, 100, 101, 102, 103] (by decide +kernel) (by decide +kernel)) (goodIn_sub (fun _ h => List.mem_cons_of_mem _ (List.mem_append_right _ h)) (by decide +kernel))
set_option maxRecDepth 20000 in
theorem gL_addGroup_X7_addGroup : GoodIn wsL_addGroup (wsV RL 29 RX7 yX7_addGroup wsX7_addGroup) := goodIn_app (goodIn_of _ (by decide +kernel)) ggL_addGroup_X7_addGroup
theorem dL_addGroup_0 : decode cL_addGroup 0 = .ok (.aload_n 1, 1) := by decide +kernel
theorem dL_addGroup_1 : decode cL_addGroup 1 = .ok (.iconst 0, 1) := by decide +kernel
theorem dL_addGroup_2 : decode cL_addGroup 2 = .ok (.aload_n 0, 1) := by decide +kernel
theorem dL_addGroup_3 : decode cL_addGroup 3 = .ok (.invokevirtual 29, 3) := by decide +kernel
theorem dL_addGroup_6 : decode cL_addGroup 6 = .ok (.i2l, 1) := by decide +kernel
theorem dL_addGroup_7 : decode cL_addGroup 7 = .ok (.lastore, 1) := by decide +kernel
theorem dL_addGroup_8 : decode cL_addGroup 8 = .ok (.goto 6, 3) := by decide +kernel
theorem dL_addGroup_11 : decode cL_addGroup 11 = .ok (.astore_n 2, 1) := by decide +kernel
theorem dL_addGroup_12 : decode cL_addGroup 12 = .ok (.iconst 1, 1) := by decide +kernel
theorem dL_addGroup_13 : decode cL_addGroup 13 = .ok (.ireturn, 1) := by decide +kernel
theorem dL_addGroup_14 : decode cL_addGroup 14 = .ok (.iconst 0, 1) := by decide +kernel
theorem dL_addGroup_15 : decode cL_addGroup 15 = .ok (.ireturn, 1) := by decide +kernel
set_option maxRecDepth 20000 in
theorem ggL_allow_X7_allow : GoodIn wsL_allow wsX7_allow := goodIn_ca (goodIn_ca (goodIn_ca (goodIn_r _ [6, 7, 8, 9, 10, 11, 12, 13, 14, 15, 5, 16, 17, 18, 19, 20, 21, 22, 23, 24, 25, 26, 27, 28, 29, 30, 31, 32, 33, 34, 35, 36, 37, 38, 39, 40, 41, 42, 43, 44, 45, 46, 47, 48, 49, 50, 51, 52, 53, 54, 55, 56, 57, 58, 59, 60, 61, 62, 63, 64, 65, 66, 67, 68, 69, 70, 71, 72, 73, 74, 75, 76, 77, 78, 79, 80, 81, 82, 83, 84, 85, 86, 87, 88, 89, 90, 91, 92, 93, 94, 95, 96, 97, 98, 99, 100, 101, 102, 103, 104, 105, 106, 107, 108, 109, 110, 111, 112, 113, 114, 115, 116, 117, 118, 119, 120, 121, 122, 123, 124, 125, 126, 127, 128, 129, 130, 131, 132, 133, 134, 135, 136, 137, 138, 139, 140, 141] (by decide +kernel) (by decide +kernel)) (goodIn_sub (fun _ h => List.mem_cons_of_mem _ (List.mem_append_left _ (List.mem_append_left _ (List.mem_append_right _ h)))) (by decide +kernel))) (goodIn_sub (fun _ h => List.mem_cons_of_mem _ (List.mem_append_left _ (List.mem_append_right _ h))) (by decide +kernel))) (goodIn_sub (fun _ h => List.mem_cons_of_mem _ (List.mem_append_right _ h)) (by decide +kernel))
set_option maxRecDepth 20000 in
theorem gL_allow_X7_allow : GoodIn wsL_allow (wsV RL 33 RX7 yX7_allow wsX7_allow) := goodIn_app (goodIn_of _ (by decide +kernel)) ggL_allow_X7_allow
theorem dL_allow_0 : decode cL_allow 0 = .ok (.aload 7, 2) := by decide +kernel
theorem dL_allow_2 : decode cL_allow 2 = .ok (.iconst 0, 1) := by decide +kernel
theorem dL_allow_3 : decode cL_allow 3 = .ok (.aload_n 0, 1) := by decide +kernel
theorem dL_allow_4 : decode cL_allow 4 = .ok (.iload_n 1, 1) := by decide +kernel
theorem dL_allow_5 : decode cL_allow 5 = .ok (.iload_n 2, 1) := by decide +kernel
theorem dL_allow_6 : decode cL_allow 6 = .ok (.iload_n 3, 1) := by decide +kernel
theorem dL_allow_7 : decode cL_allow 7 = .ok (.iload 4, 2) := by decide +kernel
theorem dL_allow_9 : decode cL_allow 9 = .ok (.iload 5, 2) := by decide +kernel
theorem dL_allow_11 : decode cL_allow 11 = .ok (.iload 6, 2) := by decide +kernel
theorem dL_allow_13 : decode cL_allow 13 = .ok (.invokevirtual 33, 3) := by decide +kernel
theorem dL_allow_16 : decode cL_allow 16 = .ok (.i2l, 1) := by decide +kernel
theorem dL_allow_17 : decode cL_allow 17 = .ok (.lastore, 1) := by decide +kernel
theorem dL_allow_18 : decode cL_allow 18 = .ok (.goto 15, 3) := by decide +kernel
theorem dL_allow_21 : decode cL_allow 21 = .ok (.astore 8, 2) := by decide +kernel
theorem dL_allow_23 : decode cL_allow 23 = .ok (.iconst 1, 1) := by decide +kernel
theorem dL_allow_24 : decode cL_allow 24 = .ok (.ireturn, 1) := by decide +kernel
theorem dL_allow_25 : decode cL_allow 25 = .ok (.astore 8, 2) := by decide +kernel
theorem dL_allow_27 : decode cL_allow 27 = .ok (.iconst 2, 1) := by decide +kernel
theorem dL_allow_28 : decode cL_allow 28 = .ok (.ireturn, 1) := by decide +kernel
theorem dL_allow_29 : decode cL_allow 29 = .ok (.astore 8, 2) := by decide +kernel
theorem dL_allow_31 : decode cL_allow 31 = .ok (.iconst 3, 1) := by decide +kernel
theorem dL_allow_32 : decode cL_allow 32 = .ok (.ireturn, 1) := by decide +kernel
theorem dL_allow_33 : decode cL_allow 33 = .ok (.iconst 0, 1) := by decide +kernel
theorem dL_allow_34 : decode cL_allow 34 = .ok (.ireturn, 1) := by decide +kernel
set_option maxRecDepth 20000 in
theorem ggL_clearGroup_X7_clearGroup : GoodIn wsL_clearGroup wsX7_clearGroup := goodIn_ca (goodIn_r _ [6, 7, 8, 9, 10, 5, 11, 12, 13, 14, 15, 16, 17, 18, 19, 20, 21, 22, 23, 24, 25, 26, 27, 28, 29, 30, 31, 32, 33, 34, 35, 36, 37, 38, 39, 40, 41, 42, 43, 44, 45, 46, 47, 48, 49, 50, 51, 52, 53, 54, 55, 56] (by decide +kernel) (by decide +kernel)) (goodIn_sub (fun _ h => List.mem_cons_of_mem _ (List.mem_append_right _ h)) (by decide +kernel))
set_option maxRecDepth 20000 in
theorem gL_clearGroup_X7_clearGroup : GoodIn wsL_clearGroup (wsV RL 37 RX7 yX7_clearGroup wsX7_clearGroup) := goodIn_app (goodIn_of _ (by decide +kernel)) ggL_clearGroup_X7_clearGroup
theorem dL_clearGroup_0 : decode cL_clearGroup 0 = .ok (.aload_n 2, 1) := by decide +kernel
theorem dL_clearGroup_1 : decode cL_clearGroup 1 = .ok (.iconst 0, 1) := by decide +kernel
theorem dL_clearGroup_2 : decode cL_clearGroup 2 = .ok (.aload_n 0, 1) := by decide +kernel
theorem dL_clearGroup_3 : decode cL_clearGroup 3 = .ok (.iload_n 1, 1) := by decide +kernel
theorem dL_clearGroup_4 : decode cL_clearGroup 4 = .ok (.invokevirtual 37, 3) := by decide +kernel
theorem dL_clearGroup_7 : decode cL_clearGroup 7 = .ok (.i2l, 1) := by decide +kernel
theorem dL_clearGroup_8 : decode cL_clearGroup 8 = .ok (.lastore, 1) := by decide +kernel
theorem dL_clearGroup_9 : decode cL_clearGroup 9 = .ok (.goto 6, 3) := by decide +kernel
theorem dL_clearGroup_12 : decode cL_clearGroup 12 = .ok (.astore_n 3, 1) := by decide +kernel
theorem dL_clearGroup_13 : decode cL_clearGroup 13 = .ok (.iconst 1, 1) := by decide +kernel
theorem dL_clearGroup_14 : decode cL_clearGroup 14 = .ok (.ireturn, 1) := by decide +kernel
theorem dL_clearGroup_15 : decode cL_clearGroup 15 = .ok (.iconst 0, 1) := by decide +kernel
theorem dL_clearGroup_16 : decode cL_clearGroup 16 = .ok (.ireturn, 1) := by decide +kernel
set_option maxRecDepth 20000 in
theorem ggL_setGroup_X7_setGroup : GoodIn wsL_setGroup wsX7_setGroup := goodIn_ca (goodIn_r _ [6, 7, 8, 9, 10, 5, 11, 12, 13, 14, 15, 16, 17, 18, 19, 20, 21, 22, 23, 24, 25, 26, 27, 28, 29, 30, 31, 32, 33, 34, 35, 36, 37, 38, 39, 40, 41, 42, 43, 44, 45, 46, 47, 48, 49, 50, 51, 52, 53, 54, 55, 56, 57, 58, 59, 60, 61, 62] (by decide +kernel) (by decide +kernel)) (goodIn_sub (fun _ h => List.mem_cons_of_mem _ (List.mem_append_right _ h)) (by decide +kernel))
set_option maxRecDepth 20000 in
theorem gL_setGroup_X7_setGroup : GoodIn wsL_setGroup (wsV RL 41 RX7 yX7_setGroup wsX7_setGroup) := goodIn_app (goodIn_of _ (by decide +kernel)) ggL_setGroup_X7_setGroup
theorem dL_setGroup_0 : decode cL_setGroup 0 = .ok (.aload 4, 2) := by decide +kernel
theorem dL_setGroup_2 : decode cL_setGroup 2 = .ok (.iconst 0, 1) := by decide +kernel
theorem dL_setGroup_3 : decode cL_setGroup 3 = .ok (.aload_n 0, 1) := by decide +kernel
theorem dL_setGroup_4 : decode cL_setGroup 4 = .ok (.iload_n 1, 1) := by decide +kernel
theorem dL_setGroup_5 : decode cL_setGroup 5 = .ok (.iload_n 2, 1) := by decide +kernel
theorem dL_setGroup_6 : decode cL_setGroup 6 = .ok (.iload_n 3, 1) := by decide +kernel
theorem dL_setGroup_7 : decode cL_setGroup 7 = .ok (.invokevirtual 41, 3) := by decide +kernel
theorem dL_setGroup_10 : decode cL_setGroup 10 = .ok (.ifCond .eq 7, 3) := by decide +kernel
theorem dL_setGroup_13 : decode cL_setGroup 13 = .ok (.lconst 1, 1) := by decide +kernel
theorem dL_setGroup_14 : decode cL_setGroup 14 = .ok (.goto 4, 3) := by decide +kernel
theorem dL_setGroup_17 : decode cL_setGroup 17 = .ok (.lconst 0, 1) := by decide +kernel
theorem dL_setGroup_18 : decode cL_setGroup 18 = .ok (.lastore, 1) := by decide +kernel
theorem dL_setGroup_19 : decode cL_setGroup 19 = .ok (.goto 7, 3) := by decide +kernel
theorem dL_setGroup_22 : decode cL_setGroup 22 = .ok (.astore 5, 2) := by decide +kernel
theorem dL_setGroup_24 : decode cL_setGroup 24 = .ok (.iconst 1, 1) := by decide +kernel
theorem dL_setGroup_25 : decode cL_setGroup 25 = .ok (.ireturn, 1) := by decide +kernel
theorem dL_setGroup_26 : decode cL_setGroup 26 = .ok (.iconst 0, 1) := by decide +kernel
theorem dL_setGroup_27 : decode cL_setGroup 27 = .ok (.ireturn, 1) := by decide +kernel
set_option maxRecDepth 20000 in
theorem ggL_putRule_X7_putRule : GoodIn wsL_putRule wsX7_putRule := goodIn_ca (goodIn_ca (goodIn_ca (goodIn_r _ [6, 7, 8, 9, 10, 11, 12, 13, 14, 15, 16, 17, 5, 18, 19, 20, 21, 22, 23, 24, 25, 26, 27, 28, 29, 30, 31, 32, 33, 34, 35, 36, 37, 38, 39, 40, 41, 42, 43, 44, 45, 46, 47, 48, 49, 50, 51, 52, 53, 54, 55, 56, 57, 58, 59, 60, 61, 62, 63, 64, 65, 66, 67, 68, 69, 70, 71, 72, 73, 74, 75, 76, 77, 78, 79, 80, 81, 82, 83, 84, 85, 86, 87, 88, 89, 90, 91, 92, 93, 94, 95, 96, 97, 98, 99, 100, 101, 102, 103, 104, 105, 106, 107, 108, 109, 110, 111, 112, 113, 114, 115, 116, 117, 118, 119, 120, 121, 122, 123, 124, 125, 126, 127, 128, 129, 130, 131, 132, 133, 134, 135, 136, 137, 138, 139, 140, 141, 142, 143, 144, 145] (by decide +kernel) (by decide +kernel)) (goodIn_sub (fun _ h => List.mem_cons_of_mem _ (List.mem_append_left _ (List.mem_append_left _ (List.mem_append_right _ h)))) (by decide +kernel))) (goodIn_sub (fun _ h => List.mem_cons_of_mem _ (List.mem_append_left _ (List.mem_append_right _ h))) (by decide +kernel))) (goodIn_sub (fun _ h => List.mem_cons_of_mem _ (List.mem_append_right _ h)) (by decide +kernel))
set_option maxRecDepth 20000 in
theorem gL_putRule_X7_putRule : GoodIn wsL_putRule (wsV RL 45 RX7 yX7_putRule wsX7_putRule) := goodIn_app (goodIn_of _ (by decide +kernel)) ggL_putRule_X7_putRule
theorem dL_putRule_0 : decode cL_putRule 0 = .ok (.aload 9, 2) := by decide +kernel
theorem dL_putRule_2 : decode cL_putRule 2 = .ok (.iconst 0, 1) := by decide +kernel
theorem dL_putRule_3 : decode cL_putRule 3 = .ok (.aload_n 0, 1) := by decide +kernel
theorem dL_putRule_4 : decode cL_putRule 4 = .ok (.iload_n 1, 1) := by decide +kernel
theorem dL_putRule_5 : decode cL_putRule 5 = .ok (.iload_n 2, 1) := by decide +kernel
theorem dL_putRule_6 : decode cL_putRule 6 = .ok (.iload_n 3, 1) := by decide +kernel
theorem dL_putRule_7 : decode cL_putRule 7 = .ok (.iload 4, 2) := by decide +kernel
theorem dL_putRule_9 : decode cL_putRule 9 = .ok (.iload 5, 2) := by decide +kernel
theorem dL_putRule_11 : decode cL_putRule 11 = .ok (.iload 6, 2) := by decide +kernel
theorem dL_putRule_13 : decode cL_putRule 13 = .ok (.iload 7, 2) := by decide +kernel
theorem dL_putRule_15 : decode cL_putRule 15 = .ok (.iload 8, 2) := by decide +kernel
theorem dL_putRule_17 : decode cL_putRule 17 = .ok (.invokevirtual 45, 3) := by decide +kernel
theorem dL_putRule_20 : decode cL_putRule 20 = .ok (.i2l, 1) := by decide +kernel
theorem dL_putRule_21 : decode cL_putRule 21 = .ok (.lastore, 1) := by decide +kernel
theorem dL_putRule_22 : decode cL_putRule 22 = .ok (.goto 15, 3) := by decide +kernel
theorem dL_putRule_25 : decode cL_putRule 25 = .ok (.astore 10, 2) := by decide +kernel
theorem dL_putRule_27 : decode cL_putRule 27 = .ok (.iconst 1, 1) := by decide +kernel
theorem dL_putRule_28 : decode cL_putRule 28 = .ok (.ireturn, 1) := by decide +kernel
theorem dL_putRule_29 : decode cL_putRule 29 = .ok (.astore 10, 2) := by decide +kernel
theorem dL_putRule_31 : decode cL_putRule 31 = .ok (.iconst 2, 1) := by decide +kernel
theorem dL_putRule_32 : decode cL_putRule 32 = .ok (.ireturn, 1) := by decide +kernel
theorem dL_putRule_33 : decode cL_putRule 33 = .ok (.astore 10, 2) := by decide +kernel
theorem dL_putRule_35 : decode cL_putRule 35 = .ok (.iconst 3, 1) := by decide +kernel
theorem dL_putRule_36 : decode cL_putRule 36 = .ok (.ireturn, 1) := by decide +kernel
theorem dL_putRule_37 : decode cL_putRule 37 = .ok (.iconst 0, 1) := by decide +kernel
theorem dL_putRule_38 : decode cL_putRule 38 = .ok (.ireturn, 1) := by decide +kernel
set_option maxRecDepth 20000 in
theorem ggL_removeRule_X7_removeRule : GoodIn wsL_removeRule wsX7_removeRule := goodIn_ca (goodIn_r _ [6, 7, 8, 9, 10, 5, 11, 12, 13, 14, 15, 16, 17, 18, 19, 20, 21, 22, 23, 24, 25, 26, 27, 28, 29, 30, 31, 32, 33, 34, 35, 36, 37, 38, 39, 40, 41, 42, 43, 44, 45, 46, 47, 48, 49, 50, 51, 52, 53, 54, 55, 56, 57, 58, 59, 60, 61, 62, 63, 64, 65, 66, 67] (by decide +kernel) (by decide +kernel)) (goodIn_sub (fun _ h => List.mem_cons_of_mem _ (List.mem_append_right _ h)) (by decide +kernel))
set_option maxRecDepth 20000 in
theorem gL_removeRule_X7_removeRule : GoodIn wsL_removeRule (wsV RL 49 RX7 yX7_removeRule wsX7_removeRule) := goodIn_app (goodIn_of _ (by decide +kernel)) ggL_removeRule_X7_removeRule
theorem dL_removeRule_0 : decode cL_removeRule 0 = .ok (.aload_n 3, 1) := by decide +kernel
theorem dL_removeRule_1 : decode cL_removeRule 1 = .ok (.iconst 0, 1) := by decide +kernel
theorem dL_removeRule_2 : decode cL_removeRule 2 = .ok (.aload_n 0, 1) := by decide +kernel
theorem dL_removeRule_3 : decode cL_removeRule 3 = .ok (.iload_n 1, 1) := by decide +kernel
theorem dL_removeRule_4 : decode cL_removeRule 4 = .ok (.iload_n 2, 1) := by decide +kernel
theorem dL_removeRule_5 : decode cL_removeRule 5 = .ok (.invokevirtual 49, 3) := by decide +kernel
theorem dL_removeRule_8 : decode cL_removeRule 8 = .ok (.i2l, 1) := by decide +kernel
theorem dL_removeRule_9 : decode cL_removeRule 9 = .ok (.lastore, 1) := by decide +kernel
theorem dL_removeRule_10 : decode cL_removeRule 10 = .ok (.goto 7, 3) := by decide +kernel
theorem dL_removeRule_13 : decode cL_removeRule 13 = .ok (.astore 4, 2) := by decide +kernel
theorem dL_removeRule_15 : decode cL_removeRule 15 = .ok (.iconst 1, 1) := by decide +kernel
theorem dL_removeRule_16 : decode cL_removeRule 16 = .ok (.ireturn, 1) := by decide +kernel
theorem dL_removeRule_17 : decode cL_removeRule 17 = .ok (.iconst 0, 1) := by decide +kernel
theorem dL_removeRule_18 : decode cL_removeRule 18 = .ok (.ireturn, 1) := by decide +kernel
set_option maxRecDepth 20000 in
theorem ggL_setRoute_X7_setRoute : GoodIn wsL_setRoute wsX7_setRoute := goodIn_ca (goodIn_ca (goodIn_ca (goodIn_r _ [6, 7, 8, 9, 10, 11, 12, 13, 14, 15, 16, 5, 17, 18, 19, 20, 21, 22, 23, 24, 25, 26, 27, 28, 29, 30, 31, 32, 33, 34, 35, 36, 37, 38, 39, 40, 41, 42, 43, 44, 45, 46, 47, 48, 49, 50, 51, 52, 53, 54, 55, 56, 57, 58, 59, 60, 61, 62, 63, 64, 65, 66, 67, 68, 69, 70, 71, 72, 73, 74, 75, 76, 77, 78, 79, 80, 81, 82, 83, 84, 85, 86, 87, 88, 89, 90, 91, 92, 93, 94, 95, 96, 97, 98, 99, 100, 101, 102, 103, 104, 105, 106, 107, 108, 109, 110, 111, 112, 113, 114, 115, 116, 117, 118, 119, 120, 121, 122, 123, 124, 125, 126, 127, 128, 129, 130, 131, 132, 133, 134, 135, 136, 137, 138, 139, 140, 141, 142, 143, 144, 145, 146, 147, 148, 149, 150, 151, 152, 153, 154, 155, 156, 157, 158, 159, 160, 161, 162, 163, 164, 165, 166] (by decide +kernel) (by decide +kernel)) (goodIn_sub (fun _ h => List.mem_cons_of_mem _ (List.mem_append_left _ (List.mem_append_left _ (List.mem_append_right _ h)))) (by decide +kernel))) (goodIn_sub (fun _ h => List.mem_cons_of_mem _ (List.mem_append_left _ (List.mem_append_right _ h))) (by decide +kernel))) (goodIn_sub (fun _ h => List.mem_cons_of_mem _ (List.mem_append_right _ h)) (by decide +kernel))
set_option maxRecDepth 20000 in
theorem gL_setRoute_X7_setRoute : GoodIn wsL_setRoute (wsV RL 52 RX7 yX7_setRoute wsX7_setRoute) := goodIn_app (goodIn_of _ (by decide +kernel)) ggL_setRoute_X7_setRoute
theorem dL_setRoute_0 : decode cL_setRoute 0 = .ok (.aload 5, 2) := by decide +kernel
theorem dL_setRoute_2 : decode cL_setRoute 2 = .ok (.iconst 0, 1) := by decide +kernel
theorem dL_setRoute_3 : decode cL_setRoute 3 = .ok (.aload_n 0, 1) := by decide +kernel
theorem dL_setRoute_4 : decode cL_setRoute 4 = .ok (.iload_n 1, 1) := by decide +kernel
theorem dL_setRoute_5 : decode cL_setRoute 5 = .ok (.iload_n 2, 1) := by decide +kernel
theorem dL_setRoute_6 : decode cL_setRoute 6 = .ok (.iload_n 3, 1) := by decide +kernel
theorem dL_setRoute_7 : decode cL_setRoute 7 = .ok (.iload 4, 2) := by decide +kernel
theorem dL_setRoute_9 : decode cL_setRoute 9 = .ok (.invokevirtual 52, 3) := by decide +kernel
theorem dL_setRoute_12 : decode cL_setRoute 12 = .ok (.i2l, 1) := by decide +kernel
theorem dL_setRoute_13 : decode cL_setRoute 13 = .ok (.lastore, 1) := by decide +kernel
theorem dL_setRoute_14 : decode cL_setRoute 14 = .ok (.goto 15, 3) := by decide +kernel
theorem dL_setRoute_17 : decode cL_setRoute 17 = .ok (.astore 6, 2) := by decide +kernel
theorem dL_setRoute_19 : decode cL_setRoute 19 = .ok (.iconst 1, 1) := by decide +kernel
theorem dL_setRoute_20 : decode cL_setRoute 20 = .ok (.ireturn, 1) := by decide +kernel
theorem dL_setRoute_21 : decode cL_setRoute 21 = .ok (.astore 6, 2) := by decide +kernel
theorem dL_setRoute_23 : decode cL_setRoute 23 = .ok (.iconst 2, 1) := by decide +kernel
theorem dL_setRoute_24 : decode cL_setRoute 24 = .ok (.ireturn, 1) := by decide +kernel
theorem dL_setRoute_25 : decode cL_setRoute 25 = .ok (.astore 6, 2) := by decide +kernel
theorem dL_setRoute_27 : decode cL_setRoute 27 = .ok (.iconst 3, 1) := by decide +kernel
theorem dL_setRoute_28 : decode cL_setRoute 28 = .ok (.ireturn, 1) := by decide +kernel
theorem dL_setRoute_29 : decode cL_setRoute 29 = .ok (.iconst 0, 1) := by decide +kernel
theorem dL_setRoute_30 : decode cL_setRoute 30 = .ok (.ireturn, 1) := by decide +kernel
set_option maxRecDepth 20000 in
theorem ggL_routeFor_X7_routeFor : GoodIn wsL_routeFor wsX7_routeFor := goodIn_ca (goodIn_ca (goodIn_r _ [6, 7, 8, 9, 10, 11, 5, 12, 13, 14, 15, 16, 17, 18, 19, 20, 21, 22, 23, 24, 25, 26, 27, 28, 29, 30, 31, 32, 33, 34, 35, 36, 37, 38, 39, 40, 41, 42, 43, 44, 45, 46, 47, 48, 49, 50, 51, 52, 53, 54, 55, 56, 57, 58, 59, 60, 61, 62, 63, 64, 65, 66, 67, 68, 69, 70, 71, 72, 73, 74, 75, 76, 77, 78] (by decide +kernel) (by decide +kernel)) (goodIn_sub (fun _ h => List.mem_cons_of_mem _ (List.mem_append_left _ (List.mem_append_right _ h))) (by decide +kernel))) (goodIn_sub (fun _ h => List.mem_cons_of_mem _ (List.mem_append_right _ h)) (by decide +kernel))
set_option maxRecDepth 20000 in
theorem gL_routeFor_X7_routeFor : GoodIn wsL_routeFor (wsV RL 56 RX7 yX7_routeFor wsX7_routeFor) := goodIn_app (goodIn_of _ (by decide +kernel)) ggL_routeFor_X7_routeFor
theorem dL_routeFor_0 : decode cL_routeFor 0 = .ok (.aload_n 3, 1) := by decide +kernel
theorem dL_routeFor_1 : decode cL_routeFor 1 = .ok (.iconst 0, 1) := by decide +kernel
theorem dL_routeFor_2 : decode cL_routeFor 2 = .ok (.aload_n 0, 1) := by decide +kernel
theorem dL_routeFor_3 : decode cL_routeFor 3 = .ok (.iload_n 1, 1) := by decide +kernel
theorem dL_routeFor_4 : decode cL_routeFor 4 = .ok (.iload_n 2, 1) := by decide +kernel
theorem dL_routeFor_5 : decode cL_routeFor 5 = .ok (.invokevirtual 56, 3) := by decide +kernel
theorem dL_routeFor_8 : decode cL_routeFor 8 = .ok (.i2l, 1) := by decide +kernel
theorem dL_routeFor_9 : decode cL_routeFor 9 = .ok (.lastore, 1) := by decide +kernel
theorem dL_routeFor_10 : decode cL_routeFor 10 = .ok (.goto 11, 3) := by decide +kernel
theorem dL_routeFor_13 : decode cL_routeFor 13 = .ok (.astore 4, 2) := by decide +kernel
theorem dL_routeFor_15 : decode cL_routeFor 15 = .ok (.iconst 1, 1) := by decide +kernel
theorem dL_routeFor_16 : decode cL_routeFor 16 = .ok (.ireturn, 1) := by decide +kernel
theorem dL_routeFor_17 : decode cL_routeFor 17 = .ok (.astore 4, 2) := by decide +kernel
theorem dL_routeFor_19 : decode cL_routeFor 19 = .ok (.iconst 2, 1) := by decide +kernel
theorem dL_routeFor_20 : decode cL_routeFor 20 = .ok (.ireturn, 1) := by decide +kernel
theorem dL_routeFor_21 : decode cL_routeFor 21 = .ok (.iconst 0, 1) := by decide +kernel
theorem dL_routeFor_22 : decode cL_routeFor 22 = .ok (.ireturn, 1) := by decide +kernel
set_option maxRecDepth 20000 in
theorem ggL_ports_X7_ports : GoodIn wsL_ports wsX7_ports := goodIn_ca (goodIn_ca (goodIn_r _ [6, 7, 8, 9, 5, 10, 11, 12, 13, 14, 15, 16, 17, 18, 19, 20, 21, 22, 23, 24, 25, 26, 27, 28, 29, 30, 31, 32, 33, 34, 35, 36, 37, 38, 39, 40, 41, 42, 43, 44, 45, 46, 47, 48, 49, 50, 51, 52, 53, 54, 55, 56, 57, 58, 59, 60, 61, 62, 63, 64, 65, 66, 67, 68, 69, 70, 71, 72, 73, 74, 75, 76, 77, 78, 79, 80, 81, 82, 83, 84, 85, 86, 87, 88, 89, 90, 91, 92, 93, 94, 95, 96, 97, 98, 99, 100, 101, 102, 103, 104, 105, 106, 107, 108, 109, 110, 111, 112, 113, 114, 115, 116, 117, 118, 119, 120, 121, 122, 123, 124, 125, 126, 127, 128, 129, 130, 131, 132, 133, 134, 135, 136, 137, 138, 139, 140, 141, 142, 143, 144, 145, 146, 147, 148, 149, 150, 151, 152, 153, 154, 155, 156, 157, 158, 159, 160, 161, 162, 163, 164] (by decide +kernel) (by decide +kernel)) (goodIn_sub (fun _ h => List.mem_cons_of_mem _ (List.mem_append_left _ (List.mem_append_right _ h))) (by decide +kernel))) (goodIn_sub (fun _ h => List.mem_cons_of_mem _ (List.mem_append_right _ h)) (by decide +kernel))
set_option maxRecDepth 20000 in
theorem gL_ports_X7_ports : GoodIn wsL_ports (wsV RL 59 RX7 yX7_ports wsX7_ports) := goodIn_app (goodIn_of _ (by decide +kernel)) ggL_ports_X7_ports
theorem dL_ports_0 : decode cL_ports 0 = .ok (.aload_n 3, 1) := by decide +kernel
theorem dL_ports_1 : decode cL_ports 1 = .ok (.iconst 0, 1) := by decide +kernel
theorem dL_ports_2 : decode cL_ports 2 = .ok (.aload_n 0, 1) := by decide +kernel
theorem dL_ports_3 : decode cL_ports 3 = .ok (.iload_n 1, 1) := by decide +kernel
theorem dL_ports_4 : decode cL_ports 4 = .ok (.iload_n 2, 1) := by decide +kernel
theorem dL_ports_5 : decode cL_ports 5 = .ok (.invokevirtual 59, 3) := by decide +kernel
theorem dL_ports_8 : decode cL_ports 8 = .ok (.i2l, 1) := by decide +kernel
theorem dL_ports_9 : decode cL_ports 9 = .ok (.lastore, 1) := by decide +kernel
theorem dL_ports_10 : decode cL_ports 10 = .ok (.goto 11, 3) := by decide +kernel
theorem dL_ports_13 : decode cL_ports 13 = .ok (.astore 4, 2) := by decide +kernel
theorem dL_ports_15 : decode cL_ports 15 = .ok (.iconst 1, 1) := by decide +kernel
theorem dL_ports_16 : decode cL_ports 16 = .ok (.ireturn, 1) := by decide +kernel
theorem dL_ports_17 : decode cL_ports 17 = .ok (.astore 4, 2) := by decide +kernel
theorem dL_ports_19 : decode cL_ports 19 = .ok (.iconst 2, 1) := by decide +kernel
theorem dL_ports_20 : decode cL_ports 20 = .ok (.ireturn, 1) := by decide +kernel
theorem dL_ports_21 : decode cL_ports 21 = .ok (.iconst 0, 1) := by decide +kernel
theorem dL_ports_22 : decode cL_ports 22 = .ok (.ireturn, 1) := by decide +kernel
set_option maxRecDepth 20000 in
theorem ggL_blockedBy_X7_blockedBy : GoodIn wsL_blockedBy wsX7_blockedBy := goodIn_ca (goodIn_ca (goodIn_r _ [6, 7, 8, 9, 5, 10, 11, 12, 13, 14, 15, 16, 17, 18, 19, 20, 21, 22, 23, 24, 25, 26, 27, 28, 29, 30, 31, 32, 33, 34, 35, 36, 37, 38, 39, 40, 41, 42, 43, 44, 45, 46, 47, 48, 49, 50, 51, 52, 53, 54, 55, 56, 57, 58, 59, 60, 61, 62, 63, 64, 65, 66, 67, 68, 69, 70, 71, 72, 73, 74, 75, 76, 77, 78, 79, 80, 81, 82, 83, 84, 85, 86, 87, 88, 89, 90, 91, 92, 93, 94, 95, 96, 97, 98, 99, 100, 101, 102, 103, 104, 105, 106, 107, 108, 109, 110, 111, 112, 113, 114, 115, 116, 117, 118, 119, 120, 121, 122, 123, 124, 125, 126, 127, 128, 129, 130, 131, 132, 133, 134, 135, 136, 137, 138, 139, 140, 141, 142, 143, 144, 145, 146, 147, 148, 149, 150, 151, 152, 153, 154, 155, 156, 157, 158, 159, 160, 161, 162, 163] (by decide +kernel) (by decide +kernel)) (goodIn_sub (fun _ h => List.mem_cons_of_mem _ (List.mem_append_left _ (List.mem_append_right _ h))) (by decide +kernel))) (goodIn_sub (fun _ h => List.mem_cons_of_mem _ (List.mem_append_right _ h)) (by decide +kernel))
set_option maxRecDepth 20000 in
theorem gL_blockedBy_X7_blockedBy : GoodIn wsL_blockedBy (wsV RL 62 RX7 yX7_blockedBy wsX7_blockedBy) := goodIn_app (goodIn_of _ (by decide +kernel)) ggL_blockedBy_X7_blockedBy
theorem dL_blockedBy_0 : decode cL_blockedBy 0 = .ok (.aload 4, 2) := by decide +kernel
theorem dL_blockedBy_2 : decode cL_blockedBy 2 = .ok (.iconst 0, 1) := by decide +kernel
theorem dL_blockedBy_3 : decode cL_blockedBy 3 = .ok (.aload_n 0, 1) := by decide +kernel
theorem dL_blockedBy_4 : decode cL_blockedBy 4 = .ok (.iload_n 1, 1) := by decide +kernel
theorem dL_blockedBy_5 : decode cL_blockedBy 5 = .ok (.iload_n 2, 1) := by decide +kernel
theorem dL_blockedBy_6 : decode cL_blockedBy 6 = .ok (.iload_n 3, 1) := by decide +kernel
theorem dL_blockedBy_7 : decode cL_blockedBy 7 = .ok (.invokevirtual 62, 3) := by decide +kernel
theorem dL_blockedBy_10 : decode cL_blockedBy 10 = .ok (.i2l, 1) := by decide +kernel
theorem dL_blockedBy_11 : decode cL_blockedBy 11 = .ok (.lastore, 1) := by decide +kernel
theorem dL_blockedBy_12 : decode cL_blockedBy 12 = .ok (.goto 11, 3) := by decide +kernel
theorem dL_blockedBy_15 : decode cL_blockedBy 15 = .ok (.astore 5, 2) := by decide +kernel
theorem dL_blockedBy_17 : decode cL_blockedBy 17 = .ok (.iconst 1, 1) := by decide +kernel
theorem dL_blockedBy_18 : decode cL_blockedBy 18 = .ok (.ireturn, 1) := by decide +kernel
theorem dL_blockedBy_19 : decode cL_blockedBy 19 = .ok (.astore 5, 2) := by decide +kernel
theorem dL_blockedBy_21 : decode cL_blockedBy 21 = .ok (.iconst 2, 1) := by decide +kernel
theorem dL_blockedBy_22 : decode cL_blockedBy 22 = .ok (.ireturn, 1) := by decide +kernel
theorem dL_blockedBy_23 : decode cL_blockedBy 23 = .ok (.iconst 0, 1) := by decide +kernel
theorem dL_blockedBy_24 : decode cL_blockedBy 24 = .ok (.ireturn, 1) := by decide +kernel
set_option maxRecDepth 20000 in
theorem ggL_blocks_X7_blocks : GoodIn wsL_blocks wsX7_blocks := goodIn_ca (goodIn_ca (goodIn_r _ [6, 7, 8, 9, 5, 10, 11, 12, 13, 14, 15, 16, 17, 18, 19, 20, 21, 22, 23, 24, 25, 26, 27, 28, 29, 30, 31, 32, 33, 34, 35, 36, 37, 38, 39, 40, 41, 42, 43, 44, 45, 46, 47, 48, 49, 50, 51, 52, 53, 54, 55, 56, 57, 58, 59, 60, 61, 62, 63, 64, 65, 66, 67, 68, 69, 70, 71, 72, 73, 74, 75, 76, 77, 78, 79, 80, 81, 82, 83, 84, 85, 86, 87, 88, 89, 90, 91, 92, 93, 94, 95, 96, 97, 98, 99, 100, 101, 102, 103, 104, 105, 106, 107, 108, 109, 110, 111, 112, 113, 114, 115, 116, 117, 118, 119, 120, 121, 122, 123, 124, 125, 126, 127, 128, 129, 130, 131, 132, 133, 134, 135, 136, 137, 138, 139, 140, 141, 142, 143, 144, 145, 146, 147, 148, 149, 150, 151, 152, 153, 154, 155, 156, 157, 158, 159, 160, 161, 162, 163] (by decide +kernel) (by decide +kernel)) (goodIn_sub (fun _ h => List.mem_cons_of_mem _ (List.mem_append_left _ (List.mem_append_right _ h))) (by decide +kernel))) (goodIn_sub (fun _ h => List.mem_cons_of_mem _ (List.mem_append_right _ h)) (by decide +kernel))
set_option maxRecDepth 20000 in
theorem gL_blocks_X7_blocks : GoodIn wsL_blocks (wsV RL 65 RX7 yX7_blocks wsX7_blocks) := goodIn_app (goodIn_of _ (by decide +kernel)) ggL_blocks_X7_blocks
theorem dL_blocks_0 : decode cL_blocks 0 = .ok (.aload 4, 2) := by decide +kernel
theorem dL_blocks_2 : decode cL_blocks 2 = .ok (.iconst 0, 1) := by decide +kernel
theorem dL_blocks_3 : decode cL_blocks 3 = .ok (.aload_n 0, 1) := by decide +kernel
theorem dL_blocks_4 : decode cL_blocks 4 = .ok (.iload_n 1, 1) := by decide +kernel
theorem dL_blocks_5 : decode cL_blocks 5 = .ok (.iload_n 2, 1) := by decide +kernel
theorem dL_blocks_6 : decode cL_blocks 6 = .ok (.iload_n 3, 1) := by decide +kernel
theorem dL_blocks_7 : decode cL_blocks 7 = .ok (.invokevirtual 65, 3) := by decide +kernel
theorem dL_blocks_10 : decode cL_blocks 10 = .ok (.i2l, 1) := by decide +kernel
theorem dL_blocks_11 : decode cL_blocks 11 = .ok (.lastore, 1) := by decide +kernel
theorem dL_blocks_12 : decode cL_blocks 12 = .ok (.goto 11, 3) := by decide +kernel
theorem dL_blocks_15 : decode cL_blocks 15 = .ok (.astore 5, 2) := by decide +kernel
theorem dL_blocks_17 : decode cL_blocks 17 = .ok (.iconst 1, 1) := by decide +kernel
theorem dL_blocks_18 : decode cL_blocks 18 = .ok (.ireturn, 1) := by decide +kernel
theorem dL_blocks_19 : decode cL_blocks 19 = .ok (.astore 5, 2) := by decide +kernel
theorem dL_blocks_21 : decode cL_blocks 21 = .ok (.iconst 2, 1) := by decide +kernel
theorem dL_blocks_22 : decode cL_blocks 22 = .ok (.ireturn, 1) := by decide +kernel
theorem dL_blocks_23 : decode cL_blocks 23 = .ok (.iconst 0, 1) := by decide +kernel
theorem dL_blocks_24 : decode cL_blocks 24 = .ok (.ireturn, 1) := by decide +kernel
set_option maxRecDepth 20000 in
theorem ggL_pairs_X7_pairs : GoodIn wsL_pairs wsX7_pairs := goodIn_ca (goodIn_r _ [6, 7, 8, 9, 10, 5, 11, 12, 13, 14, 15, 16, 17, 18, 19, 20, 21, 22, 23, 24, 25, 26, 27, 28, 29, 30, 31, 32, 33, 34, 35, 36, 37, 38, 39, 40, 41, 42, 43, 44, 45, 46, 47, 48, 49, 50, 51, 52, 53, 54, 55, 56, 57, 58, 59, 60, 61, 62, 63, 64, 65, 66, 67, 68, 69, 70, 71, 72, 73, 74, 75, 76, 77, 78, 79, 80, 81, 82, 83, 84, 85, 86, 87, 88, 89, 90, 91, 92, 93, 94, 95, 96, 97, 98, 99, 100, 101, 102, 103, 104, 105, 106, 107, 108, 109, 110, 111, 112, 113, 114, 115, 116, 117, 118, 119, 120, 121, 122, 123, 124, 125, 126, 127, 128, 129, 130, 131, 132, 133, 134, 135, 136, 137, 138, 139, 140, 141, 142, 143, 144, 145, 146, 147, 148, 149, 150, 151, 152, 153, 154, 155] (by decide +kernel) (by decide +kernel)) (goodIn_sub (fun _ h => List.mem_cons_of_mem _ (List.mem_append_right _ h)) (by decide +kernel))
set_option maxRecDepth 20000 in
theorem gL_pairs_X7_pairs : GoodIn wsL_pairs (wsV RL 68 RX7 yX7_pairs wsX7_pairs) := goodIn_app (goodIn_of _ (by decide +kernel)) ggL_pairs_X7_pairs
theorem dL_pairs_0 : decode cL_pairs 0 = .ok (.aload_n 2, 1) := by decide +kernel
theorem dL_pairs_1 : decode cL_pairs 1 = .ok (.iconst 0, 1) := by decide +kernel
theorem dL_pairs_2 : decode cL_pairs 2 = .ok (.aload_n 0, 1) := by decide +kernel
theorem dL_pairs_3 : decode cL_pairs 3 = .ok (.iload_n 1, 1) := by decide +kernel
theorem dL_pairs_4 : decode cL_pairs 4 = .ok (.invokevirtual 68, 3) := by decide +kernel
theorem dL_pairs_7 : decode cL_pairs 7 = .ok (.i2l, 1) := by decide +kernel
theorem dL_pairs_8 : decode cL_pairs 8 = .ok (.lastore, 1) := by decide +kernel
theorem dL_pairs_9 : decode cL_pairs 9 = .ok (.goto 6, 3) := by decide +kernel
theorem dL_pairs_12 : decode cL_pairs 12 = .ok (.astore_n 3, 1) := by decide +kernel
theorem dL_pairs_13 : decode cL_pairs 13 = .ok (.iconst 1, 1) := by decide +kernel
theorem dL_pairs_14 : decode cL_pairs 14 = .ok (.ireturn, 1) := by decide +kernel
theorem dL_pairs_15 : decode cL_pairs 15 = .ok (.iconst 0, 1) := by decide +kernel
theorem dL_pairs_16 : decode cL_pairs 16 = .ok (.ireturn, 1) := by decide +kernel
set_option maxRecDepth 20000 in
theorem ggL_reachedFrom_X7_reachedFrom : GoodIn wsL_reachedFrom wsX7_reachedFrom := goodIn_ca (goodIn_r _ [6, 7, 8, 9, 10, 11, 5, 12, 13, 14, 15, 16, 17, 18, 19, 20, 21, 22, 23, 24, 25, 26, 27, 28, 29, 30, 31, 32, 33, 34, 35, 36, 37, 38, 39, 40, 41, 42, 43, 44, 45, 46, 47, 48, 49, 50, 51, 52, 53, 54, 55, 56, 57, 58, 59, 60, 61, 62, 63, 64, 65, 66, 67, 68, 69, 70, 71, 72, 73, 74, 75, 76, 77, 78, 79, 80, 81, 82, 83, 84, 85, 86, 87, 88, 89, 90, 91, 92, 93, 94, 95, 96, 97, 98, 99, 100, 101, 102, 103, 104, 105, 106, 107, 108, 109, 110, 111, 112, 113, 114, 115, 116, 117, 118, 119, 120, 121, 122, 123, 124, 125, 126, 127, 128, 129, 130, 131, 132, 133, 134, 135, 136, 137, 138, 139, 140, 141, 142, 143, 144, 145, 146, 147, 148, 149, 150, 151, 152, 153, 154, 155, 156, 157, 158, 159] (by decide +kernel) (by decide +kernel)) (goodIn_sub (fun _ h => List.mem_cons_of_mem _ (List.mem_append_right _ h)) (by decide +kernel))
set_option maxRecDepth 20000 in
theorem gL_reachedFrom_X7_reachedFrom : GoodIn wsL_reachedFrom (wsV RL 71 RX7 yX7_reachedFrom wsX7_reachedFrom) := goodIn_app (goodIn_of _ (by decide +kernel)) ggL_reachedFrom_X7_reachedFrom
theorem dL_reachedFrom_0 : decode cL_reachedFrom 0 = .ok (.aload_n 2, 1) := by decide +kernel
theorem dL_reachedFrom_1 : decode cL_reachedFrom 1 = .ok (.iconst 0, 1) := by decide +kernel
theorem dL_reachedFrom_2 : decode cL_reachedFrom 2 = .ok (.aload_n 0, 1) := by decide +kernel
theorem dL_reachedFrom_3 : decode cL_reachedFrom 3 = .ok (.iload_n 1, 1) := by decide +kernel
theorem dL_reachedFrom_4 : decode cL_reachedFrom 4 = .ok (.invokevirtual 71, 3) := by decide +kernel
theorem dL_reachedFrom_7 : decode cL_reachedFrom 7 = .ok (.i2l, 1) := by decide +kernel
theorem dL_reachedFrom_8 : decode cL_reachedFrom 8 = .ok (.lastore, 1) := by decide +kernel
theorem dL_reachedFrom_9 : decode cL_reachedFrom 9 = .ok (.goto 6, 3) := by decide +kernel
theorem dL_reachedFrom_12 : decode cL_reachedFrom 12 = .ok (.astore_n 3, 1) := by decide +kernel
theorem dL_reachedFrom_13 : decode cL_reachedFrom 13 = .ok (.iconst 1, 1) := by decide +kernel
theorem dL_reachedFrom_14 : decode cL_reachedFrom 14 = .ok (.ireturn, 1) := by decide +kernel
theorem dL_reachedFrom_15 : decode cL_reachedFrom 15 = .ok (.iconst 0, 1) := by decide +kernel
theorem dL_reachedFrom_16 : decode cL_reachedFrom 16 = .ok (.ireturn, 1) := by decide +kernel
set_option maxRecDepth 20000 in
theorem ggL_idleRules_X7_idleRules : GoodIn wsL_idleRules wsX7_idleRules := goodIn_ca (goodIn_r _ [6, 7, 8, 9, 5, 10, 11, 12, 13, 14, 15, 16, 17, 18, 19, 20, 21, 22, 23, 24, 25, 26, 27, 28, 29, 30, 31, 32, 33, 34, 35, 36, 37, 38, 39, 40, 41, 42, 43, 44, 45, 46, 47, 48, 49, 50, 51, 52, 53, 54, 55, 56, 57, 58, 59, 60, 61, 62, 63, 64, 65, 66, 67, 68, 69, 70, 71, 72, 73, 74, 75, 76, 77, 78, 79, 80, 81, 82, 83, 84, 85, 86, 87, 88, 89, 90, 91, 92, 93, 94, 95, 96, 97, 98] (by decide +kernel) (by decide +kernel)) (goodIn_sub (fun _ h => List.mem_cons_of_mem _ (List.mem_append_right _ h)) (by decide +kernel))
set_option maxRecDepth 20000 in
theorem gL_idleRules_X7_idleRules : GoodIn wsL_idleRules (wsV RL 74 RX7 yX7_idleRules wsX7_idleRules) := goodIn_app (goodIn_of _ (by decide +kernel)) ggL_idleRules_X7_idleRules
theorem dL_idleRules_0 : decode cL_idleRules 0 = .ok (.aload_n 2, 1) := by decide +kernel
theorem dL_idleRules_1 : decode cL_idleRules 1 = .ok (.iconst 0, 1) := by decide +kernel
theorem dL_idleRules_2 : decode cL_idleRules 2 = .ok (.aload_n 0, 1) := by decide +kernel
theorem dL_idleRules_3 : decode cL_idleRules 3 = .ok (.iload_n 1, 1) := by decide +kernel
theorem dL_idleRules_4 : decode cL_idleRules 4 = .ok (.invokevirtual 74, 3) := by decide +kernel
theorem dL_idleRules_7 : decode cL_idleRules 7 = .ok (.i2l, 1) := by decide +kernel
theorem dL_idleRules_8 : decode cL_idleRules 8 = .ok (.lastore, 1) := by decide +kernel
theorem dL_idleRules_9 : decode cL_idleRules 9 = .ok (.goto 6, 3) := by decide +kernel
theorem dL_idleRules_12 : decode cL_idleRules 12 = .ok (.astore_n 3, 1) := by decide +kernel
theorem dL_idleRules_13 : decode cL_idleRules 13 = .ok (.iconst 1, 1) := by decide +kernel
theorem dL_idleRules_14 : decode cL_idleRules 14 = .ok (.ireturn, 1) := by decide +kernel
theorem dL_idleRules_15 : decode cL_idleRules 15 = .ok (.iconst 0, 1) := by decide +kernel
theorem dL_idleRules_16 : decode cL_idleRules 16 = .ok (.ireturn, 1) := by decide +kernel
