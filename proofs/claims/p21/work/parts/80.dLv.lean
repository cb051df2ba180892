set_option maxRecDepth 20000 in
theorem ggL_law_X7_init : GoodIn wsL_law wsX7_init := goodIn_r _ [6, 7, 8, 9, 10, 11, 12, 13, 14, 15, 16, 17, 18, 19, 20, 21, 22, 23, 24, 25, 26, 27, 28, 29, 30, 31, 32, 468, 469, 470, 463, 464, 465, 466, 467] (by decide +kernel) (by decide +kernel)
set_option maxRecDepth 20000 in
theorem gL_law_X7_init : GoodIn wsL_law (wsX7_init) := ggL_law_X7_init
set_option maxRecDepth 20000 in
theorem ggL_law_X7_addNetwork : GoodIn wsL_law wsX7_addNetwork := goodIn_ca (goodIn_ca (goodIn_r _ [36, 37, 38, 13, 39, 40, 41, 2, 42, 43, 44, 45, 46, 47, 48, 49, 50, 51, 8, 9, 52, 53, 54, 55, 56, 12, 57, 58, 59, 60, 61, 62, 63, 64, 65, 66, 67, 68, 69, 70, 71, 72, 73, 74, 22, 75, 76, 77, 78, 79, 80, 81, 82, 83, 84, 85, 86, 87, 88, 89, 90, 91, 92, 93, 94, 95, 96, 97, 98, 99, 100, 21, 101, 102, 103, 104, 105, 106, 107, 108, 109, 110, 111, 112, 113, 114, 115, 116, 117, 118, 119, 120, 121, 122, 123, 124, 125, 126, 127, 128, 129, 130, 131, 132, 133, 134, 463, 464, 465, 466, 467, 471, 472, 468, 469, 470] (by decide +kernel) (by decide +kernel)) (goodIn_sub (fun _ h => List.mem_append_left _ (List.mem_append_left _ (List.mem_append_right _ h))) (by decide +kernel))) (goodIn_sub (fun _ h => List.mem_append_left _ (List.mem_append_right _ h)) (by decide +kernel))
set_option maxRecDepth 20000 in
theorem gL_law_X7_addNetwork : GoodIn wsL_law (wsV RL 89 RX7 yX7_addNetwork wsX7_addNetwork) := goodIn_app (goodIn_of _ (by decide +kernel)) ggL_law_X7_addNetwork
set_option maxRecDepth 20000 in
theorem ggL_law_X7_addSubnet : GoodIn wsL_law wsX7_addSubnet := goodIn_ca (goodIn_ca (goodIn_ca (goodIn_r _ [138, 43, 44, 37, 38, 14, 139, 140, 141, 142, 143, 144, 145, 146, 2, 147, 13, 39, 54, 55, 56, 12, 57, 58, 148, 149, 150, 151, 152, 59, 60, 61, 62, 63, 64, 65, 66, 67, 68, 69, 70, 71, 72, 73, 74, 22, 40, 41, 42, 45, 46, 47, 48, 49, 50, 51, 8, 9, 52, 53, 153, 154, 155, 156, 79, 80, 81, 82, 75, 76, 77, 78, 157, 158, 159, 160, 161, 162, 163, 11, 164, 165, 166, 19, 20, 21, 23, 24, 25, 26, 27, 28, 29, 30, 31, 32, 83, 84, 85, 86, 87, 88, 89, 90, 91, 92, 93, 94, 95, 96, 97, 98, 99, 100, 101, 102, 103, 104, 105, 106, 107, 108, 109, 110, 111, 112, 113, 114, 115, 116, 117, 118, 119, 120, 121, 122, 123, 124, 125, 126, 127, 128, 129, 130, 131, 132, 133, 134, 463, 464, 465, 466, 467, 473, 474, 475, 476, 468, 469, 470, 471, 472] (by decide +kernel) (by decide +kernel)) (goodIn_sub (fun _ h => List.mem_append_left _ (List.mem_append_right _ h)) (by decide +kernel))) (goodIn_sub (fun _ h => List.mem_append_left _ (List.mem_append_left _ (List.mem_append_right _ h))) (by decide +kernel))) (goodIn_sub (fun _ h => List.mem_append_right _ h) (by decide +kernel))
set_option maxRecDepth 20000 in
theorem gL_law_X7_addSubnet : GoodIn wsL_law (wsV RL 92 RX7 yX7_addSubnet wsX7_addSubnet) := goodIn_app (goodIn_of _ (by decide +kernel)) ggL_law_X7_addSubnet
set_option maxRecDepth 20000 in
theorem ggL_law_L_draw : GoodIn wsL_law wsL_draw := goodIn_r _ [170, 171, 172, 173] (by decide +kernel) (by decide +kernel)
set_option maxRecDepth 20000 in
theorem gL_law_L_draw : GoodIn wsL_law (va_wsS RL 95 yL_draw wsL_draw) := goodIn_app (goodIn_of _ (by decide +kernel)) ggL_law_L_draw
