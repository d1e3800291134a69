set_option maxRecDepth 20000 in
theorem ggL_law_X2_init : GoodIn wsL_law wsX2_init := goodIn_r _ [9, 10, 11, 12, 13, 14, 15, 16, 17, 18, 19, 20, 21, 22, 23, 24, 25, 26, 27, 28, 29, 30, 31, 32, 33, 34, 35, 36, 37, 38, 39, 40, 41, 42, 43, 44, 45, 46, 47, 48, 49, 50, 51, 52, 53, 54, 55, 56, 57, 58, 59, 60, 61, 62, 523, 524, 525, 526, 527, 508, 509, 510, 511, 512, 513, 528, 529, 530, 531, 532, 533, 534, 535, 536, 537, 538, 539, 540, 541, 542, 543, 544, 545, 546, 547] (by decide +kernel) (by decide +kernel)
set_option maxRecDepth 20000 in
theorem gL_law_X2_init : GoodIn wsL_law (wsX2_init) := ggL_law_X2_init
set_option maxRecDepth 20000 in
theorem ggL_law_X3_init : GoodIn wsL_law wsX3_init := goodIn_r _ [65, 66, 11, 12, 67, 68, 29, 69, 70, 71, 514, 515, 516, 517, 518, 519, 520, 521, 522] (by decide +kernel) (by decide +kernel)
set_option maxRecDepth 20000 in
theorem gL_law_X3_init : GoodIn wsL_law (wsX3_init) := ggL_law_X3_init
set_option maxRecDepth 20000 in
theorem ggL_law_L_setLength : GoodIn wsL_law wsL_setLength := goodIn_ca (goodIn_ca (goodIn_r _ [75, 76, 77, 78, 79, 80, 2, 81, 82, 83, 16, 84, 85, 86, 87, 88, 89, 90, 91, 92, 24, 508, 509, 510, 511, 512, 513, 523, 524, 525, 526, 527] (by decide +kernel) (by decide +kernel)) (goodIn_sub (fun _ h => List.mem_append_left _ (List.mem_append_left _ (List.mem_append_right _ h))) (by decide +kernel))) (goodIn_sub (fun _ h => List.mem_append_left _ (List.mem_append_right _ h)) (by decide +kernel))
set_option maxRecDepth 20000 in
theorem gL_law_L_setLength : GoodIn wsL_law (va_wsS RL 66 yL_setLength wsL_setLength) := goodIn_app (goodIn_of _ (by decide +kernel)) ggL_law_L_setLength
set_option maxRecDepth 20000 in
theorem ggL_law_X3_setLength : GoodIn wsL_law wsX3_setLength := goodIn_r _ [96, 97, 98, 67, 99, 100, 5, 101, 102, 103, 104, 105, 514, 515, 516, 517, 518, 519, 520, 521, 522] (by decide +kernel) (by decide +kernel)
set_option maxRecDepth 20000 in
theorem gL_law_X3_setLength : GoodIn wsL_law (wsV RL 71 RX3 yX3_setLength wsX3_setLength) := goodIn_app (goodIn_of _ (by decide +kernel)) ggL_law_X3_setLength
set_option maxRecDepth 20000 in
theorem ggL_law_X3_thrown : GoodIn wsL_law wsX3_thrown := goodIn_r _ [109, 97, 514, 515, 516, 517, 518, 519, 520, 521, 522] (by decide +kernel) (by decide +kernel)
set_option maxRecDepth 20000 in
theorem gL_law_X3_thrown : GoodIn wsL_law (wsV RL 72 RX3 yX3_thrown wsX3_thrown) := goodIn_app (goodIn_of _ (by decide +kernel)) ggL_law_X3_thrown
set_option maxRecDepth 20000 in
theorem ggL_law_L_lay : GoodIn wsL_law wsL_lay := goodIn_ca (goodIn_ca (goodIn_r _ [112, 76, 77, 113, 114, 115, 2, 116, 82, 83, 91, 92, 16, 84, 85, 86, 117, 118, 119, 15, 120, 33, 30, 31, 32, 508, 509, 510, 511, 512, 513, 523, 524, 525, 526, 527] (by decide +kernel) (by decide +kernel)) (goodIn_sub (fun _ h => List.mem_append_left _ (List.mem_append_left _ (List.mem_append_right _ h))) (by decide +kernel))) (goodIn_sub (fun _ h => List.mem_append_left _ (List.mem_append_right _ h)) (by decide +kernel))
set_option maxRecDepth 20000 in
theorem gL_law_L_lay : GoodIn wsL_law (va_wsS RL 76 yL_lay wsL_lay) := goodIn_app (goodIn_of _ (by decide +kernel)) ggL_law_L_lay
set_option maxRecDepth 20000 in
theorem ggL_law_X3_lay : GoodIn wsL_law wsX3_lay := goodIn_r _ [124, 97, 69, 68, 125, 126, 127, 128, 29, 99, 100, 5, 101, 102, 103, 104, 105, 129, 130, 131, 132, 514, 515, 516, 517, 518, 519, 520, 521, 522] (by decide +kernel) (by decide +kernel)
set_option maxRecDepth 20000 in
theorem gL_law_X3_lay : GoodIn wsL_law (wsV RL 79 RX3 yX3_lay wsX3_lay) := goodIn_app (goodIn_of _ (by decide +kernel)) ggL_law_X3_lay
set_option maxRecDepth 20000 in
theorem ggL_law_L_ground : GoodIn wsL_law wsL_ground := goodIn_ca (goodIn_r _ [135, 76, 136, 137, 138, 2, 139, 82, 83, 16, 84, 85, 86, 140, 141, 142, 15, 143, 32, 31, 144, 145, 146, 147, 33, 30, 508, 509, 510, 511, 512, 513, 523, 524, 525, 526, 527] (by decide +kernel) (by decide +kernel)) (goodIn_sub (fun _ h => List.mem_append_left _ (List.mem_append_left _ (List.mem_append_right _ h))) (by decide +kernel))
set_option maxRecDepth 20000 in
theorem gL_law_L_ground : GoodIn wsL_law (va_wsS RL 80 yL_ground wsL_ground) := goodIn_app (goodIn_of _ (by decide +kernel)) ggL_law_L_ground
set_option maxRecDepth 20000 in
theorem ggL_law_X3_ground : GoodIn wsL_law wsX3_ground := goodIn_r _ [151, 97, 69, 99, 100, 5, 101, 129, 130, 131, 132, 68, 102, 103, 104, 105, 514, 515, 516, 517, 518, 519, 520, 521, 522] (by decide +kernel) (by decide +kernel)
set_option maxRecDepth 20000 in
theorem gL_law_X3_ground : GoodIn wsL_law (wsV RL 83 RX3 yX3_ground wsX3_ground) := goodIn_app (goodIn_of _ (by decide +kernel)) ggL_law_X3_ground
set_option maxRecDepth 20000 in
theorem ggL_law_L_addTeam : GoodIn wsL_law wsL_addTeam := goodIn_ca (goodIn_ca (goodIn_r _ [154, 76, 77, 155, 156, 157, 2, 158, 82, 83, 91, 92, 23, 18, 17, 19, 20, 84, 85, 86, 87, 88, 89, 90, 24, 35, 36, 37, 38, 11, 12, 39, 40, 41, 42, 43, 44, 45, 46, 47, 48, 29, 49, 50, 51, 52, 53, 54, 55, 56, 57, 58, 59, 60, 61, 62, 508, 509, 510, 511, 512, 513, 528, 529, 530, 531, 532, 533, 534, 535, 536, 537, 538, 539, 540, 541, 542, 543, 544, 545, 546, 547] (by decide +kernel) (by decide +kernel)) (goodIn_sub (fun _ h => List.mem_append_left _ (List.mem_append_left _ (List.mem_append_right _ h))) (by decide +kernel))) (goodIn_sub (fun _ h => List.mem_append_left _ (List.mem_append_right _ h)) (by decide +kernel))
set_option maxRecDepth 20000 in
theorem gL_law_L_addTeam : GoodIn wsL_law (va_wsS RL 84 yL_addTeam wsL_addTeam) := goodIn_app (goodIn_of _ (by decide +kernel)) ggL_law_L_addTeam
