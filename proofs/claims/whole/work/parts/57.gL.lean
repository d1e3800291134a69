set_option maxRecDepth 20000 in
theorem ggL_setLength_X2_setLength : GoodIn wsL_setLength wsX2_setLength := goodIn_ca (goodIn_ca (goodIn_r _ [7, 8, 9, 10, 11, 12, 6, 13, 14, 15, 16, 17, 18, 19, 20, 21, 22, 23, 24, 25, 26, 27, 28, 29, 30, 31] (by decide +kernel) (by decide +kernel)) (goodIn_sub (fun _ h => List.mem_cons_of_mem _ (List.mem_append_left _ (List.mem_append_right _ h))) (by decide +kernel))) (goodIn_sub (fun _ h => List.mem_cons_of_mem _ (List.mem_append_right _ h)) (by decide +kernel))
set_option maxRecDepth 20000 in
theorem gL_setLength_X2_setLength : GoodIn wsL_setLength (wsV RL 7 RX2 yX2_setLength wsX2_setLength) := goodIn_app (goodIn_of _ (by decide +kernel)) ggL_setLength_X2_setLength
set_option maxRecDepth 20000 in
theorem ggL_lay_X2_lay : GoodIn wsL_lay wsX2_lay := goodIn_ca (goodIn_ca (goodIn_r _ [7, 8, 9, 10, 11, 12, 13, 14, 6, 15, 16, 17, 18, 19, 20, 21, 22, 23, 24, 25, 26, 27, 28, 29, 30, 31, 32, 33, 34, 35] (by decide +kernel) (by decide +kernel)) (goodIn_sub (fun _ h => List.mem_cons_of_mem _ (List.mem_append_left _ (List.mem_append_right _ h))) (by decide +kernel))) (goodIn_sub (fun _ h => List.mem_cons_of_mem _ (List.mem_append_right _ h)) (by decide +kernel))
set_option maxRecDepth 20000 in
theorem gL_lay_X2_lay : GoodIn wsL_lay (wsV RL 17 RX2 yX2_lay wsX2_lay) := goodIn_app (goodIn_of _ (by decide +kernel)) ggL_lay_X2_lay
set_option maxRecDepth 20000 in
theorem ggL_ground_X2_ground : GoodIn wsL_ground wsX2_ground := goodIn_ca (goodIn_r _ [6, 7, 8, 9, 10, 11, 5, 12, 13, 14, 15, 16, 17, 18, 19, 20, 21, 22, 23, 24, 25, 26, 27, 28, 29, 30, 31, 32, 33, 34, 35, 36] (by decide +kernel) (by decide +kernel)) (goodIn_sub (fun _ h => List.mem_cons_of_mem _ (List.mem_append_right _ h)) (by decide +kernel))
set_option maxRecDepth 20000 in
theorem gL_ground_X2_ground : GoodIn wsL_ground (wsV RL 21 RX2 yX2_ground wsX2_ground) := goodIn_app (goodIn_of _ (by decide +kernel)) ggL_ground_X2_ground
set_option maxRecDepth 20000 in
theorem ggL_addTeam_X2_addTeam : GoodIn wsL_addTeam wsX2_addTeam := goodIn_ca (goodIn_ca (goodIn_r _ [7, 8, 9, 10, 11, 12, 13, 14, 15, 16, 17, 18, 6, 19, 20, 21, 22, 23, 24, 25, 26, 27, 28, 29, 30, 31, 32, 33, 34, 35, 36, 37, 38, 39, 40, 41, 42, 43, 44, 45, 46, 47, 48, 49, 50, 51, 52, 53, 54, 55, 56, 57, 58, 59, 60, 61, 62, 63, 64, 65, 66, 67, 68, 69, 70, 71, 72, 73, 74, 75, 76, 77, 78, 79, 80, 81] (by decide +kernel) (by decide +kernel)) (goodIn_sub (fun _ h => List.mem_cons_of_mem _ (List.mem_append_left _ (List.mem_append_right _ h))) (by decide +kernel))) (goodIn_sub (fun _ h => List.mem_cons_of_mem _ (List.mem_append_right _ h)) (by decide +kernel))
set_option maxRecDepth 20000 in
theorem gL_addTeam_X2_addTeam : GoodIn wsL_addTeam (wsV RL 25 RX2 yX2_addTeam wsX2_addTeam) := goodIn_app (goodIn_of _ (by decide +kernel)) ggL_addTeam_X2_addTeam
set_option maxRecDepth 20000 in
theorem ggL_setCrew_X2_setCrew : GoodIn wsL_setCrew wsX2_setCrew := goodIn_ca (goodIn_ca (goodIn_ca (goodIn_r _ [8, 9, 10, 11, 12, 13, 7, 14, 15, 16, 17, 18, 19, 20, 21, 22, 23, 24, 25, 26, 27, 28, 29, 30, 31, 32, 33, 34, 35, 36, 37, 38, 39, 40, 41, 42, 43, 44, 45, 46, 47, 48, 49, 50, 51, 52, 53] (by decide +kernel) (by decide +kernel)) (goodIn_sub (fun _ h => List.mem_cons_of_mem _ (List.mem_append_left _ (List.mem_append_left _ (List.mem_append_right _ h)))) (by decide +kernel))) (goodIn_sub (fun _ h => List.mem_cons_of_mem _ (List.mem_append_left _ (List.mem_append_right _ h))) (by decide +kernel))) (goodIn_sub (fun _ h => List.mem_cons_of_mem _ (List.mem_append_right _ h)) (by decide +kernel))
set_option maxRecDepth 20000 in
theorem gL_setCrew_X2_setCrew : GoodIn wsL_setCrew (wsV RL 28 RX2 yX2_setCrew wsX2_setCrew) := goodIn_app (goodIn_of _ (by decide +kernel)) ggL_setCrew_X2_setCrew
set_option maxRecDepth 20000 in
theorem ggL_order_X2_order : GoodIn wsL_order wsX2_order := goodIn_ca (goodIn_ca (goodIn_r _ [7, 8, 9, 10, 11, 12, 6, 13, 14, 15, 16, 17, 18, 19, 20, 21, 22, 23, 24, 25, 26, 27, 28, 29, 30, 31, 32, 33, 34, 35, 36, 37, 38, 39, 40, 41, 42, 43, 44, 45] (by decide +kernel) (by decide +kernel)) (goodIn_sub (fun _ h => List.mem_cons_of_mem _ (List.mem_append_left _ (List.mem_append_right _ h))) (by decide +kernel))) (goodIn_sub (fun _ h => List.mem_cons_of_mem _ (List.mem_append_right _ h)) (by decide +kernel))
set_option maxRecDepth 20000 in
theorem gL_order_X2_order : GoodIn wsL_order (wsV RL 34 RX2 yX2_order wsX2_order) := goodIn_app (goodIn_of _ (by decide +kernel)) ggL_order_X2_order
set_option maxRecDepth 20000 in
theorem ggL_run_X2_run : GoodIn wsL_run wsX2_run := goodIn_ca (goodIn_ca (goodIn_r _ [7, 8, 9, 10, 11, 12, 13, 14, 6, 15, 16, 17, 18, 19, 20, 21, 22, 23, 24, 25, 26, 27, 28, 29, 30, 31, 32, 33, 34, 35, 36, 37, 38, 39, 40, 41, 42, 43, 44, 45, 46, 47, 48, 49, 50, 51, 52, 53, 54, 55, 56, 57, 58, 59, 60, 61, 62, 63, 64, 65, 66, 67, 68, 69, 70, 71, 72, 73, 74, 75, 76, 77, 78, 79, 80, 81, 82, 83, 84, 85, 86, 87, 88, 89, 90, 91, 92, 93, 94, 95, 96, 97, 98, 99, 100, 101, 102, 103, 104, 105, 106, 107, 108, 109, 110, 111, 112, 113, 114, 115, 116, 117, 118, 119, 120, 121, 122, 123, 124, 125, 126, 127, 128, 129, 130, 131, 132, 133, 134, 135, 136, 137, 138, 139, 140, 141, 142] (by decide +kernel) (by decide +kernel)) (goodIn_sub (fun _ h => List.mem_cons_of_mem _ (List.mem_append_left _ (List.mem_append_right _ h))) (by decide +kernel))) (goodIn_sub (fun _ h => List.mem_cons_of_mem _ (List.mem_append_right _ h)) (by decide +kernel))
set_option maxRecDepth 20000 in
theorem gL_run_X2_run : GoodIn wsL_run (wsV RL 37 RX2 yX2_run wsX2_run) := goodIn_app (goodIn_of _ (by decide +kernel)) ggL_run_X2_run
set_option maxRecDepth 20000 in
theorem ggL_count_X2_count : GoodIn wsL_count wsX2_count := goodIn_ca (goodIn_r _ [6, 7, 8, 9, 10, 5, 11, 12, 13, 14, 15, 16, 17, 18, 19, 20, 21, 22, 23, 24, 25, 26, 27, 28, 29, 30, 31, 32, 33, 34, 35, 36, 37, 38, 39, 40, 41, 42, 43, 44, 45, 46, 47, 48, 49, 50, 51, 52, 53, 54, 55, 56, 57, 58, 59, 60, 61, 62, 63, 64] (by decide +kernel) (by decide +kernel)) (goodIn_sub (fun _ h => List.mem_cons_of_mem _ (List.mem_append_right _ h)) (by decide +kernel))
set_option maxRecDepth 20000 in
theorem gL_count_X2_count : GoodIn wsL_count (wsV RL 40 RX2 yX2_count wsX2_count) := goodIn_app (goodIn_of _ (by decide +kernel)) ggL_count_X2_count
set_option maxRecDepth 20000 in
theorem ggL_team_X2_team : GoodIn wsL_team wsX2_team := goodIn_ca (goodIn_r _ [6, 7, 8, 9, 10, 11, 5, 12, 13, 14, 15, 16, 17, 18, 19, 20, 21, 22, 23, 24, 25, 26, 27, 28, 29, 30, 31, 32, 33, 34, 35, 36, 37, 38, 39, 40, 41, 42, 43, 44, 45, 46, 47, 48, 49, 50, 51, 52, 53, 54, 55, 56, 57, 58, 59, 60, 61, 62, 63, 64, 65, 66] (by decide +kernel) (by decide +kernel)) (goodIn_sub (fun _ h => List.mem_cons_of_mem _ (List.mem_append_right _ h)) (by decide +kernel))
set_option maxRecDepth 20000 in
theorem gL_team_X2_team : GoodIn wsL_team (wsV RL 43 RX2 yX2_team wsX2_team) := goodIn_app (goodIn_of _ (by decide +kernel)) ggL_team_X2_team
set_option maxRecDepth 20000 in
theorem ggL_roller_X2_roller : GoodIn wsL_roller wsX2_roller := goodIn_ca (goodIn_ca (goodIn_r _ [7, 8, 9, 10, 11, 12, 13, 14, 6, 15, 16, 17, 18, 19, 20, 21, 22, 23, 24, 25, 26, 27, 28, 29, 30, 31, 32, 33, 34, 35, 36, 37, 38, 39, 40, 41, 42] (by decide +kernel) (by decide +kernel)) (goodIn_sub (fun _ h => List.mem_cons_of_mem _ (List.mem_append_left _ (List.mem_append_right _ h))) (by decide +kernel))) (goodIn_sub (fun _ h => List.mem_cons_of_mem _ (List.mem_append_right _ h)) (by decide +kernel))
set_option maxRecDepth 20000 in
theorem gL_roller_X2_roller : GoodIn wsL_roller (wsV RL 47 RX2 yX2_roller wsX2_roller) := goodIn_app (goodIn_of _ (by decide +kernel)) ggL_roller_X2_roller
set_option maxRecDepth 20000 in
theorem ggL_next_X2_next : GoodIn wsL_next wsX2_next := goodIn_ca (goodIn_r _ [6, 7, 8, 9, 10, 11, 12, 5, 13, 14, 15, 16, 17, 18, 19, 20, 21, 22, 23, 24, 25, 26, 27, 28, 29, 30, 31, 32, 33, 34, 35, 36, 37, 38, 39, 40, 41, 42, 43, 44, 45, 46, 47, 48, 49, 50, 51, 52, 53, 54, 55, 56, 57, 58, 59, 60, 61, 62, 63, 64, 65, 66, 67, 68, 69, 70, 71, 72, 73, 74, 75, 76, 77, 78, 79, 80, 81, 82, 83, 84, 85, 86, 87, 88, 89, 90, 91, 92, 93, 94, 95] (by decide +kernel) (by decide +kernel)) (goodIn_sub (fun _ h => List.mem_cons_of_mem _ (List.mem_append_right _ h)) (by decide +kernel))
set_option maxRecDepth 20000 in
theorem gL_next_X2_next : GoodIn wsL_next (wsV RL 50 RX2 yX2_next wsX2_next) := goodIn_app (goodIn_of _ (by decide +kernel)) ggL_next_X2_next
set_option maxRecDepth 20000 in
theorem ggL_ranked_X2_ranked : GoodIn wsL_ranked wsX2_ranked := goodIn_ca (goodIn_r _ [6, 7, 8, 9, 10, 11, 12, 5, 13, 14, 15, 16, 17, 18, 19, 20, 21, 22, 23, 24, 25, 26, 27, 28, 29, 30, 31, 32, 33, 34, 35, 36, 37, 38, 39, 40, 41, 42, 43, 44, 45, 46, 47, 48, 49, 50, 51, 52, 53, 54, 55, 56] (by decide +kernel) (by decide +kernel)) (goodIn_sub (fun _ h => List.mem_cons_of_mem _ (List.mem_append_right _ h)) (by decide +kernel))
set_option maxRecDepth 20000 in
theorem gL_ranked_X2_ranked : GoodIn wsL_ranked (wsV RL 53 RX2 yX2_ranked wsX2_ranked) := goodIn_app (goodIn_of _ (by decide +kernel)) ggL_ranked_X2_ranked
set_option maxRecDepth 20000 in
theorem ggL_foresee_X2_foresee : GoodIn wsL_foresee wsX2_foresee := goodIn_ca (goodIn_ca (goodIn_r _ [7, 8, 9, 10, 11, 12, 13, 14, 15, 6, 16, 17, 18, 19, 20, 21, 22, 23, 24, 25, 26, 27, 28, 29, 30, 31, 32, 33, 34, 35, 36, 37, 38, 39, 40, 41, 42, 43, 44, 45, 46, 47, 48, 49, 50, 51, 52, 53, 54, 55, 56, 57, 58, 59, 60, 61, 62, 63, 64, 65, 66, 67, 68, 69, 70, 71, 72, 73, 74, 75, 76, 77, 78, 79, 80, 81, 82, 83, 84, 85, 86, 87, 88, 89, 90, 91, 92, 93, 94, 95, 96, 97, 98, 99, 100, 101, 102, 103, 104, 105, 106, 107, 108, 109, 110, 111, 112, 113, 114, 115, 116, 117, 118, 119, 120, 121, 122, 123, 124, 125, 126, 127, 128, 129, 130, 131, 132, 133, 134, 135, 136, 137, 138, 139, 140, 141, 142, 143, 144, 145, 146, 147, 148, 149, 150, 151, 152, 153, 154, 155, 156, 157, 158, 159] (by decide +kernel) (by decide +kernel)) (goodIn_sub (fun _ h => List.mem_cons_of_mem _ (List.mem_append_left _ (List.mem_append_right _ h))) (by decide +kernel))) (goodIn_sub (fun _ h => List.mem_cons_of_mem _ (List.mem_append_right _ h)) (by decide +kernel))
set_option maxRecDepth 20000 in
theorem gL_foresee_X2_foresee : GoodIn wsL_foresee (wsV RL 56 RX2 yX2_foresee wsX2_foresee) := goodIn_app (goodIn_of _ (by decide +kernel)) ggL_foresee_X2_foresee
set_option maxRecDepth 20000 in
theorem ggL_advise_X2_advise : GoodIn wsL_advise wsX2_advise := goodIn_ca (goodIn_ca (goodIn_r _ [7, 8, 9, 10, 11, 12, 13, 6, 14, 15, 16, 17, 18, 19, 20, 21, 22, 23, 24, 25, 26, 27, 28, 29, 30, 31, 32, 33, 34, 35, 36, 37, 38, 39, 40, 41, 42, 43, 44, 45, 46, 47, 48, 49, 50, 51, 52, 53, 54, 55, 56, 57, 58, 59, 60, 61, 62, 63, 64, 65, 66, 67, 68, 69, 70, 71, 72, 73, 74, 75, 76, 77, 78, 79, 80, 81, 82, 83, 84, 85, 86, 87, 88, 89, 90, 91, 92, 93, 94, 95, 96, 97, 98, 99, 100, 101, 102, 103, 104, 105, 106, 107, 108, 109, 110, 111, 112, 113, 114, 115, 116, 117, 118, 119, 120, 121, 122, 123, 124, 125, 126, 127, 128, 129, 130, 131, 132, 133, 134, 135, 136, 137, 138, 139, 140, 141, 142, 143, 144, 145, 146, 147, 148, 149, 150] (by decide +kernel) (by decide +kernel)) (goodIn_sub (fun _ h => List.mem_cons_of_mem _ (List.mem_append_left _ (List.mem_append_right _ h))) (by decide +kernel))) (goodIn_sub (fun _ h => List.mem_cons_of_mem _ (List.mem_append_right _ h)) (by decide +kernel))
set_option maxRecDepth 20000 in
theorem gL_advise_X2_advise : GoodIn wsL_advise (wsV RL 59 RX2 yX2_advise wsX2_advise) := goodIn_app (goodIn_of _ (by decide +kernel)) ggL_advise_X2_advise
set_option maxRecDepth 20000 in
theorem ggL_law_X2_init : GoodIn wsL_law wsX2_init := goodIn_r _ [9, 10, 11, 12, 13, 14, 15, 16, 17, 18, 19, 20, 21, 22, 23, 24, 25, 26, 27, 28, 29, 30, 31, 32, 33, 34, 35, 36, 37, 38, 39, 40, 41, 42, 43, 44, 45, 46, 47, 48, 49, 50, 51, 52, 53, 54, 55, 56, 57, 58, 59, 60, 61, 62, 523, 524, 525, 526, 527, 508, 509, 510, 511, 512, 513, 528, 529, 530, 531, 532, 533, 534, 535, 536, 537, 538, 539, 540, 541, 542, 543, 544, 545, 546, 547] (by decide +kernel) (by decide +kernel)
set_option maxRecDepth 20000 in
theorem gL_law_X2_init : GoodIn wsL_law (wsX2_init) := ggL_law_X2_init
set_option maxRecDepth 20000 in
theorem ggL_law_X3_init : GoodIn wsL_law wsX3_init := goodIn_r _ [65, 66, 11, 12, 67, 68, 29, 69, 70, 71, 514, 515, 516, 517, 518, 519, 520, 521, 522] (by decide +kernel) (by decide +kernel)
set_option maxRecDepth 20000 in
theorem gL_law_X3_init : GoodIn wsL_law (wsX3_init) := ggL_law_X3_init
set_option maxRecDepth 20000 in
theorem ggL_law_L_setLength : GoodIn wsL_law wsL_setLength := goodIn_ca (goodIn_ca (goodIn_r _ [75, 76, 77, 78, 79, 80, 2, 81, 82, 83, 16, 84, 85, 86, 87, 88, 89, 90, 91, 92, 24, 508, 509, 510, 511, 512, 513, 523, 524, 525, 526, 527] (by decide +kernel) (by decide +kernel)) (goodIn_sub (fun _ h => List.mem_append_left _ (List.mem_append_left _ (List.mem_append_right _ h))) (by decide +kernel))) (goodIn_sub (fun _ h => List.mem_append_left _ (List.mem_append_right _ h)) (by decide +kernel))
set_option maxRecDepth 20000 in
theorem gL_law_L_setLength : GoodIn wsL_law (va_wsS RL 66 yL_setLength wsL_setLength) := goodIn_app (goodIn_of _ (by decide +kernel)) ggL_law_L_setLength
set_option maxRecDepth 20000 in
theorem ggL_law_X3_setLength : GoodIn wsL_law wsX3_setLength := goodIn_r _ [96, 97, 98, 67, 99, 100, 5, 101, 102, 103, 104, 105, 514, 515, 516, 517, 518, 519, 520, 521, 522] (by decide +kernel) (by decide +kernel)
set_option maxRecDepth 20000 in
theorem gL_law_X3_setLength : GoodIn wsL_law (wsV RL 71 RX3 yX3_setLength wsX3_setLength) := goodIn_app (goodIn_of _ (by decide +kernel)) ggL_law_X3_setLength
set_option maxRecDepth 20000 in
theorem ggL_law_X3_thrown : GoodIn wsL_law wsX3_thrown := goodIn_r _ [109, 97, 514, 515, 516, 517, 518, 519, 520, 521, 522] (by decide +kernel) (by decide +kernel)
set_option maxRecDepth 20000 in
theorem gL_law_X3_thrown : GoodIn wsL_law (wsV RL 72 RX3 yX3_thrown wsX3_thrown) := goodIn_app (goodIn_of _ (by decide +kernel)) ggL_law_X3_thrown
set_option maxRecDepth 20000 in
theorem ggL_law_L_lay : GoodIn wsL_law wsL_lay := goodIn_ca (goodIn_ca (goodIn_r _ [112, 76, 77, 113, 114, 115, 2, 116, 82, 83, 91, 92, 16, 84, 85, 86, 117, 118, 119, 15, 120, 33, 30, 31, 32, 508, 509, 510, 511, 512, 513, 523, 524, 525, 526, 527] (by decide +kernel) (by decide +kernel)) (goodIn_sub (fun _ h => List.mem_append_left _ (List.mem_append_left _ (List.mem_append_right _ h))) (by decide +kernel))) (goodIn_sub (fun _ h => List.mem_append_left _ (List.mem_append_right _ h)) (by decide +kernel))
set_option maxRecDepth 20000 in
theorem gL_law_L_lay : GoodIn wsL_law (va_wsS RL 76 yL_lay wsL_lay) := goodIn_app (goodIn_of _ (by decide +kernel)) ggL_law_L_lay
set_option maxRecDepth 20000 in
theorem ggL_law_X3_lay : GoodIn wsL_law wsX3_lay := goodIn_r _ [124, 97, 69, 68, 125, 126, 127, 128, 29, 99, 100, 5, 101, 102, 103, 104, 105, 129, 130, 131, 132, 514, 515, 516, 517, 518, 519, 520, 521, 522] (by decide +kernel) (by decide +kernel)
set_option maxRecDepth 20000 in
theorem gL_law_X3_lay : GoodIn wsL_law (wsV RL 79 RX3 yX3_lay wsX3_lay) := goodIn_app (goodIn_of _ (by decide +kernel)) ggL_law_X3_lay
set_option maxRecDepth 20000 in
theorem ggL_law_L_ground : GoodIn wsL_law wsL_ground := goodIn_ca (goodIn_r _ [135, 76, 136, 137, 138, 2, 139, 82, 83, 16, 84, 85, 86, 140, 141, 142, 15, 143, 32, 31, 144, 145, 146, 147, 33, 30, 508, 509, 510, 511, 512, 513, 523, 524, 525, 526, 527] (by decide +kernel) (by decide +kernel)) (goodIn_sub (fun _ h => List.mem_append_left _ (List.mem_append_left _ (List.mem_append_right _ h))) (by decide +kernel))
set_option maxRecDepth 20000 in
theorem gL_law_L_ground : GoodIn wsL_law (va_wsS RL 80 yL_ground wsL_ground) := goodIn_app (goodIn_of _ (by decide +kernel)) ggL_law_L_ground
set_option maxRecDepth 20000 in
theorem ggL_law_X3_ground : GoodIn wsL_law wsX3_ground := goodIn_r _ [151, 97, 69, 99, 100, 5, 101, 129, 130, 131, 132, 68, 102, 103, 104, 105, 514, 515, 516, 517, 518, 519, 520, 521, 522] (by decide +kernel) (by decide +kernel)
set_option maxRecDepth 20000 in
theorem gL_law_X3_ground : GoodIn wsL_law (wsV RL 83 RX3 yX3_ground wsX3_ground) := goodIn_app (goodIn_of _ (by decide +kernel)) ggL_law_X3_ground
set_option maxRecDepth 20000 in
theorem ggL_law_L_addTeam : GoodIn wsL_law wsL_addTeam := goodIn_ca (goodIn_ca (goodIn_r _ [154, 76, 77, 155, 156, 157, 2, 158, 82, 83, 91, 92, 23, 18, 17, 19, 20, 84, 85, 86, 87, 88, 89, 90, 24, 35, 36, 37, 38, 11, 12, 39, 40, 41, 42, 43, 44, 45, 46, 47, 48, 29, 49, 50, 51, 52, 53, 54, 55, 56, 57, 58, 59, 60, 61, 62, 508, 509, 510, 511, 512, 513, 528, 529, 530, 531, 532, 533, 534, 535, 536, 537, 538, 539, 540, 541, 542, 543, 544, 545, 546, 547] (by decide +kernel) (by decide +kernel)) (goodIn_sub (fun _ h => List.mem_append_left _ (List.mem_append_left _ (List.mem_append_right _ h))) (by decide +kernel))) (goodIn_sub (fun _ h => List.mem_append_left _ (List.mem_append_right _ h)) (by decide +kernel))
set_option maxRecDepth 20000 in
theorem gL_law_L_addTeam : GoodIn wsL_law (va_wsS RL 84 yL_addTeam wsL_addTeam) := goodIn_app (goodIn_of _ (by decide +kernel)) ggL_law_L_addTeam
set_option maxRecDepth 20000 in
theorem ggL_law_X3_addTeam : GoodIn wsL_law wsX3_addTeam := goodIn_r _ [162, 97, 163, 98, 29, 70, 125, 126, 127, 128, 99, 100, 5, 101, 102, 103, 104, 105, 164, 165, 166, 167, 168, 169, 170, 171, 172, 173, 174, 175, 514, 515, 516, 517, 518, 519, 520, 521, 522] (by decide +kernel) (by decide +kernel)
set_option maxRecDepth 20000 in
theorem gL_law_X3_addTeam : GoodIn wsL_law (wsV RL 86 RX3 yX3_addTeam wsX3_addTeam) := goodIn_app (goodIn_of _ (by decide +kernel)) ggL_law_X3_addTeam
set_option maxRecDepth 20000 in
theorem ggL_law_L_setCrew : GoodIn wsL_law wsL_setCrew := goodIn_ca (goodIn_ca (goodIn_ca (goodIn_r _ [178, 179, 76, 77, 180, 181, 182, 2, 183, 82, 83, 184, 185, 186, 187, 188, 189, 18, 84, 85, 86, 87, 88, 89, 90, 91, 92, 24, 528, 529, 530, 531, 532, 533, 534, 535, 536, 537, 538, 539, 540, 541, 542, 543, 544, 545, 546, 547, 508, 509, 510, 511, 512, 513] (by decide +kernel) (by decide +kernel)) (goodIn_sub (fun _ h => List.mem_append_left _ (List.mem_append_left _ (List.mem_append_right _ h))) (by decide +kernel))) (goodIn_sub (fun _ h => List.mem_append_right _ h) (by decide +kernel))) (goodIn_sub (fun _ h => List.mem_append_left _ (List.mem_append_right _ h)) (by decide +kernel))
set_option maxRecDepth 20000 in
theorem gL_law_L_setCrew : GoodIn wsL_law (va_wsS RL 87 yL_setCrew wsL_setCrew) := goodIn_app (goodIn_of _ (by decide +kernel)) ggL_law_L_setCrew
set_option maxRecDepth 20000 in
theorem ggL_law_X3_setCrew : GoodIn wsL_law wsX3_setCrew := goodIn_r _ [193, 97, 98, 29, 70, 125, 126, 127, 128, 194, 195, 196, 5, 197, 163, 99, 100, 101, 102, 103, 104, 105, 172, 173, 174, 175, 168, 169, 170, 171, 514, 515, 516, 517, 518, 519, 520, 521, 522] (by decide +kernel) (by decide +kernel)
set_option maxRecDepth 20000 in
theorem gL_law_X3_setCrew : GoodIn wsL_law (wsV RL 90 RX3 yX3_setCrew wsX3_setCrew) := goodIn_app (goodIn_of _ (by decide +kernel)) ggL_law_X3_setCrew
set_option maxRecDepth 20000 in
theorem ggL_law_L_order : GoodIn wsL_law wsL_order := goodIn_ca (goodIn_ca (goodIn_r _ [200, 179, 76, 201, 202, 203, 2, 204, 82, 83, 184, 185, 186, 187, 188, 189, 18, 84, 85, 86, 528, 529, 530, 531, 532, 533, 534, 535, 536, 537, 538, 539, 540, 541, 542, 543, 544, 545, 546, 547, 508, 509, 510, 511, 512, 513] (by decide +kernel) (by decide +kernel)) (goodIn_sub (fun _ h => List.mem_append_left _ (List.mem_append_left _ (List.mem_append_right _ h))) (by decide +kernel))) (goodIn_sub (fun _ h => List.mem_append_right _ h) (by decide +kernel))
set_option maxRecDepth 20000 in
theorem gL_law_L_order : GoodIn wsL_law (va_wsS RL 91 yL_order wsL_order) := goodIn_app (goodIn_of _ (by decide +kernel)) ggL_law_L_order
set_option maxRecDepth 20000 in
theorem ggL_law_X3_order : GoodIn wsL_law wsX3_order := goodIn_r _ [208, 97, 194, 195, 196, 5, 197, 163, 99, 100, 101, 102, 103, 104, 105, 172, 173, 174, 175, 70, 168, 169, 170, 171, 514, 515, 516, 517, 518, 519, 520, 521, 522] (by decide +kernel) (by decide +kernel)
set_option maxRecDepth 20000 in
theorem gL_law_X3_order : GoodIn wsL_law (wsV RL 93 RX3 yX3_order wsX3_order) := goodIn_app (goodIn_of _ (by decide +kernel)) ggL_law_X3_order
set_option maxRecDepth 20000 in
theorem ggL_law_L_run : GoodIn wsL_law wsL_run := goodIn_ca (goodIn_ca (goodIn_r _ [211, 76, 77, 212, 213, 214, 2, 215, 82, 83, 91, 92, 23, 84, 85, 86, 216, 217, 218, 219, 24, 18, 16, 220, 221, 222, 20, 223, 59, 58, 61, 47, 56, 62, 224, 225, 226, 227, 228, 229, 230, 231, 43, 44, 57, 232, 233, 234, 235, 236, 145, 146, 147, 60, 237, 238, 239, 240, 241, 242, 243, 244, 245, 246, 247, 41, 248, 141, 142, 15, 143, 32, 31, 144, 33, 30, 249, 250, 251, 252, 42, 49, 253, 254, 255, 256, 40, 257, 258, 259, 260, 261, 262, 263, 264, 265, 266, 267, 268, 45, 50, 51, 48, 269, 270, 271, 272, 273, 274, 275, 276, 277, 508, 509, 510, 511, 512, 513, 528, 529, 530, 531, 532, 533, 534, 535, 536, 537, 538, 539, 540, 541, 542, 543, 544, 545, 546, 547, 523, 524, 525, 526, 527] (by decide +kernel) (by decide +kernel)) (goodIn_sub (fun _ h => List.mem_append_left _ (List.mem_append_left _ (List.mem_append_right _ h))) (by decide +kernel))) (goodIn_sub (fun _ h => List.mem_append_left _ (List.mem_append_right _ h)) (by decide +kernel))
set_option maxRecDepth 20000 in
theorem gL_law_L_run : GoodIn wsL_law (va_wsS RL 94 yL_run wsL_run) := goodIn_app (goodIn_of _ (by decide +kernel)) ggL_law_L_run
set_option maxRecDepth 20000 in
theorem ggL_law_X3_run : GoodIn wsL_law wsX3_run := goodIn_r _ [281, 97, 163, 99, 100, 5, 101, 102, 103, 104, 105, 282, 283, 284, 285, 98, 286, 287, 288, 289, 290, 145, 146, 147, 291, 67, 172, 173, 174, 175, 70, 292, 293, 294, 295, 168, 169, 170, 171, 296, 297, 298, 299, 300, 242, 243, 301, 302, 303, 304, 305, 306, 307, 308, 309, 310, 311, 312, 69, 129, 130, 131, 132, 68, 313, 314, 315, 316, 317, 318, 319, 320, 321, 322, 323, 324, 325, 326, 327, 328, 329, 330, 331, 332, 514, 515, 516, 517, 518, 519, 520, 521, 522] (by decide +kernel) (by decide +kernel)
set_option maxRecDepth 20000 in
theorem gL_law_X3_run : GoodIn wsL_law (wsV RL 96 RX3 yX3_run wsX3_run) := goodIn_app (goodIn_of _ (by decide +kernel)) ggL_law_X3_run
set_option maxRecDepth 20000 in
theorem ggL_law_X2_restart : GoodIn wsL_law wsX2_restart := goodIn_r _ [336, 24, 18, 23, 337, 53, 54, 20, 55, 56, 57, 46, 58, 59, 60, 61, 62, 42, 49, 40, 50, 51, 508, 509, 510, 511, 512, 513, 528, 529, 530, 531, 532, 533, 534, 535, 536, 537, 538, 539, 540, 541, 542, 543, 544, 545, 546, 547] (by decide +kernel) (by decide +kernel)
set_option maxRecDepth 20000 in
theorem gL_law_X2_restart : GoodIn wsL_law (wsV RL 97 RX2 yX2_restart wsX2_restart) := goodIn_app (goodIn_of _ (by decide +kernel)) ggL_law_X2_restart
set_option maxRecDepth 20000 in
theorem ggL_law_X3_restart : GoodIn wsL_law wsX3_restart := goodIn_r _ [341, 97, 98, 291, 163, 164, 165, 166, 5, 167, 168, 169, 170, 171, 70, 172, 173, 174, 175, 514, 515, 516, 517, 518, 519, 520, 521, 522] (by decide +kernel) (by decide +kernel)
set_option maxRecDepth 20000 in
theorem gL_law_X3_restart : GoodIn wsL_law (wsV RL 100 RX3 yX3_restart wsX3_restart) := goodIn_app (goodIn_of _ (by decide +kernel)) ggL_law_X3_restart
set_option maxRecDepth 20000 in
theorem ggL_law_L_count : GoodIn wsL_law wsL_count := goodIn_ca (goodIn_r _ [344, 179, 345, 346, 347, 2, 348, 188, 189, 84, 85, 86, 349, 350, 351, 352, 24, 23, 16, 273, 274, 275, 276, 18, 277, 225, 226, 20, 227, 62, 353, 354, 355, 356, 508, 509, 510, 511, 512, 513, 523, 524, 525, 526, 527, 528, 529, 530, 531, 532, 533, 534, 535, 536, 537, 538, 539, 540, 541, 542, 543, 544, 545, 546, 547] (by decide +kernel) (by decide +kernel)) (goodIn_sub (fun _ h => List.mem_append_right _ h) (by decide +kernel))
set_option maxRecDepth 20000 in
theorem gL_law_L_count : GoodIn wsL_law (va_wsS RL 101 yL_count wsL_count) := goodIn_app (goodIn_of _ (by decide +kernel)) ggL_law_L_count
set_option maxRecDepth 20000 in
theorem ggL_law_X3_count : GoodIn wsL_law wsX3_count := goodIn_r _ [360, 97, 99, 100, 5, 101, 361, 362, 363, 364, 98, 163, 67, 68, 291, 329, 330, 331, 332, 172, 173, 174, 175, 70, 102, 103, 104, 105, 514, 515, 516, 517, 518, 519, 520, 521, 522] (by decide +kernel) (by decide +kernel)
set_option maxRecDepth 20000 in
theorem gL_law_X3_count : GoodIn wsL_law (wsV RL 103 RX3 yX3_count wsX3_count) := goodIn_app (goodIn_of _ (by decide +kernel)) ggL_law_X3_count
set_option maxRecDepth 20000 in
theorem ggL_law_L_team : GoodIn wsL_law wsL_team := goodIn_ca (goodIn_r _ [367, 179, 368, 369, 370, 2, 371, 188, 189, 184, 185, 186, 187, 18, 84, 85, 86, 372, 373, 374, 20, 375, 56, 57, 58, 59, 62, 47, 48, 61, 249, 250, 251, 252, 42, 49, 253, 254, 255, 256, 40, 508, 509, 510, 511, 512, 513, 528, 529, 530, 531, 532, 533, 534, 535, 536, 537, 538, 539, 540, 541, 542, 543, 544, 545, 546, 547] (by decide +kernel) (by decide +kernel)) (goodIn_sub (fun _ h => List.mem_append_right _ h) (by decide +kernel))
set_option maxRecDepth 20000 in
theorem gL_law_L_team : GoodIn wsL_law (va_wsS RL 104 yL_team wsL_team) := goodIn_app (goodIn_of _ (by decide +kernel)) ggL_law_L_team
set_option maxRecDepth 20000 in
theorem ggL_law_X3_team : GoodIn wsL_law wsX3_team := goodIn_r _ [379, 97, 194, 195, 196, 5, 197, 163, 99, 100, 101, 380, 381, 382, 383, 172, 173, 174, 175, 70, 313, 314, 315, 316, 317, 318, 319, 320, 321, 322, 323, 324, 102, 103, 104, 105, 514, 515, 516, 517, 518, 519, 520, 521, 522] (by decide +kernel) (by decide +kernel)
set_option maxRecDepth 20000 in
theorem gL_law_X3_team : GoodIn wsL_law (wsV RL 107 RX3 yX3_team wsX3_team) := goodIn_app (goodIn_of _ (by decide +kernel)) ggL_law_X3_team
set_option maxRecDepth 20000 in
theorem ggL_law_L_roller : GoodIn wsL_law wsL_roller := goodIn_ca (goodIn_ca (goodIn_r _ [386, 179, 77, 387, 388, 389, 2, 390, 188, 189, 91, 92, 184, 185, 186, 187, 18, 528, 529, 530, 531, 532, 533, 534, 535, 536, 537, 538, 539, 540, 541, 542, 543, 544, 545, 546, 547, 508, 509, 510, 511, 512, 513] (by decide +kernel) (by decide +kernel)) (goodIn_sub (fun _ h => List.mem_append_right _ h) (by decide +kernel))) (goodIn_sub (fun _ h => List.mem_append_left _ (List.mem_append_right _ h)) (by decide +kernel))
set_option maxRecDepth 20000 in
theorem gL_law_L_roller : GoodIn wsL_law (va_wsS RL 108 yL_roller wsL_roller) := goodIn_app (goodIn_of _ (by decide +kernel)) ggL_law_L_roller
set_option maxRecDepth 20000 in
theorem ggL_law_X3_roller : GoodIn wsL_law wsX3_roller := goodIn_r _ [394, 97, 194, 195, 196, 5, 197, 163, 99, 100, 101, 172, 173, 174, 175, 70, 102, 103, 104, 105, 321, 322, 323, 324, 514, 515, 516, 517, 518, 519, 520, 521, 522] (by decide +kernel) (by decide +kernel)
set_option maxRecDepth 20000 in
theorem gL_law_X3_roller : GoodIn wsL_law (wsV RL 110 RX3 yX3_roller wsX3_roller) := goodIn_app (goodIn_of _ (by decide +kernel)) ggL_law_X3_roller
set_option maxRecDepth 20000 in
theorem ggL_law_L_next : GoodIn wsL_law wsL_next := goodIn_ca (goodIn_r _ [397, 179, 398, 399, 400, 2, 401, 188, 189, 16, 184, 185, 186, 187, 18, 84, 85, 86, 402, 229, 230, 20, 231, 43, 44, 47, 57, 403, 245, 246, 247, 56, 41, 236, 145, 146, 147, 241, 242, 243, 248, 141, 142, 15, 143, 32, 31, 144, 33, 30, 249, 250, 251, 252, 42, 49, 253, 254, 255, 256, 40, 404, 258, 259, 260, 508, 509, 510, 511, 512, 513, 528, 529, 530, 531, 532, 533, 534, 535, 536, 537, 538, 539, 540, 541, 542, 543, 544, 545, 546, 547, 523, 524, 525, 526, 527] (by decide +kernel) (by decide +kernel)) (goodIn_sub (fun _ h => List.mem_append_right _ h) (by decide +kernel))
set_option maxRecDepth 20000 in
theorem gL_law_L_next : GoodIn wsL_law (va_wsS RL 111 yL_next wsL_next) := goodIn_app (goodIn_of _ (by decide +kernel)) ggL_law_L_next
set_option maxRecDepth 20000 in
theorem ggL_law_X3_next : GoodIn wsL_law wsX3_next := goodIn_r _ [408, 97, 194, 195, 196, 5, 197, 163, 99, 100, 101, 102, 103, 104, 105, 292, 293, 294, 295, 172, 173, 174, 175, 70, 309, 310, 311, 312, 69, 290, 145, 146, 147, 300, 242, 243, 129, 130, 131, 132, 68, 313, 314, 315, 316, 317, 318, 319, 320, 321, 322, 323, 324, 305, 306, 307, 308, 514, 515, 516, 517, 518, 519, 520, 521, 522] (by decide +kernel) (by decide +kernel)
set_option maxRecDepth 20000 in
theorem gL_law_X3_next : GoodIn wsL_law (wsV RL 113 RX3 yX3_next wsX3_next) := goodIn_app (goodIn_of _ (by decide +kernel)) ggL_law_X3_next
set_option maxRecDepth 20000 in
theorem ggL_law_L_ranked : GoodIn wsL_law wsL_ranked := goodIn_ca (goodIn_r _ [411, 179, 412, 413, 414, 2, 415, 188, 189, 23, 416, 417, 418, 419, 18, 420, 421, 422, 423, 424, 425, 426, 20, 427, 62, 56, 39, 224, 225, 226, 227, 508, 509, 510, 511, 512, 513, 528, 529, 530, 531, 532, 533, 534, 535, 536, 537, 538, 539, 540, 541, 542, 543, 544, 545, 546, 547] (by decide +kernel) (by decide +kernel)) (goodIn_sub (fun _ h => List.mem_append_right _ h) (by decide +kernel))
set_option maxRecDepth 20000 in
theorem gL_law_L_ranked : GoodIn wsL_law (va_wsS RL 114 yL_ranked wsL_ranked) := goodIn_app (goodIn_of _ (by decide +kernel)) ggL_law_L_ranked
set_option maxRecDepth 20000 in
theorem ggL_law_X3_ranked : GoodIn wsL_law wsX3_ranked := goodIn_r _ [431, 97, 163, 99, 100, 5, 101, 432, 433, 434, 435, 436, 437, 438, 439, 440, 441, 442, 443, 172, 173, 174, 175, 70, 102, 103, 104, 105, 514, 515, 516, 517, 518, 519, 520, 521, 522] (by decide +kernel) (by decide +kernel)
set_option maxRecDepth 20000 in
theorem gL_law_X3_ranked : GoodIn wsL_law (wsV RL 116 RX3 yX3_ranked wsX3_ranked) := goodIn_app (goodIn_of _ (by decide +kernel)) ggL_law_X3_ranked
set_option maxRecDepth 20000 in
theorem ggL_law_L_foresee : GoodIn wsL_law wsL_foresee := goodIn_ca (goodIn_ca (goodIn_r _ [446, 179, 76, 447, 448, 449, 2, 450, 188, 189, 82, 83, 21, 184, 185, 186, 187, 18, 84, 85, 86, 451, 452, 453, 454, 24, 16, 455, 456, 457, 20, 458, 39, 40, 41, 42, 43, 44, 45, 46, 47, 48, 56, 57, 58, 59, 60, 61, 62, 49, 50, 51, 459, 460, 461, 220, 221, 222, 223, 224, 225, 226, 227, 228, 229, 230, 231, 232, 233, 234, 235, 236, 145, 146, 147, 237, 238, 239, 240, 241, 242, 243, 244, 245, 246, 247, 248, 141, 142, 15, 143, 32, 31, 144, 33, 30, 249, 250, 251, 252, 253, 254, 255, 256, 257, 258, 259, 260, 261, 262, 263, 264, 265, 266, 267, 268, 269, 270, 271, 272, 462, 463, 464, 465, 22, 424, 425, 426, 427, 508, 509, 510, 511, 512, 513, 528, 529, 530, 531, 532, 533, 534, 535, 536, 537, 538, 539, 540, 541, 542, 543, 544, 545, 546, 547, 523, 524, 525, 526, 527] (by decide +kernel) (by decide +kernel)) (goodIn_sub (fun _ h => List.mem_append_right _ h) (by decide +kernel))) (goodIn_sub (fun _ h => List.mem_append_left _ (List.mem_append_left _ (List.mem_append_right _ h))) (by decide +kernel))
set_option maxRecDepth 20000 in
theorem gL_law_L_foresee : GoodIn wsL_law (va_wsS RL 117 yL_foresee wsL_foresee) := goodIn_app (goodIn_of _ (by decide +kernel)) ggL_law_L_foresee
set_option maxRecDepth 20000 in
theorem ggL_law_X3_foresee : GoodIn wsL_law wsX3_foresee := goodIn_r _ [469, 97, 98, 291, 70, 71, 125, 126, 127, 128, 194, 195, 196, 5, 197, 163, 99, 100, 101, 102, 103, 104, 105, 282, 283, 284, 285, 286, 287, 288, 289, 290, 145, 146, 147, 67, 172, 173, 174, 175, 292, 293, 294, 295, 168, 169, 170, 171, 296, 297, 298, 299, 300, 242, 243, 301, 302, 303, 304, 305, 306, 307, 308, 309, 310, 311, 312, 69, 129, 130, 131, 132, 68, 313, 314, 315, 316, 317, 318, 319, 320, 321, 322, 323, 324, 325, 326, 327, 328, 436, 437, 438, 439, 440, 441, 442, 443, 514, 515, 516, 517, 518, 519, 520, 521, 522] (by decide +kernel) (by decide +kernel)
set_option maxRecDepth 20000 in
theorem gL_law_X3_foresee : GoodIn wsL_law (wsV RL 119 RX3 yX3_foresee wsX3_foresee) := goodIn_app (goodIn_of _ (by decide +kernel)) ggL_law_X3_foresee
set_option maxRecDepth 20000 in
theorem ggL_law_L_advise : GoodIn wsL_law wsL_advise := goodIn_ca (goodIn_ca (goodIn_r _ [472, 179, 76, 473, 474, 475, 2, 476, 82, 83, 21, 184, 185, 186, 187, 188, 189, 18, 84, 85, 86, 451, 452, 453, 454, 24, 16, 455, 456, 457, 20, 458, 39, 40, 41, 42, 43, 44, 45, 46, 47, 48, 56, 57, 58, 59, 60, 61, 62, 49, 50, 51, 459, 460, 461, 220, 221, 222, 223, 224, 225, 226, 227, 228, 229, 230, 231, 232, 233, 234, 235, 236, 145, 146, 147, 237, 238, 239, 240, 241, 242, 243, 244, 245, 246, 247, 248, 141, 142, 15, 143, 32, 31, 144, 33, 30, 249, 250, 251, 252, 253, 254, 255, 256, 257, 258, 259, 260, 261, 262, 263, 264, 265, 266, 267, 268, 269, 270, 271, 272, 508, 509, 510, 511, 512, 513, 528, 529, 530, 531, 532, 533, 534, 535, 536, 537, 538, 539, 540, 541, 542, 543, 544, 545, 546, 547, 523, 524, 525, 526, 527] (by decide +kernel) (by decide +kernel)) (goodIn_sub (fun _ h => List.mem_append_left _ (List.mem_append_left _ (List.mem_append_right _ h))) (by decide +kernel))) (goodIn_sub (fun _ h => List.mem_append_right _ h) (by decide +kernel))
set_option maxRecDepth 20000 in
theorem gL_law_L_advise : GoodIn wsL_law (va_wsS RL 120 yL_advise wsL_advise) := goodIn_app (goodIn_of _ (by decide +kernel)) ggL_law_L_advise
set_option maxRecDepth 20000 in
theorem ggL_law_X3_advise : GoodIn wsL_law wsX3_advise := goodIn_r _ [480, 97, 194, 195, 196, 5, 197, 163, 99, 100, 101, 102, 103, 104, 105, 172, 173, 174, 175, 70, 168, 169, 170, 171, 481, 467, 468, 469, 98, 291, 71, 125, 126, 127, 128, 282, 283, 284, 285, 286, 287, 288, 289, 290, 145, 146, 147, 67, 292, 293, 294, 295, 296, 297, 298, 299, 300, 242, 243, 301, 302, 303, 304, 305, 306, 307, 308, 309, 310, 311, 312, 69, 129, 130, 131, 132, 68, 313, 314, 315, 316, 317, 318, 319, 320, 321, 322, 323, 324, 325, 326, 327, 328, 436, 437, 438, 439, 440, 441, 442, 443, 514, 515, 516, 517, 518, 519, 520, 521, 522] (by decide +kernel) (by decide +kernel)
set_option maxRecDepth 20000 in
theorem gL_law_X3_advise : GoodIn wsL_law (wsV RL 122 RX3 yX3_advise wsX3_advise) := goodIn_app (goodIn_of _ (by decide +kernel)) ggL_law_X3_advise
set_option maxRecDepth 20000 in
theorem ggL_law_X2_mean : GoodIn wsL_law wsX2_mean := goodIn_r _ [485, 23, 18, 508, 509, 510, 511, 512, 513, 528, 529, 530, 531, 532, 533, 534, 535, 536, 537, 538, 539, 540, 541, 542, 543, 544, 545, 546, 547] (by decide +kernel) (by decide +kernel)
set_option maxRecDepth 20000 in
theorem gL_law_X2_mean : GoodIn wsL_law (wsV RL 123 RX2 yX2_mean wsX2_mean) := goodIn_app (goodIn_of _ (by decide +kernel)) ggL_law_X2_mean
set_option maxRecDepth 20000 in
theorem ggL_law_X3_mean : GoodIn wsL_law wsX3_mean := goodIn_r _ [489, 97, 163, 172, 173, 174, 5, 175, 70, 514, 515, 516, 517, 518, 519, 520, 521, 522] (by decide +kernel) (by decide +kernel)
set_option maxRecDepth 20000 in
theorem gL_law_X3_mean : GoodIn wsL_law (wsV RL 127 RX3 yX3_mean wsX3_mean) := goodIn_app (goodIn_of _ (by decide +kernel)) ggL_law_X3_mean
set_option maxRecDepth 20000 in
theorem ggL_law_X2_digest : GoodIn wsL_law wsX2_digest := goodIn_r _ [493, 494, 495, 18, 23, 349, 350, 351, 2, 352, 24, 16, 273, 274, 275, 276, 277, 225, 226, 20, 227, 62, 353, 354, 355, 356, 496, 497, 498, 499, 500, 42, 49, 501, 373, 374, 375, 56, 57, 58, 59, 47, 48, 61, 249, 250, 251, 252, 253, 254, 255, 256, 40, 416, 417, 418, 419, 420, 421, 422, 423, 424, 425, 426, 427, 39, 224, 508, 509, 510, 511, 512, 513, 523, 524, 525, 526, 527, 528, 529, 530, 531, 532, 533, 534, 535, 536, 537, 538, 539, 540, 541, 542, 543, 544, 545, 546, 547] (by decide +kernel) (by decide +kernel)
set_option maxRecDepth 20000 in
theorem gL_law_X2_digest : GoodIn wsL_law (wsV RL 128 RX2 yX2_digest wsX2_digest) := goodIn_app (goodIn_of _ (by decide +kernel)) ggL_law_X2_digest
set_option maxRecDepth 20000 in
theorem ggL_law_X3_digest : GoodIn wsL_law wsX3_digest := goodIn_r _ [505, 97, 506, 507, 163, 361, 362, 363, 5, 364, 98, 67, 68, 291, 329, 330, 331, 332, 172, 173, 174, 175, 70, 380, 381, 382, 383, 313, 314, 315, 316, 317, 318, 319, 320, 321, 322, 323, 324, 432, 433, 434, 435, 436, 437, 438, 439, 440, 441, 442, 443, 514, 515, 516, 517, 518, 519, 520, 521, 522] (by decide +kernel) (by decide +kernel)
set_option maxRecDepth 20000 in
theorem gL_law_X3_digest : GoodIn wsL_law (wsV RL 132 RX3 yX3_digest wsX3_digest) := goodIn_app (goodIn_of _ (by decide +kernel)) ggL_law_X3_digest
