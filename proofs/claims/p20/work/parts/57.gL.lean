set_option maxRecDepth 20000 in
theorem ggL_build_X3_init : GoodIn wsL_build wsX3_init := goodIn_r _ [22, 23, 24, 25, 26, 27, 12, 28, 29, 30, 150, 151, 152, 153, 154] (by decide +kernel) (by decide +kernel)
set_option maxRecDepth 20000 in
theorem gL_build_X3_init_n11 : GoodIn wsL_build (wsX3_init) := ggL_build_X3_init
set_option maxRecDepth 20000 in
theorem ggL_build_L_cell : GoodIn wsL_build wsL_cell := goodIn_r _ [34, 35] (by decide +kernel) (by decide +kernel)
set_option maxRecDepth 20000 in
theorem gL_build_L_cell : GoodIn wsL_build (va_wsS RL 12 yL_cell wsL_cell) := goodIn_app (goodIn_of _ (by decide +kernel)) ggL_build_L_cell
set_option maxRecDepth 20000 in
theorem ggL_build_L_below : GoodIn wsL_build wsL_below := goodIn_r _ [38, 39] (by decide +kernel) (by decide +kernel)
set_option maxRecDepth 20000 in
theorem gL_build_L_below : GoodIn wsL_build (va_wsS RL 18 yL_below wsL_below) := goodIn_app (goodIn_of _ (by decide +kernel)) ggL_build_L_below
set_option maxRecDepth 20000 in
theorem ggL_build_X2_setLength : GoodIn wsL_build wsX2_setLength := goodIn_ca (goodIn_ca (goodIn_r _ [44, 45, 46, 47, 48, 49, 43, 50, 51, 52, 53, 54, 55, 56, 57, 172, 173, 174, 175, 176, 177, 178, 179, 180, 181, 182] (by decide +kernel) (by decide +kernel)) (goodIn_sub (fun _ h => List.mem_cons_of_mem _ (List.mem_append_left _ (List.mem_append_left _ (List.mem_append_right _ h)))) (by decide +kernel))) (goodIn_sub (fun _ h => List.mem_cons_of_mem _ (List.mem_append_left _ (List.mem_append_right _ h))) (by decide +kernel))
set_option maxRecDepth 20000 in
theorem gL_build_X2_setLength : GoodIn wsL_build (wsV RL 26 RX2 yX2_setLength wsX2_setLength) := goodIn_app (goodIn_of _ (by decide +kernel)) ggL_build_X2_setLength
set_option maxRecDepth 20000 in
theorem ggL_build_X3_lay : GoodIn wsL_build wsX3_lay := goodIn_r _ [61, 28, 27, 12, 150, 151, 152, 153, 154] (by decide +kernel) (by decide +kernel)
set_option maxRecDepth 20000 in
theorem gL_build_X3_lay : GoodIn wsL_build (wsV RL 32 RX3 yX3_lay wsX3_lay) := goodIn_app (goodIn_of _ (by decide +kernel)) ggL_build_X3_lay
set_option maxRecDepth 20000 in
theorem ggL_build_X2_lay : GoodIn wsL_build wsX2_lay := goodIn_ca (goodIn_ca (goodIn_r _ [65, 45, 46, 55, 56, 47, 48, 49, 43, 50, 66, 67, 68, 69, 70, 71, 72, 73, 74, 172, 173, 174, 175, 176, 177, 178, 179, 180, 181, 182] (by decide +kernel) (by decide +kernel)) (goodIn_sub (fun _ h => List.mem_cons_of_mem _ (List.mem_append_left _ (List.mem_append_left _ (List.mem_append_right _ h)))) (by decide +kernel))) (goodIn_sub (fun _ h => List.mem_cons_of_mem _ (List.mem_append_left _ (List.mem_append_right _ h))) (by decide +kernel))
set_option maxRecDepth 20000 in
theorem gL_build_X2_lay : GoodIn wsL_build (wsV RL 36 RX2 yX2_lay wsX2_lay) := goodIn_app (goodIn_of _ (by decide +kernel)) ggL_build_X2_lay
set_option maxRecDepth 20000 in
theorem ggL_build_X4_init : GoodIn wsL_build wsX4_init := goodIn_r _ [76, 77, 24, 25, 78, 79, 80, 81, 82, 83, 84, 85, 12, 86, 87, 155, 156, 157, 158, 159, 160, 161, 162, 163, 164, 165, 166, 167, 168, 169, 170, 171] (by decide +kernel) (by decide +kernel)
set_option maxRecDepth 20000 in
theorem gL_build_X4_init_n49 : GoodIn wsL_build (wsX4_init) := ggL_build_X4_init
set_option maxRecDepth 20000 in
theorem ggL_build_X2_addTeam : GoodIn wsL_build wsX2_addTeam := goodIn_ca (goodIn_ca (goodIn_r _ [91, 45, 46, 55, 56, 92, 93, 94, 95, 96, 48, 49, 43, 50, 51, 52, 53, 54, 57, 97, 98, 99, 100, 24, 25, 101, 102, 103, 104, 105, 106, 107, 108, 109, 110, 12, 111, 112, 113, 114, 115, 116, 117, 118, 119, 120, 121, 122, 123, 124, 172, 173, 174, 175, 176, 177, 183, 184, 185, 186, 187, 188, 189, 190, 191, 192, 193, 194, 195, 196, 197, 198, 199, 200, 201, 202] (by decide +kernel) (by decide +kernel)) (goodIn_sub (fun _ h => List.mem_cons_of_mem _ (List.mem_append_left _ (List.mem_append_left _ (List.mem_append_right _ h)))) (by decide +kernel))) (goodIn_sub (fun _ h => List.mem_cons_of_mem _ (List.mem_append_left _ (List.mem_append_right _ h))) (by decide +kernel))
set_option maxRecDepth 20000 in
theorem gL_build_X2_addTeam : GoodIn wsL_build (wsV RL 60 RX2 yX2_addTeam wsX2_addTeam) := goodIn_app (goodIn_of _ (by decide +kernel)) ggL_build_X2_addTeam
set_option maxRecDepth 20000 in
theorem ggL_build_X2_setCrew : GoodIn wsL_build wsX2_setCrew := goodIn_ca (goodIn_ca (goodIn_ca (goodIn_r _ [128, 45, 46, 129, 130, 131, 43, 132, 133, 134, 93, 48, 49, 50, 51, 52, 53, 54, 55, 56, 57, 183, 184, 185, 186, 187, 188, 189, 190, 191, 192, 193, 194, 195, 196, 197, 198, 199, 200, 201, 202, 172, 173, 174, 175, 176, 177] (by decide +kernel) (by decide +kernel)) (goodIn_sub (fun _ h => List.mem_cons_of_mem _ (List.mem_append_left _ (List.mem_append_left _ (List.mem_append_right _ h)))) (by decide +kernel))) (goodIn_sub (fun _ h => List.mem_cons_of_mem _ (List.mem_append_right _ h)) (by decide +kernel))) (goodIn_sub (fun _ h => List.mem_cons_of_mem _ (List.mem_append_left _ (List.mem_append_right _ h))) (by decide +kernel))
set_option maxRecDepth 20000 in
theorem gL_build_X2_setCrew : GoodIn wsL_build (wsV RL 78 RX2 yX2_setCrew wsX2_setCrew) := goodIn_app (goodIn_of _ (by decide +kernel)) ggL_build_X2_setCrew
set_option maxRecDepth 20000 in
theorem ggL_build_X2_order : GoodIn wsL_build wsX2_order := goodIn_ca (goodIn_ca (goodIn_r _ [138, 45, 46, 129, 130, 131, 43, 132, 133, 134, 93, 48, 49, 50, 183, 184, 185, 186, 187, 188, 189, 190, 191, 192, 193, 194, 195, 196, 197, 198, 199, 200, 201, 202, 172, 173, 174, 175, 176, 177] (by decide +kernel) (by decide +kernel)) (goodIn_sub (fun _ h => List.mem_cons_of_mem _ (List.mem_append_left _ (List.mem_append_left _ (List.mem_append_right _ h)))) (by decide +kernel))) (goodIn_sub (fun _ h => List.mem_cons_of_mem _ (List.mem_append_right _ h)) (by decide +kernel))
set_option maxRecDepth 20000 in
theorem gL_build_X2_order : GoodIn wsL_build (wsV RL 88 RX2 yX2_order wsX2_order) := goodIn_app (goodIn_of _ (by decide +kernel)) ggL_build_X2_order
set_option maxRecDepth 20000 in
theorem ggL_build_X4_begin : GoodIn wsL_build wsX4_begin := goodIn_r _ [142, 143, 83, 80, 84, 144, 85, 145, 146, 147, 148, 149, 86, 155, 156, 157, 158, 159, 160, 161, 162, 163, 164, 165, 166, 167, 168, 169, 170, 171] (by decide +kernel) (by decide +kernel)
set_option maxRecDepth 20000 in
theorem gL_build_X4_begin : GoodIn wsL_build (wsV RL 91 RX4 yX4_begin wsX4_begin) := goodIn_app (goodIn_of _ (by decide +kernel)) ggL_build_X4_begin
set_option maxRecDepth 20000 in
theorem ggL_placeOf_X2_roller : GoodIn wsL_placeOf wsX2_roller := goodIn_ca (goodIn_ca (goodIn_r _ [6, 7, 8, 9, 10, 11, 12, 13, 5, 14, 15, 16, 17, 18, 19, 20, 21, 22, 23, 24, 25, 26, 27, 28, 29, 30, 31, 32, 33, 34, 35, 36, 37, 38, 39, 40, 41] (by decide +kernel) (by decide +kernel)) (goodIn_sub (fun _ h => List.mem_cons_of_mem _ (List.mem_append_left _ (List.mem_append_right _ h))) (by decide +kernel))) (goodIn_sub (fun _ h => List.mem_cons_of_mem _ (List.mem_append_right _ h)) (by decide +kernel))
set_option maxRecDepth 20000 in
theorem gL_placeOf_X2_roller : GoodIn wsL_placeOf (wsV RL 129 RX2 yX2_roller wsX2_roller) := goodIn_app (goodIn_of _ (by decide +kernel)) ggL_placeOf_X2_roller
