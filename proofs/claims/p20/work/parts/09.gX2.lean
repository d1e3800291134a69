set_option maxRecDepth 20000 in
theorem ggX2_init_X1_init : GoodIn wsX2_init wsX1_init := goodIn_r _ [18, 19, 2, 3, 20, 21, 22, 23, 24, 25, 54, 55, 56, 57, 58] (by decide +kernel) (by decide +kernel)
set_option maxRecDepth 20000 in
theorem gX2_init_X1_init : GoodIn wsX2_init (wsX1_init) := ggX2_init_X1_init
set_option maxRecDepth 20000 in
theorem ggX2_init_X0_init : GoodIn wsX2_init wsX0_init := goodIn_r _ [28, 29, 2, 3, 30, 31, 32, 33, 34, 35, 36, 37, 38, 39, 20, 40, 41, 42, 43, 44, 45, 11, 46, 47, 48, 49, 50, 51, 52, 53, 65, 66, 67, 68, 69, 70, 71, 72, 73, 74, 75, 76, 77, 78, 79, 80, 81, 82, 83, 84] (by decide +kernel) (by decide +kernel)
set_option maxRecDepth 20000 in
theorem gX2_init_X0_init : GoodIn wsX2_init (wsX0_init) := ggX2_init_X0_init
set_option maxRecDepth 20000 in
theorem ggX2_setLength_X2_isOutside : GoodIn wsX2_setLength wsX2_isOutside := goodIn_r _ [7] (by decide +kernel) (by decide +kernel)
set_option maxRecDepth 20000 in
theorem gX2_setLength_X2_isOutside : GoodIn wsX2_setLength (va_wsS RX2 39 yX2_isOutside wsX2_isOutside) := goodIn_app (goodIn_of _ (by decide +kernel)) ggX2_setLength_X2_isOutside
set_option maxRecDepth 20000 in
theorem ggX2_setLength_X2_requireStart : GoodIn wsX2_setLength wsX2_requireStart := goodIn_ca (goodIn_r _ [11, 12, 13, 14, 15, 16, 17, 18, 19, 20] (by decide +kernel) (by decide +kernel)) (goodIn_sub (fun _ h => List.mem_cons_of_mem _ (List.mem_append_right _ h)) (by decide +kernel))
set_option maxRecDepth 20000 in
theorem gX2_setLength_X2_requireStart : GoodIn wsX2_setLength (wsV RX2 50 RX2 yX2_requireStart wsX2_requireStart) := goodIn_app (goodIn_of _ (by decide +kernel)) ggX2_setLength_X2_requireStart
set_option maxRecDepth 20000 in
theorem ggX2_lay_X2_isOutside : GoodIn wsX2_lay wsX2_isOutside := goodIn_r _ [9] (by decide +kernel) (by decide +kernel)
set_option maxRecDepth 20000 in
theorem gX2_lay_X2_isOutside : GoodIn wsX2_lay (va_wsS RX2 39 yX2_isOutside wsX2_isOutside) := goodIn_app (goodIn_of _ (by decide +kernel)) ggX2_lay_X2_isOutside
set_option maxRecDepth 20000 in
theorem ggX2_lay_X1_putStretch : GoodIn wsX2_lay wsX1_putStretch := goodIn_r _ [14, 15, 16, 17, 18, 25, 26, 27, 28, 29] (by decide +kernel) (by decide +kernel)
set_option maxRecDepth 20000 in
theorem gX2_lay_X1_putStretch : GoodIn wsX2_lay (wsV RX2 58 RX1 yX1_putStretch wsX1_putStretch) := goodIn_app (goodIn_of _ (by decide +kernel)) ggX2_lay_X1_putStretch
set_option maxRecDepth 20000 in
theorem ggX2_addTeam_X2_isOutside : GoodIn wsX2_addTeam wsX2_isOutside := goodIn_r _ [13] (by decide +kernel) (by decide +kernel)
set_option maxRecDepth 20000 in
theorem gX2_addTeam_X2_isOutside : GoodIn wsX2_addTeam (va_wsS RX2 39 yX2_isOutside wsX2_isOutside) := goodIn_app (goodIn_of _ (by decide +kernel)) ggX2_addTeam_X2_isOutside
set_option maxRecDepth 20000 in
theorem ggX2_addTeam_X2_requireStart : GoodIn wsX2_addTeam wsX2_requireStart := goodIn_ca (goodIn_r _ [17, 3, 4, 18, 50, 51, 52, 53, 54, 55] (by decide +kernel) (by decide +kernel)) (goodIn_sub (fun _ h => List.mem_cons_of_mem _ (List.mem_append_right _ h)) (by decide +kernel))
set_option maxRecDepth 20000 in
theorem gX2_addTeam_X2_requireStart : GoodIn wsX2_addTeam (wsV RX2 50 RX2 yX2_requireStart wsX2_requireStart) := goodIn_app (goodIn_of _ (by decide +kernel)) ggX2_addTeam_X2_requireStart
set_option maxRecDepth 20000 in
theorem ggX2_addTeam_X0_init : GoodIn wsX2_addTeam wsX0_init := goodIn_r _ [21, 22, 23, 24, 25, 26, 27, 28, 29, 30, 31, 32, 33, 34, 35, 36, 37, 38, 39, 40, 41, 9, 42, 43, 44, 45, 46, 47, 48, 49, 56, 57, 58, 59, 60, 61, 62, 63, 64, 65, 66, 67, 68, 69, 70, 71, 72, 73, 74, 75] (by decide +kernel) (by decide +kernel)
set_option maxRecDepth 20000 in
theorem gX2_addTeam_X0_init : GoodIn wsX2_addTeam (wsX0_init) := ggX2_addTeam_X0_init
set_option maxRecDepth 20000 in
theorem ggX2_setCrew_X2_teamNumbered : GoodIn wsX2_setCrew wsX2_teamNumbered := goodIn_ca (goodIn_r _ [7, 8, 9, 10, 41, 42, 43, 44, 45, 46] (by decide +kernel) (by decide +kernel)) (goodIn_sub (fun _ h => List.mem_cons_of_mem _ (List.mem_append_left _ (List.mem_append_right _ h))) (by decide +kernel))
set_option maxRecDepth 20000 in
theorem gX2_setCrew_X2_teamNumbered : GoodIn wsX2_setCrew (wsV RX2 79 RX2 yX2_teamNumbered wsX2_teamNumbered) := goodIn_app (goodIn_of _ (by decide +kernel)) ggX2_setCrew_X2_teamNumbered
set_option maxRecDepth 20000 in
theorem ggX2_setCrew_X2_isOutside : GoodIn wsX2_setCrew wsX2_isOutside := goodIn_r _ [13] (by decide +kernel) (by decide +kernel)
set_option maxRecDepth 20000 in
theorem gX2_setCrew_X2_isOutside : GoodIn wsX2_setCrew (va_wsS RX2 39 yX2_isOutside wsX2_isOutside) := goodIn_app (goodIn_of _ (by decide +kernel)) ggX2_setCrew_X2_isOutside
set_option maxRecDepth 20000 in
theorem ggX2_setCrew_X2_requireStart : GoodIn wsX2_setCrew wsX2_requireStart := goodIn_ca (goodIn_r _ [17, 18, 19, 20, 41, 42, 43, 44, 45, 46] (by decide +kernel) (by decide +kernel)) (goodIn_sub (fun _ h => List.mem_cons_of_mem _ (List.mem_append_right _ h)) (by decide +kernel))
set_option maxRecDepth 20000 in
theorem gX2_setCrew_X2_requireStart : GoodIn wsX2_setCrew (wsV RX2 50 RX2 yX2_requireStart wsX2_requireStart) := goodIn_app (goodIn_of _ (by decide +kernel)) ggX2_setCrew_X2_requireStart
set_option maxRecDepth 20000 in
theorem ggX2_order_X2_teamNumbered : GoodIn wsX2_order wsX2_teamNumbered := goodIn_ca (goodIn_r _ [7, 8, 9, 10, 34, 35, 36, 37, 38, 39] (by decide +kernel) (by decide +kernel)) (goodIn_sub (fun _ h => List.mem_cons_of_mem _ (List.mem_append_right _ h)) (by decide +kernel))
set_option maxRecDepth 20000 in
theorem gX2_order_X2_teamNumbered : GoodIn wsX2_order (wsV RX2 79 RX2 yX2_teamNumbered wsX2_teamNumbered) := goodIn_app (goodIn_of _ (by decide +kernel)) ggX2_order_X2_teamNumbered
set_option maxRecDepth 20000 in
theorem ggX2_order_X2_isOutside : GoodIn wsX2_order wsX2_isOutside := goodIn_r _ [13] (by decide +kernel) (by decide +kernel)
set_option maxRecDepth 20000 in
theorem gX2_order_X2_isOutside : GoodIn wsX2_order (va_wsS RX2 39 yX2_isOutside wsX2_isOutside) := goodIn_app (goodIn_of _ (by decide +kernel)) ggX2_order_X2_isOutside
set_option maxRecDepth 20000 in
theorem ggX2_run_X2_isOutside : GoodIn wsX2_run wsX2_isOutside := goodIn_r _ [9] (by decide +kernel) (by decide +kernel)
set_option maxRecDepth 20000 in
theorem gX2_run_X2_isOutside : GoodIn wsX2_run (va_wsS RX2 39 yX2_isOutside wsX2_isOutside) := goodIn_app (goodIn_of _ (by decide +kernel)) ggX2_run_X2_isOutside
set_option maxRecDepth 20000 in
theorem ggX2_run_X2_passTick : GoodIn wsX2_run wsX2_passTick := goodIn_r _ [13, 14, 15, 16, 17, 18, 19, 20, 21, 22, 23, 24, 25, 26, 27, 28, 29, 30, 31, 32, 33, 34, 35, 36, 37, 38, 39, 40, 41, 42, 43, 44, 45, 46, 47, 48, 49, 50, 51, 52, 53, 54, 55, 56, 57, 58, 59, 60, 61, 62, 63, 64, 65, 66, 67, 68, 69, 70, 71, 72, 73, 74, 75, 76, 77, 78, 79, 80, 81, 82, 83, 84, 85, 86, 87, 88, 89, 90, 91, 92, 93, 94, 95, 96, 97, 98, 99, 100, 106, 107, 108, 109, 110, 111, 112, 113, 114, 115, 116, 117, 118, 119, 120, 121, 122, 123, 124, 125, 126, 127, 128, 129, 130, 131, 132, 133, 134, 135, 136] (by decide +kernel) (by decide +kernel)
set_option maxRecDepth 20000 in
theorem gX2_run_X2_passTick : GoodIn wsX2_run (wsV RX2 112 RX2 yX2_passTick wsX2_passTick) := goodIn_app (goodIn_of _ (by decide +kernel)) ggX2_run_X2_passTick
set_option maxRecDepth 20000 in
theorem ggX2_run_X2_teamsAtEnd : GoodIn wsX2_run wsX2_teamsAtEnd := goodIn_r _ [104, 15, 105, 29, 30, 20, 31, 27, 106, 107, 108, 109, 110, 111, 112, 113, 114, 115, 116, 117, 118, 119, 120, 121, 122, 123, 124, 125, 126, 127, 128, 129, 130, 131] (by decide +kernel) (by decide +kernel)
set_option maxRecDepth 20000 in
theorem gX2_run_X2_teamsAtEnd : GoodIn wsX2_run (wsV RX2 115 RX2 yX2_teamsAtEnd wsX2_teamsAtEnd) := goodIn_app (goodIn_of _ (by decide +kernel)) ggX2_run_X2_teamsAtEnd
set_option maxRecDepth 20000 in
theorem ggX2_restart_X0_goToStart : GoodIn wsX2_restart wsX0_goToStart := goodIn_r _ [8, 9, 10, 11, 12, 13, 14, 15, 16, 17, 18, 19, 20, 21, 28, 29, 30, 31, 32, 33, 34, 35, 36, 37, 38, 39, 40, 41, 42, 43, 44, 45, 46, 47] (by decide +kernel) (by decide +kernel)
set_option maxRecDepth 20000 in
theorem gX2_restart_X0_goToStart : GoodIn wsX2_restart (wsV RX2 119 RX0 yX0_goToStart wsX0_goToStart) := goodIn_app (goodIn_of _ (by decide +kernel)) ggX2_restart_X0_goToStart
set_option maxRecDepth 20000 in
theorem ggX2_count_X2_isOutside : GoodIn wsX2_count wsX2_isOutside := goodIn_r _ [6] (by decide +kernel) (by decide +kernel)
set_option maxRecDepth 20000 in
theorem gX2_count_X2_isOutside : GoodIn wsX2_count (va_wsS RX2 39 yX2_isOutside wsX2_isOutside) := goodIn_app (goodIn_of _ (by decide +kernel)) ggX2_count_X2_isOutside
set_option maxRecDepth 20000 in
theorem ggX2_count_X2_countOf : GoodIn wsX2_count wsX2_countOf := goodIn_r _ [10, 11, 12, 13, 14, 15, 16, 5, 17, 18, 19, 20, 21, 22, 23, 24, 25, 26, 27, 28, 29, 30, 31, 32, 33, 34, 35, 36, 37, 38, 39, 40, 41, 42, 43, 44, 45, 46, 47, 48, 49, 50, 51, 52, 53, 54, 55, 56, 57, 58, 59] (by decide +kernel) (by decide +kernel)
set_option maxRecDepth 20000 in
theorem gX2_count_X2_countOf : GoodIn wsX2_count (wsV RX2 127 RX2 yX2_countOf wsX2_countOf) := goodIn_app (goodIn_of _ (by decide +kernel)) ggX2_count_X2_countOf
set_option maxRecDepth 20000 in
theorem ggX2_team_X2_teamNumbered : GoodIn wsX2_team wsX2_teamNumbered := goodIn_ca (goodIn_r _ [7, 1, 2, 8, 36, 37, 38, 39, 40, 41] (by decide +kernel) (by decide +kernel)) (goodIn_sub (fun _ h => List.mem_cons_of_mem _ (List.mem_append_right _ h)) (by decide +kernel))
set_option maxRecDepth 20000 in
theorem gX2_team_X2_teamNumbered : GoodIn wsX2_team (wsV RX2 79 RX2 yX2_teamNumbered wsX2_teamNumbered) := goodIn_app (goodIn_of _ (by decide +kernel)) ggX2_team_X2_teamNumbered
set_option maxRecDepth 20000 in
theorem ggX2_team_X2_isOutside : GoodIn wsX2_team wsX2_isOutside := goodIn_r _ [11] (by decide +kernel) (by decide +kernel)
set_option maxRecDepth 20000 in
theorem gX2_team_X2_isOutside : GoodIn wsX2_team (va_wsS RX2 39 yX2_isOutside wsX2_isOutside) := goodIn_app (goodIn_of _ (by decide +kernel)) ggX2_team_X2_isOutside
set_option maxRecDepth 20000 in
theorem ggX2_team_X0_fact : GoodIn wsX2_team wsX0_fact := goodIn_r _ [16, 17, 18, 19, 20, 21, 22, 23, 24, 25, 26, 27, 15, 28, 29, 30, 31, 32, 33, 34, 35, 42, 43, 44, 45, 46, 47, 48, 49, 50, 51, 52, 53, 54, 55, 56, 57, 58, 59, 60, 61] (by decide +kernel) (by decide +kernel)
set_option maxRecDepth 20000 in
theorem gX2_team_X0_fact : GoodIn wsX2_team (wsV RX2 133 RX0 yX0_fact wsX0_fact) := goodIn_app (goodIn_of _ (by decide +kernel)) ggX2_team_X0_fact
set_option maxRecDepth 20000 in
theorem ggX2_roller_X2_teamNumbered : GoodIn wsX2_roller wsX2_teamNumbered := goodIn_ca (goodIn_r _ [9, 1, 2, 10, 31, 32, 33, 34, 35, 36] (by decide +kernel) (by decide +kernel)) (goodIn_sub (fun _ h => List.mem_cons_of_mem _ (List.mem_append_left _ (List.mem_append_right _ h))) (by decide +kernel))
set_option maxRecDepth 20000 in
theorem gX2_roller_X2_teamNumbered : GoodIn wsX2_roller (wsV RX2 79 RX2 yX2_teamNumbered wsX2_teamNumbered) := goodIn_app (goodIn_of _ (by decide +kernel)) ggX2_roller_X2_teamNumbered
set_option maxRecDepth 20000 in
theorem ggX2_next_X2_teamNumbered : GoodIn wsX2_next wsX2_teamNumbered := goodIn_ca (goodIn_r _ [8, 1, 2, 9, 60, 61, 62, 63, 64, 65] (by decide +kernel) (by decide +kernel)) (goodIn_sub (fun _ h => List.mem_cons_of_mem _ (List.mem_append_right _ h)) (by decide +kernel))
set_option maxRecDepth 20000 in
theorem gX2_next_X2_teamNumbered : GoodIn wsX2_next (wsV RX2 79 RX2 yX2_teamNumbered wsX2_teamNumbered) := goodIn_app (goodIn_of _ (by decide +kernel)) ggX2_next_X2_teamNumbered
set_option maxRecDepth 20000 in
theorem ggX2_next_X2_isOutside : GoodIn wsX2_next wsX2_isOutside := goodIn_r _ [12] (by decide +kernel) (by decide +kernel)
set_option maxRecDepth 20000 in
theorem gX2_next_X2_isOutside : GoodIn wsX2_next (va_wsS RX2 39 yX2_isOutside wsX2_isOutside) := goodIn_app (goodIn_of _ (by decide +kernel)) ggX2_next_X2_isOutside
set_option maxRecDepth 20000 in
theorem ggX2_next_X0_pull : GoodIn wsX2_next wsX0_pull := goodIn_r _ [17, 18, 19, 20, 21, 66, 67, 68, 69, 70, 71, 72, 73, 74, 75, 76, 77, 78, 79, 80, 81, 82, 83, 84, 85] (by decide +kernel) (by decide +kernel)
set_option maxRecDepth 20000 in
theorem gX2_next_X0_pull : GoodIn wsX2_next (wsV RX2 149 RX0 yX0_pull wsX0_pull) := goodIn_app (goodIn_of _ (by decide +kernel)) ggX2_next_X0_pull
set_option maxRecDepth 20000 in
theorem ggX2_next_X0_drag : GoodIn wsX2_next wsX0_drag := goodIn_r _ [25, 26, 27, 28, 29, 30, 31, 32, 33, 34, 35, 36, 37, 38, 39, 40, 41, 42, 43, 44, 45, 46, 47, 16, 48, 49, 50, 51, 52, 53, 54, 55, 66, 67, 68, 69, 70, 71, 72, 73, 74, 75, 76, 77, 78, 79, 80, 81, 82, 83, 84, 85, 86, 87, 88, 89, 90] (by decide +kernel) (by decide +kernel)
set_option maxRecDepth 20000 in
theorem gX2_next_X0_drag : GoodIn wsX2_next (wsV RX2 152 RX0 yX0_drag wsX0_drag) := goodIn_app (goodIn_of _ (by decide +kernel)) ggX2_next_X0_drag
set_option maxRecDepth 20000 in
theorem ggX2_next_X0_wayWith : GoodIn wsX2_next wsX0_wayWith := goodIn_r _ [59, 27, 28, 29, 30, 31, 32, 33, 34, 66, 67, 68, 69, 70, 71, 72, 73, 74, 75, 76, 77, 78, 79, 80, 81, 82, 83, 84, 85] (by decide +kernel) (by decide +kernel)
set_option maxRecDepth 20000 in
theorem gX2_next_X0_wayWith : GoodIn wsX2_next (wsV RX2 156 RX0 yX0_wayWith wsX0_wayWith) := goodIn_app (goodIn_of _ (by decide +kernel)) ggX2_next_X0_wayWith
set_option maxRecDepth 20000 in
theorem ggX2_ranked_X2_teamAtRank : GoodIn wsX2_ranked wsX2_teamAtRank := goodIn_r _ [8, 9, 10, 11, 12, 7, 13, 14, 15, 16, 17, 18, 19, 20, 21, 22, 23, 24, 25, 26, 27, 28, 29, 30, 31, 32, 33, 34, 35, 36, 37, 38, 39, 40, 41, 42, 43, 44, 45, 46, 47, 48, 49, 50, 51] (by decide +kernel) (by decide +kernel)
set_option maxRecDepth 20000 in
theorem gX2_ranked_X2_teamAtRank : GoodIn wsX2_ranked (wsV RX2 162 RX2 yX2_teamAtRank wsX2_teamAtRank) := goodIn_app (goodIn_of _ (by decide +kernel)) ggX2_ranked_X2_teamAtRank
set_option maxRecDepth 20000 in
theorem ggX2_foresee_X2_teamNumbered : GoodIn wsX2_foresee wsX2_teamNumbered := goodIn_ca (goodIn_r _ [10, 1, 2, 11, 123, 124, 125, 126, 127, 128] (by decide +kernel) (by decide +kernel)) (goodIn_sub (fun _ h => List.mem_cons_of_mem _ (List.mem_append_left _ (List.mem_append_right _ h))) (by decide +kernel))
set_option maxRecDepth 20000 in
theorem gX2_foresee_X2_teamNumbered : GoodIn wsX2_foresee (wsV RX2 79 RX2 yX2_teamNumbered wsX2_teamNumbered) := goodIn_app (goodIn_of _ (by decide +kernel)) ggX2_foresee_X2_teamNumbered
set_option maxRecDepth 20000 in
theorem ggX2_foresee_X2_isOutside : GoodIn wsX2_foresee wsX2_isOutside := goodIn_r _ [14] (by decide +kernel) (by decide +kernel)
set_option maxRecDepth 20000 in
theorem gX2_foresee_X2_isOutside : GoodIn wsX2_foresee (va_wsS RX2 39 yX2_isOutside wsX2_isOutside) := goodIn_app (goodIn_of _ (by decide +kernel)) ggX2_foresee_X2_isOutside
set_option maxRecDepth 20000 in
theorem ggX2_foresee_X2_lookAhead : GoodIn wsX2_foresee wsX2_lookAhead := goodIn_r _ [18, 19, 20, 21, 22, 23, 24, 25, 26, 27, 28, 29, 30, 31, 32, 33, 34, 35, 36, 37, 38, 39, 40, 41, 42, 43, 44, 45, 46, 47, 48, 49, 50, 51, 52, 53, 54, 55, 56, 57, 58, 59, 60, 61, 62, 63, 64, 65, 66, 67, 68, 69, 70, 71, 72, 73, 74, 75, 76, 77, 78, 79, 80, 81, 82, 83, 84, 85, 86, 87, 88, 89, 90, 91, 92, 93, 94, 95, 96, 97, 98, 99, 100, 101, 102, 103, 104, 105, 106, 107, 108, 109, 110, 111, 112, 113, 129, 130, 131, 132, 133, 134, 135, 136, 137, 138, 139, 140, 141, 142, 143, 144, 145, 146, 147, 148, 123, 124, 125, 126, 127, 128, 149, 150, 151, 152, 153] (by decide +kernel) (by decide +kernel)
set_option maxRecDepth 20000 in
theorem gX2_foresee_X2_lookAhead : GoodIn wsX2_foresee (wsV RX2 167 RX2 yX2_lookAhead wsX2_lookAhead) := goodIn_app (goodIn_of _ (by decide +kernel)) ggX2_foresee_X2_lookAhead
set_option maxRecDepth 20000 in
theorem ggX2_foresee_X2_rankOfTrialAmongRivals : GoodIn wsX2_foresee wsX2_rankOfTrialAmongRivals := goodIn_r _ [117, 11, 118, 5, 15, 16, 17, 9, 18, 19, 20, 21, 22, 23, 24, 25, 26, 27, 28, 29, 30, 31, 32, 33, 34, 35, 36, 37, 38, 39, 40, 41, 42, 43, 44, 45, 46, 47, 48, 49, 50, 51, 52, 53, 54, 55, 56, 57, 58, 59, 60, 61, 62, 63, 64, 65, 66, 67, 68, 69, 70, 71, 72, 73, 74, 75, 76, 77, 78, 79, 80, 81, 82, 83, 84, 85, 86, 87, 88, 89, 90, 91, 92, 93, 94, 95, 96, 97, 98, 99, 100, 101, 102, 103, 104, 105, 106, 107, 108, 109, 110, 111, 112, 113, 119, 120, 121, 122, 123, 124, 125, 126, 127, 128, 129, 130, 131, 132, 133, 134, 135, 136, 137, 138, 139, 140, 141, 142, 143, 144, 145, 146, 147, 148, 149, 150, 151, 152, 153] (by decide +kernel) (by decide +kernel)
set_option maxRecDepth 20000 in
theorem gX2_foresee_X2_rankOfTrialAmongRivals : GoodIn wsX2_foresee (wsV RX2 174 RX2 yX2_rankOfTrialAmongRivals wsX2_rankOfTrialAmongRivals) := goodIn_app (goodIn_of _ (by decide +kernel)) ggX2_foresee_X2_rankOfTrialAmongRivals
set_option maxRecDepth 20000 in
theorem ggX2_passTick_X0_passTick : GoodIn wsX2_passTick wsX0_passTick := goodIn_r _ [8, 9, 10, 11, 12, 13, 14, 15, 16, 17, 7, 18, 19, 20, 21, 22, 23, 24, 25, 26, 27, 28, 29, 30, 31, 32, 33, 34, 35, 36, 37, 38, 39, 40, 41, 42, 43, 44, 45, 46, 47, 48, 49, 50, 51, 52, 53, 54, 55, 56, 57, 58, 59, 60, 61, 62, 63, 64, 65, 66, 67, 68, 69, 70, 71, 72, 73, 74, 75, 76, 77, 78, 79, 80, 81, 82, 83, 84, 85, 86, 87, 94, 95, 96, 97, 98, 99, 100, 101, 102, 103, 104, 105, 106, 107, 108, 109, 110, 111, 112, 113, 114, 115, 116, 117, 118] (by decide +kernel) (by decide +kernel)
set_option maxRecDepth 20000 in
theorem gX2_passTick_X0_passTick : GoodIn wsX2_passTick (wsV RX2 194 RX0 yX0_passTick wsX0_passTick) := goodIn_app (goodIn_of _ (by decide +kernel)) ggX2_passTick_X0_passTick
set_option maxRecDepth 20000 in
theorem ggX2_lookAhead_X0_copyFrom : GoodIn wsX2_lookAhead wsX0_copyFrom := goodIn_r _ [7, 8, 9, 10, 11, 12, 13, 14, 15, 16, 17, 18, 19, 20, 21, 22, 23, 24, 25, 26, 27, 28, 29, 6, 30, 96, 97, 98, 99, 100, 101, 102, 103, 104, 105, 106, 107, 108, 109, 110, 111, 112, 113, 114, 115] (by decide +kernel) (by decide +kernel)
set_option maxRecDepth 20000 in
theorem gX2_lookAhead_X0_copyFrom : GoodIn wsX2_lookAhead (wsV RX2 197 RX0 yX0_copyFrom wsX0_copyFrom) := goodIn_app (goodIn_of _ (by decide +kernel)) ggX2_lookAhead_X0_copyFrom
set_option maxRecDepth 20000 in
theorem ggX2_lookAhead_X0_passTick : GoodIn wsX2_lookAhead wsX0_passTick := goodIn_r _ [34, 21, 20, 23, 16, 18, 24, 35, 36, 37, 6, 38, 39, 40, 41, 42, 12, 13, 19, 43, 44, 45, 46, 47, 48, 49, 50, 22, 51, 52, 53, 54, 55, 56, 57, 58, 59, 60, 61, 10, 62, 63, 64, 65, 66, 67, 68, 69, 70, 71, 72, 73, 74, 75, 11, 25, 76, 77, 78, 79, 9, 80, 81, 82, 83, 84, 85, 86, 87, 88, 89, 90, 91, 14, 26, 27, 17, 92, 93, 94, 95, 96, 97, 98, 99, 100, 101, 102, 103, 104, 105, 106, 107, 108, 109, 110, 111, 112, 113, 114, 115, 122, 123, 124, 125, 126] (by decide +kernel) (by decide +kernel)
set_option maxRecDepth 20000 in
theorem gX2_lookAhead_X0_passTick : GoodIn wsX2_lookAhead (wsV RX2 194 RX0 yX0_passTick wsX0_passTick) := goodIn_app (goodIn_of _ (by decide +kernel)) ggX2_lookAhead_X0_passTick
set_option maxRecDepth 20000 in
theorem ggX2_rankOfTrialAmongRivals_X2_lookAhead : GoodIn wsX2_rankOfTrialAmongRivals wsX2_lookAhead := goodIn_r _ [8, 9, 10, 11, 12, 13, 14, 15, 16, 17, 18, 19, 20, 21, 22, 23, 24, 25, 26, 27, 28, 29, 30, 31, 32, 33, 34, 35, 36, 37, 38, 39, 40, 41, 42, 43, 44, 45, 46, 47, 48, 49, 50, 51, 52, 53, 54, 55, 56, 57, 58, 59, 60, 61, 62, 63, 64, 65, 66, 67, 68, 69, 70, 71, 72, 73, 74, 75, 76, 77, 78, 79, 80, 81, 82, 83, 84, 85, 86, 87, 88, 89, 90, 91, 92, 93, 94, 95, 96, 97, 98, 99, 100, 101, 102, 103, 114, 115, 116, 117, 118, 119, 120, 121, 122, 123, 124, 125, 126, 127, 128, 129, 130, 131, 132, 133, 108, 109, 110, 111, 112, 113, 134, 135, 136, 137, 138] (by decide +kernel) (by decide +kernel)
set_option maxRecDepth 20000 in
theorem gX2_rankOfTrialAmongRivals_X2_lookAhead : GoodIn wsX2_rankOfTrialAmongRivals (wsV RX2 167 RX2 yX2_lookAhead wsX2_lookAhead) := goodIn_app (goodIn_of _ (by decide +kernel)) ggX2_rankOfTrialAmongRivals_X2_lookAhead
set_option maxRecDepth 20000 in
theorem ggX2_rankOfTrialAmongRivals_X0_isAheadOf : GoodIn wsX2_rankOfTrialAmongRivals wsX0_isAheadOf := goodIn_r _ [107, 32, 26, 16, 43, 44, 45, 14, 46, 114, 115, 116, 117, 118, 119, 120, 121, 122, 123, 124, 125, 126, 127, 128, 129, 130, 131, 132, 133] (by decide +kernel) (by decide +kernel)
set_option maxRecDepth 20000 in
theorem gX2_rankOfTrialAmongRivals_X0_isAheadOf : GoodIn wsX2_rankOfTrialAmongRivals (wsV RX2 201 RX0 yX0_isAheadOf wsX0_isAheadOf) := goodIn_app (goodIn_of _ (by decide +kernel)) ggX2_rankOfTrialAmongRivals_X0_isAheadOf
set_option maxRecDepth 20000 in
theorem ggX2_rankOf_X0_isAheadOf : GoodIn wsX2_rankOf wsX0_isAheadOf := goodIn_r _ [6, 7, 8, 9, 10, 11, 12, 5, 13, 20, 21, 22, 23, 24, 25, 26, 27, 28, 29, 30, 31, 32, 33, 34, 35, 36, 37, 38, 39] (by decide +kernel) (by decide +kernel)
set_option maxRecDepth 20000 in
theorem gX2_rankOf_X0_isAheadOf : GoodIn wsX2_rankOf (wsV RX2 201 RX0 yX0_isAheadOf wsX0_isAheadOf) := goodIn_app (goodIn_of _ (by decide +kernel)) ggX2_rankOf_X0_isAheadOf
set_option maxRecDepth 20000 in
theorem ggX2_teamAtRank_X2_rankOf : GoodIn wsX2_teamAtRank wsX2_rankOf := goodIn_r _ [6, 1, 7, 8, 9, 10, 11, 12, 13, 14, 15, 16, 17, 18, 19, 20, 21, 22, 23, 24, 25, 26, 27, 28, 29, 30, 31, 32, 33, 34, 35, 36, 37, 38, 39, 40, 41, 42, 43, 44] (by decide +kernel) (by decide +kernel)
set_option maxRecDepth 20000 in
theorem gX2_teamAtRank_X2_rankOf : GoodIn wsX2_teamAtRank (wsV RX2 205 RX2 yX2_rankOf wsX2_rankOf) := goodIn_app (goodIn_of _ (by decide +kernel)) ggX2_teamAtRank_X2_rankOf
set_option maxRecDepth 20000 in
theorem ggX2_countOf_X2_teamsAtEnd : GoodIn wsX2_countOf wsX2_teamsAtEnd := goodIn_r _ [8, 9, 10, 11, 12, 13, 14, 15, 20, 21, 22, 23, 24, 25, 31, 32, 33, 34, 35, 36, 37, 38, 39, 40, 41, 42, 43, 44, 45, 46, 47, 48, 49, 50] (by decide +kernel) (by decide +kernel)
set_option maxRecDepth 20000 in
theorem gX2_countOf_X2_teamsAtEnd : GoodIn wsX2_countOf (wsV RX2 115 RX2 yX2_teamsAtEnd wsX2_teamsAtEnd) := goodIn_app (goodIn_of _ (by decide +kernel)) ggX2_countOf_X2_teamsAtEnd
set_option maxRecDepth 20000 in
theorem ggX2_countOf_X2_ropesBroken : GoodIn wsX2_countOf wsX2_ropesBroken := goodIn_r _ [19, 9, 20, 21, 22, 23, 24, 25, 31, 32, 33, 34, 35, 36, 37, 38, 39, 40, 41, 42, 43, 44, 45, 46, 47, 48, 49, 50] (by decide +kernel) (by decide +kernel)
set_option maxRecDepth 20000 in
theorem gX2_countOf_X2_ropesBroken : GoodIn wsX2_countOf (wsV RX2 212 RX2 yX2_ropesBroken wsX2_ropesBroken) := goodIn_app (goodIn_of _ (by decide +kernel)) ggX2_countOf_X2_ropesBroken
set_option maxRecDepth 20000 in
theorem ggX2_teamsAtEnd_X0_isAtEnd : GoodIn wsX2_teamsAtEnd wsX0_isAtEnd := goodIn_r _ [6, 7, 14, 15, 16, 17, 18, 19, 20, 21, 22, 23, 24, 25, 26, 27, 28, 29, 30, 31, 32, 33] (by decide +kernel) (by decide +kernel)
set_option maxRecDepth 20000 in
theorem gX2_teamsAtEnd_X0_isAtEnd : GoodIn wsX2_teamsAtEnd (wsV RX2 215 RX0 yX0_isAtEnd wsX0_isAtEnd) := goodIn_app (goodIn_of _ (by decide +kernel)) ggX2_teamsAtEnd_X0_isAtEnd
