set_option maxRecDepth 20000 in
theorem ggX0_init_X0_goToStart : GoodIn wsX0_init wsX0_goToStart := goodIn_r _ [22, 23, 24, 11, 25, 26, 27, 28, 29, 7, 15, 5, 16, 17, 30, 31, 32, 33, 34, 35, 36, 37, 38, 39, 40, 41, 42, 43, 44, 45, 46, 47, 48, 49] (by decide +kernel) (by decide +kernel)
set_option maxRecDepth 20000 in
theorem gX0_init_X0_goToStart : GoodIn wsX0_init (wsV RX0 50 RX0 yX0_goToStart wsX0_goToStart) := goodIn_app (goodIn_of _ (by decide +kernel)) ggX0_init_X0_goToStart
set_option maxRecDepth 20000 in
theorem ggX0_copyFrom_X0_copyRow : GoodIn wsX0_copyFrom wsX0_copyRow := goodIn_r _ [24] (by decide +kernel) (by decide +kernel)
set_option maxRecDepth 20000 in
theorem gX0_copyFrom_X0_copyRow : GoodIn wsX0_copyFrom (va_wsS RX0 74 yX0_copyRow wsX0_copyRow) := goodIn_app (goodIn_of _ (by decide +kernel)) ggX0_copyFrom_X0_copyRow
set_option maxRecDepth 20000 in
theorem ggX0_passTick_X0_isAtEnd : GoodIn wsX0_passTick wsX0_isAtEnd := goodIn_r _ [11, 6, 81, 82, 83, 84, 85, 86, 87, 88, 89, 90, 91, 92, 93, 94, 95, 96, 97, 98, 99, 100] (by decide +kernel) (by decide +kernel)
set_option maxRecDepth 20000 in
theorem gX0_passTick_X0_isAtEnd : GoodIn wsX0_passTick (wsV RX0 78 RX0 yX0_isAtEnd wsX0_isAtEnd) := goodIn_app (goodIn_of _ (by decide +kernel)) ggX0_passTick_X0_isAtEnd
set_option maxRecDepth 20000 in
theorem ggX0_passTick_X0_pull : GoodIn wsX0_passTick wsX0_pull := goodIn_r _ [15, 16, 17, 4, 18, 81, 82, 83, 84, 85, 86, 87, 88, 89, 90, 91, 92, 93, 94, 95, 96, 97, 98, 99, 100] (by decide +kernel) (by decide +kernel)
set_option maxRecDepth 20000 in
theorem gX0_passTick_X0_pull : GoodIn wsX0_passTick (wsV RX0 82 RX0 yX0_pull wsX0_pull) := goodIn_app (goodIn_of _ (by decide +kernel)) ggX0_passTick_X0_pull
set_option maxRecDepth 20000 in
theorem ggX0_passTick_X0_breakRope : GoodIn wsX0_passTick wsX0_breakRope := goodIn_r _ [22, 2, 23, 24, 25, 26, 1, 27, 81, 82, 83, 84, 85, 86, 87, 88, 89, 90, 91, 92, 93, 94, 95, 96, 97, 98, 99, 100] (by decide +kernel) (by decide +kernel)
set_option maxRecDepth 20000 in
theorem gX0_passTick_X0_breakRope : GoodIn wsX0_passTick (wsV RX0 86 RX0 yX0_breakRope wsX0_breakRope) := goodIn_app (goodIn_of _ (by decide +kernel)) ggX0_passTick_X0_breakRope
set_option maxRecDepth 20000 in
theorem ggX0_passTick_X0_breathe : GoodIn wsX0_passTick wsX0_breathe := goodIn_r _ [31, 18, 23, 24, 25, 26, 32, 33, 34, 81, 82, 83, 84, 85, 86, 87, 88, 89, 90, 91, 92, 93, 94, 95, 96, 97, 98, 99, 100] (by decide +kernel) (by decide +kernel)
set_option maxRecDepth 20000 in
theorem gX0_passTick_X0_breathe : GoodIn wsX0_passTick (wsV RX0 89 RX0 yX0_breathe wsX0_breathe) := goodIn_app (goodIn_of _ (by decide +kernel)) ggX0_passTick_X0_breathe
set_option maxRecDepth 20000 in
theorem ggX0_passTick_X0_drag : GoodIn wsX0_passTick wsX0_drag := goodIn_r _ [38, 5, 39, 23, 24, 25, 26, 32, 33, 34, 40, 41, 42, 43, 44, 45, 46, 47, 48, 49, 50, 51, 52, 10, 53, 54, 55, 56, 57, 58, 59, 60, 81, 82, 83, 84, 85, 86, 87, 88, 89, 90, 91, 92, 93, 94, 95, 96, 97, 98, 99, 100, 101, 102, 103, 104, 105] (by decide +kernel) (by decide +kernel)
set_option maxRecDepth 20000 in
theorem gX0_passTick_X0_drag : GoodIn wsX0_passTick (wsV RX0 93 RX0 yX0_drag wsX0_drag) := goodIn_app (goodIn_of _ (by decide +kernel)) ggX0_passTick_X0_drag
set_option maxRecDepth 20000 in
theorem ggX0_passTick_X0_wayWith : GoodIn wsX0_passTick wsX0_wayWith := goodIn_r _ [64, 39, 23, 24, 25, 26, 32, 33, 34, 81, 82, 83, 84, 85, 86, 87, 88, 89, 90, 91, 92, 93, 94, 95, 96, 97, 98, 99, 100] (by decide +kernel) (by decide +kernel)
set_option maxRecDepth 20000 in
theorem gX0_passTick_X0_wayWith : GoodIn wsX0_passTick (wsV RX0 97 RX0 yX0_wayWith wsX0_wayWith) := goodIn_app (goodIn_of _ (by decide +kernel)) ggX0_passTick_X0_wayWith
set_option maxRecDepth 20000 in
theorem ggX0_passTick_X0_moveOn : GoodIn wsX0_passTick wsX0_moveOn := goodIn_r _ [68, 54, 55, 3, 5, 56, 57, 58, 10, 59, 60, 81, 82, 83, 84, 85, 86, 87, 88, 89, 90, 91, 92, 93, 94, 95, 96, 97, 98, 99, 100] (by decide +kernel) (by decide +kernel)
set_option maxRecDepth 20000 in
theorem gX0_passTick_X0_moveOn : GoodIn wsX0_passTick (wsV RX0 101 RX0 yX0_moveOn wsX0_moveOn) := goodIn_app (goodIn_of _ (by decide +kernel)) ggX0_passTick_X0_moveOn
set_option maxRecDepth 20000 in
theorem ggX0_passTick_X0_sendRunners : GoodIn wsX0_passTick wsX0_sendRunners := goodIn_r _ [72, 73, 74, 75, 55, 5, 76, 77, 78, 79, 10, 80, 60, 54, 56, 57, 58, 59, 81, 82, 83, 84, 85, 86, 87, 88, 89, 90, 91, 92, 93, 94, 95, 96, 97, 98, 99, 100] (by decide +kernel) (by decide +kernel)
set_option maxRecDepth 20000 in
theorem gX0_passTick_X0_sendRunners : GoodIn wsX0_passTick (wsV RX0 104 RX0 yX0_sendRunners wsX0_sendRunners) := goodIn_app (goodIn_of _ (by decide +kernel)) ggX0_passTick_X0_sendRunners
set_option maxRecDepth 20000 in
theorem ggX0_drag_X1_groundAt : GoodIn wsX0_drag wsX1_groundAt := goodIn_r _ [14, 15, 16, 17, 4, 5, 6, 18, 19, 52, 53, 54, 55, 56] (by decide +kernel) (by decide +kernel)
set_option maxRecDepth 20000 in
theorem gX0_drag_X1_groundAt : GoodIn wsX0_drag (wsV RX0 115 RX1 yX1_groundAt wsX1_groundAt) := goodIn_app (goodIn_of _ (by decide +kernel)) ggX0_drag_X1_groundAt
set_option maxRecDepth 20000 in
theorem ggX0_drag_X0_rollersLying : GoodIn wsX0_drag wsX0_rollersLying := goodIn_r _ [24, 25, 26, 27, 28, 29, 23, 30, 1, 31, 32, 33, 34, 35, 36, 37, 38, 39, 40, 41, 42, 43, 44, 45, 46, 47, 48, 49, 50, 51] (by decide +kernel) (by decide +kernel)
set_option maxRecDepth 20000 in
theorem gX0_drag_X0_rollersLying : GoodIn wsX0_drag (wsV RX0 119 RX0 yX0_rollersLying wsX0_rollersLying) := goodIn_app (goodIn_of _ (by decide +kernel)) ggX0_drag_X0_rollersLying
set_option maxRecDepth 20000 in
theorem ggX0_moveOn_X0_sideOf : GoodIn wsX0_moveOn wsX0_sideOf := goodIn_r _ [9, 4, 10, 11, 12, 13, 14, 15, 16, 17, 18, 19, 20, 21, 22, 23, 24, 25, 26, 27, 28, 29, 30] (by decide +kernel) (by decide +kernel)
set_option maxRecDepth 20000 in
theorem gX0_moveOn_X0_sideOf : GoodIn wsX0_moveOn (wsV RX0 126 RX0 yX0_sideOf wsX0_sideOf) := goodIn_app (goodIn_of _ (by decide +kernel)) ggX0_moveOn_X0_sideOf
set_option maxRecDepth 20000 in
theorem ggX0_sendRunners_X0_lastBehind : GoodIn wsX0_sendRunners wsX0_lastBehind := goodIn_r _ [11, 5, 12, 13, 4, 14, 15, 16, 10, 17, 18, 19, 20, 21, 22, 23, 24, 25, 26, 27, 28, 29, 30, 31, 32, 33, 34, 35, 36, 37] (by decide +kernel) (by decide +kernel)
set_option maxRecDepth 20000 in
theorem gX0_sendRunners_X0_lastBehind : GoodIn wsX0_sendRunners (wsV RX0 129 RX0 yX0_lastBehind wsX0_lastBehind) := goodIn_app (goodIn_of _ (by decide +kernel)) ggX0_sendRunners_X0_lastBehind
set_option maxRecDepth 20000 in
theorem ggX0_lastBehind_X0_sideOf : GoodIn wsX0_lastBehind wsX0_sideOf := goodIn_r _ [9, 1, 2, 10, 11, 12, 13, 14, 15, 16, 17, 18, 19, 20, 21, 22, 23, 24, 25, 26, 27, 28, 29] (by decide +kernel) (by decide +kernel)
set_option maxRecDepth 20000 in
theorem gX0_lastBehind_X0_sideOf : GoodIn wsX0_lastBehind (wsV RX0 126 RX0 yX0_sideOf wsX0_sideOf) := goodIn_app (goodIn_of _ (by decide +kernel)) ggX0_lastBehind_X0_sideOf
set_option maxRecDepth 20000 in
theorem ggX0_isAheadOf_X0_isAtEnd : GoodIn wsX0_isAheadOf wsX0_isAtEnd := goodIn_r _ [8, 1, 9, 10, 11, 12, 13, 14, 15, 16, 17, 18, 19, 20, 21, 22, 23, 24, 25, 26, 27, 28] (by decide +kernel) (by decide +kernel)
set_option maxRecDepth 20000 in
theorem gX0_isAheadOf_X0_isAtEnd : GoodIn wsX0_isAheadOf (wsV RX0 78 RX0 yX0_isAtEnd wsX0_isAtEnd) := goodIn_app (goodIn_of _ (by decide +kernel)) ggX0_isAheadOf_X0_isAtEnd
set_option maxRecDepth 20000 in
theorem ggX0_rollersLying_X0_sideOf : GoodIn wsX0_rollersLying wsX0_sideOf := goodIn_r _ [7, 8, 9, 10, 11, 12, 13, 14, 15, 16, 17, 18, 19, 20, 21, 22, 23, 24, 25, 26, 27, 28, 29] (by decide +kernel) (by decide +kernel)
set_option maxRecDepth 20000 in
theorem gX0_rollersLying_X0_sideOf : GoodIn wsX0_rollersLying (wsV RX0 126 RX0 yX0_sideOf wsX0_sideOf) := goodIn_app (goodIn_of _ (by decide +kernel)) ggX0_rollersLying_X0_sideOf
set_option maxRecDepth 20000 in
theorem ggX0_fact_X0_rollersLying : GoodIn wsX0_fact wsX0_rollersLying := goodIn_r _ [13, 14, 15, 16, 17, 18, 12, 19, 1, 20, 21, 22, 23, 24, 25, 26, 27, 28, 29, 30, 31, 32, 33, 34, 35, 36, 37, 38, 39, 40] (by decide +kernel) (by decide +kernel)
set_option maxRecDepth 20000 in
theorem gX0_fact_X0_rollersLying : GoodIn wsX0_fact (wsV RX0 119 RX0 yX0_rollersLying wsX0_rollersLying) := goodIn_app (goodIn_of _ (by decide +kernel)) ggX0_fact_X0_rollersLying
