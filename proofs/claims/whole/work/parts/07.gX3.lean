set_option maxRecDepth 20000 in
theorem ggX3_isTeam_X3_isIn : GoodIn wsX3_isTeam wsX3_isIn := goodIn_r _ [5] (by decide +kernel) (by decide +kernel)
set_option maxRecDepth 20000 in
theorem gX3_isTeam_X3_isIn : GoodIn wsX3_isTeam (va_wsS RX3 32 yX3_isIn wsX3_isIn) := goodIn_app (goodIn_of _ (by decide +kernel)) ggX3_isTeam_X3_isIn
set_option maxRecDepth 20000 in
theorem ggX3_setLength_X3_isIn : GoodIn wsX3_setLength wsX3_isIn := goodIn_r _ [7] (by decide +kernel) (by decide +kernel)
set_option maxRecDepth 20000 in
theorem gX3_setLength_X3_isIn : GoodIn wsX3_setLength (va_wsS RX3 32 yX3_isIn wsX3_isIn) := goodIn_app (goodIn_of _ (by decide +kernel)) ggX3_setLength_X3_isIn
set_option maxRecDepth 20000 in
theorem ggX3_setLength_X3_fail : GoodIn wsX3_setLength wsX3_fail := goodIn_r _ [11, 1, 12, 13, 14, 15, 16, 17, 18, 19, 20] (by decide +kernel) (by decide +kernel)
set_option maxRecDepth 20000 in
theorem gX3_setLength_X3_fail : GoodIn wsX3_setLength (wsV RX3 36 RX3 yX3_fail wsX3_fail) := goodIn_app (goodIn_of _ (by decide +kernel)) ggX3_setLength_X3_fail
set_option maxRecDepth 20000 in
theorem ggX3_lay_X3_isIn : GoodIn wsX3_lay wsX3_isIn := goodIn_r _ [12] (by decide +kernel) (by decide +kernel)
set_option maxRecDepth 20000 in
theorem gX3_lay_X3_isIn : GoodIn wsX3_lay (va_wsS RX3 32 yX3_isIn wsX3_isIn) := goodIn_app (goodIn_of _ (by decide +kernel)) ggX3_lay_X3_isIn
set_option maxRecDepth 20000 in
theorem ggX3_lay_X3_fail : GoodIn wsX3_lay wsX3_fail := goodIn_r _ [16, 1, 21, 22, 23, 24, 25, 26, 27, 28, 29] (by decide +kernel) (by decide +kernel)
set_option maxRecDepth 20000 in
theorem gX3_lay_X3_fail : GoodIn wsX3_lay (wsV RX3 36 RX3 yX3_fail wsX3_fail) := goodIn_app (goodIn_of _ (by decide +kernel)) ggX3_lay_X3_fail
set_option maxRecDepth 20000 in
theorem ggX3_lay_X3_stretchAt : GoodIn wsX3_lay wsX3_stretchAt := goodIn_r _ [20, 3, 2, 21, 22, 23, 24, 25, 26, 27, 28, 29] (by decide +kernel) (by decide +kernel)
set_option maxRecDepth 20000 in
theorem gX3_lay_X3_stretchAt : GoodIn wsX3_lay (wsV RX3 43 RX3 yX3_stretchAt wsX3_stretchAt) := goodIn_app (goodIn_of _ (by decide +kernel)) ggX3_lay_X3_stretchAt
set_option maxRecDepth 20000 in
theorem ggX3_ground_X3_isIn : GoodIn wsX3_ground wsX3_isIn := goodIn_r _ [6] (by decide +kernel) (by decide +kernel)
set_option maxRecDepth 20000 in
theorem gX3_ground_X3_isIn : GoodIn wsX3_ground (va_wsS RX3 32 yX3_isIn wsX3_isIn) := goodIn_app (goodIn_of _ (by decide +kernel)) ggX3_ground_X3_isIn
set_option maxRecDepth 20000 in
theorem ggX3_ground_X3_stretchAt : GoodIn wsX3_ground wsX3_stretchAt := goodIn_r _ [10, 11, 2, 16, 17, 18, 19, 20, 21, 22, 23, 24] (by decide +kernel) (by decide +kernel)
set_option maxRecDepth 20000 in
theorem gX3_ground_X3_stretchAt : GoodIn wsX3_ground (wsV RX3 43 RX3 yX3_stretchAt wsX3_stretchAt) := goodIn_app (goodIn_of _ (by decide +kernel)) ggX3_ground_X3_stretchAt
set_option maxRecDepth 20000 in
theorem ggX3_ground_X3_fail : GoodIn wsX3_ground wsX3_fail := goodIn_r _ [15, 1, 16, 17, 18, 19, 20, 21, 22, 23, 24] (by decide +kernel) (by decide +kernel)
set_option maxRecDepth 20000 in
theorem gX3_ground_X3_fail : GoodIn wsX3_ground (wsV RX3 36 RX3 yX3_fail wsX3_fail) := goodIn_app (goodIn_of _ (by decide +kernel)) ggX3_ground_X3_fail
set_option maxRecDepth 20000 in
theorem ggX3_begin_X3_set : GoodIn wsX3_begin wsX3_set := goodIn_r _ [5, 6, 11, 12, 13, 14, 15, 16, 17, 18, 19] (by decide +kernel) (by decide +kernel)
set_option maxRecDepth 20000 in
theorem gX3_begin_X3_set : GoodIn wsX3_begin (wsV RX3 52 RX3 yX3_set wsX3_set) := goodIn_app (goodIn_of _ (by decide +kernel)) ggX3_begin_X3_set
set_option maxRecDepth 20000 in
theorem ggX3_begin_X3_get : GoodIn wsX3_begin wsX3_get := goodIn_r _ [10, 6, 11, 12, 13, 14, 15, 16, 17, 18, 19] (by decide +kernel) (by decide +kernel)
set_option maxRecDepth 20000 in
theorem gX3_begin_X3_get : GoodIn wsX3_begin (wsV RX3 56 RX3 yX3_get wsX3_get) := goodIn_app (goodIn_of _ (by decide +kernel)) ggX3_begin_X3_get
set_option maxRecDepth 20000 in
theorem ggX3_addTeam_X3_isIn : GoodIn wsX3_addTeam wsX3_isIn := goodIn_r _ [13] (by decide +kernel) (by decide +kernel)
set_option maxRecDepth 20000 in
theorem gX3_addTeam_X3_isIn : GoodIn wsX3_addTeam (va_wsS RX3 32 yX3_isIn wsX3_isIn) := goodIn_app (goodIn_of _ (by decide +kernel)) ggX3_addTeam_X3_isIn
set_option maxRecDepth 20000 in
theorem ggX3_addTeam_X3_fail : GoodIn wsX3_addTeam wsX3_fail := goodIn_r _ [17, 1, 30, 31, 32, 33, 34, 35, 36, 37, 38] (by decide +kernel) (by decide +kernel)
set_option maxRecDepth 20000 in
theorem gX3_addTeam_X3_fail : GoodIn wsX3_addTeam (wsV RX3 36 RX3 yX3_fail wsX3_fail) := goodIn_app (goodIn_of _ (by decide +kernel)) ggX3_addTeam_X3_fail
set_option maxRecDepth 20000 in
theorem ggX3_addTeam_X3_begin : GoodIn wsX3_addTeam wsX3_begin := goodIn_r _ [21, 22, 23, 24, 12, 25, 5, 26, 27, 28, 29, 30, 31, 32, 33, 34, 35, 36, 37, 38] (by decide +kernel) (by decide +kernel)
set_option maxRecDepth 20000 in
theorem gX3_addTeam_X3_begin : GoodIn wsX3_addTeam (wsV RX3 60 RX3 yX3_begin wsX3_begin) := goodIn_app (goodIn_of _ (by decide +kernel)) ggX3_addTeam_X3_begin
set_option maxRecDepth 20000 in
theorem ggX3_setCrew_X3_isTeam : GoodIn wsX3_setCrew wsX3_isTeam := goodIn_r _ [13, 14, 15, 16, 12, 17, 30, 31, 32, 33, 34, 35, 36, 37, 38] (by decide +kernel) (by decide +kernel)
set_option maxRecDepth 20000 in
theorem gX3_setCrew_X3_isTeam : GoodIn wsX3_setCrew (wsV RX3 64 RX3 yX3_isTeam wsX3_isTeam) := goodIn_app (goodIn_of _ (by decide +kernel)) ggX3_setCrew_X3_isTeam
set_option maxRecDepth 20000 in
theorem ggX3_setCrew_X3_fail : GoodIn wsX3_setCrew wsX3_fail := goodIn_r _ [21, 1, 30, 31, 32, 33, 34, 35, 36, 37, 38] (by decide +kernel) (by decide +kernel)
set_option maxRecDepth 20000 in
theorem gX3_setCrew_X3_fail : GoodIn wsX3_setCrew (wsV RX3 36 RX3 yX3_fail wsX3_fail) := goodIn_app (goodIn_of _ (by decide +kernel)) ggX3_setCrew_X3_fail
set_option maxRecDepth 20000 in
theorem ggX3_setCrew_X3_isIn : GoodIn wsX3_setCrew wsX3_isIn := goodIn_r _ [17] (by decide +kernel) (by decide +kernel)
set_option maxRecDepth 20000 in
theorem gX3_setCrew_X3_isIn : GoodIn wsX3_setCrew (va_wsS RX3 32 yX3_isIn wsX3_isIn) := goodIn_app (goodIn_of _ (by decide +kernel)) ggX3_setCrew_X3_isIn
set_option maxRecDepth 20000 in
theorem ggX3_setCrew_X3_get : GoodIn wsX3_setCrew wsX3_get := goodIn_r _ [25, 4, 30, 31, 32, 33, 34, 35, 36, 37, 38] (by decide +kernel) (by decide +kernel)
set_option maxRecDepth 20000 in
theorem gX3_setCrew_X3_get : GoodIn wsX3_setCrew (wsV RX3 56 RX3 yX3_get wsX3_get) := goodIn_app (goodIn_of _ (by decide +kernel)) ggX3_setCrew_X3_get
set_option maxRecDepth 20000 in
theorem ggX3_setCrew_X3_set : GoodIn wsX3_setCrew wsX3_set := goodIn_r _ [29, 4, 30, 31, 32, 33, 34, 35, 36, 37, 38] (by decide +kernel) (by decide +kernel)
set_option maxRecDepth 20000 in
theorem gX3_setCrew_X3_set : GoodIn wsX3_setCrew (wsV RX3 52 RX3 yX3_set wsX3_set) := goodIn_app (goodIn_of _ (by decide +kernel)) ggX3_setCrew_X3_set
set_option maxRecDepth 20000 in
theorem ggX3_order_X3_isTeam : GoodIn wsX3_order wsX3_isTeam := goodIn_r _ [6, 7, 8, 9, 5, 10, 24, 25, 26, 27, 28, 29, 30, 31, 32] (by decide +kernel) (by decide +kernel)
set_option maxRecDepth 20000 in
theorem gX3_order_X3_isTeam : GoodIn wsX3_order (wsV RX3 64 RX3 yX3_isTeam wsX3_isTeam) := goodIn_app (goodIn_of _ (by decide +kernel)) ggX3_order_X3_isTeam
set_option maxRecDepth 20000 in
theorem ggX3_order_X3_fail : GoodIn wsX3_order wsX3_fail := goodIn_r _ [14, 1, 24, 25, 26, 27, 28, 29, 30, 31, 32] (by decide +kernel) (by decide +kernel)
set_option maxRecDepth 20000 in
theorem gX3_order_X3_fail : GoodIn wsX3_order (wsV RX3 36 RX3 yX3_fail wsX3_fail) := goodIn_app (goodIn_of _ (by decide +kernel)) ggX3_order_X3_fail
set_option maxRecDepth 20000 in
theorem ggX3_order_X3_isIn : GoodIn wsX3_order wsX3_isIn := goodIn_r _ [10] (by decide +kernel) (by decide +kernel)
set_option maxRecDepth 20000 in
theorem gX3_order_X3_isIn : GoodIn wsX3_order (va_wsS RX3 32 yX3_isIn wsX3_isIn) := goodIn_app (goodIn_of _ (by decide +kernel)) ggX3_order_X3_isIn
set_option maxRecDepth 20000 in
theorem ggX3_order_X3_get : GoodIn wsX3_order wsX3_get := goodIn_r _ [18, 19, 24, 25, 26, 27, 28, 29, 30, 31, 32] (by decide +kernel) (by decide +kernel)
set_option maxRecDepth 20000 in
theorem gX3_order_X3_get : GoodIn wsX3_order (wsV RX3 56 RX3 yX3_get wsX3_get) := goodIn_app (goodIn_of _ (by decide +kernel)) ggX3_order_X3_get
set_option maxRecDepth 20000 in
theorem ggX3_order_X3_set : GoodIn wsX3_order wsX3_set := goodIn_r _ [23, 19, 24, 25, 26, 27, 28, 29, 30, 31, 32] (by decide +kernel) (by decide +kernel)
set_option maxRecDepth 20000 in
theorem gX3_order_X3_set : GoodIn wsX3_order (wsV RX3 52 RX3 yX3_set wsX3_set) := goodIn_app (goodIn_of _ (by decide +kernel)) ggX3_order_X3_set
set_option maxRecDepth 20000 in
theorem ggX3_isCarried_X3_get : GoodIn wsX3_isCarried wsX3_get := goodIn_r _ [5, 6, 7, 8, 9, 10, 11, 12, 13, 14, 15] (by decide +kernel) (by decide +kernel)
set_option maxRecDepth 20000 in
theorem gX3_isCarried_X3_get : GoodIn wsX3_isCarried (wsV RX3 56 RX3 yX3_get wsX3_get) := goodIn_app (goodIn_of _ (by decide +kernel)) ggX3_isCarried_X3_get
set_option maxRecDepth 20000 in
theorem ggX3_where_X3_get : GoodIn wsX3_where wsX3_get := goodIn_r _ [5, 6, 11, 12, 13, 14, 15, 16, 17, 18, 19] (by decide +kernel) (by decide +kernel)
set_option maxRecDepth 20000 in
theorem gX3_where_X3_get : GoodIn wsX3_where (wsV RX3 56 RX3 yX3_get wsX3_get) := goodIn_app (goodIn_of _ (by decide +kernel)) ggX3_where_X3_get
set_option maxRecDepth 20000 in
theorem ggX3_where_X3_isCarried : GoodIn wsX3_where wsX3_isCarried := goodIn_r _ [10, 1, 2, 3, 4, 5, 6, 11, 12, 13, 14, 15, 16, 17, 18, 19] (by decide +kernel) (by decide +kernel)
set_option maxRecDepth 20000 in
theorem gX3_where_X3_isCarried : GoodIn wsX3_where (wsV RX3 68 RX3 yX3_isCarried wsX3_isCarried) := goodIn_app (goodIn_of _ (by decide +kernel)) ggX3_where_X3_isCarried
set_option maxRecDepth 20000 in
theorem ggX3_many_X3_get : GoodIn wsX3_many wsX3_get := goodIn_r _ [5, 6, 15, 16, 17, 18, 19, 20, 21, 22, 23] (by decide +kernel) (by decide +kernel)
set_option maxRecDepth 20000 in
theorem gX3_many_X3_get : GoodIn wsX3_many (wsV RX3 56 RX3 yX3_get wsX3_get) := goodIn_app (goodIn_of _ (by decide +kernel)) ggX3_many_X3_get
set_option maxRecDepth 20000 in
theorem ggX3_many_X3_where : GoodIn wsX3_many wsX3_where := goodIn_r _ [10, 1, 2, 3, 4, 5, 6, 11, 12, 13, 14, 15, 16, 17, 18, 19, 20, 21, 22, 23] (by decide +kernel) (by decide +kernel)
set_option maxRecDepth 20000 in
theorem gX3_many_X3_where : GoodIn wsX3_many (wsV RX3 72 RX3 yX3_where wsX3_where) := goodIn_app (goodIn_of _ (by decide +kernel)) ggX3_many_X3_where
set_option maxRecDepth 20000 in
theorem ggX3_pull_X3_get : GoodIn wsX3_pull wsX3_get := goodIn_r _ [5, 6, 7, 8, 9, 10, 11, 12, 13, 14, 15] (by decide +kernel) (by decide +kernel)
set_option maxRecDepth 20000 in
theorem gX3_pull_X3_get : GoodIn wsX3_pull (wsV RX3 56 RX3 yX3_get wsX3_get) := goodIn_app (goodIn_of _ (by decide +kernel)) ggX3_pull_X3_get
set_option maxRecDepth 20000 in
theorem ggX3_drag_X3_get : GoodIn wsX3_drag wsX3_get := goodIn_r _ [13, 14, 32, 33, 34, 35, 36, 37, 38, 39, 40] (by decide +kernel) (by decide +kernel)
set_option maxRecDepth 20000 in
theorem gX3_drag_X3_get : GoodIn wsX3_drag (wsV RX3 56 RX3 yX3_get wsX3_get) := goodIn_app (goodIn_of _ (by decide +kernel)) ggX3_drag_X3_get
set_option maxRecDepth 20000 in
theorem ggX3_drag_X3_stretchAt : GoodIn wsX3_drag wsX3_stretchAt := goodIn_r _ [18, 19, 1, 32, 33, 34, 35, 36, 37, 38, 39, 40] (by decide +kernel) (by decide +kernel)
set_option maxRecDepth 20000 in
theorem gX3_drag_X3_stretchAt : GoodIn wsX3_drag (wsV RX3 43 RX3 yX3_stretchAt wsX3_stretchAt) := goodIn_app (goodIn_of _ (by decide +kernel)) ggX3_drag_X3_stretchAt
set_option maxRecDepth 20000 in
theorem ggX3_drag_X3_many : GoodIn wsX3_drag wsX3_many := goodIn_r _ [23, 9, 10, 11, 12, 13, 14, 24, 25, 26, 27, 28, 29, 30, 31, 32, 33, 34, 35, 36, 37, 38, 39, 40] (by decide +kernel) (by decide +kernel)
set_option maxRecDepth 20000 in
theorem gX3_drag_X3_many : GoodIn wsX3_drag (wsV RX3 75 RX3 yX3_many wsX3_many) := goodIn_app (goodIn_of _ (by decide +kernel)) ggX3_drag_X3_many
set_option maxRecDepth 20000 in
theorem ggX3_way_X3_pull : GoodIn wsX3_way wsX3_pull := goodIn_r _ [12, 13, 14, 15, 11, 16, 17, 40, 41, 42, 43, 44, 45, 46, 47, 48] (by decide +kernel) (by decide +kernel)
set_option maxRecDepth 20000 in
theorem gX3_way_X3_pull : GoodIn wsX3_way (wsV RX3 86 RX3 yX3_pull wsX3_pull) := goodIn_app (goodIn_of _ (by decide +kernel)) ggX3_way_X3_pull
set_option maxRecDepth 20000 in
theorem ggX3_way_X3_drag : GoodIn wsX3_way wsX3_drag := goodIn_r _ [21, 22, 5, 6, 3, 7, 1, 2, 4, 13, 14, 15, 11, 16, 17, 23, 24, 25, 26, 27, 28, 29, 30, 31, 32, 33, 34, 35, 36, 37, 38, 39, 40, 41, 42, 43, 44, 45, 46, 47, 48] (by decide +kernel) (by decide +kernel)
set_option maxRecDepth 20000 in
theorem gX3_way_X3_drag : GoodIn wsX3_way (wsV RX3 89 RX3 yX3_drag wsX3_drag) := goodIn_app (goodIn_of _ (by decide +kernel)) ggX3_way_X3_drag
set_option maxRecDepth 20000 in
theorem ggX3_way_X3_get : GoodIn wsX3_way wsX3_get := goodIn_r _ [16, 17, 40, 41, 42, 43, 44, 45, 46, 47, 48] (by decide +kernel) (by decide +kernel)
set_option maxRecDepth 20000 in
theorem gX3_way_X3_get : GoodIn wsX3_way (wsV RX3 56 RX3 yX3_get wsX3_get) := goodIn_app (goodIn_of _ (by decide +kernel)) ggX3_way_X3_get
set_option maxRecDepth 20000 in
theorem ggX3_roll_X3_way : GoodIn wsX3_roll wsX3_way := goodIn_r _ [5, 6, 7, 8, 9, 10, 11, 12, 13, 14, 15, 4, 16, 17, 18, 19, 20, 21, 22, 23, 24, 25, 26, 27, 28, 29, 30, 31, 32, 33, 34, 35, 36, 37, 38, 39, 40, 41, 42, 43, 48, 49, 50, 51, 52, 53, 54, 55, 56] (by decide +kernel) (by decide +kernel)
set_option maxRecDepth 20000 in
theorem gX3_roll_X3_way : GoodIn wsX3_roll (wsV RX3 92 RX3 yX3_way wsX3_way) := goodIn_app (goodIn_of _ (by decide +kernel)) ggX3_roll_X3_way
set_option maxRecDepth 20000 in
theorem ggX3_roll_X3_get : GoodIn wsX3_roll wsX3_get := goodIn_r _ [20, 21, 48, 49, 50, 51, 52, 53, 54, 55, 56] (by decide +kernel) (by decide +kernel)
set_option maxRecDepth 20000 in
theorem gX3_roll_X3_get : GoodIn wsX3_roll (wsV RX3 56 RX3 yX3_get wsX3_get) := goodIn_app (goodIn_of _ (by decide +kernel)) ggX3_roll_X3_get
set_option maxRecDepth 20000 in
theorem ggX3_roll_X3_where : GoodIn wsX3_roll wsX3_where := goodIn_r _ [39, 17, 18, 19, 4, 20, 21, 40, 41, 42, 43, 48, 49, 50, 51, 52, 53, 54, 55, 56] (by decide +kernel) (by decide +kernel)
set_option maxRecDepth 20000 in
theorem gX3_roll_X3_where : GoodIn wsX3_roll (wsV RX3 72 RX3 yX3_where wsX3_where) := goodIn_app (goodIn_of _ (by decide +kernel)) ggX3_roll_X3_where
set_option maxRecDepth 20000 in
theorem ggX3_roll_X3_set : GoodIn wsX3_roll wsX3_set := goodIn_r _ [47, 21, 48, 49, 50, 51, 52, 53, 54, 55, 56] (by decide +kernel) (by decide +kernel)
set_option maxRecDepth 20000 in
theorem gX3_roll_X3_set : GoodIn wsX3_roll (wsV RX3 52 RX3 yX3_set wsX3_set) := goodIn_app (goodIn_of _ (by decide +kernel)) ggX3_roll_X3_set
set_option maxRecDepth 20000 in
theorem ggX3_runner_X3_get : GoodIn wsX3_runner wsX3_get := goodIn_r _ [5, 6, 19, 20, 21, 22, 23, 24, 25, 26, 27] (by decide +kernel) (by decide +kernel)
set_option maxRecDepth 20000 in
theorem gX3_runner_X3_get : GoodIn wsX3_runner (wsV RX3 56 RX3 yX3_get wsX3_get) := goodIn_app (goodIn_of _ (by decide +kernel)) ggX3_runner_X3_get
set_option maxRecDepth 20000 in
theorem ggX3_runner_X3_set : GoodIn wsX3_runner wsX3_set := goodIn_r _ [10, 6, 19, 20, 21, 22, 23, 24, 25, 26, 27] (by decide +kernel) (by decide +kernel)
set_option maxRecDepth 20000 in
theorem gX3_runner_X3_set : GoodIn wsX3_runner (wsV RX3 52 RX3 yX3_set wsX3_set) := goodIn_app (goodIn_of _ (by decide +kernel)) ggX3_runner_X3_set
set_option maxRecDepth 20000 in
theorem ggX3_runner_X3_where : GoodIn wsX3_runner wsX3_where := goodIn_r _ [14, 1, 2, 3, 4, 5, 6, 15, 16, 17, 18, 19, 20, 21, 22, 23, 24, 25, 26, 27] (by decide +kernel) (by decide +kernel)
set_option maxRecDepth 20000 in
theorem gX3_runner_X3_where : GoodIn wsX3_runner (wsV RX3 72 RX3 yX3_where wsX3_where) := goodIn_app (goodIn_of _ (by decide +kernel)) ggX3_runner_X3_where
set_option maxRecDepth 20000 in
theorem ggX3_breathe_X3_get : GoodIn wsX3_breathe wsX3_get := goodIn_r _ [12, 13, 18, 19, 20, 21, 22, 23, 24, 25, 26] (by decide +kernel) (by decide +kernel)
set_option maxRecDepth 20000 in
theorem gX3_breathe_X3_get : GoodIn wsX3_breathe (wsV RX3 56 RX3 yX3_get wsX3_get) := goodIn_app (goodIn_of _ (by decide +kernel)) ggX3_breathe_X3_get
set_option maxRecDepth 20000 in
theorem ggX3_breathe_X3_set : GoodIn wsX3_breathe wsX3_set := goodIn_r _ [17, 13, 18, 19, 20, 21, 22, 23, 24, 25, 26] (by decide +kernel) (by decide +kernel)
set_option maxRecDepth 20000 in
theorem gX3_breathe_X3_set : GoodIn wsX3_breathe (wsV RX3 52 RX3 yX3_set wsX3_set) := goodIn_app (goodIn_of _ (by decide +kernel)) ggX3_breathe_X3_set
set_option maxRecDepth 20000 in
theorem ggX3_tickOf_X3_get : GoodIn wsX3_tickOf wsX3_get := goodIn_r _ [12, 13, 63, 64, 65, 66, 67, 68, 69, 70, 71] (by decide +kernel) (by decide +kernel)
set_option maxRecDepth 20000 in
theorem gX3_tickOf_X3_get : GoodIn wsX3_tickOf (wsV RX3 56 RX3 yX3_get wsX3_get) := goodIn_app (goodIn_of _ (by decide +kernel)) ggX3_tickOf_X3_get
set_option maxRecDepth 20000 in
theorem ggX3_tickOf_X3_pull : GoodIn wsX3_tickOf wsX3_pull := goodIn_r _ [17, 8, 9, 10, 11, 12, 13, 63, 64, 65, 66, 67, 68, 69, 70, 71] (by decide +kernel) (by decide +kernel)
set_option maxRecDepth 20000 in
theorem gX3_tickOf_X3_pull : GoodIn wsX3_tickOf (wsV RX3 86 RX3 yX3_pull wsX3_pull) := goodIn_app (goodIn_of _ (by decide +kernel)) ggX3_tickOf_X3_pull
set_option maxRecDepth 20000 in
theorem ggX3_tickOf_X3_set : GoodIn wsX3_tickOf wsX3_set := goodIn_r _ [21, 13, 63, 64, 65, 66, 67, 68, 69, 70, 71] (by decide +kernel) (by decide +kernel)
set_option maxRecDepth 20000 in
theorem gX3_tickOf_X3_set : GoodIn wsX3_tickOf (wsV RX3 52 RX3 yX3_set wsX3_set) := goodIn_app (goodIn_of _ (by decide +kernel)) ggX3_tickOf_X3_set
set_option maxRecDepth 20000 in
theorem ggX3_tickOf_X3_breathe : GoodIn wsX3_tickOf wsX3_breathe := goodIn_r _ [25, 26, 27, 3, 28, 1, 2, 4, 8, 9, 10, 11, 12, 13, 18, 19, 20, 21, 63, 64, 65, 66, 67, 68, 69, 70, 71] (by decide +kernel) (by decide +kernel)
set_option maxRecDepth 20000 in
theorem gX3_tickOf_X3_breathe : GoodIn wsX3_tickOf (wsV RX3 98 RX3 yX3_breathe wsX3_breathe) := goodIn_app (goodIn_of _ (by decide +kernel)) ggX3_tickOf_X3_breathe
set_option maxRecDepth 20000 in
theorem ggX3_tickOf_X3_roll : GoodIn wsX3_tickOf wsX3_roll := goodIn_r _ [32, 33, 34, 35, 11, 36, 26, 27, 3, 28, 1, 2, 4, 14, 15, 16, 17, 8, 9, 10, 12, 13, 37, 38, 39, 40, 41, 42, 43, 44, 45, 46, 47, 48, 49, 50, 51, 52, 53, 54, 55, 56, 57, 58, 18, 19, 20, 21, 63, 64, 65, 66, 67, 68, 69, 70, 71] (by decide +kernel) (by decide +kernel)
set_option maxRecDepth 20000 in
theorem gX3_tickOf_X3_roll : GoodIn wsX3_tickOf (wsV RX3 102 RX3 yX3_roll wsX3_roll) := goodIn_app (goodIn_of _ (by decide +kernel)) ggX3_tickOf_X3_roll
set_option maxRecDepth 20000 in
theorem ggX3_tickOf_X3_runner : GoodIn wsX3_tickOf wsX3_runner := goodIn_r _ [62, 8, 9, 10, 11, 12, 13, 18, 19, 20, 21, 51, 52, 53, 54, 55, 56, 57, 58, 63, 64, 65, 66, 67, 68, 69, 70, 71] (by decide +kernel) (by decide +kernel)
set_option maxRecDepth 20000 in
theorem gX3_tickOf_X3_runner : GoodIn wsX3_tickOf (wsV RX3 105 RX3 yX3_runner wsX3_runner) := goodIn_app (goodIn_of _ (by decide +kernel)) ggX3_tickOf_X3_runner
set_option maxRecDepth 20000 in
theorem ggX3_tickOn_X3_tickOf : GoodIn wsX3_tickOn wsX3_tickOf := goodIn_r _ [7, 8, 9, 10, 11, 12, 13, 1, 14, 15, 16, 6, 17, 18, 19, 20, 21, 22, 23, 24, 25, 26, 27, 28, 29, 30, 31, 32, 33, 34, 35, 36, 37, 38, 39, 40, 41, 42, 43, 44, 45, 46, 47, 48, 49, 50, 51, 52, 53, 54, 55, 56, 57, 58, 59, 60, 61, 62, 63, 64, 65, 66, 67, 68, 69, 70, 71, 72, 73, 74, 75, 76] (by decide +kernel) (by decide +kernel)
set_option maxRecDepth 20000 in
theorem gX3_tickOn_X3_tickOf : GoodIn wsX3_tickOn (wsV RX3 108 RX3 yX3_tickOf wsX3_tickOf) := goodIn_app (goodIn_of _ (by decide +kernel)) ggX3_tickOn_X3_tickOf
set_option maxRecDepth 20000 in
theorem ggX3_ended_X3_get : GoodIn wsX3_ended wsX3_get := goodIn_r _ [6, 7, 8, 9, 10, 11, 12, 13, 14, 15, 16] (by decide +kernel) (by decide +kernel)
set_option maxRecDepth 20000 in
theorem gX3_ended_X3_get : GoodIn wsX3_ended (wsV RX3 56 RX3 yX3_get wsX3_get) := goodIn_app (goodIn_of _ (by decide +kernel)) ggX3_ended_X3_get
set_option maxRecDepth 20000 in
theorem ggX3_run_X3_isIn : GoodIn wsX3_run wsX3_isIn := goodIn_r _ [6] (by decide +kernel) (by decide +kernel)
set_option maxRecDepth 20000 in
theorem gX3_run_X3_isIn : GoodIn wsX3_run (va_wsS RX3 32 yX3_isIn wsX3_isIn) := goodIn_app (goodIn_of _ (by decide +kernel)) ggX3_run_X3_isIn
set_option maxRecDepth 20000 in
theorem ggX3_run_X3_fail : GoodIn wsX3_run wsX3_fail := goodIn_r _ [10, 1, 84, 85, 86, 87, 88, 89, 90, 91, 92] (by decide +kernel) (by decide +kernel)
set_option maxRecDepth 20000 in
theorem gX3_run_X3_fail : GoodIn wsX3_run (wsV RX3 36 RX3 yX3_fail wsX3_fail) := goodIn_app (goodIn_of _ (by decide +kernel)) ggX3_run_X3_fail
set_option maxRecDepth 20000 in
theorem ggX3_run_X3_tickOn : GoodIn wsX3_run wsX3_tickOn := goodIn_r _ [14, 15, 2, 16, 17, 18, 5, 19, 20, 21, 22, 23, 24, 25, 26, 27, 28, 29, 30, 31, 32, 33, 34, 35, 36, 37, 38, 39, 40, 41, 42, 43, 44, 45, 46, 47, 48, 49, 50, 51, 52, 53, 54, 55, 56, 57, 58, 59, 60, 61, 62, 63, 64, 65, 66, 67, 68, 69, 70, 71, 72, 73, 74, 75, 76, 77, 78, 79, 84, 85, 86, 87, 88, 89, 90, 91, 92] (by decide +kernel) (by decide +kernel)
set_option maxRecDepth 20000 in
theorem gX3_run_X3_tickOn : GoodIn wsX3_run (wsV RX3 111 RX3 yX3_tickOn wsX3_tickOn) := goodIn_app (goodIn_of _ (by decide +kernel)) ggX3_run_X3_tickOn
set_option maxRecDepth 20000 in
theorem ggX3_run_X3_ended : GoodIn wsX3_run wsX3_ended := goodIn_r _ [83, 2, 26, 27, 28, 5, 29, 30, 84, 85, 86, 87, 88, 89, 90, 91, 92] (by decide +kernel) (by decide +kernel)
set_option maxRecDepth 20000 in
theorem gX3_run_X3_ended : GoodIn wsX3_run (wsV RX3 114 RX3 yX3_ended wsX3_ended) := goodIn_app (goodIn_of _ (by decide +kernel)) ggX3_run_X3_ended
set_option maxRecDepth 20000 in
theorem ggX3_restart_X3_begin : GoodIn wsX3_restart wsX3_begin := goodIn_r _ [9, 10, 11, 12, 8, 13, 14, 15, 16, 17, 18, 19, 20, 21, 22, 23, 24, 25, 26, 27] (by decide +kernel) (by decide +kernel)
set_option maxRecDepth 20000 in
theorem gX3_restart_X3_begin : GoodIn wsX3_restart (wsV RX3 60 RX3 yX3_begin wsX3_begin) := goodIn_app (goodIn_of _ (by decide +kernel)) ggX3_restart_X3_begin
set_option maxRecDepth 20000 in
theorem ggX3_counted_X3_ended : GoodIn wsX3_counted wsX3_ended := goodIn_r _ [10, 2, 11, 12, 13, 9, 14, 15, 16, 17, 18, 19, 20, 21, 22, 23, 24] (by decide +kernel) (by decide +kernel)
set_option maxRecDepth 20000 in
theorem gX3_counted_X3_ended : GoodIn wsX3_counted (wsV RX3 114 RX3 yX3_ended wsX3_ended) := goodIn_app (goodIn_of _ (by decide +kernel)) ggX3_counted_X3_ended
set_option maxRecDepth 20000 in
theorem ggX3_count_X3_isIn : GoodIn wsX3_count wsX3_isIn := goodIn_r _ [5] (by decide +kernel) (by decide +kernel)
set_option maxRecDepth 20000 in
theorem gX3_count_X3_isIn : GoodIn wsX3_count (va_wsS RX3 32 yX3_isIn wsX3_isIn) := goodIn_app (goodIn_of _ (by decide +kernel)) ggX3_count_X3_isIn
set_option maxRecDepth 20000 in
theorem ggX3_count_X3_counted : GoodIn wsX3_count wsX3_counted := goodIn_r _ [9, 10, 11, 12, 13, 14, 15, 16, 17, 4, 18, 19, 20, 21, 22, 23, 28, 29, 30, 31, 32, 33, 34, 35, 36] (by decide +kernel) (by decide +kernel)
set_option maxRecDepth 20000 in
theorem gX3_count_X3_counted : GoodIn wsX3_count (wsV RX3 118 RX3 yX3_counted wsX3_counted) := goodIn_app (goodIn_of _ (by decide +kernel)) ggX3_count_X3_counted
set_option maxRecDepth 20000 in
theorem ggX3_count_X3_fail : GoodIn wsX3_count wsX3_fail := goodIn_r _ [27, 1, 28, 29, 30, 31, 32, 33, 34, 35, 36] (by decide +kernel) (by decide +kernel)
set_option maxRecDepth 20000 in
theorem gX3_count_X3_fail : GoodIn wsX3_count (wsV RX3 36 RX3 yX3_fail wsX3_fail) := goodIn_app (goodIn_of _ (by decide +kernel)) ggX3_count_X3_fail
set_option maxRecDepth 20000 in
theorem ggX3_teamTold_X3_get : GoodIn wsX3_teamTold wsX3_get := goodIn_r _ [5, 6, 19, 20, 21, 22, 23, 24, 25, 26, 27] (by decide +kernel) (by decide +kernel)
set_option maxRecDepth 20000 in
theorem gX3_teamTold_X3_get : GoodIn wsX3_teamTold (wsV RX3 56 RX3 yX3_get wsX3_get) := goodIn_app (goodIn_of _ (by decide +kernel)) ggX3_teamTold_X3_get
set_option maxRecDepth 20000 in
theorem ggX3_teamTold_X3_many : GoodIn wsX3_teamTold wsX3_many := goodIn_r _ [10, 1, 2, 3, 4, 5, 6, 11, 12, 13, 14, 15, 16, 17, 18, 19, 20, 21, 22, 23, 24, 25, 26, 27] (by decide +kernel) (by decide +kernel)
set_option maxRecDepth 20000 in
theorem gX3_teamTold_X3_many : GoodIn wsX3_teamTold (wsV RX3 75 RX3 yX3_many wsX3_many) := goodIn_app (goodIn_of _ (by decide +kernel)) ggX3_teamTold_X3_many
set_option maxRecDepth 20000 in
theorem ggX3_team_X3_isTeam : GoodIn wsX3_team wsX3_isTeam := goodIn_r _ [6, 7, 8, 9, 5, 10, 36, 37, 38, 39, 40, 41, 42, 43, 44] (by decide +kernel) (by decide +kernel)
set_option maxRecDepth 20000 in
theorem gX3_team_X3_isTeam : GoodIn wsX3_team (wsV RX3 64 RX3 yX3_isTeam wsX3_isTeam) := goodIn_app (goodIn_of _ (by decide +kernel)) ggX3_team_X3_isTeam
set_option maxRecDepth 20000 in
theorem ggX3_team_X3_isIn : GoodIn wsX3_team wsX3_isIn := goodIn_r _ [10] (by decide +kernel) (by decide +kernel)
set_option maxRecDepth 20000 in
theorem gX3_team_X3_isIn : GoodIn wsX3_team (va_wsS RX3 32 yX3_isIn wsX3_isIn) := goodIn_app (goodIn_of _ (by decide +kernel)) ggX3_team_X3_isIn
set_option maxRecDepth 20000 in
theorem ggX3_team_X3_teamTold : GoodIn wsX3_team wsX3_teamTold := goodIn_r _ [14, 15, 16, 17, 5, 18, 19, 20, 21, 22, 23, 24, 25, 26, 27, 28, 29, 30, 31, 36, 37, 38, 39, 40, 41, 42, 43, 44] (by decide +kernel) (by decide +kernel)
set_option maxRecDepth 20000 in
theorem gX3_team_X3_teamTold : GoodIn wsX3_team (wsV RX3 121 RX3 yX3_teamTold wsX3_teamTold) := goodIn_app (goodIn_of _ (by decide +kernel)) ggX3_team_X3_teamTold
set_option maxRecDepth 20000 in
theorem ggX3_team_X3_fail : GoodIn wsX3_team wsX3_fail := goodIn_r _ [35, 1, 36, 37, 38, 39, 40, 41, 42, 43, 44] (by decide +kernel) (by decide +kernel)
set_option maxRecDepth 20000 in
theorem gX3_team_X3_fail : GoodIn wsX3_team (wsV RX3 36 RX3 yX3_fail wsX3_fail) := goodIn_app (goodIn_of _ (by decide +kernel)) ggX3_team_X3_fail
set_option maxRecDepth 20000 in
theorem ggX3_roller_X3_isTeam : GoodIn wsX3_roller wsX3_isTeam := goodIn_r _ [6, 7, 8, 9, 5, 10, 24, 25, 26, 27, 28, 29, 30, 31, 32] (by decide +kernel) (by decide +kernel)
set_option maxRecDepth 20000 in
theorem gX3_roller_X3_isTeam : GoodIn wsX3_roller (wsV RX3 64 RX3 yX3_isTeam wsX3_isTeam) := goodIn_app (goodIn_of _ (by decide +kernel)) ggX3_roller_X3_isTeam
set_option maxRecDepth 20000 in
theorem ggX3_roller_X3_get : GoodIn wsX3_roller wsX3_get := goodIn_r _ [14, 15, 24, 25, 26, 27, 28, 29, 30, 31, 32] (by decide +kernel) (by decide +kernel)
set_option maxRecDepth 20000 in
theorem gX3_roller_X3_get : GoodIn wsX3_roller (wsV RX3 56 RX3 yX3_get wsX3_get) := goodIn_app (goodIn_of _ (by decide +kernel)) ggX3_roller_X3_get
set_option maxRecDepth 20000 in
theorem ggX3_roller_X3_isIn : GoodIn wsX3_roller wsX3_isIn := goodIn_r _ [10] (by decide +kernel) (by decide +kernel)
set_option maxRecDepth 20000 in
theorem gX3_roller_X3_isIn : GoodIn wsX3_roller (va_wsS RX3 32 yX3_isIn wsX3_isIn) := goodIn_app (goodIn_of _ (by decide +kernel)) ggX3_roller_X3_isIn
set_option maxRecDepth 20000 in
theorem ggX3_roller_X3_fail : GoodIn wsX3_roller wsX3_fail := goodIn_r _ [19, 1, 24, 25, 26, 27, 28, 29, 30, 31, 32] (by decide +kernel) (by decide +kernel)
set_option maxRecDepth 20000 in
theorem gX3_roller_X3_fail : GoodIn wsX3_roller (wsV RX3 36 RX3 yX3_fail wsX3_fail) := goodIn_app (goodIn_of _ (by decide +kernel)) ggX3_roller_X3_fail
set_option maxRecDepth 20000 in
theorem ggX3_roller_X3_isCarried : GoodIn wsX3_roller wsX3_isCarried := goodIn_r _ [23, 11, 12, 13, 5, 14, 15, 24, 25, 26, 27, 28, 29, 30, 31, 32] (by decide +kernel) (by decide +kernel)
set_option maxRecDepth 20000 in
theorem gX3_roller_X3_isCarried : GoodIn wsX3_roller (wsV RX3 68 RX3 yX3_isCarried wsX3_isCarried) := goodIn_app (goodIn_of _ (by decide +kernel)) ggX3_roller_X3_isCarried
set_option maxRecDepth 20000 in
theorem ggX3_next_X3_isTeam : GoodIn wsX3_next wsX3_isTeam := goodIn_r _ [6, 7, 8, 9, 5, 10, 57, 58, 59, 60, 61, 62, 63, 64, 65] (by decide +kernel) (by decide +kernel)
set_option maxRecDepth 20000 in
theorem gX3_next_X3_isTeam : GoodIn wsX3_next (wsV RX3 64 RX3 yX3_isTeam wsX3_isTeam) := goodIn_app (goodIn_of _ (by decide +kernel)) ggX3_next_X3_isTeam
set_option maxRecDepth 20000 in
theorem ggX3_next_X3_isIn : GoodIn wsX3_next wsX3_isIn := goodIn_r _ [10] (by decide +kernel) (by decide +kernel)
set_option maxRecDepth 20000 in
theorem gX3_next_X3_isIn : GoodIn wsX3_next (va_wsS RX3 32 yX3_isIn wsX3_isIn) := goodIn_app (goodIn_of _ (by decide +kernel)) ggX3_next_X3_isIn
set_option maxRecDepth 20000 in
theorem ggX3_next_X3_fail : GoodIn wsX3_next wsX3_fail := goodIn_r _ [14, 1, 57, 58, 59, 60, 61, 62, 63, 64, 65] (by decide +kernel) (by decide +kernel)
set_option maxRecDepth 20000 in
theorem gX3_next_X3_fail : GoodIn wsX3_next (wsV RX3 36 RX3 yX3_fail wsX3_fail) := goodIn_app (goodIn_of _ (by decide +kernel)) ggX3_next_X3_fail
set_option maxRecDepth 20000 in
theorem ggX3_next_X3_pull : GoodIn wsX3_next wsX3_pull := goodIn_r _ [18, 19, 20, 21, 5, 22, 23, 57, 58, 59, 60, 61, 62, 63, 64, 65] (by decide +kernel) (by decide +kernel)
set_option maxRecDepth 20000 in
theorem gX3_next_X3_pull : GoodIn wsX3_next (wsV RX3 86 RX3 yX3_pull wsX3_pull) := goodIn_app (goodIn_of _ (by decide +kernel)) ggX3_next_X3_pull
set_option maxRecDepth 20000 in
theorem ggX3_next_X3_drag : GoodIn wsX3_next wsX3_drag := goodIn_r _ [27, 28, 29, 30, 31, 32, 33, 34, 35, 19, 20, 21, 5, 22, 23, 36, 37, 38, 39, 40, 41, 42, 43, 44, 45, 46, 47, 48, 49, 50, 51, 52, 57, 58, 59, 60, 61, 62, 63, 64, 65] (by decide +kernel) (by decide +kernel)
set_option maxRecDepth 20000 in
theorem gX3_next_X3_drag : GoodIn wsX3_next (wsV RX3 89 RX3 yX3_drag wsX3_drag) := goodIn_app (goodIn_of _ (by decide +kernel)) ggX3_next_X3_drag
set_option maxRecDepth 20000 in
theorem ggX3_next_X3_way : GoodIn wsX3_next wsX3_way := goodIn_r _ [56, 33, 34, 31, 35, 29, 30, 32, 15, 16, 17, 5, 18, 19, 20, 21, 22, 23, 24, 25, 26, 27, 28, 36, 37, 38, 39, 40, 41, 42, 43, 44, 45, 46, 47, 48, 49, 50, 51, 52, 57, 58, 59, 60, 61, 62, 63, 64, 65] (by decide +kernel) (by decide +kernel)
set_option maxRecDepth 20000 in
theorem gX3_next_X3_way : GoodIn wsX3_next (wsV RX3 92 RX3 yX3_way wsX3_way) := goodIn_app (goodIn_of _ (by decide +kernel)) ggX3_next_X3_way
set_option maxRecDepth 20000 in
theorem ggX3_isAhead_X3_get : GoodIn wsX3_isAhead wsX3_get := goodIn_r _ [5, 6, 7, 8, 9, 10, 11, 12, 13, 14, 15] (by decide +kernel) (by decide +kernel)
set_option maxRecDepth 20000 in
theorem gX3_isAhead_X3_get : GoodIn wsX3_isAhead (wsV RX3 56 RX3 yX3_get wsX3_get) := goodIn_app (goodIn_of _ (by decide +kernel)) ggX3_isAhead_X3_get
set_option maxRecDepth 20000 in
theorem ggX3_rankOf_X3_isAhead : GoodIn wsX3_rankOf wsX3_isAhead := goodIn_r _ [6, 7, 8, 9, 5, 10, 11, 12, 13, 14, 15, 16, 17, 18, 19, 20] (by decide +kernel) (by decide +kernel)
set_option maxRecDepth 20000 in
theorem gX3_rankOf_X3_isAhead : GoodIn wsX3_rankOf (wsV RX3 124 RX3 yX3_isAhead wsX3_isAhead) := goodIn_app (goodIn_of _ (by decide +kernel)) ggX3_rankOf_X3_isAhead
set_option maxRecDepth 20000 in
theorem ggX3_teamAt_X3_rankOf : GoodIn wsX3_teamAt wsX3_rankOf := goodIn_r _ [5, 6, 7, 8, 9, 4, 10, 11, 12, 13, 14, 15, 16, 17, 18, 19, 20, 21, 22, 23, 24] (by decide +kernel) (by decide +kernel)
set_option maxRecDepth 20000 in
theorem gX3_teamAt_X3_rankOf : GoodIn wsX3_teamAt (wsV RX3 127 RX3 yX3_rankOf wsX3_rankOf) := goodIn_app (goodIn_of _ (by decide +kernel)) ggX3_teamAt_X3_rankOf
set_option maxRecDepth 20000 in
theorem ggX3_ranked_X3_isIn : GoodIn wsX3_ranked wsX3_isIn := goodIn_r _ [6] (by decide +kernel) (by decide +kernel)
set_option maxRecDepth 20000 in
theorem gX3_ranked_X3_isIn : GoodIn wsX3_ranked (va_wsS RX3 32 yX3_isIn wsX3_isIn) := goodIn_app (goodIn_of _ (by decide +kernel)) ggX3_ranked_X3_isIn
set_option maxRecDepth 20000 in
theorem ggX3_ranked_X3_teamAt : GoodIn wsX3_ranked wsX3_teamAt := goodIn_r _ [10, 11, 12, 13, 5, 14, 2, 15, 16, 17, 18, 19, 20, 21, 22, 23, 28, 29, 30, 31, 32, 33, 34, 35, 36] (by decide +kernel) (by decide +kernel)
set_option maxRecDepth 20000 in
theorem gX3_ranked_X3_teamAt : GoodIn wsX3_ranked (wsV RX3 130 RX3 yX3_teamAt wsX3_teamAt) := goodIn_app (goodIn_of _ (by decide +kernel)) ggX3_ranked_X3_teamAt
set_option maxRecDepth 20000 in
theorem ggX3_ranked_X3_fail : GoodIn wsX3_ranked wsX3_fail := goodIn_r _ [27, 1, 28, 29, 30, 31, 32, 33, 34, 35, 36] (by decide +kernel) (by decide +kernel)
set_option maxRecDepth 20000 in
theorem gX3_ranked_X3_fail : GoodIn wsX3_ranked (wsV RX3 36 RX3 yX3_fail wsX3_fail) := goodIn_app (goodIn_of _ (by decide +kernel)) ggX3_ranked_X3_fail
set_option maxRecDepth 20000 in
theorem ggX3_foresee_X3_isTeam : GoodIn wsX3_foresee wsX3_isTeam := goodIn_r _ [14, 15, 16, 17, 13, 18, 97, 98, 99, 100, 101, 102, 103, 104, 105] (by decide +kernel) (by decide +kernel)
set_option maxRecDepth 20000 in
theorem gX3_foresee_X3_isTeam : GoodIn wsX3_foresee (wsV RX3 64 RX3 yX3_isTeam wsX3_isTeam) := goodIn_app (goodIn_of _ (by decide +kernel)) ggX3_foresee_X3_isTeam
set_option maxRecDepth 20000 in
theorem ggX3_foresee_X3_isIn : GoodIn wsX3_foresee wsX3_isIn := goodIn_r _ [18] (by decide +kernel) (by decide +kernel)
set_option maxRecDepth 20000 in
theorem gX3_foresee_X3_isIn : GoodIn wsX3_foresee (va_wsS RX3 32 yX3_isIn wsX3_isIn) := goodIn_app (goodIn_of _ (by decide +kernel)) ggX3_foresee_X3_isIn
set_option maxRecDepth 20000 in
theorem ggX3_foresee_X3_fail : GoodIn wsX3_foresee wsX3_fail := goodIn_r _ [22, 1, 97, 98, 99, 100, 101, 102, 103, 104, 105] (by decide +kernel) (by decide +kernel)
set_option maxRecDepth 20000 in
theorem gX3_foresee_X3_fail : GoodIn wsX3_foresee (wsV RX3 36 RX3 yX3_fail wsX3_fail) := goodIn_app (goodIn_of _ (by decide +kernel)) ggX3_foresee_X3_fail
set_option maxRecDepth 20000 in
theorem ggX3_foresee_X3_tickOn : GoodIn wsX3_foresee wsX3_tickOn := goodIn_r _ [26, 2, 15, 27, 28, 29, 13, 30, 31, 32, 33, 34, 3, 35, 36, 37, 38, 39, 4, 40, 41, 42, 43, 44, 45, 46, 47, 48, 49, 50, 51, 52, 53, 54, 55, 56, 57, 58, 59, 60, 61, 62, 63, 64, 65, 66, 67, 68, 69, 70, 71, 72, 73, 74, 75, 76, 77, 78, 79, 80, 81, 82, 83, 84, 85, 86, 87, 88, 97, 98, 99, 100, 101, 102, 103, 104, 105] (by decide +kernel) (by decide +kernel)
set_option maxRecDepth 20000 in
theorem gX3_foresee_X3_tickOn : GoodIn wsX3_foresee (wsV RX3 111 RX3 yX3_tickOn wsX3_tickOn) := goodIn_app (goodIn_of _ (by decide +kernel)) ggX3_foresee_X3_tickOn
set_option maxRecDepth 20000 in
theorem ggX3_foresee_X3_get : GoodIn wsX3_foresee wsX3_get := goodIn_r _ [39, 4, 97, 98, 99, 100, 101, 102, 103, 104, 105] (by decide +kernel) (by decide +kernel)
set_option maxRecDepth 20000 in
theorem gX3_foresee_X3_get : GoodIn wsX3_foresee (wsV RX3 56 RX3 yX3_get wsX3_get) := goodIn_app (goodIn_of _ (by decide +kernel)) ggX3_foresee_X3_get
set_option maxRecDepth 20000 in
theorem ggX3_foresee_X3_rankOf : GoodIn wsX3_foresee wsX3_rankOf := goodIn_r _ [92, 15, 93, 94, 95, 13, 96, 36, 37, 38, 39, 4, 97, 98, 99, 100, 101, 102, 103, 104, 105] (by decide +kernel) (by decide +kernel)
set_option maxRecDepth 20000 in
theorem gX3_foresee_X3_rankOf : GoodIn wsX3_foresee (wsV RX3 127 RX3 yX3_rankOf wsX3_rankOf) := goodIn_app (goodIn_of _ (by decide +kernel)) ggX3_foresee_X3_rankOf
set_option maxRecDepth 20000 in
theorem ggX3_advise_X3_isTeam : GoodIn wsX3_advise wsX3_isTeam := goodIn_r _ [6, 7, 8, 9, 5, 10, 101, 102, 103, 104, 105, 106, 107, 108, 109] (by decide +kernel) (by decide +kernel)
set_option maxRecDepth 20000 in
theorem gX3_advise_X3_isTeam : GoodIn wsX3_advise (wsV RX3 64 RX3 yX3_isTeam wsX3_isTeam) := goodIn_app (goodIn_of _ (by decide +kernel)) ggX3_advise_X3_isTeam
set_option maxRecDepth 20000 in
theorem ggX3_advise_X3_fail : GoodIn wsX3_advise wsX3_fail := goodIn_r _ [14, 1, 101, 102, 103, 104, 105, 106, 107, 108, 109] (by decide +kernel) (by decide +kernel)
set_option maxRecDepth 20000 in
theorem gX3_advise_X3_fail : GoodIn wsX3_advise (wsV RX3 36 RX3 yX3_fail wsX3_fail) := goodIn_app (goodIn_of _ (by decide +kernel)) ggX3_advise_X3_fail
set_option maxRecDepth 20000 in
theorem ggX3_advise_X3_isIn : GoodIn wsX3_advise wsX3_isIn := goodIn_r _ [10] (by decide +kernel) (by decide +kernel)
set_option maxRecDepth 20000 in
theorem gX3_advise_X3_isIn : GoodIn wsX3_advise (va_wsS RX3 32 yX3_isIn wsX3_isIn) := goodIn_app (goodIn_of _ (by decide +kernel)) ggX3_advise_X3_isIn
set_option maxRecDepth 20000 in
theorem ggX3_advise_X3_get : GoodIn wsX3_advise wsX3_get := goodIn_r _ [18, 19, 101, 102, 103, 104, 105, 106, 107, 108, 109] (by decide +kernel) (by decide +kernel)
set_option maxRecDepth 20000 in
theorem gX3_advise_X3_get : GoodIn wsX3_advise (wsV RX3 56 RX3 yX3_get wsX3_get) := goodIn_app (goodIn_of _ (by decide +kernel)) ggX3_advise_X3_get
set_option maxRecDepth 20000 in
theorem ggX3_advise_X3_set : GoodIn wsX3_advise wsX3_set := goodIn_r _ [23, 19, 101, 102, 103, 104, 105, 106, 107, 108, 109] (by decide +kernel) (by decide +kernel)
set_option maxRecDepth 20000 in
theorem gX3_advise_X3_set : GoodIn wsX3_advise (wsV RX3 52 RX3 yX3_set wsX3_set) := goodIn_app (goodIn_of _ (by decide +kernel)) ggX3_advise_X3_set
set_option maxRecDepth 20000 in
theorem ggX3_advise_X3_foresee : GoodIn wsX3_advise wsX3_foresee := goodIn_r _ [27, 1, 28, 29, 19, 30, 31, 32, 33, 34, 2, 3, 4, 5, 6, 7, 8, 9, 10, 11, 12, 13, 14, 35, 36, 37, 38, 39, 40, 41, 42, 43, 44, 45, 46, 47, 15, 16, 17, 18, 48, 49, 50, 51, 20, 21, 22, 23, 52, 53, 54, 55, 56, 57, 58, 59, 60, 61, 62, 63, 64, 65, 66, 67, 68, 69, 70, 71, 72, 73, 74, 75, 76, 77, 78, 79, 80, 81, 82, 83, 84, 85, 86, 87, 88, 89, 90, 91, 92, 93, 94, 95, 96, 97, 98, 99, 100, 101, 102, 103, 104, 105, 106, 107, 108, 109] (by decide +kernel) (by decide +kernel)
set_option maxRecDepth 20000 in
theorem gX3_advise_X3_foresee : GoodIn wsX3_advise (wsV RX3 133 RX3 yX3_foresee wsX3_foresee) := goodIn_app (goodIn_of _ (by decide +kernel)) ggX3_advise_X3_foresee
set_option maxRecDepth 20000 in
theorem ggX3_mean_X3_get : GoodIn wsX3_mean wsX3_get := goodIn_r _ [7, 8, 9, 10, 11, 12, 13, 14, 15, 16, 17] (by decide +kernel) (by decide +kernel)
set_option maxRecDepth 20000 in
theorem gX3_mean_X3_get : GoodIn wsX3_mean (wsV RX3 56 RX3 yX3_get wsX3_get) := goodIn_app (goodIn_of _ (by decide +kernel)) ggX3_mean_X3_get
set_option maxRecDepth 20000 in
theorem ggX3_digest_X3_counted : GoodIn wsX3_digest wsX3_counted := goodIn_r _ [9, 10, 4, 11, 12, 13, 14, 15, 16, 8, 17, 18, 19, 20, 21, 22, 51, 52, 53, 54, 55, 56, 57, 58, 59] (by decide +kernel) (by decide +kernel)
set_option maxRecDepth 20000 in
theorem gX3_digest_X3_counted : GoodIn wsX3_digest (wsV RX3 118 RX3 yX3_counted wsX3_counted) := goodIn_app (goodIn_of _ (by decide +kernel)) ggX3_digest_X3_counted
set_option maxRecDepth 20000 in
theorem ggX3_digest_X3_teamTold : GoodIn wsX3_digest wsX3_teamTold := goodIn_r _ [26, 18, 19, 20, 8, 21, 22, 27, 28, 29, 30, 31, 32, 33, 34, 35, 36, 37, 38, 51, 52, 53, 54, 55, 56, 57, 58, 59] (by decide +kernel) (by decide +kernel)
set_option maxRecDepth 20000 in
theorem gX3_digest_X3_teamTold : GoodIn wsX3_digest (wsV RX3 121 RX3 yX3_teamTold wsX3_teamTold) := goodIn_app (goodIn_of _ (by decide +kernel)) ggX3_digest_X3_teamTold
set_option maxRecDepth 20000 in
theorem ggX3_digest_X3_get : GoodIn wsX3_digest wsX3_get := goodIn_r _ [21, 22, 51, 52, 53, 54, 55, 56, 57, 58, 59] (by decide +kernel) (by decide +kernel)
set_option maxRecDepth 20000 in
theorem gX3_digest_X3_get : GoodIn wsX3_digest (wsV RX3 56 RX3 yX3_get wsX3_get) := goodIn_app (goodIn_of _ (by decide +kernel)) ggX3_digest_X3_get
set_option maxRecDepth 20000 in
theorem ggX3_digest_X3_isCarried : GoodIn wsX3_digest wsX3_isCarried := goodIn_r _ [38, 18, 19, 20, 8, 21, 22, 51, 52, 53, 54, 55, 56, 57, 58, 59] (by decide +kernel) (by decide +kernel)
set_option maxRecDepth 20000 in
theorem gX3_digest_X3_isCarried : GoodIn wsX3_digest (wsV RX3 68 RX3 yX3_isCarried wsX3_isCarried) := goodIn_app (goodIn_of _ (by decide +kernel)) ggX3_digest_X3_isCarried
set_option maxRecDepth 20000 in
theorem ggX3_digest_X3_teamAt : GoodIn wsX3_digest wsX3_teamAt := goodIn_r _ [42, 43, 44, 45, 8, 46, 4, 47, 48, 49, 50, 18, 19, 20, 21, 22, 51, 52, 53, 54, 55, 56, 57, 58, 59] (by decide +kernel) (by decide +kernel)
set_option maxRecDepth 20000 in
theorem gX3_digest_X3_teamAt : GoodIn wsX3_digest (wsV RX3 130 RX3 yX3_teamAt wsX3_teamAt) := goodIn_app (goodIn_of _ (by decide +kernel)) ggX3_digest_X3_teamAt
