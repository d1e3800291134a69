set_option maxRecDepth 20000 in
theorem ggL_law_X3_addTeam : GoodIn wsL_law wsX3_addTeam := goodIn_r _ [162, 97, 163, 98, 29, 70, 125, 126, 127, 128, 99, 100, 5, 101, 102, 103, 104, 105, 164, 165, 166, 167, 168, 169, 170, 171, 172, 173, 174, 175, 514, 515, 516, 517, 518, 519, 520, 521, 522] (by decide +kernel) (by decide +kernel)
set_option maxRecDepth 20000 in
theorem gL_law_X3_addTeam : GoodIn wsL_law (wsV RL 86 RX3 yX3_addTeam wsX3_addTeam) := goodIn_app (goodIn_of _ (by decide +kernel)) ggL_law_X3_addTeam
set_option maxRecDepth 20000 in
theorem ggL_law_L_setCrew : GoodIn wsL_law wsL_setCrew := goodIn_ca (goodIn_ca (goodIn_ca (goodIn_r _ [178, 179, 76, 77, 180, 181, 182, 2, 183, 82, 83, 184, 185, 186, 187, 188, 189, 18, 84, 85, 86, 87, 88, 89, 90, 91, 92, 24, 528, 529, 530, 531, 532, 533, 534, 535, 536, 537, 538, 539, 540, 541, 542, 543, 544, 545, 546, 547, 508, 509, 510, 511, 512, 513] (by decide +kernel) (by decide +kernel)) (goodIn_sub (fun _ h => List.mem_append_left _ (List.mem_append_left _ (List.mem_append_right _ h))) (by decide +kernel))) (goodIn_sub (fun _ h => List.mem_append_right _ h) (by decide +kernel))) (goodIn_sub (fun _ h => List.mem_append_left _ (List.mem_append_right _ h)) (by decide +kernel))
set_option maxRecDepth 20000 in
theorem gL_law_L_setCrew : GoodIn wsL_law (va_wsS RL 87 yL_setCrew wsL_setCrew) := goodIn_app (goodIn_of _ (by decide +kernel)) ggL_law_L_setCrew
set_option maxRecDepth 20000 in
theorem ggL_law_X3_setCrew : GoodIn wsL_law wsX3_setCrew := goodIn_r _ [193, 97, 98, 29, 70, 125, 126, 127, 128, 194, 195, 196, 5, 197, 163, 99, 100, 101, 102, 103, 104, 105, 172, 173, 174, 175, 168, 169, 170, 171, 514, 515, 516, 517, 518, 519, 520, 521, 522] (by decide +kernel) (by decide +kernel)
set_option maxRecDepth 20000 in
theorem gL_law_X3_setCrew : GoodIn wsL_law (wsV RL 90 RX3 yX3_setCrew wsX3_setCrew) := goodIn_app (goodIn_of _ (by decide +kernel)) ggL_law_X3_setCrew
set_option maxRecDepth 20000 in
theorem ggL_law_L_order : GoodIn wsL_law wsL_order := goodIn_ca (goodIn_ca (goodIn_r _ [200, 179, 76, 201, 202, 203, 2, 204, 82, 83, 184, 185, 186, 187, 188, 189, 18, 84, 85, 86, 528, 529, 530, 531, 532, 533, 534, 535, 536, 537, 538, 539, 540, 541, 542, 543, 544, 545, 546, 547, 508, 509, 510, 511, 512, 513] (by decide +kernel) (by decide +kernel)) (goodIn_sub (fun _ h => List.mem_append_left _ (List.mem_append_left _ (List.mem_append_right _ h))) (by decide +kernel))) (goodIn_sub (fun _ h => List.mem_append_right _ h) (by decide +kernel))
set_option maxRecDepth 20000 in
theorem gL_law_L_order : GoodIn wsL_law (va_wsS RL 91 yL_order wsL_order) := goodIn_app (goodIn_of _ (by decide +kernel)) ggL_law_L_order
set_option maxRecDepth 20000 in
theorem ggL_law_X3_order : GoodIn wsL_law wsX3_order := goodIn_r _ [208, 97, 194, 195, 196, 5, 197, 163, 99, 100, 101, 102, 103, 104, 105, 172, 173, 174, 175, 70, 168, 169, 170, 171, 514, 515, 516, 517, 518, 519, 520, 521, 522] (by decide +kernel) (by decide +kernel)
set_option maxRecDepth 20000 in
theorem gL_law_X3_order : GoodIn wsL_law (wsV RL 93 RX3 yX3_order wsX3_order) := goodIn_app (goodIn_of _ (by decide +kernel)) ggL_law_X3_order
set_option maxRecDepth 20000 in
theorem ggL_law_L_run : GoodIn wsL_law wsL_run := goodIn_ca (goodIn_ca (goodIn_r _ [211, 76, 77, 212, 213, 214, 2, 215, 82, 83, 91, 92, 23, 84, 85, 86, 216, 217, 218, 219, 24, 18, 16, 220, 221, 222, 20, 223, 59, 58, 61, 47, 56, 62, 224, 225, 226, 227, 228, 229, 230, 231, 43, 44, 57, 232, 233, 234, 235, 236, 145, 146, 147, 60, 237, 238, 239, 240, 241, 242, 243, 244, 245, 246, 247, 41, 248, 141, 142, 15, 143, 32, 31, 144, 33, 30, 249, 250, 251, 252, 42, 49, 253, 254, 255, 256, 40, 257, 258, 259, 260, 261, 262, 263, 264, 265, 266, 267, 268, 45, 50, 51, 48, 269, 270, 271, 272, 273, 274, 275, 276, 277, 508, 509, 510, 511, 512, 513, 528, 529, 530, 531, 532, 533, 534, 535, 536, 537, 538, 539, 540, 541, 542, 543, 544, 545, 546, 547, 523, 524, 525, 526, 527] (by decide +kernel) (by decide +kernel)) (goodIn_sub (fun _ h => List.mem_append_left _ (List.mem_append_left _ (List.mem_append_right _ h))) (by decide +kernel))) (goodIn_sub (fun _ h => List.mem_append_left _ (List.mem_append_right _ h)) (by decide +kernel))
set_option maxRecDepth 20000 in
theorem gL_law_L_run : GoodIn wsL_law (va_wsS RL 94 yL_run wsL_run) := goodIn_app (goodIn_of _ (by decide +kernel)) ggL_law_L_run
set_option maxRecDepth 20000 in
theorem ggL_law_X3_run : GoodIn wsL_law wsX3_run := goodIn_r _ [281, 97, 163, 99, 100, 5, 101, 102, 103, 104, 105, 282, 283, 284, 285, 98, 286, 287, 288, 289, 290, 145, 146, 147, 291, 67, 172, 173, 174, 175, 70, 292, 293, 294, 295, 168, 169, 170, 171, 296, 297, 298, 299, 300, 242, 243, 301, 302, 303, 304, 305, 306, 307, 308, 309, 310, 311, 312, 69, 129, 130, 131, 132, 68, 313, 314, 315, 316, 317, 318, 319, 320, 321, 322, 323, 324, 325, 326, 327, 328, 329, 330, 331, 332, 514, 515, 516, 517, 518, 519, 520, 521, 522] (by decide +kernel) (by decide +kernel)
set_option maxRecDepth 20000 in
theorem gL_law_X3_run : GoodIn wsL_law (wsV RL 96 RX3 yX3_run wsX3_run) := goodIn_app (goodIn_of _ (by decide +kernel)) ggL_law_X3_run
set_option maxRecDepth 20000 in
theorem ggL_law_X2_restart : GoodIn wsL_law wsX2_restart := goodIn_r _ [336, 24, 18, 23, 337, 53, 54, 20, 55, 56, 57, 46, 58, 59, 60, 61, 62, 42, 49, 40, 50, 51, 508, 509, 510, 511, 512, 513, 528, 529, 530, 531, 532, 533, 534, 535, 536, 537, 538, 539, 540, 541, 542, 543, 544, 545, 546, 547] (by decide +kernel) (by decide +kernel)
set_option maxRecDepth 20000 in
theorem gL_law_X2_restart : GoodIn wsL_law (wsV RL 97 RX2 yX2_restart wsX2_restart) := goodIn_app (goodIn_of _ (by decide +kernel)) ggL_law_X2_restart
set_option maxRecDepth 20000 in
theorem ggL_law_X3_restart : GoodIn wsL_law wsX3_restart := goodIn_r _ [341, 97, 98, 291, 163, 164, 165, 166, 5, 167, 168, 169, 170, 171, 70, 172, 173, 174, 175, 514, 515, 516, 517, 518, 519, 520, 521, 522] (by decide +kernel) (by decide +kernel)
set_option maxRecDepth 20000 in
theorem gL_law_X3_restart : GoodIn wsL_law (wsV RL 100 RX3 yX3_restart wsX3_restart) := goodIn_app (goodIn_of _ (by decide +kernel)) ggL_law_X3_restart
set_option maxRecDepth 20000 in
theorem ggL_law_L_count : GoodIn wsL_law wsL_count := goodIn_ca (goodIn_r _ [344, 179, 345, 346, 347, 2, 348, 188, 189, 84, 85, 86, 349, 350, 351, 352, 24, 23, 16, 273, 274, 275, 276, 18, 277, 225, 226, 20, 227, 62, 353, 354, 355, 356, 508, 509, 510, 511, 512, 513, 523, 524, 525, 526, 527, 528, 529, 530, 531, 532, 533, 534, 535, 536, 537, 538, 539, 540, 541, 542, 543, 544, 545, 546, 547] (by decide +kernel) (by decide +kernel)) (goodIn_sub (fun _ h => List.mem_append_right _ h) (by decide +kernel))
set_option maxRecDepth 20000 in
theorem gL_law_L_count : GoodIn wsL_law (va_wsS RL 101 yL_count wsL_count) := goodIn_app (goodIn_of _ (by decide +kernel)) ggL_law_L_count
