set_option maxRecDepth 20000 in
theorem ggL_law_X3_count : GoodIn wsL_law wsX3_count := goodIn_r _ [360, 97, 99, 100, 5, 101, 361, 362, 363, 364, 98, 163, 67, 68, 291, 329, 330, 331, 332, 172, 173, 174, 175, 70, 102, 103, 104, 105, 514, 515, 516, 517, 518, 519, 520, 521, 522] (by decide +kernel) (by decide +kernel)
set_option maxRecDepth 20000 in
theorem gL_law_X3_count : GoodIn wsL_law (wsV RL 103 RX3 yX3_count wsX3_count) := goodIn_app (goodIn_of _ (by decide +kernel)) ggL_law_X3_count
set_option maxRecDepth 20000 in
theorem ggL_law_L_team : GoodIn wsL_law wsL_team := goodIn_ca (goodIn_r _ [367, 179, 368, 369, 370, 2, 371, 188, 189, 184, 185, 186, 187, 18, 84, 85, 86, 372, 373, 374, 20, 375, 56, 57, 58, 59, 62, 47, 48, 61, 249, 250, 251, 252, 42, 49, 253, 254, 255, 256, 40, 508, 509, 510, 511, 512, 513, 528, 529, 530, 531, 532, 533, 534, 535, 536, 537, 538, 539, 540, 541, 542, 543, 544, 545, 546, 547] (by decide +kernel) (by decide +kernel)) (goodIn_sub (fun _ h => List.mem_append_right _ h) (by decide +kernel))
set_option maxRecDepth 20000 in
theorem gL_law_L_team : GoodIn wsL_law (va_wsS RL 104 yL_team wsL_team) := goodIn_app (goodIn_of _ (by decide +kernel)) ggL_law_L_team
set_option maxRecDepth 20000 in
theorem ggL_law_X3_team : GoodIn wsL_law wsX3_team := goodIn_r _ [379, 97, 194, 195, 196, 5, 197, 163, 99, 100, 101, 380, 381, 382, 383, 172, 173, 174, 175, 70, 313, 314, 315, 316, 317, 318, 319, 320, 321, 322, 323, 324, 102, 103, 104, 105, 514, 515, 516, 517, 518, 519, 520, 521, 522] (by decide +kernel) (by decide +kernel)
set_option maxRecDepth 20000 in
theorem gL_law_X3_team : GoodIn wsL_law (wsV RL 107 RX3 yX3_team wsX3_team) := goodIn_app (goodIn_of _ (by decide +kernel)) ggL_law_X3_team
set_option maxRecDepth 20000 in
theorem ggL_law_L_roller : GoodIn wsL_law wsL_roller := goodIn_ca (goodIn_ca (goodIn_r _ [386, 179, 77, 387, 388, 389, 2, 390, 188, 189, 91, 92, 184, 185, 186, 187, 18, 528, 529, 530, 531, 532, 533, 534, 535, 536, 537, 538, 539, 540, 541, 542, 543, 544, 545, 546, 547, 508, 509, 510, 511, 512, 513] (by decide +kernel) (by decide +kernel)) (goodIn_sub (fun _ h => List.mem_append_right _ h) (by decide +kernel))) (goodIn_sub (fun _ h => List.mem_append_left _ (List.mem_append_right _ h)) (by decide +kernel))
set_option maxRecDepth 20000 in
theorem gL_law_L_roller : GoodIn wsL_law (va_wsS RL 108 yL_roller wsL_roller) := goodIn_app (goodIn_of _ (by decide +kernel)) ggL_law_L_roller
set_option maxRecDepth 20000 in
theorem ggL_law_X3_roller : GoodIn wsL_law wsX3_roller := goodIn_r _ [394, 97, 194, 195, 196, 5, 197, 163, 99, 100, 101, 172, 173, 174, 175, 70, 102, 103, 104, 105, 321, 322, 323, 324, 514, 515, 516, 517, 518, 519, 520, 521, 522] (by decide +kernel) (by decide +kernel)
set_option maxRecDepth 20000 in
theorem gL_law_X3_roller : GoodIn wsL_law (wsV RL 110 RX3 yX3_roller wsX3_roller) := goodIn_app (goodIn_of _ (by decide +kernel)) ggL_law_X3_roller
set_option maxRecDepth 20000 in
theorem ggL_law_L_next : GoodIn wsL_law wsL_next := goodIn_ca (goodIn_r _ [397, 179, 398, 399, 400, 2, 401, 188, 189, 16, 184, 185, 186, 187, 18, 84, 85, 86, 402, 229, 230, 20, 231, 43, 44, 47, 57, 403, 245, 246, 247, 56, 41, 236, 145, 146, 147, 241, 242, 243, 248, 141, 142, 15, 143, 32, 31, 144, 33, 30, 249, 250, 251, 252, 42, 49, 253, 254, 255, 256, 40, 404, 258, 259, 260, 508, 509, 510, 511, 512, 513, 528, 529, 530, 531, 532, 533, 534, 535, 536, 537, 538, 539, 540, 541, 542, 543, 544, 545, 546, 547, 523, 524, 525, 526, 527] (by decide +kernel) (by decide +kernel)) (goodIn_sub (fun _ h => List.mem_append_right _ h) (by decide +kernel))
set_option maxRecDepth 20000 in
theorem gL_law_L_next : GoodIn wsL_law (va_wsS RL 111 yL_next wsL_next) := goodIn_app (goodIn_of _ (by decide +kernel)) ggL_law_L_next
set_option maxRecDepth 20000 in
theorem ggL_law_X3_next : GoodIn wsL_law wsX3_next := goodIn_r _ [408, 97, 194, 195, 196, 5, 197, 163, 99, 100, 101, 102, 103, 104, 105, 292, 293, 294, 295, 172, 173, 174, 175, 70, 309, 310, 311, 312, 69, 290, 145, 146, 147, 300, 242, 243, 129, 130, 131, 132, 68, 313, 314, 315, 316, 317, 318, 319, 320, 321, 322, 323, 324, 305, 306, 307, 308, 514, 515, 516, 517, 518, 519, 520, 521, 522] (by decide +kernel) (by decide +kernel)
set_option maxRecDepth 20000 in
theorem gL_law_X3_next : GoodIn wsL_law (wsV RL 113 RX3 yX3_next wsX3_next) := goodIn_app (goodIn_of _ (by decide +kernel)) ggL_law_X3_next
set_option maxRecDepth 20000 in
theorem ggL_law_L_ranked : GoodIn wsL_law wsL_ranked := goodIn_ca (goodIn_r _ [411, 179, 412, 413, 414, 2, 415, 188, 189, 23, 416, 417, 418, 419, 18, 420, 421, 422, 423, 424, 425, 426, 20, 427, 62, 56, 39, 224, 225, 226, 227, 508, 509, 510, 511, 512, 513, 528, 529, 530, 531, 532, 533, 534, 535, 536, 537, 538, 539, 540, 541, 542, 543, 544, 545, 546, 547] (by decide +kernel) (by decide +kernel)) (goodIn_sub (fun _ h => List.mem_append_right _ h) (by decide +kernel))
set_option maxRecDepth 20000 in
theorem gL_law_L_ranked : GoodIn wsL_law (va_wsS RL 114 yL_ranked wsL_ranked) := goodIn_app (goodIn_of _ (by decide +kernel)) ggL_law_L_ranked
set_option maxRecDepth 20000 in
theorem ggL_law_X3_ranked : GoodIn wsL_law wsX3_ranked := goodIn_r _ [431, 97, 163, 99, 100, 5, 101, 432, 433, 434, 435, 436, 437, 438, 439, 440, 441, 442, 443, 172, 173, 174, 175, 70, 102, 103, 104, 105, 514, 515, 516, 517, 518, 519, 520, 521, 522] (by decide +kernel) (by decide +kernel)
set_option maxRecDepth 20000 in
theorem gL_law_X3_ranked : GoodIn wsL_law (wsV RL 116 RX3 yX3_ranked wsX3_ranked) := goodIn_app (goodIn_of _ (by decide +kernel)) ggL_law_X3_ranked
set_option maxRecDepth 20000 in
theorem ggL_law_L_foresee : GoodIn wsL_law wsL_foresee := goodIn_ca (goodIn_ca (goodIn_r _ [446, 179, 76, 447, 448, 449, 2, 450, 188, 189, 82, 83, 21, 184, 185, 186, 187, 18, 84, 85, 86, 451, 452, 453, 454, 24, 16, 455, 456, 457, 20, 458, 39, 40, 41, 42, 43, 44, 45, 46, 47, 48, 56, 57, 58, 59, 60, 61, 62, 49, 50, 51, 459, 460, 461, 220, 221, 222, 223, 224, 225, 226, 227, 228, 229, 230, 231, 232, 233, 234, 235, 236, 145, 146, 147, 237, 238, 239, 240, 241, 242, 243, 244, 245, 246, 247, 248, 141, 142, 15, 143, 32, 31, 144, 33, 30, 249, 250, 251, 252, 253, 254, 255, 256, 257, 258, 259, 260, 261, 262, 263, 264, 265, 266, 267, 268, 269, 270, 271, 272, 462, 463, 464, 465, 22, 424, 425, 426, 427, 508, 509, 510, 511, 512, 513, 528, 529, 530, 531, 532, 533, 534, 535, 536, 537, 538, 539, 540, 541, 542, 543, 544, 545, 546, 547, 523, 524, 525, 526, 527] (by decide +kernel) (by decide +kernel)) (goodIn_sub (fun _ h => List.mem_append_right _ h) (by decide +kernel))) (goodIn_sub (fun _ h => List.mem_append_left _ (List.mem_append_left _ (List.mem_append_right _ h))) (by decide +kernel))
set_option maxRecDepth 20000 in
theorem gL_law_L_foresee : GoodIn wsL_law (va_wsS RL 117 yL_foresee wsL_foresee) := goodIn_app (goodIn_of _ (by decide +kernel)) ggL_law_L_foresee
