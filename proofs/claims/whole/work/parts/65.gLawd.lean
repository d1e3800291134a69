set_option maxRecDepth 20000 in
theorem ggL_law_X3_foresee : GoodIn wsL_law wsX3_foresee := goodIn_r _ [469, 97, 98, 291, 70, 71, 125, 126, 127, 128, 194, 195, 196, 5, 197, 163, 99, 100, 101, 102, 103, 104, 105, 282, 283, 284, 285, 286, 287, 288, 289, 290, 145, 146, 147, 67, 172, 173, 174, 175, 292, 293, 294, 295, 168, 169, 170, 171, 296, 297, 298, 299, 300, 242, 243, 301, 302, 303, 304, 305, 306, 307, 308, 309, 310, 311, 312, 69, 129, 130, 131, 132, 68, 313, 314, 315, 316, 317, 318, 319, 320, 321, 322, 323, 324, 325, 326, 327, 328, 436, 437, 438, 439, 440, 441, 442, 443, 514, 515, 516, 517, 518, 519, 520, 521, 522] (by decide +kernel) (by decide +kernel)
set_option maxRecDepth 20000 in
theorem gL_law_X3_foresee : GoodIn wsL_law (wsV RL 119 RX3 yX3_foresee wsX3_foresee) := goodIn_app (goodIn_of _ (by decide +kernel)) ggL_law_X3_foresee
set_option maxRecDepth 20000 in
theorem ggL_law_L_advise : GoodIn wsL_law wsL_advise := goodIn_ca (goodIn_ca (goodIn_r _ [472, 179, 76, 473, 474, 475, 2, 476, 82, 83, 21, 184, 185, 186, 187, 188, 189, 18, 84, 85, 86, 451, 452, 453, 454, 24, 16, 455, 456, 457, 20, 458, 39, 40, 41, 42, 43, 44, 45, 46, 47, 48, 56, 57, 58, 59, 60, 61, 62, 49, 50, 51, 459, 460, 461, 220, 221, 222, 223, 224, 225, 226, 227, 228, 229, 230, 231, 232, 233, 234, 235, 236, 145, 146, 147, 237, 238, 239, 240, 241, 242, 243, 244, 245, 246, 247, 248, 141, 142, 15, 143, 32, 31, 144, 33, 30, 249, 250, 251, 252, 253, 254, 255, 256, 257, 258, 259, 260, 261, 262, 263, 264, 265, 266, 267, 268, 269, 270, 271, 272, 508, 509, 510, 511, 512, 513, 528, 529, 530, 531, 532, 533, 534, 535, 536, 537, 538, 539, 540, 541, 542, 543, 544, 545, 546, 547, 523, 524, 525, 526, 527] (by decide +kernel) (by decide +kernel)) (goodIn_sub (fun _ h => List.mem_append_left _ (List.mem_append_left _ (List.mem_append_right _ h))) (by decide +kernel))) (goodIn_sub (fun _ h => List.mem_append_right _ h) (by decide +kernel))
set_option maxRecDepth 20000 in
theorem gL_law_L_advise : GoodIn wsL_law (va_wsS RL 120 yL_advise wsL_advise) := goodIn_app (goodIn_of _ (by decide +kernel)) ggL_law_L_advise
set_option maxRecDepth 20000 in
theorem ggL_law_X3_advise : GoodIn wsL_law wsX3_advise := goodIn_r _ [480, 97, 194, 195, 196, 5, 197, 163, 99, 100, 101, 102, 103, 104, 105, 172, 173, 174, 175, 70, 168, 169, 170, 171, 481, 467, 468, 469, 98, 291, 71, 125, 126, 127, 128, 282, 283, 284, 285, 286, 287, 288, 289, 290, 145, 146, 147, 67, 292, 293, 294, 295, 296, 297, 298, 299, 300, 242, 243, 301, 302, 303, 304, 305, 306, 307, 308, 309, 310, 311, 312, 69, 129, 130, 131, 132, 68, 313, 314, 315, 316, 317, 318, 319, 320, 321, 322, 323, 324, 325, 326, 327, 328, 436, 437, 438, 439, 440, 441, 442, 443, 514, 515, 516, 517, 518, 519, 520, 521, 522] (by decide +kernel) (by decide +kernel)
set_option maxRecDepth 20000 in
theorem gL_law_X3_advise : GoodIn wsL_law (wsV RL 122 RX3 yX3_advise wsX3_advise) := goodIn_app (goodIn_of _ (by decide +kernel)) ggL_law_X3_advise
set_option maxRecDepth 20000 in
theorem ggL_law_X2_mean : GoodIn wsL_law wsX2_mean := goodIn_r _ [485, 23, 18, 508, 509, 510, 511, 512, 513, 528, 529, 530, 531, 532, 533, 534, 535, 536, 537, 538, 539, 540, 541, 542, 543, 544, 545, 546, 547] (by decide +kernel) (by decide +kernel)
set_option maxRecDepth 20000 in
theorem gL_law_X2_mean : GoodIn wsL_law (wsV RL 123 RX2 yX2_mean wsX2_mean) := goodIn_app (goodIn_of _ (by decide +kernel)) ggL_law_X2_mean
set_option maxRecDepth 20000 in
theorem ggL_law_X3_mean : GoodIn wsL_law wsX3_mean := goodIn_r _ [489, 97, 163, 172, 173, 174, 5, 175, 70, 514, 515, 516, 517, 518, 519, 520, 521, 522] (by decide +kernel) (by decide +kernel)
set_option maxRecDepth 20000 in
theorem gL_law_X3_mean : GoodIn wsL_law (wsV RL 127 RX3 yX3_mean wsX3_mean) := goodIn_app (goodIn_of _ (by decide +kernel)) ggL_law_X3_mean
set_option maxRecDepth 20000 in
theorem ggL_law_X2_digest : GoodIn wsL_law wsX2_digest := goodIn_r _ [493, 494, 495, 18, 23, 349, 350, 351, 2, 352, 24, 16, 273, 274, 275, 276, 277, 225, 226, 20, 227, 62, 353, 354, 355, 356, 496, 497, 498, 499, 500, 42, 49, 501, 373, 374, 375, 56, 57, 58, 59, 47, 48, 61, 249, 250, 251, 252, 253, 254, 255, 256, 40, 416, 417, 418, 419, 420, 421, 422, 423, 424, 425, 426, 427, 39, 224, 508, 509, 510, 511, 512, 513, 523, 524, 525, 526, 527, 528, 529, 530, 531, 532, 533, 534, 535, 536, 537, 538, 539, 540, 541, 542, 543, 544, 545, 546, 547] (by decide +kernel) (by decide +kernel)
set_option maxRecDepth 20000 in
theorem gL_law_X2_digest : GoodIn wsL_law (wsV RL 128 RX2 yX2_digest wsX2_digest) := goodIn_app (goodIn_of _ (by decide +kernel)) ggL_law_X2_digest
set_option maxRecDepth 20000 in
theorem ggL_law_X3_digest : GoodIn wsL_law wsX3_digest := goodIn_r _ [505, 97, 506, 507, 163, 361, 362, 363, 5, 364, 98, 67, 68, 291, 329, 330, 331, 332, 172, 173, 174, 175, 70, 380, 381, 382, 383, 313, 314, 315, 316, 317, 318, 319, 320, 321, 322, 323, 324, 432, 433, 434, 435, 436, 437, 438, 439, 440, 441, 442, 443, 514, 515, 516, 517, 518, 519, 520, 521, 522] (by decide +kernel) (by decide +kernel)
set_option maxRecDepth 20000 in
theorem gL_law_X3_digest : GoodIn wsL_law (wsV RL 132 RX3 yX3_digest wsX3_digest) := goodIn_app (goodIn_of _ (by decide +kernel)) ggL_law_X3_digest
