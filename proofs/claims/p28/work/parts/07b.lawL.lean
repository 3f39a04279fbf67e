set_option maxRecDepth 20000 in
theorem ggL_law_X8_init : GoodIn wsL_law wsX8_init := goodIn_r _ [6, 7, 8, 9, 10, 11, 12, 13, 14, 15, 16, 17, 18, 19, 20, 21, 22, 23, 24, 25, 26, 27, 28, 29, 30, 31, 32, 33, 34, 3, 35, 36, 37, 38, 39, 40, 41, 42, 43, 44, 45, 46, 47, 48, 49, 50, 51, 52, 53, 54, 55, 56, 57, 58, 424, 425, 426, 427, 428, 429, 430, 431, 432, 433, 434, 435, 436, 437, 438] (by decide +kernel) (by decide +kernel)
set_option maxRecDepth 20000 in
theorem gL_law_X8_init : GoodIn wsL_law (wsX8_init) := ggL_law_X8_init
set_option maxRecDepth 20000 in
theorem ggL_law_L_cell : GoodIn wsL_law wsL_cell := goodIn_r _ [62, 63, 64] (by decide +kernel) (by decide +kernel)
set_option maxRecDepth 20000 in
theorem gL_law_L_cell : GoodIn wsL_law (va_wsS RL 124 yL_cell wsL_cell) := goodIn_app (goodIn_of _ (by decide +kernel)) ggL_law_L_cell
set_option maxRecDepth 20000 in
theorem ggL_law_L_low : GoodIn wsL_law wsL_low := goodIn_r _ [67, 68] (by decide +kernel) (by decide +kernel)
set_option maxRecDepth 20000 in
theorem gL_law_L_low : GoodIn wsL_law (va_wsS RL 103 yL_low wsL_low) := goodIn_app (goodIn_of _ (by decide +kernel)) ggL_law_L_low
set_option maxRecDepth 20000 in
theorem ggL_law_L_calls : GoodIn wsL_law wsL_calls := goodIn_ca (goodIn_ca (goodIn_ca (goodIn_r _ [71, 72, 73, 74, 75, 2, 76, 77, 78, 79, 80, 81, 11, 10, 82, 83, 84, 85, 86, 8, 9, 87, 88, 89, 90, 91, 92, 93, 94, 19, 95, 96, 97, 98, 99, 100, 101, 102, 103, 104, 105, 106, 107, 108, 109, 110, 111, 112, 113, 114, 115, 116, 117, 118, 119, 120, 121, 122, 123, 124, 125, 126, 127, 128, 129, 130, 131, 132, 18, 133, 40, 39, 41, 42, 43, 134, 135, 136, 137, 138, 139, 140, 141, 142, 143, 144, 145, 146, 147, 148, 149, 150, 151, 152, 153, 154, 155, 156, 424, 425, 426, 427, 428, 429, 430, 431, 432, 439, 440, 441, 442, 443, 444, 445, 446, 434, 435] (by decide +kernel) (by decide +kernel)) (goodIn_sub (fun _ h => List.mem_append_left _ (List.mem_append_left _ (List.mem_append_right _ h))) (by decide +kernel))) (goodIn_sub (fun _ h => List.mem_append_left _ (List.mem_append_right _ h)) (by decide +kernel))) (goodIn_sub (fun _ h => List.mem_append_right _ h) (by decide +kernel))
set_option maxRecDepth 20000 in
theorem gL_law_L_calls : GoodIn wsL_law (va_wsS RL 128 yL_calls wsL_calls) := goodIn_app (goodIn_of _ (by decide +kernel)) ggL_law_L_calls
set_option maxRecDepth 20000 in
theorem ggL_law_X8_setNeed : GoodIn wsL_law wsX8_setNeed := goodIn_ca (goodIn_ca (goodIn_r _ [160, 93, 94, 77, 78, 15, 99, 100, 2, 101, 161, 162, 163, 164, 165, 166, 14, 167, 35, 168, 169, 170, 171, 424, 425, 426, 427, 428, 429, 430, 431, 432, 433] (by decide +kernel) (by decide +kernel)) (goodIn_sub (fun _ h => List.mem_append_right _ h) (by decide +kernel))) (goodIn_sub (fun _ h => List.mem_append_left _ (List.mem_append_left _ (List.mem_append_right _ h))) (by decide +kernel))
set_option maxRecDepth 20000 in
theorem gL_law_X8_setNeed : GoodIn wsL_law (wsV RL 132 RX8 yX8_setNeed wsX8_setNeed) := goodIn_app (goodIn_of _ (by decide +kernel)) ggL_law_X8_setNeed
set_option maxRecDepth 20000 in
theorem ggL_law_X8_forbid : GoodIn wsL_law wsX8_forbid := goodIn_ca (goodIn_r _ [175, 93, 94, 19, 161, 162, 2, 163, 176, 177, 178, 18, 179, 39, 41, 42, 43, 424, 425, 426, 427, 428, 429, 430, 431, 432, 434, 435] (by decide +kernel) (by decide +kernel)) (goodIn_sub (fun _ h => List.mem_append_right _ h) (by decide +kernel))
set_option maxRecDepth 20000 in
theorem gL_law_X8_forbid : GoodIn wsL_law (wsV RL 135 RX8 yX8_forbid wsX8_forbid) := goodIn_app (goodIn_of _ (by decide +kernel)) ggL_law_X8_forbid
set_option maxRecDepth 20000 in
theorem ggL_law_X8_setRun : GoodIn wsL_law wsX8_setRun := goodIn_ca (goodIn_r _ [183, 77, 78, 19, 424, 425, 426, 427, 428, 429, 430, 431, 432, 434, 435] (by decide +kernel) (by decide +kernel)) (goodIn_sub (fun _ h => List.mem_append_left _ (List.mem_append_left _ (List.mem_append_right _ h))) (by decide +kernel))
set_option maxRecDepth 20000 in
theorem gL_law_X8_setRun : GoodIn wsL_law (wsV RL 139 RX8 yX8_setRun wsX8_setRun) := goodIn_app (goodIn_of _ (by decide +kernel)) ggL_law_X8_setRun
set_option maxRecDepth 20000 in
theorem ggL_law_X8_wish : GoodIn wsL_law wsX8_wish := goodIn_ca (goodIn_r _ [187, 93, 94, 95, 96, 97, 2, 98, 11, 99, 100, 101, 188, 189, 190, 83, 191, 156, 424, 425, 426, 427, 428, 429, 430, 431, 432, 439, 440, 441, 442, 443, 444, 445, 446] (by decide +kernel) (by decide +kernel)) (goodIn_sub (fun _ h => List.mem_append_right _ h) (by decide +kernel))
set_option maxRecDepth 20000 in
theorem gL_law_X8_wish : GoodIn wsL_law (wsV RL 142 RX8 yX8_wish wsX8_wish) := goodIn_app (goodIn_of _ (by decide +kernel)) ggL_law_X8_wish
set_option maxRecDepth 20000 in
theorem ggL_law_X8_fix : GoodIn wsL_law wsX8_fix := goodIn_ca (goodIn_ca (goodIn_r _ [195, 93, 94, 77, 78, 95, 96, 97, 2, 98, 11, 99, 100, 101, 102, 103, 104, 196, 126, 127, 83, 128, 129, 197, 198, 199, 200, 424, 425, 426, 427, 428, 429, 430, 431, 432, 439, 440, 441, 442, 443, 444, 445, 446] (by decide +kernel) (by decide +kernel)) (goodIn_sub (fun _ h => List.mem_append_right _ h) (by decide +kernel))) (goodIn_sub (fun _ h => List.mem_append_left _ (List.mem_append_left _ (List.mem_append_right _ h))) (by decide +kernel))
set_option maxRecDepth 20000 in
theorem gL_law_X8_fix : GoodIn wsL_law (wsV RL 145 RX8 yX8_fix wsX8_fix) := goodIn_app (goodIn_of _ (by decide +kernel)) ggL_law_X8_fix
set_option maxRecDepth 20000 in
theorem ggL_law_L_plans : GoodIn wsL_law wsL_plans := goodIn_r _ [203, 204, 205, 61, 206, 207, 208, 209, 210, 211, 212, 213, 214, 215, 216, 217, 218, 219] (by decide +kernel) (by decide +kernel)
set_option maxRecDepth 20000 in
theorem gL_law_L_plans : GoodIn wsL_law (va_wsS RL 148 yL_plans wsL_plans) := goodIn_app (goodIn_of _ (by decide +kernel)) ggL_law_L_plans
set_option maxRecDepth 20000 in
theorem ggL_law_L_gaps : GoodIn wsL_law wsL_gaps := goodIn_r _ [222, 204, 205, 61, 206] (by decide +kernel) (by decide +kernel)
set_option maxRecDepth 20000 in
theorem gL_law_L_gaps : GoodIn wsL_law (va_wsS RL 66 yL_gaps wsL_gaps) := goodIn_app (goodIn_of _ (by decide +kernel)) ggL_law_L_gaps
set_option maxRecDepth 20000 in
theorem ggL_law_X8_plan : GoodIn wsL_law wsX8_plan := goodIn_r _ [226, 11, 227, 228, 229, 230, 2, 231, 232, 233, 234, 235, 31, 23, 19, 236, 237, 238, 239, 15, 240, 241, 242, 243, 164, 165, 166, 14, 167, 35, 138, 119, 107, 120, 109, 110, 111, 244, 245, 30, 246, 247, 248, 249, 250, 251, 106, 108, 252, 153, 154, 83, 155, 156, 253, 254, 255, 256, 58, 257, 258, 259, 22, 260, 48, 261, 262, 263, 264, 265, 266, 267, 26, 268, 269, 270, 271, 272, 273, 274, 275, 276, 277, 278, 279, 280, 281, 282, 283, 284, 285, 286, 287, 288, 289, 290, 291, 49, 292, 122, 123, 124, 87, 125, 126, 127, 128, 129, 293, 131, 132, 18, 133, 40, 39, 41, 42, 43, 294, 295, 296, 297, 298, 299, 300, 301, 302, 303, 304, 305, 306, 307, 308, 309, 310, 311, 312, 313, 314, 315, 316, 317, 318, 319, 320, 424, 425, 426, 427, 428, 429, 430, 431, 432, 439, 440, 441, 442, 443, 444, 445, 446, 433, 438, 436, 437, 434, 435] (by decide +kernel) (by decide +kernel)
set_option maxRecDepth 20000 in
theorem gL_law_X8_plan : GoodIn wsL_law (wsV RL 152 RX8 yX8_plan wsX8_plan) := goodIn_app (goodIn_of _ (by decide +kernel)) ggL_law_X8_plan
set_option maxRecDepth 20000 in
theorem ggL_law_L_could : GoodIn wsL_law wsL_could := goodIn_r _ [323, 324, 325, 61, 326, 211, 212, 213] (by decide +kernel) (by decide +kernel)
set_option maxRecDepth 20000 in
theorem gL_law_L_could : GoodIn wsL_law (va_wsS RL 55 yL_could wsL_could) := goodIn_app (goodIn_of _ (by decide +kernel)) ggL_law_L_could
set_option maxRecDepth 20000 in
theorem ggL_law_L_canSwap : GoodIn wsL_law wsL_canSwap := goodIn_r _ [329, 321, 322, 61, 323, 324, 325, 326, 211, 212, 213] (by decide +kernel) (by decide +kernel)
set_option maxRecDepth 20000 in
theorem gL_law_L_canSwap : GoodIn wsL_law (va_wsS RL 112 yL_canSwap wsL_canSwap) := goodIn_app (goodIn_of _ (by decide +kernel)) ggL_law_L_canSwap
set_option maxRecDepth 20000 in
theorem ggL_law_L_broken : GoodIn wsL_law wsL_broken := goodIn_r _ [332] (by decide +kernel) (by decide +kernel)
set_option maxRecDepth 20000 in
theorem gL_law_L_broken : GoodIn wsL_law (va_wsS RL 90 yL_broken wsL_broken) := goodIn_app (goodIn_of _ (by decide +kernel)) ggL_law_L_broken
set_option maxRecDepth 20000 in
theorem ggL_law_L_closes : GoodIn wsL_law wsL_closes := goodIn_r _ [335] (by decide +kernel) (by decide +kernel)
set_option maxRecDepth 20000 in
theorem gL_law_L_closes : GoodIn wsL_law (va_wsS RL 155 yL_closes wsL_closes) := goodIn_app (goodIn_of _ (by decide +kernel)) ggL_law_L_closes
set_option maxRecDepth 20000 in
theorem ggL_law_X8_closeWeek : GoodIn wsL_law wsX8_closeWeek := goodIn_r _ [339, 11, 340, 341, 342, 343, 83, 344, 151, 117, 116, 345, 156, 129, 118, 119, 107, 120, 109, 110, 111, 134, 135, 136, 137, 424, 425, 426, 427, 428, 429, 430, 431, 432, 439, 440, 441, 442, 443, 444, 445, 446] (by decide +kernel) (by decide +kernel)
set_option maxRecDepth 20000 in
theorem gL_law_X8_closeWeek : GoodIn wsL_law (wsV RL 159 RX8 yX8_closeWeek wsX8_closeWeek) := goodIn_app (goodIn_of _ (by decide +kernel)) ggL_law_X8_closeWeek
