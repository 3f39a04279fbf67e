set_option maxRecDepth 20000 in
theorem gc_wsL_isSo_r1 : GoodIn wsL_law wsL_isSo_r1 := goodIn_r _ [349, 350, 351, 2, 352, 81, 353, 354, 355, 356, 317, 318, 319, 320, 236, 237, 238, 239, 15, 11, 240, 241, 242, 243] (by decide +kernel) (by decide +kernel)
set_option maxRecDepth 20000 in
theorem gc_wsL_isSo_r2 : GoodIn wsL_law wsL_isSo_r2 := goodIn_r _ [164, 165, 166, 14, 167, 35, 138, 119, 107, 120, 109, 110, 111, 220, 221, 61, 222, 204, 205, 206, 357, 358, 359, 360] (by decide +kernel) (by decide +kernel)
set_option maxRecDepth 20000 in
theorem gc_wsL_isSo_r3 : GoodIn wsL_law wsL_isSo_r3 := goodIn_r _ [227, 361, 362, 363, 364, 365, 366, 367, 368, 369, 370, 371, 372, 373, 374, 375, 376, 377, 378, 379, 93, 94, 95, 96] (by decide +kernel) (by decide +kernel)
set_option maxRecDepth 20000 in
theorem gc_wsL_isSo_r4 : GoodIn wsL_law wsL_isSo_r4 := goodIn_r _ [97, 98, 99, 100, 101, 380, 381, 382, 383, 384, 135, 136, 137, 385, 386, 387, 388, 389, 390, 391, 147, 148, 149, 83] (by decide +kernel) (by decide +kernel)
set_option maxRecDepth 20000 in
theorem gc_wsL_isSo_r5 : GoodIn wsL_law wsL_isSo_r5 := goodIn_r _ [150, 151, 118, 152, 153, 154, 155, 156, 330, 331, 332, 392, 393, 394, 395, 396, 397, 398, 399, 400, 401, 402, 403, 19] (by decide +kernel) (by decide +kernel)
set_option maxRecDepth 20000 in
theorem gc_wsL_isSo_r6 : GoodIn wsL_law wsL_isSo_r6 := goodIn_r _ [112, 113, 114, 115, 116, 117, 88, 121, 122, 123, 124, 87, 125, 126, 127, 128, 129, 130, 131, 132, 18, 133, 40, 39] (by decide +kernel) (by decide +kernel)
set_option maxRecDepth 20000 in
theorem gc_wsL_isSo_r7 : GoodIn wsL_law wsL_isSo_r7 := goodIn_r _ [41, 42, 43, 134, 324, 325, 326, 211, 212, 213, 65, 66, 67, 68, 321, 322, 323, 404, 405, 406, 407, 161, 162, 163] (by decide +kernel) (by decide +kernel)
set_option maxRecDepth 20000 in
theorem gc_wsL_isSo_r8 : GoodIn wsL_law wsL_isSo_r8 := goodIn_r _ [105, 106, 108, 408, 409, 410, 411, 327, 328, 329, 207, 208, 209, 210, 214, 215, 216, 217, 218, 219, 412, 413, 414, 415] (by decide +kernel) (by decide +kernel)
set_option maxRecDepth 20000 in
theorem gc_wsL_isSo_r9 : GoodIn wsL_law wsL_isSo_r9 := goodIn_r _ [143, 144, 145, 146, 416, 417, 418, 419, 420, 421, 422, 423, 23, 27, 257, 258, 259, 22, 260, 48, 261, 262, 263, 264] (by decide +kernel) (by decide +kernel)
set_option maxRecDepth 20000 in
theorem gc_wsL_isSo_r10 : GoodIn wsL_law wsL_isSo_r10 := goodIn_r _ [265, 266, 267, 26, 268, 269, 270, 30, 271, 272, 273, 274, 275, 276, 277, 278, 279, 280, 281, 282, 283, 284, 285, 286] (by decide +kernel) (by decide +kernel)
set_option maxRecDepth 20000 in
theorem gc_wsL_isSo_r11 : GoodIn wsL_law wsL_isSo_r11 := goodIn_r _ [287, 288, 289, 290, 291, 49, 292, 293, 294, 295, 296, 297, 298, 299, 300, 301, 58, 302, 303, 304, 305, 306, 307, 308] (by decide +kernel) (by decide +kernel)
set_option maxRecDepth 20000 in
theorem gc_wsL_isSo_r12 : GoodIn wsL_law wsL_isSo_r12 := goodIn_r _ [309, 310, 311, 312] (by decide +kernel) (by decide +kernel)
set_option maxRecDepth 20000 in
theorem gc_wsX80 : GoodIn wsL_law wsX80 := goodIn_r _ [424, 425, 426, 427, 428, 429, 430, 431, 432] (by decide +kernel) (by decide +kernel)
set_option maxRecDepth 20000 in
theorem gc_wsX40 : GoodIn wsL_law wsX40 := goodIn_r _ [439, 440, 441, 442, 443, 444, 445, 446] (by decide +kernel) (by decide +kernel)
set_option maxRecDepth 20000 in
theorem gc_wsX30 : GoodIn wsL_law wsX30 := goodIn_r _ [433] (by decide +kernel) (by decide +kernel)
set_option maxRecDepth 20000 in
theorem gc_wsX60 : GoodIn wsL_law wsX60 := goodIn_r _ [434, 435] (by decide +kernel) (by decide +kernel)
set_option maxRecDepth 20000 in
theorem gc_wsX10 : GoodIn wsL_law wsX10 := goodIn_r _ [436, 437] (by decide +kernel) (by decide +kernel)
set_option maxRecDepth 20000 in
theorem gc_wsX50 : GoodIn wsL_law wsX50 := goodIn_r _ [438] (by decide +kernel) (by decide +kernel)
set_option maxRecDepth 200000 in
theorem gc_isSo_in : Cond.code yL_isSo cL_isSo 15 (some .boolean) ∈ wsL_law := List.mem_of_getElem? (i := 348) rfl
theorem gc_isSo_code : GoodIn wsL_law [Cond.code yL_isSo cL_isSo 15 (some .boolean)] := goodIn_sub (fun w h => (List.mem_singleton.mp h) ▸ gc_isSo_in) (by decide +kernel)
theorem ggL_law_L_isSo : GoodIn wsL_law wsL_isSo := goodIn_ca (fun w h => (List.mem_cons.mp h).elim (fun e => gc_isSo_code w (List.mem_cons.mpr (Or.inl e))) (fun h => (goodIn_app (goodIn_app (goodIn_app (goodIn_app (goodIn_app (goodIn_app (goodIn_app gc_wsL_isSo_r1 (goodIn_app gc_wsL_isSo_r2 (goodIn_app gc_wsL_isSo_r3 (goodIn_app gc_wsL_isSo_r4 (goodIn_app gc_wsL_isSo_r5 (goodIn_app gc_wsL_isSo_r6 (goodIn_app gc_wsL_isSo_r7 (goodIn_app gc_wsL_isSo_r8 (goodIn_app gc_wsL_isSo_r9 (goodIn_app gc_wsL_isSo_r10 (goodIn_app gc_wsL_isSo_r11 gc_wsL_isSo_r12))))))))))) gc_wsX80) gc_wsX40) gc_wsX30) gc_wsX60) gc_wsX10) gc_wsX50) w h)) (goodIn_sub (fun _ h => List.mem_append_right _ h) (by decide +kernel))
set_option maxRecDepth 20000 in
theorem gL_law_L_isSo : GoodIn wsL_law (va_wsS RL 162 yL_isSo wsL_isSo) := goodIn_app (goodIn_of _ (by decide +kernel)) ggL_law_L_isSo
