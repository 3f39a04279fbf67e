set_option maxRecDepth 20000 in
theorem wsL_law0_r10_in0 : ∀ w ∈ wsL_law0_r10, w ∈ lw_tbl := fun w h => (goodIn_p wsL_law0_r10 [522, 506, 276, 280, 284, 288] (by decide +kernel) (by decide +kernel) w h).1
set_option maxRecDepth 20000 in
theorem wsL_law0_r11_in0 : ∀ w ∈ wsL_law0_r11, w ∈ lw_tbl := fun w h => (goodIn_p wsL_law0_r11 [297, 300, 315, 319, 335] (by decide +kernel) (by decide +kernel) w h).1
set_option maxRecDepth 20000 in
theorem wsL_law0_r12_in0 : ∀ w ∈ wsL_law0_r12, w ∈ lw_tbl := fun w h => (goodIn_p wsL_law0_r12 [325, 328, 332, 338, 344, 347] (by decide +kernel) (by decide +kernel) w h).1
set_option maxRecDepth 20000 in
theorem wsL_law0_r13_in0 : ∀ w ∈ wsL_law0_r13, w ∈ lw_tbl := fun w h => (goodIn_p wsL_law0_r13 [351, 366, 369, 375, 378] (by decide +kernel) (by decide +kernel) w h).1
set_option maxRecDepth 20000 in
theorem wsL_law0_r14_in0 : ∀ w ∈ wsL_law0_r14, w ∈ lw_tbl := fun w h => (goodIn_p wsL_law0_r14 [381, 384, 389, 528, 531, 534, 537, 540] (by decide +kernel) (by decide +kernel) w h).1
def wsL_law0_r15a : List Cond := [Cond.methodLink RL 159 yX8_closeWeek, Cond.instanceMethod yX8_closeWeek, Cond.selects RX8 yX8_closeWeek yX8_closeWeek, Cond.code yX8_closeWeek cX8_closeWeek 5 (some .int), Cond.fieldLink RX8 171 "CoverSheet" "closedWeeks" "I", Cond.methodLink RX8 168 yX4_noteWeek, Cond.instanceMethod yX4_noteWeek, Cond.selects RX4 yX4_noteWeek yX4_noteWeek, Cond.code yX4_noteWeek cX4_noteWeek 2 none, Cond.fieldLink RX4 59 "CoverSheet$Person" "weekendShifts" "I", Cond.methodLink RL 162 yL_isSo, Cond.static yL_isSo]
def wsL_law0_r15b : List Cond := [Cond.methodLink RL 59 yX8_people, Cond.instanceMethod yX8_people, Cond.selects RX8 yX8_people yX8_people, Cond.code yX8_people cX8_people 1 (some .int), Cond.methodLink RL 63 yX8_gaps, Cond.instanceMethod yX8_gaps, Cond.selects RX8 yX8_gaps yX8_gaps, Cond.code yX8_gaps cX8_gaps 1 (some .int), Cond.methodLink RL 69 yX8_rounds, Cond.instanceMethod yX8_rounds, Cond.selects RX8 yX8_rounds yX8_rounds]
set_option maxRecDepth 20000 in
theorem wsL_law0_r15a_in0 : ∀ w ∈ wsL_law0_r15a, w ∈ lw_tbl := fun w h => (goodIn_p wsL_law0_r15a [393, 397] (by decide +kernel) (by decide +kernel) w h).1
set_option maxRecDepth 20000 in
theorem wsL_law0_r15b_in0 : ∀ w ∈ wsL_law0_r15b, w ∈ lw_tbl := fun w h => (goodIn_p wsL_law0_r15b [547, 551] (by decide +kernel) (by decide +kernel) w h).1
set_option maxRecDepth 200000 in
theorem wsL_law0_r15_c : Cond.code yL_isSo cL_isSo 15 (some .boolean) ∈ lw_tbl := List.mem_of_getElem? (i := 543) rfl
theorem wsL_law0_r15_in0 : ∀ w ∈ wsL_law0_r15, w ∈ lw_tbl := fun w h => (List.mem_append.mp (show w ∈ wsL_law0_r15a ++ (Cond.code yL_isSo cL_isSo 15 (some .boolean) :: wsL_law0_r15b) from h)).elim (wsL_law0_r15a_in0 w) (fun h => (List.mem_cons.mp h).elim (fun e => e ▸ wsL_law0_r15_c) (wsL_law0_r15b_in0 w))
set_option maxRecDepth 20000 in
theorem wsL_law0_r16_in0 : ∀ w ∈ wsL_law0_r16, w ∈ lw_tbl := fun w h => (goodIn_p wsL_law0_r16 [555, 559, 563, 567, 570, 574, 578] (by decide +kernel) (by decide +kernel) w h).1
set_option maxRecDepth 20000 in
theorem wsL_law0_r17_in0 : ∀ w ∈ wsL_law0_r17, w ∈ lw_tbl := fun w h => (goodIn_p wsL_law0_r17 [583, 587, 591, 595, 599, 603] (by decide +kernel) (by decide +kernel) w h).1
set_option maxRecDepth 20000 in
theorem wsL_law0_r18_in0 : ∀ w ∈ wsL_law0_r18, w ∈ lw_tbl := fun w h => (goodIn_p wsL_law0_r18 [607, 611, 615, 619] (by decide +kernel) (by decide +kernel) w h).1
