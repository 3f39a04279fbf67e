theorem dL_cell_0 : decode cL_cell 0 = .ok (.iload_n 1, 1) := by decide +kernel
theorem dL_cell_1 : decode cL_cell 1 = .ok (.aload_n 0, 1) := by decide +kernel
theorem dL_cell_2 : decode cL_cell 2 = .ok (.arraylength, 1) := by decide +kernel
theorem dL_cell_3 : decode cL_cell 3 = .ok (.if_icmp .ge 9, 3) := by decide +kernel
theorem dL_cell_6 : decode cL_cell 6 = .ok (.aload_n 0, 1) := by decide +kernel
theorem dL_cell_7 : decode cL_cell 7 = .ok (.iload_n 1, 1) := by decide +kernel
theorem dL_cell_8 : decode cL_cell 8 = .ok (.iaload, 1) := by decide +kernel
theorem dL_cell_9 : decode cL_cell 9 = .ok (.goto 13, 3) := by decide +kernel
theorem dL_cell_12 : decode cL_cell 12 = .ok (.ldc 7, 2) := by decide +kernel
theorem dL_cell_14 : decode cL_cell 14 = .ok (.iload_n 1, 1) := by decide +kernel
theorem dL_cell_15 : decode cL_cell 15 = .ok (.bipush 31, 2) := by decide +kernel
theorem dL_cell_17 : decode cL_cell 17 = .ok (.iadd, 1) := by decide +kernel
theorem dL_cell_18 : decode cL_cell 18 = .ok (.imul, 1) := by decide +kernel
theorem dL_cell_19 : decode cL_cell 19 = .ok (.ldc 8, 2) := by decide +kernel
theorem dL_cell_21 : decode cL_cell 21 = .ok (.iadd, 1) := by decide +kernel
theorem dL_cell_22 : decode cL_cell 22 = .ok (.ireturn, 1) := by decide +kernel
theorem dL_low_0 : decode cL_low 0 = .ok (.iload_n 0, 1) := by decide +kernel
theorem dL_low_1 : decode cL_low 1 = .ok (.ldc 9, 2) := by decide +kernel
theorem dL_low_3 : decode cL_low 3 = .ok (.iand, 1) := by decide +kernel
theorem dL_low_4 : decode cL_low 4 = .ok (.iload_n 1, 1) := by decide +kernel
theorem dL_low_5 : decode cL_low 5 = .ok (.irem, 1) := by decide +kernel
theorem dL_low_6 : decode cL_low 6 = .ok (.ireturn, 1) := by decide +kernel
set_option maxRecDepth 20000 in
theorem ggL_calls_X8_addPerson : GoodIn wsL_calls wsX8_addPerson := goodIn_ca (goodIn_ca (goodIn_r _ [6, 7, 8, 9, 10, 11, 12, 13, 14, 15, 16, 17, 18, 19, 20, 21, 22, 98, 99, 100, 101, 102, 103, 104, 105, 106, 107, 108, 109, 110, 111, 112, 113, 114] (by decide +kernel) (by decide +kernel)) (goodIn_sub (fun _ h => List.mem_cons_of_mem _ (List.mem_append_left _ (List.mem_append_left _ (List.mem_append_right _ h)))) (by decide +kernel))) (goodIn_sub (fun _ h => List.mem_cons_of_mem _ (List.mem_append_left _ (List.mem_append_right _ h))) (by decide +kernel))
set_option maxRecDepth 20000 in
theorem gL_calls_X8_addPerson : GoodIn wsL_calls (wsV RL 10 RX8 yX8_addPerson wsX8_addPerson) := goodIn_app (goodIn_of _ (by decide +kernel)) ggL_calls_X8_addPerson
set_option maxRecDepth 20000 in
theorem ggL_calls_X8_set : GoodIn wsL_calls wsX8_set := goodIn_ca (goodIn_ca (goodIn_ca (goodIn_r _ [26, 27, 28, 7, 8, 9, 10, 29, 30, 31, 32, 5, 33, 12, 34, 35, 36, 37, 38, 39, 40, 41, 42, 43, 44, 45, 46, 47, 48, 49, 15, 50, 51, 52, 22, 53, 54, 55, 56, 57, 58, 59, 21, 60, 61, 62, 63, 64, 65, 66, 67, 68, 69, 70, 71, 72, 73, 74, 75, 76, 77, 78, 79, 107, 108, 109, 110, 111, 112, 113, 114, 98, 99, 100, 101, 102, 103, 104, 105, 106, 115, 116] (by decide +kernel) (by decide +kernel)) (goodIn_sub (fun _ h => List.mem_cons_of_mem _ (List.mem_append_right _ h)) (by decide +kernel))) (goodIn_sub (fun _ h => List.mem_cons_of_mem _ (List.mem_append_left _ (List.mem_append_left _ (List.mem_append_right _ h)))) (by decide +kernel))) (goodIn_sub (fun _ h => List.mem_cons_of_mem _ (List.mem_append_left _ (List.mem_append_right _ h))) (by decide +kernel))
set_option maxRecDepth 20000 in
theorem gL_calls_X8_set : GoodIn wsL_calls (wsV RL 16 RX8 yX8_set wsX8_set) := goodIn_app (goodIn_of _ (by decide +kernel)) ggL_calls_X8_set
set_option maxRecDepth 20000 in
theorem ggL_calls_X8_swap : GoodIn wsL_calls wsX8_swap := goodIn_ca (goodIn_ca (goodIn_r _ [83, 27, 28, 9, 10, 30, 31, 32, 5, 33, 12, 34, 35, 36, 84, 85, 86, 87, 29, 79, 54, 42, 55, 44, 45, 46, 40, 41, 43, 47, 48, 49, 15, 50, 51, 52, 22, 53, 56, 57, 58, 59, 21, 60, 61, 62, 63, 64, 65, 66, 67, 68, 69, 70, 71, 72, 73, 74, 75, 76, 77, 78, 88, 89, 90, 91, 92, 93, 94, 95, 96, 97, 107, 108, 109, 110, 111, 112, 113, 114, 98, 99, 100, 101, 102, 103, 104, 105, 106, 115, 116] (by decide +kernel) (by decide +kernel)) (goodIn_sub (fun _ h => List.mem_cons_of_mem _ (List.mem_append_right _ h)) (by decide +kernel))) (goodIn_sub (fun _ h => List.mem_cons_of_mem _ (List.mem_append_left _ (List.mem_append_right _ h))) (by decide +kernel))
set_option maxRecDepth 20000 in
theorem gL_calls_X8_swap : GoodIn wsL_calls (wsV RL 20 RX8 yX8_swap wsX8_swap) := goodIn_app (goodIn_of _ (by decide +kernel)) ggL_calls_X8_swap
theorem dL_calls_0 : decode cL_calls 0 = .ok (.iload_n 1, 1) := by decide +kernel
theorem dL_calls_1 : decode cL_calls 1 = .ok (.ifCond .ne 12, 3) := by decide +kernel
theorem dL_calls_4 : decode cL_calls 4 = .ok (.aload_n 0, 1) := by decide +kernel
theorem dL_calls_5 : decode cL_calls 5 = .ok (.iload_n 2, 1) := by decide +kernel
theorem dL_calls_6 : decode cL_calls 6 = .ok (.iload_n 3, 1) := by decide +kernel
theorem dL_calls_7 : decode cL_calls 7 = .ok (.invokevirtual 10, 3) := by decide +kernel
theorem dL_calls_10 : decode cL_calls 10 = .ok (.goto 27, 3) := by decide +kernel
theorem dL_calls_13 : decode cL_calls 13 = .ok (.iload_n 1, 1) := by decide +kernel
theorem dL_calls_14 : decode cL_calls 14 = .ok (.iconst 1, 1) := by decide +kernel
theorem dL_calls_15 : decode cL_calls 15 = .ok (.if_icmp .ne 14, 3) := by decide +kernel
theorem dL_calls_18 : decode cL_calls 18 = .ok (.aload_n 0, 1) := by decide +kernel
theorem dL_calls_19 : decode cL_calls 19 = .ok (.iload_n 2, 1) := by decide +kernel
theorem dL_calls_20 : decode cL_calls 20 = .ok (.iload_n 3, 1) := by decide +kernel
theorem dL_calls_21 : decode cL_calls 21 = .ok (.iload 4, 2) := by decide +kernel
theorem dL_calls_23 : decode cL_calls 23 = .ok (.invokevirtual 16, 3) := by decide +kernel
theorem dL_calls_26 : decode cL_calls 26 = .ok (.goto 11, 3) := by decide +kernel
theorem dL_calls_29 : decode cL_calls 29 = .ok (.aload_n 0, 1) := by decide +kernel
theorem dL_calls_30 : decode cL_calls 30 = .ok (.iload_n 2, 1) := by decide +kernel
theorem dL_calls_31 : decode cL_calls 31 = .ok (.iload_n 3, 1) := by decide +kernel
theorem dL_calls_32 : decode cL_calls 32 = .ok (.iload 4, 2) := by decide +kernel
theorem dL_calls_34 : decode cL_calls 34 = .ok (.invokevirtual 20, 3) := by decide +kernel
theorem dL_calls_37 : decode cL_calls 37 = .ok (.ireturn, 1) := by decide +kernel
theorem dL_calls_38 : decode cL_calls 38 = .ok (.astore 5, 2) := by decide +kernel
theorem dL_calls_40 : decode cL_calls 40 = .ok (.bipush (-3), 2) := by decide +kernel
theorem dL_calls_42 : decode cL_calls 42 = .ok (.ireturn, 1) := by decide +kernel
theorem dL_may_0 : decode cL_may 0 = .ok (.iload_n 1, 1) := by decide +kernel
theorem dL_may_1 : decode cL_may 1 = .ok (.ifCond .ne 14, 3) := by decide +kernel
theorem dL_may_4 : decode cL_may 4 = .ok (.aload_n 3, 1) := by decide +kernel
theorem dL_may_5 : decode cL_may 5 = .ok (.bipush 8, 2) := by decide +kernel
theorem dL_may_7 : decode cL_may 7 = .ok (.iload_n 0, 1) := by decide +kernel
theorem dL_may_8 : decode cL_may 8 = .ok (.imul, 1) := by decide +kernel
theorem dL_may_9 : decode cL_may 9 = .ok (.iconst 3, 1) := by decide +kernel
theorem dL_may_10 : decode cL_may 10 = .ok (.iadd, 1) := by decide +kernel
theorem dL_may_11 : decode cL_may 11 = .ok (.iaload, 1) := by decide +kernel
theorem dL_may_12 : decode cL_may 12 = .ok (.goto 8, 3) := by decide +kernel
theorem dL_may_15 : decode cL_may 15 = .ok (.aload_n 2, 1) := by decide +kernel
theorem dL_may_16 : decode cL_may 16 = .ok (.iload_n 1, 1) := by decide +kernel
theorem dL_may_17 : decode cL_may 17 = .ok (.iconst 1, 1) := by decide +kernel
theorem dL_may_18 : decode cL_may 18 = .ok (.isub, 1) := by decide +kernel
theorem dL_may_19 : decode cL_may 19 = .ok (.iaload, 1) := by decide +kernel
theorem dL_may_20 : decode cL_may 20 = .ok (.istore 6, 2) := by decide +kernel
theorem dL_may_22 : decode cL_may 22 = .ok (.aload_n 2, 1) := by decide +kernel
theorem dL_may_23 : decode cL_may 23 = .ok (.iload_n 1, 1) := by decide +kernel
theorem dL_may_24 : decode cL_may 24 = .ok (.iaload, 1) := by decide +kernel
theorem dL_may_25 : decode cL_may 25 = .ok (.ifCond .le 18, 3) := by decide +kernel
theorem dL_may_28 : decode cL_may 28 = .ok (.aload_n 3, 1) := by decide +kernel
theorem dL_may_29 : decode cL_may 29 = .ok (.bipush 8, 2) := by decide +kernel
theorem dL_may_31 : decode cL_may 31 = .ok (.iload_n 0, 1) := by decide +kernel
theorem dL_may_32 : decode cL_may 32 = .ok (.imul, 1) := by decide +kernel
theorem dL_may_33 : decode cL_may 33 = .ok (.iaload, 1) := by decide +kernel
theorem dL_may_34 : decode cL_may 34 = .ok (.aload_n 2, 1) := by decide +kernel
theorem dL_may_35 : decode cL_may 35 = .ok (.iload_n 1, 1) := by decide +kernel
theorem dL_may_36 : decode cL_may 36 = .ok (.iaload, 1) := by decide +kernel
theorem dL_may_37 : decode cL_may 37 = .ok (.ishr, 1) := by decide +kernel
theorem dL_may_38 : decode cL_may 38 = .ok (.iconst 1, 1) := by decide +kernel
theorem dL_may_39 : decode cL_may 39 = .ok (.iand, 1) := by decide +kernel
theorem dL_may_40 : decode cL_may 40 = .ok (.ifCond .eq 59, 3) := by decide +kernel
theorem dL_may_43 : decode cL_may 43 = .ok (.aload 4, 2) := by decide +kernel
theorem dL_may_45 : decode cL_may 45 = .ok (.bipush 7, 2) := by decide +kernel
theorem dL_may_47 : decode cL_may 47 = .ok (.iload_n 0, 1) := by decide +kernel
theorem dL_may_48 : decode cL_may 48 = .ok (.imul, 1) := by decide +kernel
theorem dL_may_49 : decode cL_may 49 = .ok (.iload_n 1, 1) := by decide +kernel
theorem dL_may_50 : decode cL_may 50 = .ok (.iadd, 1) := by decide +kernel
theorem dL_may_51 : decode cL_may 51 = .ok (.iaload, 1) := by decide +kernel
theorem dL_may_52 : decode cL_may 52 = .ok (.ifCond .lt 18, 3) := by decide +kernel
theorem dL_may_55 : decode cL_may 55 = .ok (.aload 4, 2) := by decide +kernel
theorem dL_may_57 : decode cL_may 57 = .ok (.bipush 7, 2) := by decide +kernel
theorem dL_may_59 : decode cL_may 59 = .ok (.iload_n 0, 1) := by decide +kernel
theorem dL_may_60 : decode cL_may 60 = .ok (.imul, 1) := by decide +kernel
theorem dL_may_61 : decode cL_may 61 = .ok (.iload_n 1, 1) := by decide +kernel
theorem dL_may_62 : decode cL_may 62 = .ok (.iadd, 1) := by decide +kernel
theorem dL_may_63 : decode cL_may 63 = .ok (.iaload, 1) := by decide +kernel
theorem dL_may_64 : decode cL_may 64 = .ok (.aload_n 2, 1) := by decide +kernel
theorem dL_may_65 : decode cL_may 65 = .ok (.iload_n 1, 1) := by decide +kernel
theorem dL_may_66 : decode cL_may 66 = .ok (.iaload, 1) := by decide +kernel
theorem dL_may_67 : decode cL_may 67 = .ok (.if_icmp .ne 32, 3) := by decide +kernel
theorem dL_may_70 : decode cL_may 70 = .ok (.iload 6, 2) := by decide +kernel
theorem dL_may_72 : decode cL_may 72 = .ok (.ifCond .le 29, 3) := by decide +kernel
theorem dL_may_75 : decode cL_may 75 = .ok (.aload_n 2, 1) := by decide +kernel
theorem dL_may_76 : decode cL_may 76 = .ok (.iload_n 1, 1) := by decide +kernel
theorem dL_may_77 : decode cL_may 77 = .ok (.iaload, 1) := by decide +kernel
theorem dL_may_78 : decode cL_may 78 = .ok (.ifCond .le 23, 3) := by decide +kernel
theorem dL_may_81 : decode cL_may 81 = .ok (.aload 5, 2) := by decide +kernel
theorem dL_may_83 : decode cL_may 83 = .ok (.bipush 28, 2) := by decide +kernel
theorem dL_may_85 : decode cL_may 85 = .ok (.iconst 4, 1) := by decide +kernel
theorem dL_may_86 : decode cL_may 86 = .ok (.iload 6, 2) := by decide +kernel
theorem dL_may_88 : decode cL_may 88 = .ok (.imul, 1) := by decide +kernel
theorem dL_may_89 : decode cL_may 89 = .ok (.iadd, 1) := by decide +kernel
theorem dL_may_90 : decode cL_may 90 = .ok (.aload_n 2, 1) := by decide +kernel
theorem dL_may_91 : decode cL_may 91 = .ok (.iload_n 1, 1) := by decide +kernel
theorem dL_may_92 : decode cL_may 92 = .ok (.iaload, 1) := by decide +kernel
theorem dL_may_93 : decode cL_may 93 = .ok (.iadd, 1) := by decide +kernel
theorem dL_may_94 : decode cL_may 94 = .ok (.iaload, 1) := by decide +kernel
theorem dL_may_95 : decode cL_may 95 = .ok (.iconst 1, 1) := by decide +kernel
theorem dL_may_96 : decode cL_may 96 = .ok (.if_icmp .ne 5, 3) := by decide +kernel
theorem dL_may_99 : decode cL_may 99 = .ok (.iconst 0, 1) := by decide +kernel
theorem dL_may_100 : decode cL_may 100 = .ok (.ireturn, 1) := by decide +kernel
theorem dL_may_101 : decode cL_may 101 = .ok (.iconst 0, 1) := by decide +kernel
theorem dL_may_102 : decode cL_may 102 = .ok (.istore 7, 2) := by decide +kernel
theorem dL_may_104 : decode cL_may 104 = .ok (.iconst 0, 1) := by decide +kernel
theorem dL_may_105 : decode cL_may 105 = .ok (.istore 8, 2) := by decide +kernel
theorem dL_may_107 : decode cL_may 107 = .ok (.iload_n 1, 1) := by decide +kernel
theorem dL_may_108 : decode cL_may 108 = .ok (.istore 9, 2) := by decide +kernel
theorem dL_may_110 : decode cL_may 110 = .ok (.iload 9, 2) := by decide +kernel
theorem dL_may_112 : decode cL_may 112 = .ok (.ifCond .lt 28, 3) := by decide +kernel
theorem dL_may_115 : decode cL_may 115 = .ok (.aload_n 2, 1) := by decide +kernel
theorem dL_may_116 : decode cL_may 116 = .ok (.iload 9, 2) := by decide +kernel
theorem dL_may_118 : decode cL_may 118 = .ok (.iaload, 1) := by decide +kernel
theorem dL_may_119 : decode cL_may 119 = .ok (.ifCond .le 21, 3) := by decide +kernel
theorem dL_may_122 : decode cL_may 122 = .ok (.iload 7, 2) := by decide +kernel
theorem dL_may_124 : decode cL_may 124 = .ok (.iload_n 1, 1) := by decide +kernel
theorem dL_may_125 : decode cL_may 125 = .ok (.iload 9, 2) := by decide +kernel
theorem dL_may_127 : decode cL_may 127 = .ok (.isub, 1) := by decide +kernel
theorem dL_may_128 : decode cL_may 128 = .ok (.if_icmp .ne 12, 3) := by decide +kernel
theorem dL_may_131 : decode cL_may 131 = .ok (.iinc 7 1, 3) := by decide +kernel
theorem dL_may_134 : decode cL_may 134 = .ok (.iinc 9 (-1), 3) := by decide +kernel
theorem dL_may_137 : decode cL_may 137 = .ok (.goto (-27), 3) := by decide +kernel
theorem dL_may_140 : decode cL_may 140 = .ok (.iload 7, 2) := by decide +kernel
theorem dL_may_142 : decode cL_may 142 = .ok (.iload 7, 2) := by decide +kernel
theorem dL_may_144 : decode cL_may 144 = .ok (.iload_n 1, 1) := by decide +kernel
theorem dL_may_145 : decode cL_may 145 = .ok (.iconst 1, 1) := by decide +kernel
theorem dL_may_146 : decode cL_may 146 = .ok (.iadd, 1) := by decide +kernel
theorem dL_may_147 : decode cL_may 147 = .ok (.if_icmp .ne 14, 3) := by decide +kernel
theorem dL_may_150 : decode cL_may 150 = .ok (.aload_n 3, 1) := by decide +kernel
theorem dL_may_151 : decode cL_may 151 = .ok (.bipush 8, 2) := by decide +kernel
theorem dL_may_153 : decode cL_may 153 = .ok (.iload_n 0, 1) := by decide +kernel
theorem dL_may_154 : decode cL_may 154 = .ok (.imul, 1) := by decide +kernel
theorem dL_may_155 : decode cL_may 155 = .ok (.iconst 4, 1) := by decide +kernel
theorem dL_may_156 : decode cL_may 156 = .ok (.iadd, 1) := by decide +kernel
theorem dL_may_157 : decode cL_may 157 = .ok (.iaload, 1) := by decide +kernel
theorem dL_may_158 : decode cL_may 158 = .ok (.goto 4, 3) := by decide +kernel
theorem dL_may_161 : decode cL_may 161 = .ok (.iconst 0, 1) := by decide +kernel
theorem dL_may_162 : decode cL_may 162 = .ok (.iadd, 1) := by decide +kernel
theorem dL_may_163 : decode cL_may 163 = .ok (.istore 7, 2) := by decide +kernel
theorem dL_may_165 : decode cL_may 165 = .ok (.iconst 0, 1) := by decide +kernel
theorem dL_may_166 : decode cL_may 166 = .ok (.istore 9, 2) := by decide +kernel
theorem dL_may_168 : decode cL_may 168 = .ok (.iload 9, 2) := by decide +kernel
theorem dL_may_170 : decode cL_may 170 = .ok (.iload_n 1, 1) := by decide +kernel
theorem dL_may_171 : decode cL_may 171 = .ok (.if_icmp .gt 26, 3) := by decide +kernel
theorem dL_may_174 : decode cL_may 174 = .ok (.iload 8, 2) := by decide +kernel
theorem dL_may_176 : decode cL_may 176 = .ok (.aload_n 2, 1) := by decide +kernel
theorem dL_may_177 : decode cL_may 177 = .ok (.iload 9, 2) := by decide +kernel
theorem dL_may_179 : decode cL_may 179 = .ok (.iaload, 1) := by decide +kernel
theorem dL_may_180 : decode cL_may 180 = .ok (.ifCond .le 7, 3) := by decide +kernel
theorem dL_may_183 : decode cL_may 183 = .ok (.iconst 1, 1) := by decide +kernel
theorem dL_may_184 : decode cL_may 184 = .ok (.goto 4, 3) := by decide +kernel
theorem dL_may_187 : decode cL_may 187 = .ok (.iconst 0, 1) := by decide +kernel
theorem dL_may_188 : decode cL_may 188 = .ok (.iadd, 1) := by decide +kernel
theorem dL_may_189 : decode cL_may 189 = .ok (.istore 8, 2) := by decide +kernel
theorem dL_may_191 : decode cL_may 191 = .ok (.iinc 9 1, 3) := by decide +kernel
theorem dL_may_194 : decode cL_may 194 = .ok (.goto (-26), 3) := by decide +kernel
theorem dL_may_197 : decode cL_may 197 = .ok (.iload 8, 2) := by decide +kernel
theorem dL_may_199 : decode cL_may 199 = .ok (.aload_n 3, 1) := by decide +kernel
theorem dL_may_200 : decode cL_may 200 = .ok (.bipush 8, 2) := by decide +kernel
theorem dL_may_202 : decode cL_may 202 = .ok (.iload_n 0, 1) := by decide +kernel
theorem dL_may_203 : decode cL_may 203 = .ok (.imul, 1) := by decide +kernel
theorem dL_may_204 : decode cL_may 204 = .ok (.iconst 1, 1) := by decide +kernel
theorem dL_may_205 : decode cL_may 205 = .ok (.iadd, 1) := by decide +kernel
theorem dL_may_206 : decode cL_may 206 = .ok (.iaload, 1) := by decide +kernel
theorem dL_may_207 : decode cL_may 207 = .ok (.if_icmp .gt 23, 3) := by decide +kernel
theorem dL_may_210 : decode cL_may 210 = .ok (.aload_n 2, 1) := by decide +kernel
theorem dL_may_211 : decode cL_may 211 = .ok (.iload_n 1, 1) := by decide +kernel
theorem dL_may_212 : decode cL_may 212 = .ok (.iaload, 1) := by decide +kernel
theorem dL_may_213 : decode cL_may 213 = .ok (.ifCond .eq 13, 3) := by decide +kernel
theorem dL_may_216 : decode cL_may 216 = .ok (.iload 7, 2) := by decide +kernel
theorem dL_may_218 : decode cL_may 218 = .ok (.aload 5, 2) := by decide +kernel
theorem dL_may_220 : decode cL_may 220 = .ok (.bipush 44, 2) := by decide +kernel
theorem dL_may_222 : decode cL_may 222 = .ok (.iaload, 1) := by decide +kernel
theorem dL_may_223 : decode cL_may 223 = .ok (.if_icmp .gt 7, 3) := by decide +kernel
theorem dL_may_226 : decode cL_may 226 = .ok (.iconst 1, 1) := by decide +kernel
theorem dL_may_227 : decode cL_may 227 = .ok (.goto 4, 3) := by decide +kernel
theorem dL_may_230 : decode cL_may 230 = .ok (.iconst 0, 1) := by decide +kernel
theorem dL_may_231 : decode cL_may 231 = .ok (.ireturn, 1) := by decide +kernel
set_option maxRecDepth 20000 in
theorem ggL_isWeek_L_may : GoodIn wsL_isWeek wsL_may := goodIn_r _ [4] (by decide +kernel) (by decide +kernel)
set_option maxRecDepth 20000 in
theorem gL_isWeek_L_may : GoodIn wsL_isWeek (va_wsS RL 25 yL_may wsL_may) := goodIn_app (goodIn_of _ (by decide +kernel)) ggL_isWeek_L_may
theorem dL_isWeek_0 : decode cL_isWeek 0 = .ok (.iconst 1, 1) := by decide +kernel
theorem dL_isWeek_1 : decode cL_isWeek 1 = .ok (.istore 5, 2) := by decide +kernel
theorem dL_isWeek_3 : decode cL_isWeek 3 = .ok (.iconst 0, 1) := by decide +kernel
theorem dL_isWeek_4 : decode cL_isWeek 4 = .ok (.istore 6, 2) := by decide +kernel
theorem dL_isWeek_6 : decode cL_isWeek 6 = .ok (.iload 6, 2) := by decide +kernel
theorem dL_isWeek_8 : decode cL_isWeek 8 = .ok (.bipush 7, 2) := by decide +kernel
theorem dL_isWeek_10 : decode cL_isWeek 10 = .ok (.if_icmp .ge 35, 3) := by decide +kernel
theorem dL_isWeek_13 : decode cL_isWeek 13 = .ok (.iload 5, 2) := by decide +kernel
theorem dL_isWeek_15 : decode cL_isWeek 15 = .ok (.ifCond .eq 21, 3) := by decide +kernel
theorem dL_isWeek_18 : decode cL_isWeek 18 = .ok (.iload_n 0, 1) := by decide +kernel
theorem dL_isWeek_19 : decode cL_isWeek 19 = .ok (.iload 6, 2) := by decide +kernel
theorem dL_isWeek_21 : decode cL_isWeek 21 = .ok (.aload_n 1, 1) := by decide +kernel
theorem dL_isWeek_22 : decode cL_isWeek 22 = .ok (.aload_n 2, 1) := by decide +kernel
theorem dL_isWeek_23 : decode cL_isWeek 23 = .ok (.aload_n 3, 1) := by decide +kernel
theorem dL_isWeek_24 : decode cL_isWeek 24 = .ok (.aload 4, 2) := by decide +kernel
theorem dL_isWeek_26 : decode cL_isWeek 26 = .ok (.invokestatic 25, 3) := by decide +kernel
theorem dL_isWeek_29 : decode cL_isWeek 29 = .ok (.ifCond .eq 7, 3) := by decide +kernel
theorem dL_isWeek_32 : decode cL_isWeek 32 = .ok (.iconst 1, 1) := by decide +kernel
theorem dL_isWeek_33 : decode cL_isWeek 33 = .ok (.goto 4, 3) := by decide +kernel
theorem dL_isWeek_36 : decode cL_isWeek 36 = .ok (.iconst 0, 1) := by decide +kernel
theorem dL_isWeek_37 : decode cL_isWeek 37 = .ok (.istore 5, 2) := by decide +kernel
theorem dL_isWeek_39 : decode cL_isWeek 39 = .ok (.iinc 6 1, 3) := by decide +kernel
theorem dL_isWeek_42 : decode cL_isWeek 42 = .ok (.goto (-36), 3) := by decide +kernel
theorem dL_isWeek_45 : decode cL_isWeek 45 = .ok (.iload 5, 2) := by decide +kernel
theorem dL_isWeek_47 : decode cL_isWeek 47 = .ok (.ireturn, 1) := by decide +kernel
theorem dL_count_0 : decode cL_count 0 = .ok (.iconst 0, 1) := by decide +kernel
theorem dL_count_1 : decode cL_count 1 = .ok (.istore 5, 2) := by decide +kernel
theorem dL_count_3 : decode cL_count 3 = .ok (.iconst 0, 1) := by decide +kernel
theorem dL_count_4 : decode cL_count 4 = .ok (.istore 6, 2) := by decide +kernel
theorem dL_count_6 : decode cL_count 6 = .ok (.iload 6, 2) := by decide +kernel
theorem dL_count_8 : decode cL_count 8 = .ok (.aload 4, 2) := by decide +kernel
theorem dL_count_10 : decode cL_count 10 = .ok (.iconst 0, 1) := by decide +kernel
theorem dL_count_11 : decode cL_count 11 = .ok (.iaload, 1) := by decide +kernel
theorem dL_count_12 : decode cL_count 12 = .ok (.if_icmp .ge 38, 3) := by decide +kernel
theorem dL_count_15 : decode cL_count 15 = .ok (.iload 5, 2) := by decide +kernel
theorem dL_count_17 : decode cL_count 17 = .ok (.iload 6, 2) := by decide +kernel
theorem dL_count_19 : decode cL_count 19 = .ok (.iload_n 2, 1) := by decide +kernel
theorem dL_count_20 : decode cL_count 20 = .ok (.if_icmp .eq 20, 3) := by decide +kernel
theorem dL_count_23 : decode cL_count 23 = .ok (.aload_n 3, 1) := by decide +kernel
theorem dL_count_24 : decode cL_count 24 = .ok (.bipush 7, 2) := by decide +kernel
theorem dL_count_26 : decode cL_count 26 = .ok (.iload 6, 2) := by decide +kernel
theorem dL_count_28 : decode cL_count 28 = .ok (.imul, 1) := by decide +kernel
theorem dL_count_29 : decode cL_count 29 = .ok (.iload_n 0, 1) := by decide +kernel
theorem dL_count_30 : decode cL_count 30 = .ok (.iadd, 1) := by decide +kernel
theorem dL_count_31 : decode cL_count 31 = .ok (.iaload, 1) := by decide +kernel
theorem dL_count_32 : decode cL_count 32 = .ok (.iload_n 1, 1) := by decide +kernel
theorem dL_count_33 : decode cL_count 33 = .ok (.if_icmp .ne 7, 3) := by decide +kernel
theorem dL_count_36 : decode cL_count 36 = .ok (.iconst 1, 1) := by decide +kernel
theorem dL_count_37 : decode cL_count 37 = .ok (.goto 4, 3) := by decide +kernel
theorem dL_count_40 : decode cL_count 40 = .ok (.iconst 0, 1) := by decide +kernel
theorem dL_count_41 : decode cL_count 41 = .ok (.iadd, 1) := by decide +kernel
theorem dL_count_42 : decode cL_count 42 = .ok (.istore 5, 2) := by decide +kernel
theorem dL_count_44 : decode cL_count 44 = .ok (.iinc 6 1, 3) := by decide +kernel
theorem dL_count_47 : decode cL_count 47 = .ok (.goto (-41), 3) := by decide +kernel
theorem dL_count_50 : decode cL_count 50 = .ok (.iload 5, 2) := by decide +kernel
theorem dL_count_52 : decode cL_count 52 = .ok (.ireturn, 1) := by decide +kernel
set_option maxRecDepth 20000 in
theorem ggL_gaps_L_count : GoodIn wsL_gaps wsL_count := goodIn_r _ [4] (by decide +kernel) (by decide +kernel)
set_option maxRecDepth 20000 in
theorem gL_gaps_L_count : GoodIn wsL_gaps (va_wsS RL 31 yL_count wsL_count) := goodIn_app (goodIn_of _ (by decide +kernel)) ggL_gaps_L_count
theorem dL_gaps_0 : decode cL_gaps 0 = .ok (.iconst 0, 1) := by decide +kernel
theorem dL_gaps_1 : decode cL_gaps 1 = .ok (.istore_n 3, 1) := by decide +kernel
theorem dL_gaps_2 : decode cL_gaps 2 = .ok (.iconst 0, 1) := by decide +kernel
theorem dL_gaps_3 : decode cL_gaps 3 = .ok (.istore 4, 2) := by decide +kernel
theorem dL_gaps_5 : decode cL_gaps 5 = .ok (.iload 4, 2) := by decide +kernel
theorem dL_gaps_7 : decode cL_gaps 7 = .ok (.bipush 7, 2) := by decide +kernel
theorem dL_gaps_9 : decode cL_gaps 9 = .ok (.if_icmp .ge 60, 3) := by decide +kernel
theorem dL_gaps_12 : decode cL_gaps 12 = .ok (.iconst 1, 1) := by decide +kernel
theorem dL_gaps_13 : decode cL_gaps 13 = .ok (.istore 5, 2) := by decide +kernel
theorem dL_gaps_15 : decode cL_gaps 15 = .ok (.iload 5, 2) := by decide +kernel
theorem dL_gaps_17 : decode cL_gaps 17 = .ok (.iconst 4, 1) := by decide +kernel
theorem dL_gaps_18 : decode cL_gaps 18 = .ok (.if_icmp .ge 45, 3) := by decide +kernel
theorem dL_gaps_21 : decode cL_gaps 21 = .ok (.aload_n 1, 1) := by decide +kernel
theorem dL_gaps_22 : decode cL_gaps 22 = .ok (.iconst 4, 1) := by decide +kernel
theorem dL_gaps_23 : decode cL_gaps 23 = .ok (.iload 4, 2) := by decide +kernel
theorem dL_gaps_25 : decode cL_gaps 25 = .ok (.imul, 1) := by decide +kernel
theorem dL_gaps_26 : decode cL_gaps 26 = .ok (.iload 5, 2) := by decide +kernel
theorem dL_gaps_28 : decode cL_gaps 28 = .ok (.iadd, 1) := by decide +kernel
theorem dL_gaps_29 : decode cL_gaps 29 = .ok (.iaload, 1) := by decide +kernel
theorem dL_gaps_30 : decode cL_gaps 30 = .ok (.iload 4, 2) := by decide +kernel
theorem dL_gaps_32 : decode cL_gaps 32 = .ok (.iload 5, 2) := by decide +kernel
theorem dL_gaps_34 : decode cL_gaps 34 = .ok (.iconst (-1), 1) := by decide +kernel
theorem dL_gaps_35 : decode cL_gaps 35 = .ok (.aload_n 0, 1) := by decide +kernel
theorem dL_gaps_36 : decode cL_gaps 36 = .ok (.aload_n 2, 1) := by decide +kernel
theorem dL_gaps_37 : decode cL_gaps 37 = .ok (.invokestatic 31, 3) := by decide +kernel
theorem dL_gaps_40 : decode cL_gaps 40 = .ok (.isub, 1) := by decide +kernel
theorem dL_gaps_41 : decode cL_gaps 41 = .ok (.istore 6, 2) := by decide +kernel
theorem dL_gaps_43 : decode cL_gaps 43 = .ok (.iload_n 3, 1) := by decide +kernel
theorem dL_gaps_44 : decode cL_gaps 44 = .ok (.iload 6, 2) := by decide +kernel
theorem dL_gaps_46 : decode cL_gaps 46 = .ok (.ifCond .le 8, 3) := by decide +kernel
theorem dL_gaps_49 : decode cL_gaps 49 = .ok (.iload 6, 2) := by decide +kernel
theorem dL_gaps_51 : decode cL_gaps 51 = .ok (.goto 4, 3) := by decide +kernel
theorem dL_gaps_54 : decode cL_gaps 54 = .ok (.iconst 0, 1) := by decide +kernel
theorem dL_gaps_55 : decode cL_gaps 55 = .ok (.iadd, 1) := by decide +kernel
theorem dL_gaps_56 : decode cL_gaps 56 = .ok (.istore_n 3, 1) := by decide +kernel
theorem dL_gaps_57 : decode cL_gaps 57 = .ok (.iinc 5 1, 3) := by decide +kernel
theorem dL_gaps_60 : decode cL_gaps 60 = .ok (.goto (-45), 3) := by decide +kernel
theorem dL_gaps_63 : decode cL_gaps 63 = .ok (.iinc 4 1, 3) := by decide +kernel
theorem dL_gaps_66 : decode cL_gaps 66 = .ok (.goto (-61), 3) := by decide +kernel
theorem dL_gaps_69 : decode cL_gaps 69 = .ok (.iload_n 3, 1) := by decide +kernel
theorem dL_gaps_70 : decode cL_gaps 70 = .ok (.ireturn, 1) := by decide +kernel
theorem dL_worth_0 : decode cL_worth 0 = .ok (.ldc2_w 35, 3) := by decide +kernel
theorem dL_worth_3 : decode cL_worth 3 = .ok (.lstore 4, 2) := by decide +kernel
theorem dL_worth_5 : decode cL_worth 5 = .ok (.lconst 0, 1) := by decide +kernel
theorem dL_worth_6 : decode cL_worth 6 = .ok (.lstore 6, 2) := by decide +kernel
theorem dL_worth_8 : decode cL_worth 8 = .ok (.lconst 0, 1) := by decide +kernel
theorem dL_worth_9 : decode cL_worth 9 = .ok (.lstore 8, 2) := by decide +kernel
theorem dL_worth_11 : decode cL_worth 11 = .ok (.iconst 0, 1) := by decide +kernel
theorem dL_worth_12 : decode cL_worth 12 = .ok (.istore 10, 2) := by decide +kernel
theorem dL_worth_14 : decode cL_worth 14 = .ok (.iload 10, 2) := by decide +kernel
theorem dL_worth_16 : decode cL_worth 16 = .ok (.bipush 7, 2) := by decide +kernel
theorem dL_worth_18 : decode cL_worth 18 = .ok (.if_icmp .ge 94, 3) := by decide +kernel
theorem dL_worth_21 : decode cL_worth 21 = .ok (.lload 4, 2) := by decide +kernel
theorem dL_worth_23 : decode cL_worth 23 = .ok (.aload_n 1, 1) := by decide +kernel
theorem dL_worth_24 : decode cL_worth 24 = .ok (.iload 10, 2) := by decide +kernel
theorem dL_worth_26 : decode cL_worth 26 = .ok (.iaload, 1) := by decide +kernel
theorem dL_worth_27 : decode cL_worth 27 = .ok (.ifCond .le 24, 3) := by decide +kernel
theorem dL_worth_30 : decode cL_worth 30 = .ok (.iload_n 3, 1) := by decide +kernel
theorem dL_worth_31 : decode cL_worth 31 = .ok (.iconst 4, 1) := by decide +kernel
theorem dL_worth_32 : decode cL_worth 32 = .ok (.iload 10, 2) := by decide +kernel
theorem dL_worth_34 : decode cL_worth 34 = .ok (.imul, 1) := by decide +kernel
theorem dL_worth_35 : decode cL_worth 35 = .ok (.aload_n 1, 1) := by decide +kernel
theorem dL_worth_36 : decode cL_worth 36 = .ok (.iload 10, 2) := by decide +kernel
theorem dL_worth_38 : decode cL_worth 38 = .ok (.iaload, 1) := by decide +kernel
theorem dL_worth_39 : decode cL_worth 39 = .ok (.iadd, 1) := by decide +kernel
theorem dL_worth_40 : decode cL_worth 40 = .ok (.ishr, 1) := by decide +kernel
theorem dL_worth_41 : decode cL_worth 41 = .ok (.iconst 1, 1) := by decide +kernel
theorem dL_worth_42 : decode cL_worth 42 = .ok (.iand, 1) := by decide +kernel
theorem dL_worth_43 : decode cL_worth 43 = .ok (.iconst 1, 1) := by decide +kernel
theorem dL_worth_44 : decode cL_worth 44 = .ok (.if_icmp .ne 7, 3) := by decide +kernel
theorem dL_worth_47 : decode cL_worth 47 = .ok (.lconst 1, 1) := by decide +kernel
theorem dL_worth_48 : decode cL_worth 48 = .ok (.goto 4, 3) := by decide +kernel
theorem dL_worth_51 : decode cL_worth 51 = .ok (.lconst 0, 1) := by decide +kernel
theorem dL_worth_52 : decode cL_worth 52 = .ok (.lsub, 1) := by decide +kernel
theorem dL_worth_53 : decode cL_worth 53 = .ok (.lstore 4, 2) := by decide +kernel
theorem dL_worth_55 : decode cL_worth 55 = .ok (.lload 6, 2) := by decide +kernel
theorem dL_worth_57 : decode cL_worth 57 = .ok (.aload_n 1, 1) := by decide +kernel
theorem dL_worth_58 : decode cL_worth 58 = .ok (.iload 10, 2) := by decide +kernel
theorem dL_worth_60 : decode cL_worth 60 = .ok (.iaload, 1) := by decide +kernel
theorem dL_worth_61 : decode cL_worth 61 = .ok (.ifCond .le 7, 3) := by decide +kernel
theorem dL_worth_64 : decode cL_worth 64 = .ok (.lconst 1, 1) := by decide +kernel
theorem dL_worth_65 : decode cL_worth 65 = .ok (.goto 4, 3) := by decide +kernel
theorem dL_worth_68 : decode cL_worth 68 = .ok (.lconst 0, 1) := by decide +kernel
theorem dL_worth_69 : decode cL_worth 69 = .ok (.ladd, 1) := by decide +kernel
theorem dL_worth_70 : decode cL_worth 70 = .ok (.lstore 6, 2) := by decide +kernel
theorem dL_worth_72 : decode cL_worth 72 = .ok (.lload 8, 2) := by decide +kernel
theorem dL_worth_74 : decode cL_worth 74 = .ok (.aload_n 1, 1) := by decide +kernel
theorem dL_worth_75 : decode cL_worth 75 = .ok (.iload 10, 2) := by decide +kernel
theorem dL_worth_77 : decode cL_worth 77 = .ok (.iaload, 1) := by decide +kernel
theorem dL_worth_78 : decode cL_worth 78 = .ok (.ifCond .le 24, 3) := by decide +kernel
theorem dL_worth_81 : decode cL_worth 81 = .ok (.aload_n 2, 1) := by decide +kernel
theorem dL_worth_82 : decode cL_worth 82 = .ok (.bipush 8, 2) := by decide +kernel
theorem dL_worth_84 : decode cL_worth 84 = .ok (.iload_n 0, 1) := by decide +kernel
theorem dL_worth_85 : decode cL_worth 85 = .ok (.imul, 1) := by decide +kernel
theorem dL_worth_86 : decode cL_worth 86 = .ok (.iconst 2, 1) := by decide +kernel
theorem dL_worth_87 : decode cL_worth 87 = .ok (.iadd, 1) := by decide +kernel
theorem dL_worth_88 : decode cL_worth 88 = .ok (.iaload, 1) := by decide +kernel
theorem dL_worth_89 : decode cL_worth 89 = .ok (.iload 10, 2) := by decide +kernel
theorem dL_worth_91 : decode cL_worth 91 = .ok (.ishr, 1) := by decide +kernel
theorem dL_worth_92 : decode cL_worth 92 = .ok (.iconst 1, 1) := by decide +kernel
theorem dL_worth_93 : decode cL_worth 93 = .ok (.iand, 1) := by decide +kernel
theorem dL_worth_94 : decode cL_worth 94 = .ok (.iconst 1, 1) := by decide +kernel
theorem dL_worth_95 : decode cL_worth 95 = .ok (.if_icmp .ne 7, 3) := by decide +kernel
theorem dL_worth_98 : decode cL_worth 98 = .ok (.lconst 1, 1) := by decide +kernel
theorem dL_worth_99 : decode cL_worth 99 = .ok (.goto 4, 3) := by decide +kernel
theorem dL_worth_102 : decode cL_worth 102 = .ok (.lconst 0, 1) := by decide +kernel
theorem dL_worth_103 : decode cL_worth 103 = .ok (.ladd, 1) := by decide +kernel
theorem dL_worth_104 : decode cL_worth 104 = .ok (.lstore 8, 2) := by decide +kernel
theorem dL_worth_106 : decode cL_worth 106 = .ok (.iinc 10 1, 3) := by decide +kernel
theorem dL_worth_109 : decode cL_worth 109 = .ok (.goto (-95), 3) := by decide +kernel
theorem dL_worth_112 : decode cL_worth 112 = .ok (.aload_n 1, 1) := by decide +kernel
theorem dL_worth_113 : decode cL_worth 113 = .ok (.iconst 5, 1) := by decide +kernel
theorem dL_worth_114 : decode cL_worth 114 = .ok (.iaload, 1) := by decide +kernel
theorem dL_worth_115 : decode cL_worth 115 = .ok (.ifCond .le 7, 3) := by decide +kernel
theorem dL_worth_118 : decode cL_worth 118 = .ok (.lconst 1, 1) := by decide +kernel
theorem dL_worth_119 : decode cL_worth 119 = .ok (.goto 4, 3) := by decide +kernel
theorem dL_worth_122 : decode cL_worth 122 = .ok (.lconst 0, 1) := by decide +kernel
theorem dL_worth_123 : decode cL_worth 123 = .ok (.aload_n 1, 1) := by decide +kernel
theorem dL_worth_124 : decode cL_worth 124 = .ok (.bipush 6, 2) := by decide +kernel
theorem dL_worth_126 : decode cL_worth 126 = .ok (.iaload, 1) := by decide +kernel
theorem dL_worth_127 : decode cL_worth 127 = .ok (.ifCond .le 7, 3) := by decide +kernel
theorem dL_worth_130 : decode cL_worth 130 = .ok (.lconst 1, 1) := by decide +kernel
theorem dL_worth_131 : decode cL_worth 131 = .ok (.goto 4, 3) := by decide +kernel
theorem dL_worth_134 : decode cL_worth 134 = .ok (.lconst 0, 1) := by decide +kernel
theorem dL_worth_135 : decode cL_worth 135 = .ok (.ladd, 1) := by decide +kernel
theorem dL_worth_136 : decode cL_worth 136 = .ok (.aload_n 2, 1) := by decide +kernel
theorem dL_worth_137 : decode cL_worth 137 = .ok (.bipush 8, 2) := by decide +kernel
theorem dL_worth_139 : decode cL_worth 139 = .ok (.iload_n 0, 1) := by decide +kernel
theorem dL_worth_140 : decode cL_worth 140 = .ok (.imul, 1) := by decide +kernel
theorem dL_worth_141 : decode cL_worth 141 = .ok (.iconst 5, 1) := by decide +kernel
theorem dL_worth_142 : decode cL_worth 142 = .ok (.iadd, 1) := by decide +kernel
theorem dL_worth_143 : decode cL_worth 143 = .ok (.iaload, 1) := by decide +kernel
theorem dL_worth_144 : decode cL_worth 144 = .ok (.i2l, 1) := by decide +kernel
theorem dL_worth_145 : decode cL_worth 145 = .ok (.lmul, 1) := by decide +kernel
theorem dL_worth_146 : decode cL_worth 146 = .ok (.lstore 10, 2) := by decide +kernel
theorem dL_worth_148 : decode cL_worth 148 = .ok (.lload 4, 2) := by decide +kernel
theorem dL_worth_150 : decode cL_worth 150 = .ok (.ldc2_w 37, 3) := by decide +kernel
theorem dL_worth_153 : decode cL_worth 153 = .ok (.lmul, 1) := by decide +kernel
theorem dL_worth_154 : decode cL_worth 154 = .ok (.lload 6, 2) := by decide +kernel
theorem dL_worth_156 : decode cL_worth 156 = .ok (.ladd, 1) := by decide +kernel
theorem dL_worth_157 : decode cL_worth 157 = .ok (.ldc2_w 39, 3) := by decide +kernel
theorem dL_worth_160 : decode cL_worth 160 = .ok (.lmul, 1) := by decide +kernel
theorem dL_worth_161 : decode cL_worth 161 = .ok (.lload 10, 2) := by decide +kernel
theorem dL_worth_163 : decode cL_worth 163 = .ok (.ladd, 1) := by decide +kernel
theorem dL_worth_164 : decode cL_worth 164 = .ok (.ldc2_w 37, 3) := by decide +kernel
theorem dL_worth_167 : decode cL_worth 167 = .ok (.lmul, 1) := by decide +kernel
theorem dL_worth_168 : decode cL_worth 168 = .ok (.lload 8, 2) := by decide +kernel
theorem dL_worth_170 : decode cL_worth 170 = .ok (.ladd, 1) := by decide +kernel
theorem dL_worth_171 : decode cL_worth 171 = .ok (.lreturn, 1) := by decide +kernel
set_option maxRecDepth 20000 in
theorem ggL_weeks_L_may : GoodIn wsL_weeks wsL_may := goodIn_r _ [5] (by decide +kernel) (by decide +kernel)
set_option maxRecDepth 20000 in
theorem gL_weeks_L_may : GoodIn wsL_weeks (va_wsS RL 25 yL_may wsL_may) := goodIn_app (goodIn_of _ (by decide +kernel)) ggL_weeks_L_may
set_option maxRecDepth 20000 in
theorem ggL_weeks_L_worth : GoodIn wsL_weeks wsL_worth := goodIn_r _ [8, 9, 10, 11] (by decide +kernel) (by decide +kernel)
set_option maxRecDepth 20000 in
theorem gL_weeks_L_worth : GoodIn wsL_weeks (va_wsS RL 43 yL_worth wsL_worth) := goodIn_app (goodIn_of _ (by decide +kernel)) ggL_weeks_L_worth
theorem dL_weeks_0 : decode cL_weeks 0 = .ok (.iconst 0, 1) := by decide +kernel
theorem dL_weeks_1 : decode cL_weeks 1 = .ok (.istore 7, 2) := by decide +kernel
theorem dL_weeks_3 : decode cL_weeks 3 = .ok (.ldc2_w 41, 3) := by decide +kernel
theorem dL_weeks_6 : decode cL_weeks 6 = .ok (.lstore 8, 2) := by decide +kernel
theorem dL_weeks_8 : decode cL_weeks 8 = .ok (.iconst 0, 1) := by decide +kernel
theorem dL_weeks_9 : decode cL_weeks 9 = .ok (.istore 10, 2) := by decide +kernel
theorem dL_weeks_11 : decode cL_weeks 11 = .ok (.aload_n 2, 1) := by decide +kernel
theorem dL_weeks_12 : decode cL_weeks 12 = .ok (.iconst 0, 1) := by decide +kernel
theorem dL_weeks_13 : decode cL_weeks 13 = .ok (.iconst (-1), 1) := by decide +kernel
theorem dL_weeks_14 : decode cL_weeks 14 = .ok (.iastore, 1) := by decide +kernel
theorem dL_weeks_15 : decode cL_weeks 15 = .ok (.iload 10, 2) := by decide +kernel
theorem dL_weeks_17 : decode cL_weeks 17 = .ok (.ifCond .lt 161, 3) := by decide +kernel
theorem dL_weeks_20 : decode cL_weeks 20 = .ok (.aload_n 2, 1) := by decide +kernel
theorem dL_weeks_21 : decode cL_weeks 21 = .ok (.iload 10, 2) := by decide +kernel
theorem dL_weeks_23 : decode cL_weeks 23 = .ok (.dup2, 1) := by decide +kernel
theorem dL_weeks_24 : decode cL_weeks 24 = .ok (.iaload, 1) := by decide +kernel
theorem dL_weeks_25 : decode cL_weeks 25 = .ok (.iconst 1, 1) := by decide +kernel
theorem dL_weeks_26 : decode cL_weeks 26 = .ok (.iadd, 1) := by decide +kernel
theorem dL_weeks_27 : decode cL_weeks 27 = .ok (.iastore, 1) := by decide +kernel
theorem dL_weeks_28 : decode cL_weeks 28 = .ok (.aload_n 2, 1) := by decide +kernel
theorem dL_weeks_29 : decode cL_weeks 29 = .ok (.iload 10, 2) := by decide +kernel
theorem dL_weeks_31 : decode cL_weeks 31 = .ok (.iaload, 1) := by decide +kernel
theorem dL_weeks_32 : decode cL_weeks 32 = .ok (.iconst 3, 1) := by decide +kernel
theorem dL_weeks_33 : decode cL_weeks 33 = .ok (.if_icmp .le 9, 3) := by decide +kernel
theorem dL_weeks_36 : decode cL_weeks 36 = .ok (.iinc 10 (-1), 3) := by decide +kernel
theorem dL_weeks_39 : decode cL_weeks 39 = .ok (.goto (-24), 3) := by decide +kernel
theorem dL_weeks_42 : decode cL_weeks 42 = .ok (.iload_n 0, 1) := by decide +kernel
theorem dL_weeks_43 : decode cL_weeks 43 = .ok (.iload 10, 2) := by decide +kernel
theorem dL_weeks_45 : decode cL_weeks 45 = .ok (.aload_n 2, 1) := by decide +kernel
theorem dL_weeks_46 : decode cL_weeks 46 = .ok (.aload 4, 2) := by decide +kernel
theorem dL_weeks_48 : decode cL_weeks 48 = .ok (.aload 5, 2) := by decide +kernel
theorem dL_weeks_50 : decode cL_weeks 50 = .ok (.aload 6, 2) := by decide +kernel
theorem dL_weeks_52 : decode cL_weeks 52 = .ok (.invokestatic 25, 3) := by decide +kernel
theorem dL_weeks_55 : decode cL_weeks 55 = .ok (.ifCond .eq 21, 3) := by decide +kernel
theorem dL_weeks_58 : decode cL_weeks 58 = .ok (.iload 10, 2) := by decide +kernel
theorem dL_weeks_60 : decode cL_weeks 60 = .ok (.bipush 6, 2) := by decide +kernel
theorem dL_weeks_62 : decode cL_weeks 62 = .ok (.if_icmp .ge 14, 3) := by decide +kernel
theorem dL_weeks_65 : decode cL_weeks 65 = .ok (.iinc 10 1, 3) := by decide +kernel
theorem dL_weeks_68 : decode cL_weeks 68 = .ok (.aload_n 2, 1) := by decide +kernel
theorem dL_weeks_69 : decode cL_weeks 69 = .ok (.iload 10, 2) := by decide +kernel
theorem dL_weeks_71 : decode cL_weeks 71 = .ok (.iconst (-1), 1) := by decide +kernel
theorem dL_weeks_72 : decode cL_weeks 72 = .ok (.iastore, 1) := by decide +kernel
theorem dL_weeks_73 : decode cL_weeks 73 = .ok (.goto (-58), 3) := by decide +kernel
theorem dL_weeks_76 : decode cL_weeks 76 = .ok (.iload 10, 2) := by decide +kernel
theorem dL_weeks_78 : decode cL_weeks 78 = .ok (.bipush 6, 2) := by decide +kernel
theorem dL_weeks_80 : decode cL_weeks 80 = .ok (.if_icmp .ne (-65), 3) := by decide +kernel
theorem dL_weeks_83 : decode cL_weeks 83 = .ok (.iload_n 0, 1) := by decide +kernel
theorem dL_weeks_84 : decode cL_weeks 84 = .ok (.iload 10, 2) := by decide +kernel
theorem dL_weeks_86 : decode cL_weeks 86 = .ok (.aload_n 2, 1) := by decide +kernel
theorem dL_weeks_87 : decode cL_weeks 87 = .ok (.aload 4, 2) := by decide +kernel
theorem dL_weeks_89 : decode cL_weeks 89 = .ok (.aload 5, 2) := by decide +kernel
theorem dL_weeks_91 : decode cL_weeks 91 = .ok (.aload 6, 2) := by decide +kernel
theorem dL_weeks_93 : decode cL_weeks 93 = .ok (.invokestatic 25, 3) := by decide +kernel
theorem dL_weeks_96 : decode cL_weeks 96 = .ok (.ifCond .eq (-81), 3) := by decide +kernel
theorem dL_weeks_99 : decode cL_weeks 99 = .ok (.iinc 7 1, 3) := by decide +kernel
theorem dL_weeks_102 : decode cL_weeks 102 = .ok (.iload_n 0, 1) := by decide +kernel
theorem dL_weeks_103 : decode cL_weeks 103 = .ok (.aload_n 2, 1) := by decide +kernel
theorem dL_weeks_104 : decode cL_weeks 104 = .ok (.aload 4, 2) := by decide +kernel
theorem dL_weeks_106 : decode cL_weeks 106 = .ok (.iload_n 1, 1) := by decide +kernel
theorem dL_weeks_107 : decode cL_weeks 107 = .ok (.invokestatic 43, 3) := by decide +kernel
theorem dL_weeks_110 : decode cL_weeks 110 = .ok (.lstore 11, 2) := by decide +kernel
theorem dL_weeks_112 : decode cL_weeks 112 = .ok (.iconst 0, 1) := by decide +kernel
theorem dL_weeks_113 : decode cL_weeks 113 = .ok (.istore 13, 2) := by decide +kernel
theorem dL_weeks_115 : decode cL_weeks 115 = .ok (.iload 13, 2) := by decide +kernel
theorem dL_weeks_117 : decode cL_weeks 117 = .ok (.bipush 7, 2) := by decide +kernel
theorem dL_weeks_119 : decode cL_weeks 119 = .ok (.if_icmp .ge 32, 3) := by decide +kernel
theorem dL_weeks_122 : decode cL_weeks 122 = .ok (.lload 8, 2) := by decide +kernel
theorem dL_weeks_124 : decode cL_weeks 124 = .ok (.lconst 0, 1) := by decide +kernel
theorem dL_weeks_125 : decode cL_weeks 125 = .ok (.lcmp, 1) := by decide +kernel
theorem dL_weeks_126 : decode cL_weeks 126 = .ok (.ifCond .lt 11, 3) := by decide +kernel
theorem dL_weeks_129 : decode cL_weeks 129 = .ok (.lload 11, 2) := by decide +kernel
theorem dL_weeks_131 : decode cL_weeks 131 = .ok (.lload 8, 2) := by decide +kernel
theorem dL_weeks_133 : decode cL_weeks 133 = .ok (.lcmp, 1) := by decide +kernel
theorem dL_weeks_134 : decode cL_weeks 134 = .ok (.ifCond .ge 17, 3) := by decide +kernel
theorem dL_weeks_137 : decode cL_weeks 137 = .ok (.aload_n 3, 1) := by decide +kernel
theorem dL_weeks_138 : decode cL_weeks 138 = .ok (.iload 13, 2) := by decide +kernel
theorem dL_weeks_140 : decode cL_weeks 140 = .ok (.aload_n 2, 1) := by decide +kernel
theorem dL_weeks_141 : decode cL_weeks 141 = .ok (.iload 13, 2) := by decide +kernel
theorem dL_weeks_143 : decode cL_weeks 143 = .ok (.iaload, 1) := by decide +kernel
theorem dL_weeks_144 : decode cL_weeks 144 = .ok (.iastore, 1) := by decide +kernel
theorem dL_weeks_145 : decode cL_weeks 145 = .ok (.iinc 13 1, 3) := by decide +kernel
theorem dL_weeks_148 : decode cL_weeks 148 = .ok (.goto (-33), 3) := by decide +kernel
theorem dL_weeks_151 : decode cL_weeks 151 = .ok (.lload 8, 2) := by decide +kernel
theorem dL_weeks_153 : decode cL_weeks 153 = .ok (.lconst 0, 1) := by decide +kernel
theorem dL_weeks_154 : decode cL_weeks 154 = .ok (.lcmp, 1) := by decide +kernel
theorem dL_weeks_155 : decode cL_weeks 155 = .ok (.ifCond .lt 11, 3) := by decide +kernel
theorem dL_weeks_158 : decode cL_weeks 158 = .ok (.lload 11, 2) := by decide +kernel
theorem dL_weeks_160 : decode cL_weeks 160 = .ok (.lload 8, 2) := by decide +kernel
theorem dL_weeks_162 : decode cL_weeks 162 = .ok (.lcmp, 1) := by decide +kernel
theorem dL_weeks_163 : decode cL_weeks 163 = .ok (.ifCond .ge 8, 3) := by decide +kernel
theorem dL_weeks_166 : decode cL_weeks 166 = .ok (.lload 11, 2) := by decide +kernel
theorem dL_weeks_168 : decode cL_weeks 168 = .ok (.goto 5, 3) := by decide +kernel
theorem dL_weeks_171 : decode cL_weeks 171 = .ok (.lload 8, 2) := by decide +kernel
theorem dL_weeks_173 : decode cL_weeks 173 = .ok (.lstore 8, 2) := by decide +kernel
theorem dL_weeks_175 : decode cL_weeks 175 = .ok (.goto (-160), 3) := by decide +kernel
theorem dL_weeks_178 : decode cL_weeks 178 = .ok (.iconst 0, 1) := by decide +kernel
theorem dL_weeks_179 : decode cL_weeks 179 = .ok (.istore 11, 2) := by decide +kernel
theorem dL_weeks_181 : decode cL_weeks 181 = .ok (.iload 11, 2) := by decide +kernel
theorem dL_weeks_183 : decode cL_weeks 183 = .ok (.bipush 7, 2) := by decide +kernel
theorem dL_weeks_185 : decode cL_weeks 185 = .ok (.if_icmp .ge 19, 3) := by decide +kernel
theorem dL_weeks_188 : decode cL_weeks 188 = .ok (.iload 7, 2) := by decide +kernel
theorem dL_weeks_190 : decode cL_weeks 190 = .ok (.ifCond .ne 14, 3) := by decide +kernel
theorem dL_weeks_193 : decode cL_weeks 193 = .ok (.aload_n 3, 1) := by decide +kernel
theorem dL_weeks_194 : decode cL_weeks 194 = .ok (.iload 11, 2) := by decide +kernel
theorem dL_weeks_196 : decode cL_weeks 196 = .ok (.iconst 0, 1) := by decide +kernel
theorem dL_weeks_197 : decode cL_weeks 197 = .ok (.iastore, 1) := by decide +kernel
theorem dL_weeks_198 : decode cL_weeks 198 = .ok (.iinc 11 1, 3) := by decide +kernel
theorem dL_weeks_201 : decode cL_weeks 201 = .ok (.goto (-20), 3) := by decide +kernel
theorem dL_weeks_204 : decode cL_weeks 204 = .ok (.iload 7, 2) := by decide +kernel
theorem dL_weeks_206 : decode cL_weeks 206 = .ok (.ireturn, 1) := by decide +kernel
set_option maxRecDepth 20000 in
theorem ggL_plans_L_count : GoodIn wsL_plans wsL_count := goodIn_r _ [4] (by decide +kernel) (by decide +kernel)
set_option maxRecDepth 20000 in
theorem gL_plans_L_count : GoodIn wsL_plans (va_wsS RL 31 yL_count wsL_count) := goodIn_app (goodIn_of _ (by decide +kernel)) ggL_plans_L_count
set_option maxRecDepth 20000 in
theorem ggL_plans_L_weeks : GoodIn wsL_plans wsL_weeks := goodIn_r _ [7, 8, 9, 10, 3, 11, 12, 13, 14, 15, 16, 17] (by decide +kernel) (by decide +kernel)
set_option maxRecDepth 20000 in
theorem gL_plans_L_weeks : GoodIn wsL_plans (va_wsS RL 47 yL_weeks wsL_weeks) := goodIn_app (goodIn_of _ (by decide +kernel)) ggL_plans_L_weeks
theorem dL_plans_0 : decode cL_plans 0 = .ok (.iconst 0, 1) := by decide +kernel
theorem dL_plans_1 : decode cL_plans 1 = .ok (.istore 7, 2) := by decide +kernel
theorem dL_plans_3 : decode cL_plans 3 = .ok (.iload 7, 2) := by decide +kernel
theorem dL_plans_5 : decode cL_plans 5 = .ok (.bipush 56, 2) := by decide +kernel
theorem dL_plans_7 : decode cL_plans 7 = .ok (.if_icmp .ge 14, 3) := by decide +kernel
theorem dL_plans_10 : decode cL_plans 10 = .ok (.aload_n 3, 1) := by decide +kernel
theorem dL_plans_11 : decode cL_plans 11 = .ok (.iload 7, 2) := by decide +kernel
theorem dL_plans_13 : decode cL_plans 13 = .ok (.iconst 0, 1) := by decide +kernel
theorem dL_plans_14 : decode cL_plans 14 = .ok (.iastore, 1) := by decide +kernel
theorem dL_plans_15 : decode cL_plans 15 = .ok (.iinc 7 1, 3) := by decide +kernel
theorem dL_plans_18 : decode cL_plans 18 = .ok (.goto (-15), 3) := by decide +kernel
theorem dL_plans_21 : decode cL_plans 21 = .ok (.iconst 1, 1) := by decide +kernel
theorem dL_plans_22 : decode cL_plans 22 = .ok (.istore 7, 2) := by decide +kernel
theorem dL_plans_24 : decode cL_plans 24 = .ok (.aload 6, 2) := by decide +kernel
theorem dL_plans_26 : decode cL_plans 26 = .ok (.iconst 2, 1) := by decide +kernel
theorem dL_plans_27 : decode cL_plans 27 = .ok (.iconst 0, 1) := by decide +kernel
theorem dL_plans_28 : decode cL_plans 28 = .ok (.iastore, 1) := by decide +kernel
theorem dL_plans_29 : decode cL_plans 29 = .ok (.iload 7, 2) := by decide +kernel
theorem dL_plans_31 : decode cL_plans 31 = .ok (.ifCond .eq 182, 3) := by decide +kernel
theorem dL_plans_34 : decode cL_plans 34 = .ok (.aload 6, 2) := by decide +kernel
theorem dL_plans_36 : decode cL_plans 36 = .ok (.iconst 2, 1) := by decide +kernel
theorem dL_plans_37 : decode cL_plans 37 = .ok (.iaload, 1) := by decide +kernel
theorem dL_plans_38 : decode cL_plans 38 = .ok (.bipush 10, 2) := by decide +kernel
theorem dL_plans_40 : decode cL_plans 40 = .ok (.if_icmp .ge 173, 3) := by decide +kernel
theorem dL_plans_43 : decode cL_plans 43 = .ok (.iconst 0, 1) := by decide +kernel
theorem dL_plans_44 : decode cL_plans 44 = .ok (.istore 7, 2) := by decide +kernel
theorem dL_plans_46 : decode cL_plans 46 = .ok (.iconst 0, 1) := by decide +kernel
theorem dL_plans_47 : decode cL_plans 47 = .ok (.istore 8, 2) := by decide +kernel
theorem dL_plans_49 : decode cL_plans 49 = .ok (.iload 8, 2) := by decide +kernel
theorem dL_plans_51 : decode cL_plans 51 = .ok (.aload 6, 2) := by decide +kernel
theorem dL_plans_53 : decode cL_plans 53 = .ok (.iconst 0, 1) := by decide +kernel
theorem dL_plans_54 : decode cL_plans 54 = .ok (.iaload, 1) := by decide +kernel
theorem dL_plans_55 : decode cL_plans 55 = .ok (.if_icmp .ge 147, 3) := by decide +kernel
theorem dL_plans_58 : decode cL_plans 58 = .ok (.iconst 0, 1) := by decide +kernel
theorem dL_plans_59 : decode cL_plans 59 = .ok (.istore 9, 2) := by decide +kernel
theorem dL_plans_61 : decode cL_plans 61 = .ok (.iconst 0, 1) := by decide +kernel
theorem dL_plans_62 : decode cL_plans 62 = .ok (.istore 10, 2) := by decide +kernel
theorem dL_plans_64 : decode cL_plans 64 = .ok (.iload 10, 2) := by decide +kernel
theorem dL_plans_66 : decode cL_plans 66 = .ok (.bipush 28, 2) := by decide +kernel
theorem dL_plans_68 : decode cL_plans 68 = .ok (.if_icmp .ge 53, 3) := by decide +kernel
theorem dL_plans_71 : decode cL_plans 71 = .ok (.iload 9, 2) := by decide +kernel
theorem dL_plans_73 : decode cL_plans 73 = .ok (.iload 10, 2) := by decide +kernel
theorem dL_plans_75 : decode cL_plans 75 = .ok (.iconst 4, 1) := by decide +kernel
theorem dL_plans_76 : decode cL_plans 76 = .ok (.irem, 1) := by decide +kernel
theorem dL_plans_77 : decode cL_plans 77 = .ok (.ifCond .le 34, 3) := by decide +kernel
theorem dL_plans_80 : decode cL_plans 80 = .ok (.aload 5, 2) := by decide +kernel
theorem dL_plans_82 : decode cL_plans 82 = .ok (.iload 10, 2) := by decide +kernel
theorem dL_plans_84 : decode cL_plans 84 = .ok (.iaload, 1) := by decide +kernel
theorem dL_plans_85 : decode cL_plans 85 = .ok (.iload 10, 2) := by decide +kernel
theorem dL_plans_87 : decode cL_plans 87 = .ok (.iconst 4, 1) := by decide +kernel
theorem dL_plans_88 : decode cL_plans 88 = .ok (.idiv, 1) := by decide +kernel
theorem dL_plans_89 : decode cL_plans 89 = .ok (.iload 10, 2) := by decide +kernel
theorem dL_plans_91 : decode cL_plans 91 = .ok (.iconst 4, 1) := by decide +kernel
theorem dL_plans_92 : decode cL_plans 92 = .ok (.irem, 1) := by decide +kernel
theorem dL_plans_93 : decode cL_plans 93 = .ok (.iload 8, 2) := by decide +kernel
theorem dL_plans_95 : decode cL_plans 95 = .ok (.aload_n 3, 1) := by decide +kernel
theorem dL_plans_96 : decode cL_plans 96 = .ok (.aload 6, 2) := by decide +kernel
theorem dL_plans_98 : decode cL_plans 98 = .ok (.invokestatic 31, 3) := by decide +kernel
theorem dL_plans_101 : decode cL_plans 101 = .ok (.if_icmp .le 10, 3) := by decide +kernel
theorem dL_plans_104 : decode cL_plans 104 = .ok (.iconst 1, 1) := by decide +kernel
theorem dL_plans_105 : decode cL_plans 105 = .ok (.iload 10, 2) := by decide +kernel
theorem dL_plans_107 : decode cL_plans 107 = .ok (.ishl, 1) := by decide +kernel
theorem dL_plans_108 : decode cL_plans 108 = .ok (.goto 4, 3) := by decide +kernel
theorem dL_plans_111 : decode cL_plans 111 = .ok (.iconst 0, 1) := by decide +kernel
theorem dL_plans_112 : decode cL_plans 112 = .ok (.ior, 1) := by decide +kernel
theorem dL_plans_113 : decode cL_plans 113 = .ok (.istore 9, 2) := by decide +kernel
theorem dL_plans_115 : decode cL_plans 115 = .ok (.iinc 10 1, 3) := by decide +kernel
theorem dL_plans_118 : decode cL_plans 118 = .ok (.goto (-54), 3) := by decide +kernel
theorem dL_plans_121 : decode cL_plans 121 = .ok (.iload 8, 2) := by decide +kernel
theorem dL_plans_123 : decode cL_plans 123 = .ok (.iload 9, 2) := by decide +kernel
theorem dL_plans_125 : decode cL_plans 125 = .ok (.aload_n 0, 1) := by decide +kernel
theorem dL_plans_126 : decode cL_plans 126 = .ok (.aload_n 1, 1) := by decide +kernel
theorem dL_plans_127 : decode cL_plans 127 = .ok (.aload_n 2, 1) := by decide +kernel
theorem dL_plans_128 : decode cL_plans 128 = .ok (.aload 4, 2) := by decide +kernel
theorem dL_plans_130 : decode cL_plans 130 = .ok (.aload 5, 2) := by decide +kernel
theorem dL_plans_132 : decode cL_plans 132 = .ok (.invokestatic 47, 3) := by decide +kernel
theorem dL_plans_135 : decode cL_plans 135 = .ok (.istore 10, 2) := by decide +kernel
theorem dL_plans_137 : decode cL_plans 137 = .ok (.iconst 0, 1) := by decide +kernel
theorem dL_plans_138 : decode cL_plans 138 = .ok (.istore 11, 2) := by decide +kernel
theorem dL_plans_140 : decode cL_plans 140 = .ok (.iload 11, 2) := by decide +kernel
theorem dL_plans_142 : decode cL_plans 142 = .ok (.bipush 7, 2) := by decide +kernel
theorem dL_plans_144 : decode cL_plans 144 = .ok (.if_icmp .ge 52, 3) := by decide +kernel
theorem dL_plans_147 : decode cL_plans 147 = .ok (.iload 7, 2) := by decide +kernel
theorem dL_plans_149 : decode cL_plans 149 = .ok (.ifCond .ne 20, 3) := by decide +kernel
theorem dL_plans_152 : decode cL_plans 152 = .ok (.aload_n 3, 1) := by decide +kernel
theorem dL_plans_153 : decode cL_plans 153 = .ok (.bipush 7, 2) := by decide +kernel
theorem dL_plans_155 : decode cL_plans 155 = .ok (.iload 8, 2) := by decide +kernel
theorem dL_plans_157 : decode cL_plans 157 = .ok (.imul, 1) := by decide +kernel
theorem dL_plans_158 : decode cL_plans 158 = .ok (.iload 11, 2) := by decide +kernel
theorem dL_plans_160 : decode cL_plans 160 = .ok (.iadd, 1) := by decide +kernel
theorem dL_plans_161 : decode cL_plans 161 = .ok (.iaload, 1) := by decide +kernel
theorem dL_plans_162 : decode cL_plans 162 = .ok (.aload_n 1, 1) := by decide +kernel
theorem dL_plans_163 : decode cL_plans 163 = .ok (.iload 11, 2) := by decide +kernel
theorem dL_plans_165 : decode cL_plans 165 = .ok (.iaload, 1) := by decide +kernel
theorem dL_plans_166 : decode cL_plans 166 = .ok (.if_icmp .eq 7, 3) := by decide +kernel
theorem dL_plans_169 : decode cL_plans 169 = .ok (.iconst 1, 1) := by decide +kernel
theorem dL_plans_170 : decode cL_plans 170 = .ok (.goto 4, 3) := by decide +kernel
theorem dL_plans_173 : decode cL_plans 173 = .ok (.iconst 0, 1) := by decide +kernel
theorem dL_plans_174 : decode cL_plans 174 = .ok (.istore 7, 2) := by decide +kernel
theorem dL_plans_176 : decode cL_plans 176 = .ok (.aload_n 3, 1) := by decide +kernel
theorem dL_plans_177 : decode cL_plans 177 = .ok (.bipush 7, 2) := by decide +kernel
theorem dL_plans_179 : decode cL_plans 179 = .ok (.iload 8, 2) := by decide +kernel
theorem dL_plans_181 : decode cL_plans 181 = .ok (.imul, 1) := by decide +kernel
theorem dL_plans_182 : decode cL_plans 182 = .ok (.iload 11, 2) := by decide +kernel
theorem dL_plans_184 : decode cL_plans 184 = .ok (.iadd, 1) := by decide +kernel
theorem dL_plans_185 : decode cL_plans 185 = .ok (.aload_n 1, 1) := by decide +kernel
theorem dL_plans_186 : decode cL_plans 186 = .ok (.iload 11, 2) := by decide +kernel
theorem dL_plans_188 : decode cL_plans 188 = .ok (.iaload, 1) := by decide +kernel
theorem dL_plans_189 : decode cL_plans 189 = .ok (.iastore, 1) := by decide +kernel
theorem dL_plans_190 : decode cL_plans 190 = .ok (.iinc 11 1, 3) := by decide +kernel
theorem dL_plans_193 : decode cL_plans 193 = .ok (.goto (-53), 3) := by decide +kernel
theorem dL_plans_196 : decode cL_plans 196 = .ok (.iinc 8 1, 3) := by decide +kernel
theorem dL_plans_199 : decode cL_plans 199 = .ok (.goto (-150), 3) := by decide +kernel
theorem dL_plans_202 : decode cL_plans 202 = .ok (.aload 6, 2) := by decide +kernel
theorem dL_plans_204 : decode cL_plans 204 = .ok (.iconst 2, 1) := by decide +kernel
theorem dL_plans_205 : decode cL_plans 205 = .ok (.dup2, 1) := by decide +kernel
theorem dL_plans_206 : decode cL_plans 206 = .ok (.iaload, 1) := by decide +kernel
theorem dL_plans_207 : decode cL_plans 207 = .ok (.iconst 1, 1) := by decide +kernel
theorem dL_plans_208 : decode cL_plans 208 = .ok (.iadd, 1) := by decide +kernel
theorem dL_plans_209 : decode cL_plans 209 = .ok (.iastore, 1) := by decide +kernel
theorem dL_plans_210 : decode cL_plans 210 = .ok (.goto (-181), 3) := by decide +kernel
theorem dL_plans_213 : decode cL_plans 213 = .ok (.return_, 1) := by decide +kernel
set_option maxRecDepth 20000 in
theorem ggL_could_L_isWeek : GoodIn wsL_could wsL_isWeek := goodIn_r _ [4, 5, 6, 3, 7] (by decide +kernel) (by decide +kernel)
set_option maxRecDepth 20000 in
theorem gL_could_L_isWeek : GoodIn wsL_could (va_wsS RL 51 yL_isWeek wsL_isWeek) := goodIn_app (goodIn_of _ (by decide +kernel)) ggL_could_L_isWeek
theorem dL_could_0 : decode cL_could 0 = .ok (.iconst 0, 1) := by decide +kernel
theorem dL_could_1 : decode cL_could 1 = .ok (.istore 8, 2) := by decide +kernel
theorem dL_could_3 : decode cL_could 3 = .ok (.iload 8, 2) := by decide +kernel
theorem dL_could_5 : decode cL_could 5 = .ok (.bipush 7, 2) := by decide +kernel
theorem dL_could_7 : decode cL_could 7 = .ok (.if_icmp .ge 33, 3) := by decide +kernel
theorem dL_could_10 : decode cL_could 10 = .ok (.aload_n 3, 1) := by decide +kernel
theorem dL_could_11 : decode cL_could 11 = .ok (.iload 8, 2) := by decide +kernel
theorem dL_could_13 : decode cL_could 13 = .ok (.iload 8, 2) := by decide +kernel
theorem dL_could_15 : decode cL_could 15 = .ok (.iload_n 1, 1) := by decide +kernel
theorem dL_could_16 : decode cL_could 16 = .ok (.if_icmp .ne 7, 3) := by decide +kernel
theorem dL_could_19 : decode cL_could 19 = .ok (.iload_n 2, 1) := by decide +kernel
theorem dL_could_20 : decode cL_could 20 = .ok (.goto 13, 3) := by decide +kernel
theorem dL_could_23 : decode cL_could 23 = .ok (.aload 5, 2) := by decide +kernel
theorem dL_could_25 : decode cL_could 25 = .ok (.bipush 7, 2) := by decide +kernel
theorem dL_could_27 : decode cL_could 27 = .ok (.iload_n 0, 1) := by decide +kernel
theorem dL_could_28 : decode cL_could 28 = .ok (.imul, 1) := by decide +kernel
theorem dL_could_29 : decode cL_could 29 = .ok (.iload 8, 2) := by decide +kernel
theorem dL_could_31 : decode cL_could 31 = .ok (.iadd, 1) := by decide +kernel
theorem dL_could_32 : decode cL_could 32 = .ok (.iaload, 1) := by decide +kernel
theorem dL_could_33 : decode cL_could 33 = .ok (.iastore, 1) := by decide +kernel
theorem dL_could_34 : decode cL_could 34 = .ok (.iinc 8 1, 3) := by decide +kernel
theorem dL_could_37 : decode cL_could 37 = .ok (.goto (-34), 3) := by decide +kernel
theorem dL_could_40 : decode cL_could 40 = .ok (.iload_n 0, 1) := by decide +kernel
theorem dL_could_41 : decode cL_could 41 = .ok (.aload_n 3, 1) := by decide +kernel
theorem dL_could_42 : decode cL_could 42 = .ok (.aload 4, 2) := by decide +kernel
theorem dL_could_44 : decode cL_could 44 = .ok (.aload 6, 2) := by decide +kernel
theorem dL_could_46 : decode cL_could 46 = .ok (.aload 7, 2) := by decide +kernel
theorem dL_could_48 : decode cL_could 48 = .ok (.invokestatic 51, 3) := by decide +kernel
theorem dL_could_51 : decode cL_could 51 = .ok (.ireturn, 1) := by decide +kernel
set_option maxRecDepth 20000 in
theorem ggL_canSwap_L_could : GoodIn wsL_canSwap wsL_could := goodIn_r _ [4, 5, 6, 3, 7, 8, 9, 10] (by decide +kernel) (by decide +kernel)
set_option maxRecDepth 20000 in
theorem gL_canSwap_L_could : GoodIn wsL_canSwap (va_wsS RL 55 yL_could wsL_could) := goodIn_app (goodIn_of _ (by decide +kernel)) ggL_canSwap_L_could
theorem dL_canSwap_0 : decode cL_canSwap 0 = .ok (.iload_n 0, 1) := by decide +kernel
theorem dL_canSwap_1 : decode cL_canSwap 1 = .ok (.iload_n 1, 1) := by decide +kernel
theorem dL_canSwap_2 : decode cL_canSwap 2 = .ok (.if_icmp .eq 59, 3) := by decide +kernel
theorem dL_canSwap_5 : decode cL_canSwap 5 = .ok (.iload_n 0, 1) := by decide +kernel
theorem dL_canSwap_6 : decode cL_canSwap 6 = .ok (.iload_n 2, 1) := by decide +kernel
theorem dL_canSwap_7 : decode cL_canSwap 7 = .ok (.aload 5, 2) := by decide +kernel
theorem dL_canSwap_9 : decode cL_canSwap 9 = .ok (.bipush 7, 2) := by decide +kernel
theorem dL_canSwap_11 : decode cL_canSwap 11 = .ok (.iload_n 1, 1) := by decide +kernel
theorem dL_canSwap_12 : decode cL_canSwap 12 = .ok (.imul, 1) := by decide +kernel
theorem dL_canSwap_13 : decode cL_canSwap 13 = .ok (.iload_n 2, 1) := by decide +kernel
theorem dL_canSwap_14 : decode cL_canSwap 14 = .ok (.iadd, 1) := by decide +kernel
theorem dL_canSwap_15 : decode cL_canSwap 15 = .ok (.iaload, 1) := by decide +kernel
theorem dL_canSwap_16 : decode cL_canSwap 16 = .ok (.aload_n 3, 1) := by decide +kernel
theorem dL_canSwap_17 : decode cL_canSwap 17 = .ok (.aload 4, 2) := by decide +kernel
theorem dL_canSwap_19 : decode cL_canSwap 19 = .ok (.aload 5, 2) := by decide +kernel
theorem dL_canSwap_21 : decode cL_canSwap 21 = .ok (.aload 6, 2) := by decide +kernel
theorem dL_canSwap_23 : decode cL_canSwap 23 = .ok (.aload 7, 2) := by decide +kernel
theorem dL_canSwap_25 : decode cL_canSwap 25 = .ok (.invokestatic 55, 3) := by decide +kernel
theorem dL_canSwap_28 : decode cL_canSwap 28 = .ok (.ifCond .eq 33, 3) := by decide +kernel
theorem dL_canSwap_31 : decode cL_canSwap 31 = .ok (.iload_n 1, 1) := by decide +kernel
theorem dL_canSwap_32 : decode cL_canSwap 32 = .ok (.iload_n 2, 1) := by decide +kernel
theorem dL_canSwap_33 : decode cL_canSwap 33 = .ok (.aload 5, 2) := by decide +kernel
theorem dL_canSwap_35 : decode cL_canSwap 35 = .ok (.bipush 7, 2) := by decide +kernel
theorem dL_canSwap_37 : decode cL_canSwap 37 = .ok (.iload_n 0, 1) := by decide +kernel
theorem dL_canSwap_38 : decode cL_canSwap 38 = .ok (.imul, 1) := by decide +kernel
theorem dL_canSwap_39 : decode cL_canSwap 39 = .ok (.iload_n 2, 1) := by decide +kernel
theorem dL_canSwap_40 : decode cL_canSwap 40 = .ok (.iadd, 1) := by decide +kernel
theorem dL_canSwap_41 : decode cL_canSwap 41 = .ok (.iaload, 1) := by decide +kernel
theorem dL_canSwap_42 : decode cL_canSwap 42 = .ok (.aload_n 3, 1) := by decide +kernel
theorem dL_canSwap_43 : decode cL_canSwap 43 = .ok (.aload 4, 2) := by decide +kernel
theorem dL_canSwap_45 : decode cL_canSwap 45 = .ok (.aload 5, 2) := by decide +kernel
theorem dL_canSwap_47 : decode cL_canSwap 47 = .ok (.aload 6, 2) := by decide +kernel
theorem dL_canSwap_49 : decode cL_canSwap 49 = .ok (.aload 7, 2) := by decide +kernel
theorem dL_canSwap_51 : decode cL_canSwap 51 = .ok (.invokestatic 55, 3) := by decide +kernel
theorem dL_canSwap_54 : decode cL_canSwap 54 = .ok (.ifCond .eq 7, 3) := by decide +kernel
theorem dL_canSwap_57 : decode cL_canSwap 57 = .ok (.iconst 1, 1) := by decide +kernel
theorem dL_canSwap_58 : decode cL_canSwap 58 = .ok (.goto 4, 3) := by decide +kernel
theorem dL_canSwap_61 : decode cL_canSwap 61 = .ok (.iconst 0, 1) := by decide +kernel
theorem dL_canSwap_62 : decode cL_canSwap 62 = .ok (.ireturn, 1) := by decide +kernel
theorem dL_broken_0 : decode cL_broken 0 = .ok (.iconst 0, 1) := by decide +kernel
theorem dL_broken_1 : decode cL_broken 1 = .ok (.istore_n 3, 1) := by decide +kernel
theorem dL_broken_2 : decode cL_broken 2 = .ok (.iconst 0, 1) := by decide +kernel
theorem dL_broken_3 : decode cL_broken 3 = .ok (.istore 4, 2) := by decide +kernel
theorem dL_broken_5 : decode cL_broken 5 = .ok (.iload 4, 2) := by decide +kernel
theorem dL_broken_7 : decode cL_broken 7 = .ok (.bipush 7, 2) := by decide +kernel
theorem dL_broken_9 : decode cL_broken 9 = .ok (.if_icmp .ge 46, 3) := by decide +kernel
theorem dL_broken_12 : decode cL_broken 12 = .ok (.iload_n 3, 1) := by decide +kernel
theorem dL_broken_13 : decode cL_broken 13 = .ok (.aload_n 2, 1) := by decide +kernel
theorem dL_broken_14 : decode cL_broken 14 = .ok (.bipush 7, 2) := by decide +kernel
theorem dL_broken_16 : decode cL_broken 16 = .ok (.iload_n 0, 1) := by decide +kernel
theorem dL_broken_17 : decode cL_broken 17 = .ok (.imul, 1) := by decide +kernel
theorem dL_broken_18 : decode cL_broken 18 = .ok (.iload 4, 2) := by decide +kernel
theorem dL_broken_20 : decode cL_broken 20 = .ok (.iadd, 1) := by decide +kernel
theorem dL_broken_21 : decode cL_broken 21 = .ok (.iaload, 1) := by decide +kernel
theorem dL_broken_22 : decode cL_broken 22 = .ok (.ifCond .le 24, 3) := by decide +kernel
theorem dL_broken_25 : decode cL_broken 25 = .ok (.aload_n 1, 1) := by decide +kernel
theorem dL_broken_26 : decode cL_broken 26 = .ok (.bipush 8, 2) := by decide +kernel
theorem dL_broken_28 : decode cL_broken 28 = .ok (.iload_n 0, 1) := by decide +kernel
theorem dL_broken_29 : decode cL_broken 29 = .ok (.imul, 1) := by decide +kernel
theorem dL_broken_30 : decode cL_broken 30 = .ok (.iconst 2, 1) := by decide +kernel
theorem dL_broken_31 : decode cL_broken 31 = .ok (.iadd, 1) := by decide +kernel
theorem dL_broken_32 : decode cL_broken 32 = .ok (.iaload, 1) := by decide +kernel
theorem dL_broken_33 : decode cL_broken 33 = .ok (.iload 4, 2) := by decide +kernel
theorem dL_broken_35 : decode cL_broken 35 = .ok (.ishr, 1) := by decide +kernel
theorem dL_broken_36 : decode cL_broken 36 = .ok (.iconst 1, 1) := by decide +kernel
theorem dL_broken_37 : decode cL_broken 37 = .ok (.iand, 1) := by decide +kernel
theorem dL_broken_38 : decode cL_broken 38 = .ok (.iconst 1, 1) := by decide +kernel
theorem dL_broken_39 : decode cL_broken 39 = .ok (.if_icmp .ne 7, 3) := by decide +kernel
theorem dL_broken_42 : decode cL_broken 42 = .ok (.iconst 1, 1) := by decide +kernel
theorem dL_broken_43 : decode cL_broken 43 = .ok (.goto 4, 3) := by decide +kernel
theorem dL_broken_46 : decode cL_broken 46 = .ok (.iconst 0, 1) := by decide +kernel
theorem dL_broken_47 : decode cL_broken 47 = .ok (.iadd, 1) := by decide +kernel
theorem dL_broken_48 : decode cL_broken 48 = .ok (.istore_n 3, 1) := by decide +kernel
theorem dL_broken_49 : decode cL_broken 49 = .ok (.iinc 4 1, 3) := by decide +kernel
theorem dL_broken_52 : decode cL_broken 52 = .ok (.goto (-47), 3) := by decide +kernel
theorem dL_broken_55 : decode cL_broken 55 = .ok (.iload_n 3, 1) := by decide +kernel
theorem dL_broken_56 : decode cL_broken 56 = .ok (.ireturn, 1) := by decide +kernel
theorem dL_shifts_0 : decode cL_shifts 0 = .ok (.iconst 0, 1) := by decide +kernel
theorem dL_shifts_1 : decode cL_shifts 1 = .ok (.istore_n 2, 1) := by decide +kernel
theorem dL_shifts_2 : decode cL_shifts 2 = .ok (.iconst 0, 1) := by decide +kernel
theorem dL_shifts_3 : decode cL_shifts 3 = .ok (.istore_n 3, 1) := by decide +kernel
theorem dL_shifts_4 : decode cL_shifts 4 = .ok (.iload_n 3, 1) := by decide +kernel
theorem dL_shifts_5 : decode cL_shifts 5 = .ok (.bipush 7, 2) := by decide +kernel
theorem dL_shifts_7 : decode cL_shifts 7 = .ok (.if_icmp .ge 28, 3) := by decide +kernel
theorem dL_shifts_10 : decode cL_shifts 10 = .ok (.iload_n 2, 1) := by decide +kernel
theorem dL_shifts_11 : decode cL_shifts 11 = .ok (.aload_n 1, 1) := by decide +kernel
theorem dL_shifts_12 : decode cL_shifts 12 = .ok (.bipush 7, 2) := by decide +kernel
theorem dL_shifts_14 : decode cL_shifts 14 = .ok (.iload_n 0, 1) := by decide +kernel
theorem dL_shifts_15 : decode cL_shifts 15 = .ok (.imul, 1) := by decide +kernel
theorem dL_shifts_16 : decode cL_shifts 16 = .ok (.iload_n 3, 1) := by decide +kernel
theorem dL_shifts_17 : decode cL_shifts 17 = .ok (.iadd, 1) := by decide +kernel
theorem dL_shifts_18 : decode cL_shifts 18 = .ok (.iaload, 1) := by decide +kernel
theorem dL_shifts_19 : decode cL_shifts 19 = .ok (.ifCond .le 7, 3) := by decide +kernel
theorem dL_shifts_22 : decode cL_shifts 22 = .ok (.iconst 1, 1) := by decide +kernel
theorem dL_shifts_23 : decode cL_shifts 23 = .ok (.goto 4, 3) := by decide +kernel
theorem dL_shifts_26 : decode cL_shifts 26 = .ok (.iconst 0, 1) := by decide +kernel
theorem dL_shifts_27 : decode cL_shifts 27 = .ok (.iadd, 1) := by decide +kernel
theorem dL_shifts_28 : decode cL_shifts 28 = .ok (.istore_n 2, 1) := by decide +kernel
theorem dL_shifts_29 : decode cL_shifts 29 = .ok (.iinc 3 1, 3) := by decide +kernel
theorem dL_shifts_32 : decode cL_shifts 32 = .ok (.goto (-28), 3) := by decide +kernel
theorem dL_shifts_35 : decode cL_shifts 35 = .ok (.iload_n 2, 1) := by decide +kernel
theorem dL_shifts_36 : decode cL_shifts 36 = .ok (.ireturn, 1) := by decide +kernel
theorem dL_closes_0 : decode cL_closes 0 = .ok (.iconst 0, 1) := by decide +kernel
theorem dL_closes_1 : decode cL_closes 1 = .ok (.istore 4, 2) := by decide +kernel
theorem dL_closes_3 : decode cL_closes 3 = .ok (.iload 4, 2) := by decide +kernel
theorem dL_closes_5 : decode cL_closes 5 = .ok (.aload_n 3, 1) := by decide +kernel
theorem dL_closes_6 : decode cL_closes 6 = .ok (.iconst 0, 1) := by decide +kernel
theorem dL_closes_7 : decode cL_closes 7 = .ok (.iaload, 1) := by decide +kernel
theorem dL_closes_8 : decode cL_closes 8 = .ok (.if_icmp .ge 191, 3) := by decide +kernel
theorem dL_closes_11 : decode cL_closes 11 = .ok (.iconst 0, 1) := by decide +kernel
theorem dL_closes_12 : decode cL_closes 12 = .ok (.istore 5, 2) := by decide +kernel
theorem dL_closes_14 : decode cL_closes 14 = .ok (.bipush 6, 2) := by decide +kernel
theorem dL_closes_16 : decode cL_closes 16 = .ok (.istore 6, 2) := by decide +kernel
theorem dL_closes_18 : decode cL_closes 18 = .ok (.iload 6, 2) := by decide +kernel
theorem dL_closes_20 : decode cL_closes 20 = .ok (.ifCond .lt 25, 3) := by decide +kernel
theorem dL_closes_23 : decode cL_closes 23 = .ok (.aload_n 1, 1) := by decide +kernel
theorem dL_closes_24 : decode cL_closes 24 = .ok (.bipush 7, 2) := by decide +kernel
theorem dL_closes_26 : decode cL_closes 26 = .ok (.iload 4, 2) := by decide +kernel
theorem dL_closes_28 : decode cL_closes 28 = .ok (.imul, 1) := by decide +kernel
theorem dL_closes_29 : decode cL_closes 29 = .ok (.iload 6, 2) := by decide +kernel
theorem dL_closes_31 : decode cL_closes 31 = .ok (.iadd, 1) := by decide +kernel
theorem dL_closes_32 : decode cL_closes 32 = .ok (.iaload, 1) := by decide +kernel
theorem dL_closes_33 : decode cL_closes 33 = .ok (.ifCond .le 12, 3) := by decide +kernel
theorem dL_closes_36 : decode cL_closes 36 = .ok (.iinc 5 1, 3) := by decide +kernel
theorem dL_closes_39 : decode cL_closes 39 = .ok (.iinc 6 (-1), 3) := by decide +kernel
theorem dL_closes_42 : decode cL_closes 42 = .ok (.goto (-24), 3) := by decide +kernel
theorem dL_closes_45 : decode cL_closes 45 = .ok (.aload_n 0, 1) := by decide +kernel
theorem dL_closes_46 : decode cL_closes 46 = .ok (.bipush 8, 2) := by decide +kernel
theorem dL_closes_48 : decode cL_closes 48 = .ok (.iload 4, 2) := by decide +kernel
theorem dL_closes_50 : decode cL_closes 50 = .ok (.imul, 1) := by decide +kernel
theorem dL_closes_51 : decode cL_closes 51 = .ok (.iconst 4, 1) := by decide +kernel
theorem dL_closes_52 : decode cL_closes 52 = .ok (.iadd, 1) := by decide +kernel
theorem dL_closes_53 : decode cL_closes 53 = .ok (.iload 5, 2) := by decide +kernel
theorem dL_closes_55 : decode cL_closes 55 = .ok (.bipush 7, 2) := by decide +kernel
theorem dL_closes_57 : decode cL_closes 57 = .ok (.if_icmp .ne 18, 3) := by decide +kernel
theorem dL_closes_60 : decode cL_closes 60 = .ok (.bipush 7, 2) := by decide +kernel
theorem dL_closes_62 : decode cL_closes 62 = .ok (.aload_n 0, 1) := by decide +kernel
theorem dL_closes_63 : decode cL_closes 63 = .ok (.bipush 8, 2) := by decide +kernel
theorem dL_closes_65 : decode cL_closes 65 = .ok (.iload 4, 2) := by decide +kernel
theorem dL_closes_67 : decode cL_closes 67 = .ok (.imul, 1) := by decide +kernel
theorem dL_closes_68 : decode cL_closes 68 = .ok (.iconst 4, 1) := by decide +kernel
theorem dL_closes_69 : decode cL_closes 69 = .ok (.iadd, 1) := by decide +kernel
theorem dL_closes_70 : decode cL_closes 70 = .ok (.iaload, 1) := by decide +kernel
theorem dL_closes_71 : decode cL_closes 71 = .ok (.iadd, 1) := by decide +kernel
theorem dL_closes_72 : decode cL_closes 72 = .ok (.goto 5, 3) := by decide +kernel
theorem dL_closes_75 : decode cL_closes 75 = .ok (.iload 5, 2) := by decide +kernel
theorem dL_closes_77 : decode cL_closes 77 = .ok (.iastore, 1) := by decide +kernel
theorem dL_closes_78 : decode cL_closes 78 = .ok (.aload_n 0, 1) := by decide +kernel
theorem dL_closes_79 : decode cL_closes 79 = .ok (.bipush 8, 2) := by decide +kernel
theorem dL_closes_81 : decode cL_closes 81 = .ok (.iload 4, 2) := by decide +kernel
theorem dL_closes_83 : decode cL_closes 83 = .ok (.imul, 1) := by decide +kernel
theorem dL_closes_84 : decode cL_closes 84 = .ok (.iconst 3, 1) := by decide +kernel
theorem dL_closes_85 : decode cL_closes 85 = .ok (.iadd, 1) := by decide +kernel
theorem dL_closes_86 : decode cL_closes 86 = .ok (.aload_n 1, 1) := by decide +kernel
theorem dL_closes_87 : decode cL_closes 87 = .ok (.bipush 7, 2) := by decide +kernel
theorem dL_closes_89 : decode cL_closes 89 = .ok (.iload 4, 2) := by decide +kernel
theorem dL_closes_91 : decode cL_closes 91 = .ok (.imul, 1) := by decide +kernel
theorem dL_closes_92 : decode cL_closes 92 = .ok (.bipush 6, 2) := by decide +kernel
theorem dL_closes_94 : decode cL_closes 94 = .ok (.iadd, 1) := by decide +kernel
theorem dL_closes_95 : decode cL_closes 95 = .ok (.iaload, 1) := by decide +kernel
theorem dL_closes_96 : decode cL_closes 96 = .ok (.iastore, 1) := by decide +kernel
theorem dL_closes_97 : decode cL_closes 97 = .ok (.aload_n 0, 1) := by decide +kernel
theorem dL_closes_98 : decode cL_closes 98 = .ok (.bipush 8, 2) := by decide +kernel
theorem dL_closes_100 : decode cL_closes 100 = .ok (.iload 4, 2) := by decide +kernel
theorem dL_closes_102 : decode cL_closes 102 = .ok (.imul, 1) := by decide +kernel
theorem dL_closes_103 : decode cL_closes 103 = .ok (.iconst 5, 1) := by decide +kernel
theorem dL_closes_104 : decode cL_closes 104 = .ok (.iadd, 1) := by decide +kernel
theorem dL_closes_105 : decode cL_closes 105 = .ok (.dup2, 1) := by decide +kernel
theorem dL_closes_106 : decode cL_closes 106 = .ok (.iaload, 1) := by decide +kernel
theorem dL_closes_107 : decode cL_closes 107 = .ok (.aload_n 1, 1) := by decide +kernel
theorem dL_closes_108 : decode cL_closes 108 = .ok (.bipush 7, 2) := by decide +kernel
theorem dL_closes_110 : decode cL_closes 110 = .ok (.iload 4, 2) := by decide +kernel
theorem dL_closes_112 : decode cL_closes 112 = .ok (.imul, 1) := by decide +kernel
theorem dL_closes_113 : decode cL_closes 113 = .ok (.iconst 5, 1) := by decide +kernel
theorem dL_closes_114 : decode cL_closes 114 = .ok (.iadd, 1) := by decide +kernel
theorem dL_closes_115 : decode cL_closes 115 = .ok (.iaload, 1) := by decide +kernel
theorem dL_closes_116 : decode cL_closes 116 = .ok (.ifCond .le 7, 3) := by decide +kernel
theorem dL_closes_119 : decode cL_closes 119 = .ok (.iconst 1, 1) := by decide +kernel
theorem dL_closes_120 : decode cL_closes 120 = .ok (.goto 4, 3) := by decide +kernel
theorem dL_closes_123 : decode cL_closes 123 = .ok (.iconst 0, 1) := by decide +kernel
theorem dL_closes_124 : decode cL_closes 124 = .ok (.aload_n 1, 1) := by decide +kernel
theorem dL_closes_125 : decode cL_closes 125 = .ok (.bipush 7, 2) := by decide +kernel
theorem dL_closes_127 : decode cL_closes 127 = .ok (.iload 4, 2) := by decide +kernel
theorem dL_closes_129 : decode cL_closes 129 = .ok (.imul, 1) := by decide +kernel
theorem dL_closes_130 : decode cL_closes 130 = .ok (.bipush 6, 2) := by decide +kernel
theorem dL_closes_132 : decode cL_closes 132 = .ok (.iadd, 1) := by decide +kernel
theorem dL_closes_133 : decode cL_closes 133 = .ok (.iaload, 1) := by decide +kernel
theorem dL_closes_134 : decode cL_closes 134 = .ok (.ifCond .le 7, 3) := by decide +kernel
theorem dL_closes_137 : decode cL_closes 137 = .ok (.iconst 1, 1) := by decide +kernel
theorem dL_closes_138 : decode cL_closes 138 = .ok (.goto 4, 3) := by decide +kernel
theorem dL_closes_141 : decode cL_closes 141 = .ok (.iconst 0, 1) := by decide +kernel
theorem dL_closes_142 : decode cL_closes 142 = .ok (.iadd, 1) := by decide +kernel
theorem dL_closes_143 : decode cL_closes 143 = .ok (.iadd, 1) := by decide +kernel
theorem dL_closes_144 : decode cL_closes 144 = .ok (.iastore, 1) := by decide +kernel
theorem dL_closes_145 : decode cL_closes 145 = .ok (.aload_n 0, 1) := by decide +kernel
theorem dL_closes_146 : decode cL_closes 146 = .ok (.bipush 8, 2) := by decide +kernel
theorem dL_closes_148 : decode cL_closes 148 = .ok (.iload 4, 2) := by decide +kernel
theorem dL_closes_150 : decode cL_closes 150 = .ok (.imul, 1) := by decide +kernel
theorem dL_closes_151 : decode cL_closes 151 = .ok (.iconst 2, 1) := by decide +kernel
theorem dL_closes_152 : decode cL_closes 152 = .ok (.iadd, 1) := by decide +kernel
theorem dL_closes_153 : decode cL_closes 153 = .ok (.iconst 0, 1) := by decide +kernel
theorem dL_closes_154 : decode cL_closes 154 = .ok (.iastore, 1) := by decide +kernel
theorem dL_closes_155 : decode cL_closes 155 = .ok (.iconst 0, 1) := by decide +kernel
theorem dL_closes_156 : decode cL_closes 156 = .ok (.istore 6, 2) := by decide +kernel
theorem dL_closes_158 : decode cL_closes 158 = .ok (.iload 6, 2) := by decide +kernel
theorem dL_closes_160 : decode cL_closes 160 = .ok (.bipush 7, 2) := by decide +kernel
theorem dL_closes_162 : decode cL_closes 162 = .ok (.if_icmp .ge 31, 3) := by decide +kernel
theorem dL_closes_165 : decode cL_closes 165 = .ok (.aload_n 1, 1) := by decide +kernel
theorem dL_closes_166 : decode cL_closes 166 = .ok (.bipush 7, 2) := by decide +kernel
theorem dL_closes_168 : decode cL_closes 168 = .ok (.iload 4, 2) := by decide +kernel
theorem dL_closes_170 : decode cL_closes 170 = .ok (.imul, 1) := by decide +kernel
theorem dL_closes_171 : decode cL_closes 171 = .ok (.iload 6, 2) := by decide +kernel
theorem dL_closes_173 : decode cL_closes 173 = .ok (.iadd, 1) := by decide +kernel
theorem dL_closes_174 : decode cL_closes 174 = .ok (.iconst 0, 1) := by decide +kernel
theorem dL_closes_175 : decode cL_closes 175 = .ok (.iastore, 1) := by decide +kernel
theorem dL_closes_176 : decode cL_closes 176 = .ok (.aload_n 2, 1) := by decide +kernel
theorem dL_closes_177 : decode cL_closes 177 = .ok (.bipush 7, 2) := by decide +kernel
theorem dL_closes_179 : decode cL_closes 179 = .ok (.iload 4, 2) := by decide +kernel
theorem dL_closes_181 : decode cL_closes 181 = .ok (.imul, 1) := by decide +kernel
theorem dL_closes_182 : decode cL_closes 182 = .ok (.iload 6, 2) := by decide +kernel
theorem dL_closes_184 : decode cL_closes 184 = .ok (.iadd, 1) := by decide +kernel
theorem dL_closes_185 : decode cL_closes 185 = .ok (.iconst (-1), 1) := by decide +kernel
theorem dL_closes_186 : decode cL_closes 186 = .ok (.iastore, 1) := by decide +kernel
theorem dL_closes_187 : decode cL_closes 187 = .ok (.iinc 6 1, 3) := by decide +kernel
theorem dL_closes_190 : decode cL_closes 190 = .ok (.goto (-32), 3) := by decide +kernel
theorem dL_closes_193 : decode cL_closes 193 = .ok (.iinc 4 1, 3) := by decide +kernel
theorem dL_closes_196 : decode cL_closes 196 = .ok (.goto (-193), 3) := by decide +kernel
theorem dL_closes_199 : decode cL_closes 199 = .ok (.aload_n 3, 1) := by decide +kernel
theorem dL_closes_200 : decode cL_closes 200 = .ok (.iconst 1, 1) := by decide +kernel
theorem dL_closes_201 : decode cL_closes 201 = .ok (.dup2, 1) := by decide +kernel
theorem dL_closes_202 : decode cL_closes 202 = .ok (.iaload, 1) := by decide +kernel
theorem dL_closes_203 : decode cL_closes 203 = .ok (.iconst 1, 1) := by decide +kernel
theorem dL_closes_204 : decode cL_closes 204 = .ok (.iadd, 1) := by decide +kernel
theorem dL_closes_205 : decode cL_closes 205 = .ok (.iastore, 1) := by decide +kernel
theorem dL_closes_206 : decode cL_closes 206 = .ok (.return_, 1) := by decide +kernel
theorem dL_bound_0 : decode cL_bound 0 = .ok (.iconst 0, 1) := by decide +kernel
theorem dL_bound_1 : decode cL_bound 1 = .ok (.istore_n 3, 1) := by decide +kernel
theorem dL_bound_2 : decode cL_bound 2 = .ok (.iconst 0, 1) := by decide +kernel
theorem dL_bound_3 : decode cL_bound 3 = .ok (.istore 4, 2) := by decide +kernel
theorem dL_bound_5 : decode cL_bound 5 = .ok (.iload 4, 2) := by decide +kernel
theorem dL_bound_7 : decode cL_bound 7 = .ok (.bipush 7, 2) := by decide +kernel
theorem dL_bound_9 : decode cL_bound 9 = .ok (.if_icmp .ge 129, 3) := by decide +kernel
theorem dL_bound_12 : decode cL_bound 12 = .ok (.iconst 0, 1) := by decide +kernel
theorem dL_bound_13 : decode cL_bound 13 = .ok (.istore 5, 2) := by decide +kernel
theorem dL_bound_15 : decode cL_bound 15 = .ok (.iconst 2, 1) := by decide +kernel
theorem dL_bound_16 : decode cL_bound 16 = .ok (.istore 6, 2) := by decide +kernel
theorem dL_bound_18 : decode cL_bound 18 = .ok (.iload 6, 2) := by decide +kernel
theorem dL_bound_20 : decode cL_bound 20 = .ok (.bipush 16, 2) := by decide +kernel
theorem dL_bound_22 : decode cL_bound 22 = .ok (.if_icmp .ge 105, 3) := by decide +kernel
theorem dL_bound_25 : decode cL_bound 25 = .ok (.iconst 0, 1) := by decide +kernel
theorem dL_bound_26 : decode cL_bound 26 = .ok (.istore 7, 2) := by decide +kernel
theorem dL_bound_28 : decode cL_bound 28 = .ok (.iconst 1, 1) := by decide +kernel
theorem dL_bound_29 : decode cL_bound 29 = .ok (.istore 8, 2) := by decide +kernel
theorem dL_bound_31 : decode cL_bound 31 = .ok (.iload 8, 2) := by decide +kernel
theorem dL_bound_33 : decode cL_bound 33 = .ok (.iconst 4, 1) := by decide +kernel
theorem dL_bound_34 : decode cL_bound 34 = .ok (.if_icmp .ge 31, 3) := by decide +kernel
theorem dL_bound_37 : decode cL_bound 37 = .ok (.iload 7, 2) := by decide +kernel
theorem dL_bound_39 : decode cL_bound 39 = .ok (.iload 6, 2) := by decide +kernel
theorem dL_bound_41 : decode cL_bound 41 = .ok (.iload 8, 2) := by decide +kernel
theorem dL_bound_43 : decode cL_bound 43 = .ok (.ishr, 1) := by decide +kernel
theorem dL_bound_44 : decode cL_bound 44 = .ok (.iconst 1, 1) := by decide +kernel
theorem dL_bound_45 : decode cL_bound 45 = .ok (.iand, 1) := by decide +kernel
theorem dL_bound_46 : decode cL_bound 46 = .ok (.aload_n 1, 1) := by decide +kernel
theorem dL_bound_47 : decode cL_bound 47 = .ok (.iconst 4, 1) := by decide +kernel
theorem dL_bound_48 : decode cL_bound 48 = .ok (.iload 4, 2) := by decide +kernel
theorem dL_bound_50 : decode cL_bound 50 = .ok (.imul, 1) := by decide +kernel
theorem dL_bound_51 : decode cL_bound 51 = .ok (.iload 8, 2) := by decide +kernel
theorem dL_bound_53 : decode cL_bound 53 = .ok (.iadd, 1) := by decide +kernel
theorem dL_bound_54 : decode cL_bound 54 = .ok (.iaload, 1) := by decide +kernel
theorem dL_bound_55 : decode cL_bound 55 = .ok (.imul, 1) := by decide +kernel
theorem dL_bound_56 : decode cL_bound 56 = .ok (.iadd, 1) := by decide +kernel
theorem dL_bound_57 : decode cL_bound 57 = .ok (.istore 7, 2) := by decide +kernel
theorem dL_bound_59 : decode cL_bound 59 = .ok (.iinc 8 1, 3) := by decide +kernel
theorem dL_bound_62 : decode cL_bound 62 = .ok (.goto (-31), 3) := by decide +kernel
theorem dL_bound_65 : decode cL_bound 65 = .ok (.iconst 0, 1) := by decide +kernel
theorem dL_bound_66 : decode cL_bound 66 = .ok (.istore 8, 2) := by decide +kernel
theorem dL_bound_68 : decode cL_bound 68 = .ok (.iload 8, 2) := by decide +kernel
theorem dL_bound_70 : decode cL_bound 70 = .ok (.aload_n 2, 1) := by decide +kernel
theorem dL_bound_71 : decode cL_bound 71 = .ok (.iconst 0, 1) := by decide +kernel
theorem dL_bound_72 : decode cL_bound 72 = .ok (.iaload, 1) := by decide +kernel
theorem dL_bound_73 : decode cL_bound 73 = .ok (.if_icmp .ge 32, 3) := by decide +kernel
theorem dL_bound_76 : decode cL_bound 76 = .ok (.iload 7, 2) := by decide +kernel
theorem dL_bound_78 : decode cL_bound 78 = .ok (.aload_n 0, 1) := by decide +kernel
theorem dL_bound_79 : decode cL_bound 79 = .ok (.bipush 8, 2) := by decide +kernel
theorem dL_bound_81 : decode cL_bound 81 = .ok (.iload 8, 2) := by decide +kernel
theorem dL_bound_83 : decode cL_bound 83 = .ok (.imul, 1) := by decide +kernel
theorem dL_bound_84 : decode cL_bound 84 = .ok (.iaload, 1) := by decide +kernel
theorem dL_bound_85 : decode cL_bound 85 = .ok (.iload 6, 2) := by decide +kernel
theorem dL_bound_87 : decode cL_bound 87 = .ok (.iand, 1) := by decide +kernel
theorem dL_bound_88 : decode cL_bound 88 = .ok (.ifCond .ne 7, 3) := by decide +kernel
theorem dL_bound_91 : decode cL_bound 91 = .ok (.iconst 0, 1) := by decide +kernel
theorem dL_bound_92 : decode cL_bound 92 = .ok (.goto 4, 3) := by decide +kernel
theorem dL_bound_95 : decode cL_bound 95 = .ok (.iconst 1, 1) := by decide +kernel
theorem dL_bound_96 : decode cL_bound 96 = .ok (.isub, 1) := by decide +kernel
theorem dL_bound_97 : decode cL_bound 97 = .ok (.istore 7, 2) := by decide +kernel
theorem dL_bound_99 : decode cL_bound 99 = .ok (.iinc 8 1, 3) := by decide +kernel
theorem dL_bound_102 : decode cL_bound 102 = .ok (.goto (-34), 3) := by decide +kernel
theorem dL_bound_105 : decode cL_bound 105 = .ok (.iload 7, 2) := by decide +kernel
theorem dL_bound_107 : decode cL_bound 107 = .ok (.iload 5, 2) := by decide +kernel
theorem dL_bound_109 : decode cL_bound 109 = .ok (.if_icmp .le 8, 3) := by decide +kernel
theorem dL_bound_112 : decode cL_bound 112 = .ok (.iload 7, 2) := by decide +kernel
theorem dL_bound_114 : decode cL_bound 114 = .ok (.goto 5, 3) := by decide +kernel
theorem dL_bound_117 : decode cL_bound 117 = .ok (.iload 5, 2) := by decide +kernel
theorem dL_bound_119 : decode cL_bound 119 = .ok (.istore 5, 2) := by decide +kernel
theorem dL_bound_121 : decode cL_bound 121 = .ok (.iinc 6 2, 3) := by decide +kernel
theorem dL_bound_124 : decode cL_bound 124 = .ok (.goto (-106), 3) := by decide +kernel
theorem dL_bound_127 : decode cL_bound 127 = .ok (.iload_n 3, 1) := by decide +kernel
theorem dL_bound_128 : decode cL_bound 128 = .ok (.iload 5, 2) := by decide +kernel
theorem dL_bound_130 : decode cL_bound 130 = .ok (.iadd, 1) := by decide +kernel
theorem dL_bound_131 : decode cL_bound 131 = .ok (.istore_n 3, 1) := by decide +kernel
theorem dL_bound_132 : decode cL_bound 132 = .ok (.iinc 4 1, 3) := by decide +kernel
theorem dL_bound_135 : decode cL_bound 135 = .ok (.goto (-130), 3) := by decide +kernel
theorem dL_bound_138 : decode cL_bound 138 = .ok (.iload_n 3, 1) := by decide +kernel
theorem dL_bound_139 : decode cL_bound 139 = .ok (.ireturn, 1) := by decide +kernel
set_option maxRecDepth 20000 in
theorem ggL_isSo_X8_people : GoodIn wsL_isSo wsX8_people := goodIn_r _ [5, 6, 269, 270, 271, 272, 273, 274, 275, 276, 277] (by decide +kernel) (by decide +kernel)
set_option maxRecDepth 20000 in
theorem gL_isSo_X8_people : GoodIn wsL_isSo (wsV RL 59 RX8 yX8_people wsX8_people) := goodIn_app (goodIn_of _ (by decide +kernel)) ggL_isSo_X8_people
set_option maxRecDepth 20000 in
theorem ggL_isSo_X8_gaps : GoodIn wsL_isSo wsX8_gaps := goodIn_r _ [10, 11, 12, 13, 4, 14, 15, 16, 17, 18, 19, 20, 21, 22, 23, 24, 25, 26, 27, 28, 29, 30, 31, 32, 33, 34, 35, 36, 37, 269, 270, 271, 272, 273, 274, 275, 276, 277, 278, 279, 280, 281, 282, 283, 284, 285, 286] (by decide +kernel) (by decide +kernel)
set_option maxRecDepth 20000 in
theorem gL_isSo_X8_gaps : GoodIn wsL_isSo (wsV RL 63 RX8 yX8_gaps wsX8_gaps) := goodIn_app (goodIn_of _ (by decide +kernel)) ggL_isSo_X8_gaps
set_option maxRecDepth 20000 in
theorem ggL_isSo_L_gaps : GoodIn wsL_isSo wsL_gaps := goodIn_r _ [41, 42, 43, 40, 44] (by decide +kernel) (by decide +kernel)
set_option maxRecDepth 20000 in
theorem gL_isSo_L_gaps : GoodIn wsL_isSo (va_wsS RL 66 yL_gaps wsL_gaps) := goodIn_app (goodIn_of _ (by decide +kernel)) ggL_isSo_L_gaps
set_option maxRecDepth 20000 in
theorem ggL_isSo_X8_rounds : GoodIn wsL_isSo wsX8_rounds := goodIn_r _ [48, 49, 269, 270, 271, 272, 273, 274, 275, 276, 277] (by decide +kernel) (by decide +kernel)
set_option maxRecDepth 20000 in
theorem gL_isSo_X8_rounds : GoodIn wsL_isSo (wsV RL 69 RX8 yX8_rounds wsX8_rounds) := goodIn_app (goodIn_of _ (by decide +kernel)) ggL_isSo_X8_rounds
set_option maxRecDepth 20000 in
theorem ggL_isSo_X8_bound : GoodIn wsL_isSo wsX8_bound := goodIn_r _ [53, 54, 55, 56, 4, 57, 19, 21, 22, 23, 24, 58, 59, 60, 61, 20, 25, 26, 27, 28, 29, 30, 269, 270, 271, 272, 273, 274, 275, 276, 277, 278, 279, 280, 281, 282, 283, 284, 285, 286] (by decide +kernel) (by decide +kernel)
set_option maxRecDepth 20000 in
theorem gL_isSo_X8_bound : GoodIn wsL_isSo (wsV RL 72 RX8 yX8_bound wsX8_bound) := goodIn_app (goodIn_of _ (by decide +kernel)) ggL_isSo_X8_bound
set_option maxRecDepth 20000 in
theorem ggL_isSo_L_bound : GoodIn wsL_isSo wsL_bound := goodIn_r _ [64] (by decide +kernel) (by decide +kernel)
set_option maxRecDepth 20000 in
theorem gL_isSo_L_bound : GoodIn wsL_isSo (va_wsS RL 75 yL_bound wsL_bound) := goodIn_app (goodIn_of _ (by decide +kernel)) ggL_isSo_L_bound
set_option maxRecDepth 20000 in
theorem ggL_isSo_X8_entry : GoodIn wsL_isSo wsX8_entry := goodIn_ca (goodIn_r _ [68, 69, 70, 71, 72, 73, 4, 74, 20, 75, 76, 77, 31, 32, 33, 34, 35, 36, 37, 278, 279, 280, 281, 282, 283, 284, 285, 269, 270, 271, 272, 273, 274, 275, 276, 277] (by decide +kernel) (by decide +kernel)) (goodIn_sub (fun _ h => List.mem_cons_of_mem _ (List.mem_append_right _ h)) (by decide +kernel))
set_option maxRecDepth 20000 in
theorem gL_isSo_X8_entry : GoodIn wsL_isSo (wsV RL 77 RX8 yX8_entry wsX8_entry) := goodIn_app (goodIn_of _ (by decide +kernel)) ggL_isSo_X8_entry
set_option maxRecDepth 20000 in
theorem ggL_isSo_X8_shifts : GoodIn wsL_isSo wsX8_shifts := goodIn_ca (goodIn_r _ [81, 69, 70, 71, 72, 73, 4, 74, 20, 82, 83, 33, 84, 85, 32, 34, 35, 36, 37, 278, 279, 280, 281, 282, 283, 284, 285, 269, 270, 271, 272, 273, 274, 275, 276, 277] (by decide +kernel) (by decide +kernel)) (goodIn_sub (fun _ h => List.mem_cons_of_mem _ (List.mem_append_right _ h)) (by decide +kernel))
set_option maxRecDepth 20000 in
theorem gL_isSo_X8_shifts : GoodIn wsL_isSo (wsV RL 80 RX8 yX8_shifts wsX8_shifts) := goodIn_app (goodIn_of _ (by decide +kernel)) ggL_isSo_X8_shifts
set_option maxRecDepth 20000 in
theorem ggL_isSo_L_shifts : GoodIn wsL_isSo wsL_shifts := goodIn_r _ [88] (by decide +kernel) (by decide +kernel)
set_option maxRecDepth 20000 in
theorem gL_isSo_L_shifts : GoodIn wsL_isSo (va_wsS RL 84 yL_shifts wsL_shifts) := goodIn_app (goodIn_of _ (by decide +kernel)) ggL_isSo_L_shifts
set_option maxRecDepth 20000 in
theorem ggL_isSo_X8_broken : GoodIn wsL_isSo wsX8_broken := goodIn_ca (goodIn_r _ [92, 69, 70, 71, 72, 73, 4, 74, 20, 93, 94, 95, 96, 97, 98, 99, 32, 33, 34, 35, 36, 37, 100, 101, 102, 103, 104, 269, 270, 271, 272, 273, 274, 275, 276, 277, 278, 279, 280, 281, 282, 283, 284, 285] (by decide +kernel) (by decide +kernel)) (goodIn_sub (fun _ h => List.mem_cons_of_mem _ (List.mem_append_right _ h)) (by decide +kernel))
set_option maxRecDepth 20000 in
theorem gL_isSo_X8_broken : GoodIn wsL_isSo (wsV RL 87 RX8 yX8_broken wsX8_broken) := goodIn_app (goodIn_of _ (by decide +kernel)) ggL_isSo_X8_broken
set_option maxRecDepth 20000 in
theorem ggL_isSo_L_broken : GoodIn wsL_isSo wsL_broken := goodIn_r _ [107] (by decide +kernel) (by decide +kernel)
set_option maxRecDepth 20000 in
theorem gL_isSo_L_broken : GoodIn wsL_isSo (va_wsS RL 90 yL_broken wsL_broken) := goodIn_app (goodIn_of _ (by decide +kernel)) ggL_isSo_L_broken
set_option maxRecDepth 20000 in
theorem ggL_isSo_X8_weekends : GoodIn wsL_isSo wsX8_weekends := goodIn_ca (goodIn_r _ [111, 69, 70, 71, 72, 73, 4, 74, 20, 278, 279, 280, 281, 282, 283, 284, 285, 269, 270, 271, 272, 273, 274, 275, 276, 277] (by decide +kernel) (by decide +kernel)) (goodIn_sub (fun _ h => List.mem_cons_of_mem _ (List.mem_append_right _ h)) (by decide +kernel))
set_option maxRecDepth 20000 in
theorem gL_isSo_X8_weekends : GoodIn wsL_isSo (wsV RL 93 RX8 yX8_weekends wsX8_weekends) := goodIn_app (goodIn_of _ (by decide +kernel)) ggL_isSo_X8_weekends
set_option maxRecDepth 20000 in
theorem ggL_isSo_X8_runBefore : GoodIn wsL_isSo wsX8_runBefore := goodIn_ca (goodIn_r _ [115, 69, 70, 71, 72, 73, 4, 74, 20, 278, 279, 280, 281, 282, 283, 284, 285, 269, 270, 271, 272, 273, 274, 275, 276, 277] (by decide +kernel) (by decide +kernel)) (goodIn_sub (fun _ h => List.mem_cons_of_mem _ (List.mem_append_right _ h)) (by decide +kernel))
set_option maxRecDepth 20000 in
theorem gL_isSo_X8_runBefore : GoodIn wsL_isSo (wsV RL 96 RX8 yX8_runBefore wsX8_runBefore) := goodIn_app (goodIn_of _ (by decide +kernel)) ggL_isSo_X8_runBefore
set_option maxRecDepth 20000 in
theorem ggL_isSo_X8_isFeasible : GoodIn wsL_isSo wsX8_isFeasible := goodIn_ca (goodIn_r _ [119, 69, 70, 120, 71, 72, 73, 4, 74, 20, 121, 122, 123, 96, 124, 125, 126, 127, 99, 32, 33, 34, 35, 36, 37, 128, 129, 130, 131, 132, 133, 134, 135, 136, 137, 138, 139, 140, 141, 142, 143, 144, 145, 146, 147, 148, 83, 84, 85, 278, 279, 280, 281, 282, 283, 284, 285, 269, 270, 271, 272, 273, 274, 275, 276, 277, 287, 288] (by decide +kernel) (by decide +kernel)) (goodIn_sub (fun _ h => List.mem_cons_of_mem _ (List.mem_append_right _ h)) (by decide +kernel))
set_option maxRecDepth 20000 in
theorem gL_isSo_X8_isFeasible : GoodIn wsL_isSo (wsV RL 99 RX8 yX8_isFeasible wsX8_isFeasible) := goodIn_app (goodIn_of _ (by decide +kernel)) ggL_isSo_X8_isFeasible
set_option maxRecDepth 20000 in
theorem ggL_isSo_L_isWeek : GoodIn wsL_isSo wsL_isWeek := goodIn_r _ [151, 152, 153, 40, 154] (by decide +kernel) (by decide +kernel)
set_option maxRecDepth 20000 in
theorem gL_isSo_L_isWeek : GoodIn wsL_isSo (va_wsS RL 51 yL_isWeek wsL_isWeek) := goodIn_app (goodIn_of _ (by decide +kernel)) ggL_isSo_L_isWeek
set_option maxRecDepth 20000 in
theorem ggL_isSo_L_low : GoodIn wsL_isSo wsL_low := goodIn_r _ [157, 158] (by decide +kernel) (by decide +kernel)
set_option maxRecDepth 20000 in
theorem gL_isSo_L_low : GoodIn wsL_isSo (va_wsS RL 103 yL_low wsL_low) := goodIn_app (goodIn_of _ (by decide +kernel)) ggL_isSo_L_low
set_option maxRecDepth 20000 in
theorem ggL_isSo_L_could : GoodIn wsL_isSo wsL_could := goodIn_r _ [161, 149, 150, 40, 151, 152, 153, 154] (by decide +kernel) (by decide +kernel)
set_option maxRecDepth 20000 in
theorem gL_isSo_L_could : GoodIn wsL_isSo (va_wsS RL 55 yL_could wsL_could) := goodIn_app (goodIn_of _ (by decide +kernel)) ggL_isSo_L_could
set_option maxRecDepth 20000 in
theorem ggL_isSo_L_count : GoodIn wsL_isSo wsL_count := goodIn_r _ [44] (by decide +kernel) (by decide +kernel)
set_option maxRecDepth 20000 in
theorem gL_isSo_L_count : GoodIn wsL_isSo (va_wsS RL 31 yL_count wsL_count) := goodIn_app (goodIn_of _ (by decide +kernel)) ggL_isSo_L_count
set_option maxRecDepth 20000 in
theorem ggL_isSo_X8_couldTake : GoodIn wsL_isSo wsX8_couldTake := goodIn_ca (goodIn_r _ [165, 69, 70, 6, 120, 75, 76, 4, 77, 166, 167, 168, 71, 72, 73, 74, 20, 31, 32, 33, 34, 35, 36, 37, 169, 170, 171, 121, 122, 123, 96, 124, 125, 126, 127, 99, 128, 129, 130, 131, 132, 133, 134, 135, 136, 137, 138, 139, 140, 141, 142, 143, 144, 145, 146, 147, 148, 83, 84, 85, 269, 270, 271, 272, 273, 274, 275, 276, 277, 278, 279, 280, 281, 282, 283, 284, 285, 287, 288] (by decide +kernel) (by decide +kernel)) (goodIn_sub (fun _ h => List.mem_cons_of_mem _ (List.mem_append_right _ h)) (by decide +kernel))
set_option maxRecDepth 20000 in
theorem gL_isSo_X8_couldTake : GoodIn wsL_isSo (wsV RL 106 RX8 yX8_couldTake wsX8_couldTake) := goodIn_app (goodIn_of _ (by decide +kernel)) ggL_isSo_X8_couldTake
set_option maxRecDepth 20000 in
theorem ggL_isSo_X8_gap : GoodIn wsL_isSo wsX8_gap := goodIn_ca (goodIn_r _ [175, 69, 70, 75, 76, 4, 77, 166, 167, 168, 15, 16, 17, 18, 19, 20, 21, 22, 23, 24, 25, 26, 27, 28, 29, 30, 31, 32, 33, 34, 35, 36, 37, 269, 270, 271, 272, 273, 274, 275, 276, 277, 278, 279, 280, 281, 282, 283, 284, 285, 286] (by decide +kernel) (by decide +kernel)) (goodIn_sub (fun _ h => List.mem_cons_of_mem _ (List.mem_append_right _ h)) (by decide +kernel))
set_option maxRecDepth 20000 in
theorem gL_isSo_X8_gap : GoodIn wsL_isSo (wsV RL 109 RX8 yX8_gap wsX8_gap) := goodIn_app (goodIn_of _ (by decide +kernel)) ggL_isSo_X8_gap
set_option maxRecDepth 20000 in
theorem ggL_isSo_L_canSwap : GoodIn wsL_isSo wsL_canSwap := goodIn_r _ [178, 159, 160, 40, 161, 149, 150, 151, 152, 153, 154] (by decide +kernel) (by decide +kernel)
set_option maxRecDepth 20000 in
theorem gL_isSo_L_canSwap : GoodIn wsL_isSo (va_wsS RL 112 yL_canSwap wsL_canSwap) := goodIn_app (goodIn_of _ (by decide +kernel)) ggL_isSo_L_canSwap
set_option maxRecDepth 20000 in
theorem ggL_isSo_L_weeks : GoodIn wsL_isSo wsL_weeks := goodIn_r _ [181, 182, 152, 153, 40, 154, 183, 184, 185, 186, 187, 188] (by decide +kernel) (by decide +kernel)
set_option maxRecDepth 20000 in
theorem gL_isSo_L_weeks : GoodIn wsL_isSo (va_wsS RL 47 yL_weeks wsL_weeks) := goodIn_app (goodIn_of _ (by decide +kernel)) ggL_isSo_L_weeks
set_option maxRecDepth 20000 in
theorem ggL_isSo_X8_swapFor : GoodIn wsL_isSo wsX8_swapFor := goodIn_ca (goodIn_r _ [192, 69, 70, 6, 71, 72, 73, 4, 74, 20, 75, 76, 77, 31, 32, 33, 34, 35, 36, 37, 82, 83, 84, 85, 193, 194, 195, 196, 120, 169, 170, 171, 121, 122, 123, 96, 124, 125, 126, 127, 99, 128, 129, 130, 131, 132, 133, 134, 135, 136, 137, 138, 139, 140, 141, 142, 143, 144, 145, 146, 147, 148, 269, 270, 271, 272, 273, 274, 275, 276, 277, 278, 279, 280, 281, 282, 283, 284, 285, 287, 288] (by decide +kernel) (by decide +kernel)) (goodIn_sub (fun _ h => List.mem_cons_of_mem _ (List.mem_append_right _ h)) (by decide +kernel))
set_option maxRecDepth 20000 in
theorem gL_isSo_X8_swapFor : GoodIn wsL_isSo (wsV RL 115 RX8 yX8_swapFor wsX8_swapFor) := goodIn_app (goodIn_of _ (by decide +kernel)) ggL_isSo_X8_swapFor
set_option maxRecDepth 20000 in
theorem ggL_isSo_X8_weeks : GoodIn wsL_isSo wsX8_weeks := goodIn_ca (goodIn_r _ [200, 69, 70, 120, 71, 72, 73, 4, 74, 20, 121, 122, 123, 96, 124, 125, 126, 127, 99, 32, 33, 34, 35, 36, 37, 128, 129, 130, 131, 132, 133, 134, 135, 136, 137, 138, 139, 140, 141, 142, 143, 144, 145, 146, 147, 148, 83, 84, 85, 269, 270, 271, 272, 273, 274, 275, 276, 277, 278, 279, 280, 281, 282, 283, 284, 285, 287, 288] (by decide +kernel) (by decide +kernel)) (goodIn_sub (fun _ h => List.mem_cons_of_mem _ (List.mem_append_right _ h)) (by decide +kernel))
set_option maxRecDepth 20000 in
theorem gL_isSo_X8_weeks : GoodIn wsL_isSo (wsV RL 118 RX8 yX8_weeks wsX8_weeks) := goodIn_app (goodIn_of _ (by decide +kernel)) ggL_isSo_X8_weeks
set_option maxRecDepth 20000 in
theorem ggL_isSo_X8_weeksByDays : GoodIn wsL_isSo wsX8_weeksByDays := goodIn_ca (goodIn_r _ [204, 69, 70, 205, 120, 206, 71, 72, 73, 4, 74, 20, 207, 208, 209, 210, 211, 212, 213, 214, 23, 215, 216, 217, 218, 219, 220, 221, 222, 223, 224, 225, 226, 227, 228, 229, 230, 231, 232, 233, 234, 235, 236, 237, 238, 239, 240, 241, 242, 243, 244, 245, 246, 247, 129, 130, 96, 131, 132, 133, 134, 135, 136, 137, 248, 139, 140, 141, 142, 143, 144, 145, 146, 147, 249, 250, 251, 252, 253, 254, 255, 256, 257, 258, 259, 260, 261, 262, 263, 264, 265, 266, 267, 268, 269, 270, 271, 272, 273, 274, 275, 276, 277, 289, 290, 278, 279, 280, 281, 282, 283, 284, 285, 287, 288, 291] (by decide +kernel) (by decide +kernel)) (goodIn_sub (fun _ h => List.mem_cons_of_mem _ (List.mem_append_right _ h)) (by decide +kernel))
set_option maxRecDepth 20000 in
theorem gL_isSo_X8_weeksByDays : GoodIn wsL_isSo (wsV RL 120 RX8 yX8_weeksByDays wsX8_weeksByDays) := goodIn_app (goodIn_of _ (by decide +kernel)) ggL_isSo_X8_weeksByDays
theorem dL_isSo_0 : decode cL_isSo 0 = .ok (.aload_n 0, 1) := by decide +kernel
theorem dL_isSo_1 : decode cL_isSo 1 = .ok (.invokevirtual 59, 3) := by decide +kernel
theorem dL_isSo_4 : decode cL_isSo 4 = .ok (.aload 8, 2) := by decide +kernel
theorem dL_isSo_6 : decode cL_isSo 6 = .ok (.iconst 0, 1) := by decide +kernel
theorem dL_isSo_7 : decode cL_isSo 7 = .ok (.iaload, 1) := by decide +kernel
theorem dL_isSo_8 : decode cL_isSo 8 = .ok (.if_icmp .ne 50, 3) := by decide +kernel
theorem dL_isSo_11 : decode cL_isSo 11 = .ok (.aload_n 0, 1) := by decide +kernel
theorem dL_isSo_12 : decode cL_isSo 12 = .ok (.invokevirtual 63, 3) := by decide +kernel
theorem dL_isSo_15 : decode cL_isSo 15 = .ok (.aload 5, 2) := by decide +kernel
theorem dL_isSo_17 : decode cL_isSo 17 = .ok (.aload 7, 2) := by decide +kernel
theorem dL_isSo_19 : decode cL_isSo 19 = .ok (.aload 8, 2) := by decide +kernel
theorem dL_isSo_21 : decode cL_isSo 21 = .ok (.invokestatic 66, 3) := by decide +kernel
theorem dL_isSo_24 : decode cL_isSo 24 = .ok (.if_icmp .ne 34, 3) := by decide +kernel
theorem dL_isSo_27 : decode cL_isSo 27 = .ok (.aload_n 0, 1) := by decide +kernel
theorem dL_isSo_28 : decode cL_isSo 28 = .ok (.invokevirtual 69, 3) := by decide +kernel
theorem dL_isSo_31 : decode cL_isSo 31 = .ok (.aload 8, 2) := by decide +kernel
theorem dL_isSo_33 : decode cL_isSo 33 = .ok (.iconst 2, 1) := by decide +kernel
theorem dL_isSo_34 : decode cL_isSo 34 = .ok (.iaload, 1) := by decide +kernel
theorem dL_isSo_35 : decode cL_isSo 35 = .ok (.if_icmp .ne 23, 3) := by decide +kernel
theorem dL_isSo_38 : decode cL_isSo 38 = .ok (.aload_n 0, 1) := by decide +kernel
theorem dL_isSo_39 : decode cL_isSo 39 = .ok (.invokevirtual 72, 3) := by decide +kernel
theorem dL_isSo_42 : decode cL_isSo 42 = .ok (.aload 4, 2) := by decide +kernel
theorem dL_isSo_44 : decode cL_isSo 44 = .ok (.aload 7, 2) := by decide +kernel
theorem dL_isSo_46 : decode cL_isSo 46 = .ok (.aload 8, 2) := by decide +kernel
theorem dL_isSo_48 : decode cL_isSo 48 = .ok (.invokestatic 75, 3) := by decide +kernel
theorem dL_isSo_51 : decode cL_isSo 51 = .ok (.if_icmp .ne 7, 3) := by decide +kernel
theorem dL_isSo_54 : decode cL_isSo 54 = .ok (.iconst 1, 1) := by decide +kernel
theorem dL_isSo_55 : decode cL_isSo 55 = .ok (.goto 4, 3) := by decide +kernel
theorem dL_isSo_58 : decode cL_isSo 58 = .ok (.iconst 0, 1) := by decide +kernel
theorem dL_isSo_59 : decode cL_isSo 59 = .ok (.istore 9, 2) := by decide +kernel
theorem dL_isSo_61 : decode cL_isSo 61 = .ok (.iconst 0, 1) := by decide +kernel
theorem dL_isSo_62 : decode cL_isSo 62 = .ok (.istore 10, 2) := by decide +kernel
theorem dL_isSo_64 : decode cL_isSo 64 = .ok (.iload 10, 2) := by decide +kernel
theorem dL_isSo_66 : decode cL_isSo 66 = .ok (.aload 8, 2) := by decide +kernel
theorem dL_isSo_68 : decode cL_isSo 68 = .ok (.iconst 0, 1) := by decide +kernel
theorem dL_isSo_69 : decode cL_isSo 69 = .ok (.iaload, 1) := by decide +kernel
theorem dL_isSo_70 : decode cL_isSo 70 = .ok (.if_icmp .ge 184, 3) := by decide +kernel
theorem dL_isSo_73 : decode cL_isSo 73 = .ok (.iload 9, 2) := by decide +kernel
theorem dL_isSo_75 : decode cL_isSo 75 = .ok (.ifCond .eq 179, 3) := by decide +kernel
theorem dL_isSo_78 : decode cL_isSo 78 = .ok (.iconst 0, 1) := by decide +kernel
theorem dL_isSo_79 : decode cL_isSo 79 = .ok (.istore 11, 2) := by decide +kernel
theorem dL_isSo_81 : decode cL_isSo 81 = .ok (.iload 11, 2) := by decide +kernel
theorem dL_isSo_83 : decode cL_isSo 83 = .ok (.bipush 7, 2) := by decide +kernel
theorem dL_isSo_85 : decode cL_isSo 85 = .ok (.if_icmp .ge 58, 3) := by decide +kernel
theorem dL_isSo_88 : decode cL_isSo 88 = .ok (.iload 9, 2) := by decide +kernel
theorem dL_isSo_90 : decode cL_isSo 90 = .ok (.ifCond .eq 53, 3) := by decide +kernel
theorem dL_isSo_93 : decode cL_isSo 93 = .ok (.aload_n 2, 1) := by decide +kernel
theorem dL_isSo_94 : decode cL_isSo 94 = .ok (.iload 11, 2) := by decide +kernel
theorem dL_isSo_96 : decode cL_isSo 96 = .ok (.aload 5, 2) := by decide +kernel
theorem dL_isSo_98 : decode cL_isSo 98 = .ok (.bipush 7, 2) := by decide +kernel
theorem dL_isSo_100 : decode cL_isSo 100 = .ok (.iload 10, 2) := by decide +kernel
theorem dL_isSo_102 : decode cL_isSo 102 = .ok (.imul, 1) := by decide +kernel
theorem dL_isSo_103 : decode cL_isSo 103 = .ok (.iload 11, 2) := by decide +kernel
theorem dL_isSo_105 : decode cL_isSo 105 = .ok (.iadd, 1) := by decide +kernel
theorem dL_isSo_106 : decode cL_isSo 106 = .ok (.iaload, 1) := by decide +kernel
theorem dL_isSo_107 : decode cL_isSo 107 = .ok (.iastore, 1) := by decide +kernel
theorem dL_isSo_108 : decode cL_isSo 108 = .ok (.aload_n 0, 1) := by decide +kernel
theorem dL_isSo_109 : decode cL_isSo 109 = .ok (.iload 10, 2) := by decide +kernel
theorem dL_isSo_111 : decode cL_isSo 111 = .ok (.iload 11, 2) := by decide +kernel
theorem dL_isSo_113 : decode cL_isSo 113 = .ok (.invokevirtual 77, 3) := by decide +kernel
theorem dL_isSo_116 : decode cL_isSo 116 = .ok (.aload 5, 2) := by decide +kernel
theorem dL_isSo_118 : decode cL_isSo 118 = .ok (.bipush 7, 2) := by decide +kernel
theorem dL_isSo_120 : decode cL_isSo 120 = .ok (.iload 10, 2) := by decide +kernel
theorem dL_isSo_122 : decode cL_isSo 122 = .ok (.imul, 1) := by decide +kernel
theorem dL_isSo_123 : decode cL_isSo 123 = .ok (.iload 11, 2) := by decide +kernel
theorem dL_isSo_125 : decode cL_isSo 125 = .ok (.iadd, 1) := by decide +kernel
theorem dL_isSo_126 : decode cL_isSo 126 = .ok (.iaload, 1) := by decide +kernel
theorem dL_isSo_127 : decode cL_isSo 127 = .ok (.if_icmp .ne 7, 3) := by decide +kernel
theorem dL_isSo_130 : decode cL_isSo 130 = .ok (.iconst 1, 1) := by decide +kernel
theorem dL_isSo_131 : decode cL_isSo 131 = .ok (.goto 4, 3) := by decide +kernel
theorem dL_isSo_134 : decode cL_isSo 134 = .ok (.iconst 0, 1) := by decide +kernel
theorem dL_isSo_135 : decode cL_isSo 135 = .ok (.istore 9, 2) := by decide +kernel
theorem dL_isSo_137 : decode cL_isSo 137 = .ok (.iinc 11 1, 3) := by decide +kernel
theorem dL_isSo_140 : decode cL_isSo 140 = .ok (.goto (-59), 3) := by decide +kernel
theorem dL_isSo_143 : decode cL_isSo 143 = .ok (.iload 9, 2) := by decide +kernel
theorem dL_isSo_145 : decode cL_isSo 145 = .ok (.ifCond .eq 100, 3) := by decide +kernel
theorem dL_isSo_148 : decode cL_isSo 148 = .ok (.aload_n 0, 1) := by decide +kernel
theorem dL_isSo_149 : decode cL_isSo 149 = .ok (.iload 10, 2) := by decide +kernel
theorem dL_isSo_151 : decode cL_isSo 151 = .ok (.invokevirtual 80, 3) := by decide +kernel
theorem dL_isSo_154 : decode cL_isSo 154 = .ok (.iload 10, 2) := by decide +kernel
theorem dL_isSo_156 : decode cL_isSo 156 = .ok (.aload 5, 2) := by decide +kernel
theorem dL_isSo_158 : decode cL_isSo 158 = .ok (.invokestatic 84, 3) := by decide +kernel
theorem dL_isSo_161 : decode cL_isSo 161 = .ok (.if_icmp .ne 84, 3) := by decide +kernel
theorem dL_isSo_164 : decode cL_isSo 164 = .ok (.aload_n 0, 1) := by decide +kernel
theorem dL_isSo_165 : decode cL_isSo 165 = .ok (.iload 10, 2) := by decide +kernel
theorem dL_isSo_167 : decode cL_isSo 167 = .ok (.invokevirtual 87, 3) := by decide +kernel
theorem dL_isSo_170 : decode cL_isSo 170 = .ok (.iload 10, 2) := by decide +kernel
theorem dL_isSo_172 : decode cL_isSo 172 = .ok (.aload 4, 2) := by decide +kernel
theorem dL_isSo_174 : decode cL_isSo 174 = .ok (.aload 5, 2) := by decide +kernel
theorem dL_isSo_176 : decode cL_isSo 176 = .ok (.invokestatic 90, 3) := by decide +kernel
theorem dL_isSo_179 : decode cL_isSo 179 = .ok (.if_icmp .ne 66, 3) := by decide +kernel
theorem dL_isSo_182 : decode cL_isSo 182 = .ok (.aload_n 0, 1) := by decide +kernel
theorem dL_isSo_183 : decode cL_isSo 183 = .ok (.iload 10, 2) := by decide +kernel
theorem dL_isSo_185 : decode cL_isSo 185 = .ok (.invokevirtual 93, 3) := by decide +kernel
theorem dL_isSo_188 : decode cL_isSo 188 = .ok (.aload 4, 2) := by decide +kernel
theorem dL_isSo_190 : decode cL_isSo 190 = .ok (.bipush 8, 2) := by decide +kernel
theorem dL_isSo_192 : decode cL_isSo 192 = .ok (.iload 10, 2) := by decide +kernel
theorem dL_isSo_194 : decode cL_isSo 194 = .ok (.imul, 1) := by decide +kernel
theorem dL_isSo_195 : decode cL_isSo 195 = .ok (.iconst 5, 1) := by decide +kernel
theorem dL_isSo_196 : decode cL_isSo 196 = .ok (.iadd, 1) := by decide +kernel
theorem dL_isSo_197 : decode cL_isSo 197 = .ok (.iaload, 1) := by decide +kernel
theorem dL_isSo_198 : decode cL_isSo 198 = .ok (.if_icmp .ne 47, 3) := by decide +kernel
theorem dL_isSo_201 : decode cL_isSo 201 = .ok (.aload_n 0, 1) := by decide +kernel
theorem dL_isSo_202 : decode cL_isSo 202 = .ok (.iload 10, 2) := by decide +kernel
theorem dL_isSo_204 : decode cL_isSo 204 = .ok (.invokevirtual 96, 3) := by decide +kernel
theorem dL_isSo_207 : decode cL_isSo 207 = .ok (.aload 4, 2) := by decide +kernel
theorem dL_isSo_209 : decode cL_isSo 209 = .ok (.bipush 8, 2) := by decide +kernel
theorem dL_isSo_211 : decode cL_isSo 211 = .ok (.iload 10, 2) := by decide +kernel
theorem dL_isSo_213 : decode cL_isSo 213 = .ok (.imul, 1) := by decide +kernel
theorem dL_isSo_214 : decode cL_isSo 214 = .ok (.iconst 4, 1) := by decide +kernel
theorem dL_isSo_215 : decode cL_isSo 215 = .ok (.iadd, 1) := by decide +kernel
theorem dL_isSo_216 : decode cL_isSo 216 = .ok (.iaload, 1) := by decide +kernel
theorem dL_isSo_217 : decode cL_isSo 217 = .ok (.if_icmp .ne 28, 3) := by decide +kernel
theorem dL_isSo_220 : decode cL_isSo 220 = .ok (.aload_n 0, 1) := by decide +kernel
theorem dL_isSo_221 : decode cL_isSo 221 = .ok (.iload 10, 2) := by decide +kernel
theorem dL_isSo_223 : decode cL_isSo 223 = .ok (.invokevirtual 99, 3) := by decide +kernel
theorem dL_isSo_226 : decode cL_isSo 226 = .ok (.iload 10, 2) := by decide +kernel
theorem dL_isSo_228 : decode cL_isSo 228 = .ok (.aload_n 2, 1) := by decide +kernel
theorem dL_isSo_229 : decode cL_isSo 229 = .ok (.aload 4, 2) := by decide +kernel
theorem dL_isSo_231 : decode cL_isSo 231 = .ok (.aload 6, 2) := by decide +kernel
theorem dL_isSo_233 : decode cL_isSo 233 = .ok (.aload 7, 2) := by decide +kernel
theorem dL_isSo_235 : decode cL_isSo 235 = .ok (.invokestatic 51, 3) := by decide +kernel
theorem dL_isSo_238 : decode cL_isSo 238 = .ok (.if_icmp .ne 7, 3) := by decide +kernel
theorem dL_isSo_241 : decode cL_isSo 241 = .ok (.iconst 1, 1) := by decide +kernel
theorem dL_isSo_242 : decode cL_isSo 242 = .ok (.goto 4, 3) := by decide +kernel
theorem dL_isSo_245 : decode cL_isSo 245 = .ok (.iconst 0, 1) := by decide +kernel
theorem dL_isSo_246 : decode cL_isSo 246 = .ok (.istore 9, 2) := by decide +kernel
theorem dL_isSo_248 : decode cL_isSo 248 = .ok (.iinc 10 1, 3) := by decide +kernel
theorem dL_isSo_251 : decode cL_isSo 251 = .ok (.goto (-187), 3) := by decide +kernel
theorem dL_isSo_254 : decode cL_isSo 254 = .ok (.iload_n 1, 1) := by decide +kernel
theorem dL_isSo_255 : decode cL_isSo 255 = .ok (.bipush 7, 2) := by decide +kernel
theorem dL_isSo_257 : decode cL_isSo 257 = .ok (.invokestatic 103, 3) := by decide +kernel
theorem dL_isSo_260 : decode cL_isSo 260 = .ok (.istore 10, 2) := by decide +kernel
theorem dL_isSo_262 : decode cL_isSo 262 = .ok (.iconst 1, 1) := by decide +kernel
theorem dL_isSo_263 : decode cL_isSo 263 = .ok (.istore 11, 2) := by decide +kernel
theorem dL_isSo_265 : decode cL_isSo 265 = .ok (.iload 11, 2) := by decide +kernel
theorem dL_isSo_267 : decode cL_isSo 267 = .ok (.iconst 4, 1) := by decide +kernel
theorem dL_isSo_268 : decode cL_isSo 268 = .ok (.if_icmp .ge 150, 3) := by decide +kernel
theorem dL_isSo_271 : decode cL_isSo 271 = .ok (.iload 9, 2) := by decide +kernel
theorem dL_isSo_273 : decode cL_isSo 273 = .ok (.ifCond .eq 145, 3) := by decide +kernel
theorem dL_isSo_276 : decode cL_isSo 276 = .ok (.iconst 0, 1) := by decide +kernel
theorem dL_isSo_277 : decode cL_isSo 277 = .ok (.istore 12, 2) := by decide +kernel
theorem dL_isSo_279 : decode cL_isSo 279 = .ok (.iconst 0, 1) := by decide +kernel
theorem dL_isSo_280 : decode cL_isSo 280 = .ok (.istore 13, 2) := by decide +kernel
theorem dL_isSo_282 : decode cL_isSo 282 = .ok (.iload 13, 2) := by decide +kernel
theorem dL_isSo_284 : decode cL_isSo 284 = .ok (.aload 8, 2) := by decide +kernel
theorem dL_isSo_286 : decode cL_isSo 286 = .ok (.iconst 0, 1) := by decide +kernel
theorem dL_isSo_287 : decode cL_isSo 287 = .ok (.iaload, 1) := by decide +kernel
theorem dL_isSo_288 : decode cL_isSo 288 = .ok (.if_icmp .ge 57, 3) := by decide +kernel
theorem dL_isSo_291 : decode cL_isSo 291 = .ok (.iload 12, 2) := by decide +kernel
theorem dL_isSo_293 : decode cL_isSo 293 = .ok (.aload 5, 2) := by decide +kernel
theorem dL_isSo_295 : decode cL_isSo 295 = .ok (.bipush 7, 2) := by decide +kernel
theorem dL_isSo_297 : decode cL_isSo 297 = .ok (.iload 13, 2) := by decide +kernel
theorem dL_isSo_299 : decode cL_isSo 299 = .ok (.imul, 1) := by decide +kernel
theorem dL_isSo_300 : decode cL_isSo 300 = .ok (.iload 10, 2) := by decide +kernel
theorem dL_isSo_302 : decode cL_isSo 302 = .ok (.iadd, 1) := by decide +kernel
theorem dL_isSo_303 : decode cL_isSo 303 = .ok (.iaload, 1) := by decide +kernel
theorem dL_isSo_304 : decode cL_isSo 304 = .ok (.ifCond .ne 31, 3) := by decide +kernel
theorem dL_isSo_307 : decode cL_isSo 307 = .ok (.iload 13, 2) := by decide +kernel
theorem dL_isSo_309 : decode cL_isSo 309 = .ok (.iload 10, 2) := by decide +kernel
theorem dL_isSo_311 : decode cL_isSo 311 = .ok (.iload 11, 2) := by decide +kernel
theorem dL_isSo_313 : decode cL_isSo 313 = .ok (.aload_n 2, 1) := by decide +kernel
theorem dL_isSo_314 : decode cL_isSo 314 = .ok (.aload 4, 2) := by decide +kernel
theorem dL_isSo_316 : decode cL_isSo 316 = .ok (.aload 5, 2) := by decide +kernel
theorem dL_isSo_318 : decode cL_isSo 318 = .ok (.aload 6, 2) := by decide +kernel
theorem dL_isSo_320 : decode cL_isSo 320 = .ok (.aload 7, 2) := by decide +kernel
theorem dL_isSo_322 : decode cL_isSo 322 = .ok (.invokestatic 55, 3) := by decide +kernel
theorem dL_isSo_325 : decode cL_isSo 325 = .ok (.ifCond .eq 10, 3) := by decide +kernel
theorem dL_isSo_328 : decode cL_isSo 328 = .ok (.iconst 1, 1) := by decide +kernel
theorem dL_isSo_329 : decode cL_isSo 329 = .ok (.iload 13, 2) := by decide +kernel
theorem dL_isSo_331 : decode cL_isSo 331 = .ok (.ishl, 1) := by decide +kernel
theorem dL_isSo_332 : decode cL_isSo 332 = .ok (.goto 4, 3) := by decide +kernel
theorem dL_isSo_335 : decode cL_isSo 335 = .ok (.iconst 0, 1) := by decide +kernel
theorem dL_isSo_336 : decode cL_isSo 336 = .ok (.ior, 1) := by decide +kernel
theorem dL_isSo_337 : decode cL_isSo 337 = .ok (.istore 12, 2) := by decide +kernel
theorem dL_isSo_339 : decode cL_isSo 339 = .ok (.iinc 13 1, 3) := by decide +kernel
theorem dL_isSo_342 : decode cL_isSo 342 = .ok (.goto (-60), 3) := by decide +kernel
theorem dL_isSo_345 : decode cL_isSo 345 = .ok (.aload 7, 2) := by decide +kernel
theorem dL_isSo_347 : decode cL_isSo 347 = .ok (.iconst 4, 1) := by decide +kernel
theorem dL_isSo_348 : decode cL_isSo 348 = .ok (.iload 10, 2) := by decide +kernel
theorem dL_isSo_350 : decode cL_isSo 350 = .ok (.imul, 1) := by decide +kernel
theorem dL_isSo_351 : decode cL_isSo 351 = .ok (.iload 11, 2) := by decide +kernel
theorem dL_isSo_353 : decode cL_isSo 353 = .ok (.iadd, 1) := by decide +kernel
theorem dL_isSo_354 : decode cL_isSo 354 = .ok (.iaload, 1) := by decide +kernel
theorem dL_isSo_355 : decode cL_isSo 355 = .ok (.iload 10, 2) := by decide +kernel
theorem dL_isSo_357 : decode cL_isSo 357 = .ok (.iload 11, 2) := by decide +kernel
theorem dL_isSo_359 : decode cL_isSo 359 = .ok (.iconst (-1), 1) := by decide +kernel
theorem dL_isSo_360 : decode cL_isSo 360 = .ok (.aload 5, 2) := by decide +kernel
theorem dL_isSo_362 : decode cL_isSo 362 = .ok (.aload 8, 2) := by decide +kernel
theorem dL_isSo_364 : decode cL_isSo 364 = .ok (.invokestatic 31, 3) := by decide +kernel
theorem dL_isSo_367 : decode cL_isSo 367 = .ok (.isub, 1) := by decide +kernel
theorem dL_isSo_368 : decode cL_isSo 368 = .ok (.istore 13, 2) := by decide +kernel
theorem dL_isSo_370 : decode cL_isSo 370 = .ok (.aload_n 0, 1) := by decide +kernel
theorem dL_isSo_371 : decode cL_isSo 371 = .ok (.iload 10, 2) := by decide +kernel
theorem dL_isSo_373 : decode cL_isSo 373 = .ok (.iload 11, 2) := by decide +kernel
theorem dL_isSo_375 : decode cL_isSo 375 = .ok (.invokevirtual 106, 3) := by decide +kernel
theorem dL_isSo_378 : decode cL_isSo 378 = .ok (.iload 12, 2) := by decide +kernel
theorem dL_isSo_380 : decode cL_isSo 380 = .ok (.if_icmp .ne 29, 3) := by decide +kernel
theorem dL_isSo_383 : decode cL_isSo 383 = .ok (.aload_n 0, 1) := by decide +kernel
theorem dL_isSo_384 : decode cL_isSo 384 = .ok (.iload 10, 2) := by decide +kernel
theorem dL_isSo_386 : decode cL_isSo 386 = .ok (.iload 11, 2) := by decide +kernel
theorem dL_isSo_388 : decode cL_isSo 388 = .ok (.invokevirtual 109, 3) := by decide +kernel
theorem dL_isSo_391 : decode cL_isSo 391 = .ok (.iload 13, 2) := by decide +kernel
theorem dL_isSo_393 : decode cL_isSo 393 = .ok (.ifCond .le 8, 3) := by decide +kernel
theorem dL_isSo_396 : decode cL_isSo 396 = .ok (.iload 13, 2) := by decide +kernel
theorem dL_isSo_398 : decode cL_isSo 398 = .ok (.goto 4, 3) := by decide +kernel
theorem dL_isSo_401 : decode cL_isSo 401 = .ok (.iconst 0, 1) := by decide +kernel
theorem dL_isSo_402 : decode cL_isSo 402 = .ok (.if_icmp .ne 7, 3) := by decide +kernel
theorem dL_isSo_405 : decode cL_isSo 405 = .ok (.iconst 1, 1) := by decide +kernel
theorem dL_isSo_406 : decode cL_isSo 406 = .ok (.goto 4, 3) := by decide +kernel
theorem dL_isSo_409 : decode cL_isSo 409 = .ok (.iconst 0, 1) := by decide +kernel
theorem dL_isSo_410 : decode cL_isSo 410 = .ok (.istore 9, 2) := by decide +kernel
theorem dL_isSo_412 : decode cL_isSo 412 = .ok (.iinc 11 1, 3) := by decide +kernel
theorem dL_isSo_415 : decode cL_isSo 415 = .ok (.goto (-150), 3) := by decide +kernel
theorem dL_isSo_418 : decode cL_isSo 418 = .ok (.aload 8, 2) := by decide +kernel
theorem dL_isSo_420 : decode cL_isSo 420 = .ok (.iconst 0, 1) := by decide +kernel
theorem dL_isSo_421 : decode cL_isSo 421 = .ok (.iaload, 1) := by decide +kernel
theorem dL_isSo_422 : decode cL_isSo 422 = .ok (.ifCond .le 188, 3) := by decide +kernel
theorem dL_isSo_425 : decode cL_isSo 425 = .ok (.iload 9, 2) := by decide +kernel
theorem dL_isSo_427 : decode cL_isSo 427 = .ok (.ifCond .eq 183, 3) := by decide +kernel
theorem dL_isSo_430 : decode cL_isSo 430 = .ok (.iload_n 1, 1) := by decide +kernel
theorem dL_isSo_431 : decode cL_isSo 431 = .ok (.iconst 3, 1) := by decide +kernel
theorem dL_isSo_432 : decode cL_isSo 432 = .ok (.ishr, 1) := by decide +kernel
theorem dL_isSo_433 : decode cL_isSo 433 = .ok (.aload 8, 2) := by decide +kernel
theorem dL_isSo_435 : decode cL_isSo 435 = .ok (.iconst 0, 1) := by decide +kernel
theorem dL_isSo_436 : decode cL_isSo 436 = .ok (.iaload, 1) := by decide +kernel
theorem dL_isSo_437 : decode cL_isSo 437 = .ok (.invokestatic 103, 3) := by decide +kernel
theorem dL_isSo_440 : decode cL_isSo 440 = .ok (.istore 11, 2) := by decide +kernel
theorem dL_isSo_442 : decode cL_isSo 442 = .ok (.iconst (-1), 1) := by decide +kernel
theorem dL_isSo_443 : decode cL_isSo 443 = .ok (.istore 12, 2) := by decide +kernel
theorem dL_isSo_445 : decode cL_isSo 445 = .ok (.iconst 0, 1) := by decide +kernel
theorem dL_isSo_446 : decode cL_isSo 446 = .ok (.istore 13, 2) := by decide +kernel
theorem dL_isSo_448 : decode cL_isSo 448 = .ok (.iload 13, 2) := by decide +kernel
theorem dL_isSo_450 : decode cL_isSo 450 = .ok (.aload 8, 2) := by decide +kernel
theorem dL_isSo_452 : decode cL_isSo 452 = .ok (.iconst 0, 1) := by decide +kernel
theorem dL_isSo_453 : decode cL_isSo 453 = .ok (.iaload, 1) := by decide +kernel
theorem dL_isSo_454 : decode cL_isSo 454 = .ok (.if_icmp .ge 98, 3) := by decide +kernel
theorem dL_isSo_457 : decode cL_isSo 457 = .ok (.aload 5, 2) := by decide +kernel
theorem dL_isSo_459 : decode cL_isSo 459 = .ok (.bipush 7, 2) := by decide +kernel
theorem dL_isSo_461 : decode cL_isSo 461 = .ok (.iload 11, 2) := by decide +kernel
theorem dL_isSo_463 : decode cL_isSo 463 = .ok (.imul, 1) := by decide +kernel
theorem dL_isSo_464 : decode cL_isSo 464 = .ok (.iload 10, 2) := by decide +kernel
theorem dL_isSo_466 : decode cL_isSo 466 = .ok (.iadd, 1) := by decide +kernel
theorem dL_isSo_467 : decode cL_isSo 467 = .ok (.iaload, 1) := by decide +kernel
theorem dL_isSo_468 : decode cL_isSo 468 = .ok (.aload 5, 2) := by decide +kernel
theorem dL_isSo_470 : decode cL_isSo 470 = .ok (.bipush 7, 2) := by decide +kernel
theorem dL_isSo_472 : decode cL_isSo 472 = .ok (.iload 13, 2) := by decide +kernel
theorem dL_isSo_474 : decode cL_isSo 474 = .ok (.imul, 1) := by decide +kernel
theorem dL_isSo_475 : decode cL_isSo 475 = .ok (.iload 10, 2) := by decide +kernel
theorem dL_isSo_477 : decode cL_isSo 477 = .ok (.iadd, 1) := by decide +kernel
theorem dL_isSo_478 : decode cL_isSo 478 = .ok (.iaload, 1) := by decide +kernel
theorem dL_isSo_479 : decode cL_isSo 479 = .ok (.if_icmp .eq 28, 3) := by decide +kernel
theorem dL_isSo_482 : decode cL_isSo 482 = .ok (.iload 11, 2) := by decide +kernel
theorem dL_isSo_484 : decode cL_isSo 484 = .ok (.iload 13, 2) := by decide +kernel
theorem dL_isSo_486 : decode cL_isSo 486 = .ok (.iload 10, 2) := by decide +kernel
theorem dL_isSo_488 : decode cL_isSo 488 = .ok (.aload_n 2, 1) := by decide +kernel
theorem dL_isSo_489 : decode cL_isSo 489 = .ok (.aload 4, 2) := by decide +kernel
theorem dL_isSo_491 : decode cL_isSo 491 = .ok (.aload 5, 2) := by decide +kernel
theorem dL_isSo_493 : decode cL_isSo 493 = .ok (.aload 6, 2) := by decide +kernel
theorem dL_isSo_495 : decode cL_isSo 495 = .ok (.aload 7, 2) := by decide +kernel
theorem dL_isSo_497 : decode cL_isSo 497 = .ok (.invokestatic 112, 3) := by decide +kernel
theorem dL_isSo_500 : decode cL_isSo 500 = .ok (.ifCond .eq 7, 3) := by decide +kernel
theorem dL_isSo_503 : decode cL_isSo 503 = .ok (.iconst 1, 1) := by decide +kernel
theorem dL_isSo_504 : decode cL_isSo 504 = .ok (.goto 4, 3) := by decide +kernel
theorem dL_isSo_507 : decode cL_isSo 507 = .ok (.iconst 0, 1) := by decide +kernel
theorem dL_isSo_508 : decode cL_isSo 508 = .ok (.istore 14, 2) := by decide +kernel
theorem dL_isSo_510 : decode cL_isSo 510 = .ok (.iload 14, 2) := by decide +kernel
theorem dL_isSo_512 : decode cL_isSo 512 = .ok (.ifCond .eq 30, 3) := by decide +kernel
theorem dL_isSo_515 : decode cL_isSo 515 = .ok (.iload 12, 2) := by decide +kernel
theorem dL_isSo_517 : decode cL_isSo 517 = .ok (.ifCond .lt 20, 3) := by decide +kernel
theorem dL_isSo_520 : decode cL_isSo 520 = .ok (.iload 13, 2) := by decide +kernel
theorem dL_isSo_522 : decode cL_isSo 522 = .ok (.aload 5, 2) := by decide +kernel
theorem dL_isSo_524 : decode cL_isSo 524 = .ok (.invokestatic 84, 3) := by decide +kernel
theorem dL_isSo_527 : decode cL_isSo 527 = .ok (.iload 12, 2) := by decide +kernel
theorem dL_isSo_529 : decode cL_isSo 529 = .ok (.aload 5, 2) := by decide +kernel
theorem dL_isSo_531 : decode cL_isSo 531 = .ok (.invokestatic 84, 3) := by decide +kernel
theorem dL_isSo_534 : decode cL_isSo 534 = .ok (.if_icmp .ge 8, 3) := by decide +kernel
theorem dL_isSo_537 : decode cL_isSo 537 = .ok (.iload 13, 2) := by decide +kernel
theorem dL_isSo_539 : decode cL_isSo 539 = .ok (.goto 5, 3) := by decide +kernel
theorem dL_isSo_542 : decode cL_isSo 542 = .ok (.iload 12, 2) := by decide +kernel
theorem dL_isSo_544 : decode cL_isSo 544 = .ok (.istore 12, 2) := by decide +kernel
theorem dL_isSo_546 : decode cL_isSo 546 = .ok (.iinc 13 1, 3) := by decide +kernel
theorem dL_isSo_549 : decode cL_isSo 549 = .ok (.goto (-101), 3) := by decide +kernel
theorem dL_isSo_552 : decode cL_isSo 552 = .ok (.iload 11, 2) := by decide +kernel
theorem dL_isSo_554 : decode cL_isSo 554 = .ok (.iconst 0, 1) := by decide +kernel
theorem dL_isSo_555 : decode cL_isSo 555 = .ok (.aload_n 2, 1) := by decide +kernel
theorem dL_isSo_556 : decode cL_isSo 556 = .ok (.aload_n 3, 1) := by decide +kernel
theorem dL_isSo_557 : decode cL_isSo 557 = .ok (.aload 4, 2) := by decide +kernel
theorem dL_isSo_559 : decode cL_isSo 559 = .ok (.aload 6, 2) := by decide +kernel
theorem dL_isSo_561 : decode cL_isSo 561 = .ok (.aload 7, 2) := by decide +kernel
theorem dL_isSo_563 : decode cL_isSo 563 = .ok (.invokestatic 47, 3) := by decide +kernel
theorem dL_isSo_566 : decode cL_isSo 566 = .ok (.istore 13, 2) := by decide +kernel
theorem dL_isSo_568 : decode cL_isSo 568 = .ok (.aload_n 0, 1) := by decide +kernel
theorem dL_isSo_569 : decode cL_isSo 569 = .ok (.iload 11, 2) := by decide +kernel
theorem dL_isSo_571 : decode cL_isSo 571 = .ok (.iload 10, 2) := by decide +kernel
theorem dL_isSo_573 : decode cL_isSo 573 = .ok (.invokevirtual 115, 3) := by decide +kernel
theorem dL_isSo_576 : decode cL_isSo 576 = .ok (.iload 12, 2) := by decide +kernel
theorem dL_isSo_578 : decode cL_isSo 578 = .ok (.if_icmp .ne 29, 3) := by decide +kernel
theorem dL_isSo_581 : decode cL_isSo 581 = .ok (.aload_n 0, 1) := by decide +kernel
theorem dL_isSo_582 : decode cL_isSo 582 = .ok (.iload 11, 2) := by decide +kernel
theorem dL_isSo_584 : decode cL_isSo 584 = .ok (.invokevirtual 118, 3) := by decide +kernel
theorem dL_isSo_587 : decode cL_isSo 587 = .ok (.iload 13, 2) := by decide +kernel
theorem dL_isSo_589 : decode cL_isSo 589 = .ok (.if_icmp .ne 18, 3) := by decide +kernel
theorem dL_isSo_592 : decode cL_isSo 592 = .ok (.aload_n 0, 1) := by decide +kernel
theorem dL_isSo_593 : decode cL_isSo 593 = .ok (.iload 11, 2) := by decide +kernel
theorem dL_isSo_595 : decode cL_isSo 595 = .ok (.invokevirtual 120, 3) := by decide +kernel
theorem dL_isSo_598 : decode cL_isSo 598 = .ok (.iload 13, 2) := by decide +kernel
theorem dL_isSo_600 : decode cL_isSo 600 = .ok (.if_icmp .ne 7, 3) := by decide +kernel
theorem dL_isSo_603 : decode cL_isSo 603 = .ok (.iconst 1, 1) := by decide +kernel
theorem dL_isSo_604 : decode cL_isSo 604 = .ok (.goto 4, 3) := by decide +kernel
theorem dL_isSo_607 : decode cL_isSo 607 = .ok (.iconst 0, 1) := by decide +kernel
theorem dL_isSo_608 : decode cL_isSo 608 = .ok (.istore 9, 2) := by decide +kernel
theorem dL_isSo_610 : decode cL_isSo 610 = .ok (.iload 9, 2) := by decide +kernel
theorem dL_isSo_612 : decode cL_isSo 612 = .ok (.ireturn, 1) := by decide +kernel
