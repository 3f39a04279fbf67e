set_option maxRecDepth 20000 in
theorem ggX0_init_X2_init : GoodIn wsX0_init wsX2_init := goodIn_r _ [3, 4, 5, 6] (by decide +kernel) (by decide +kernel)
set_option maxRecDepth 20000 in
theorem gX0_init_X2_init_n1 : GoodIn wsX0_init (wsX2_init) := ggX0_init_X2_init
theorem dX0_init_0 : decode cX0_init 0 = .ok (.aload_n 0, 1) := by decide +kernel
theorem dX0_init_1 : decode cX0_init 1 = .ok (.invokespecial 1, 3) := by decide +kernel
theorem dX0_init_4 : decode cX0_init 4 = .ok (.return_, 1) := by decide +kernel
theorem dX0_none_0 : decode cX0_none 0 = .ok (.lconst 0, 1) := by decide +kernel
theorem dX0_none_1 : decode cX0_none 1 = .ok (.lreturn, 1) := by decide +kernel
theorem dX0_start_0 : decode cX0_start 0 = .ok (.lconst 1, 1) := by decide +kernel
theorem dX0_start_1 : decode cX0_start 1 = .ok (.lreturn, 1) := by decide +kernel
theorem dX0_longer_0 : decode cX0_longer 0 = .ok (.lload_n 1, 1) := by decide +kernel
theorem dX0_longer_1 : decode cX0_longer 1 = .ok (.lreturn, 1) := by decide +kernel
theorem dX0_joined_0 : decode cX0_joined 0 = .ok (.lload_n 1, 1) := by decide +kernel
theorem dX0_joined_1 : decode cX0_joined 1 = .ok (.lload_n 3, 1) := by decide +kernel
theorem dX0_joined_2 : decode cX0_joined 2 = .ok (.ladd, 1) := by decide +kernel
theorem dX0_joined_3 : decode cX0_joined 3 = .ok (.lreturn, 1) := by decide +kernel
theorem dX1_init_0 : decode cX1_init 0 = .ok (.aload_n 0, 1) := by decide +kernel
theorem dX1_init_1 : decode cX1_init 1 = .ok (.invokespecial 5, 3) := by decide +kernel
theorem dX1_init_4 : decode cX1_init 4 = .ok (.aload_n 0, 1) := by decide +kernel
theorem dX1_init_5 : decode cX1_init 5 = .ok (.sipush 480, 3) := by decide +kernel
theorem dX1_init_8 : decode cX1_init 8 = .ok (.newarray .long, 2) := by decide +kernel
theorem dX1_init_10 : decode cX1_init 10 = .ok (.putfield 11, 3) := by decide +kernel
theorem dX1_init_13 : decode cX1_init 13 = .ok (.aload_n 0, 1) := by decide +kernel
theorem dX1_init_14 : decode cX1_init 14 = .ok (.sipush 480, 3) := by decide +kernel
theorem dX1_init_17 : decode cX1_init 17 = .ok (.newarray .long, 2) := by decide +kernel
theorem dX1_init_19 : decode cX1_init 19 = .ok (.putfield 15, 3) := by decide +kernel
theorem dX1_init_22 : decode cX1_init 22 = .ok (.return_, 1) := by decide +kernel
theorem dX1_placeOf_0 : decode cX1_placeOf 0 = .ok (.iload_n 0, 1) := by decide +kernel
theorem dX1_placeOf_1 : decode cX1_placeOf 1 = .ok (.bipush 15, 2) := by decide +kernel
theorem dX1_placeOf_3 : decode cX1_placeOf 3 = .ok (.imul, 1) := by decide +kernel
theorem dX1_placeOf_4 : decode cX1_placeOf 4 = .ok (.iload_n 1, 1) := by decide +kernel
theorem dX1_placeOf_5 : decode cX1_placeOf 5 = .ok (.iadd, 1) := by decide +kernel
theorem dX1_placeOf_6 : decode cX1_placeOf 6 = .ok (.iconst 4, 1) := by decide +kernel
theorem dX1_placeOf_7 : decode cX1_placeOf 7 = .ok (.imul, 1) := by decide +kernel
theorem dX1_placeOf_8 : decode cX1_placeOf 8 = .ok (.iload_n 2, 1) := by decide +kernel
theorem dX1_placeOf_9 : decode cX1_placeOf 9 = .ok (.iadd, 1) := by decide +kernel
theorem dX1_placeOf_10 : decode cX1_placeOf 10 = .ok (.ireturn, 1) := by decide +kernel
set_option maxRecDepth 20000 in
theorem ggX1_through_X0_none : GoodIn wsX1_through wsX0_none := goodIn_r _ [11] (by decide +kernel) (by decide +kernel)
set_option maxRecDepth 20000 in
theorem gX1_through_X0_none_u18X0 : GoodIn wsX1_through (va_wsU RX1 18 RX0 "CoverSheet$Measure" ⟨"CoverSheet$Measure", "none", "()J"⟩ yX0_none wsX0_none) := goodIn_app (goodIn_of _ (by decide +kernel)) ggX1_through_X0_none
set_option maxRecDepth 20000 in
theorem ggX1_through_X5_none : GoodIn wsX1_through wsX5_none := goodIn_r _ [15, 16] (by decide +kernel) (by decide +kernel)
set_option maxRecDepth 20000 in
theorem gX1_through_X5_none_u18X5 : GoodIn wsX1_through (va_wsU RX1 18 RX5 "CoverSheet$Measure" ⟨"CoverSheet$Measure", "none", "()J"⟩ yX5_none wsX5_none) := goodIn_app (goodIn_of _ (by decide +kernel)) ggX1_through_X5_none
set_option maxRecDepth 20000 in
theorem ggX1_through_J7_fill_d0a16 : GoodIn wsX1_through wsJ7_fill_d0a16 := goodIn_r _ [20] (by decide +kernel) (by decide +kernel)
set_option maxRecDepth 20000 in
theorem gX1_through_J7_fill_d0a16 : GoodIn wsX1_through (va_wsS RX1 24 yJ7_fill_d0a16 wsJ7_fill_d0a16) := goodIn_app (goodIn_of _ (by decide +kernel)) ggX1_through_J7_fill_d0a16
set_option maxRecDepth 20000 in
theorem ggX1_through_X1_placeOf : GoodIn wsX1_through wsX1_placeOf := goodIn_r _ [24] (by decide +kernel) (by decide +kernel)
set_option maxRecDepth 20000 in
theorem gX1_through_X1_placeOf : GoodIn wsX1_through (va_wsS RX1 45 yX1_placeOf wsX1_placeOf) := goodIn_app (goodIn_of _ (by decide +kernel)) ggX1_through_X1_placeOf
set_option maxRecDepth 20000 in
theorem ggX1_through_X0_start : GoodIn wsX1_through wsX0_start := goodIn_r _ [29] (by decide +kernel) (by decide +kernel)
set_option maxRecDepth 20000 in
theorem gX1_through_X0_start_u49X0 : GoodIn wsX1_through (va_wsU RX1 49 RX0 "CoverSheet$Measure" ⟨"CoverSheet$Measure", "start", "()J"⟩ yX0_start wsX0_start) := goodIn_app (goodIn_of _ (by decide +kernel)) ggX1_through_X0_start
set_option maxRecDepth 20000 in
theorem ggX1_through_X5_start : GoodIn wsX1_through wsX5_start := goodIn_r _ [32] (by decide +kernel) (by decide +kernel)
set_option maxRecDepth 20000 in
theorem gX1_through_X5_start_u49X5 : GoodIn wsX1_through (va_wsU RX1 49 RX5 "CoverSheet$Measure" ⟨"CoverSheet$Measure", "start", "()J"⟩ yX5_start wsX5_start) := goodIn_app (goodIn_of _ (by decide +kernel)) ggX1_through_X5_start
set_option maxRecDepth 20000 in
theorem ggX1_through_X1_goOn : GoodIn wsX1_through wsX1_goOn := goodIn_r _ [36, 37, 1, 6, 7, 8, 9, 10, 11, 12, 13, 14, 15, 16, 17, 18, 19, 20, 38, 39, 40, 41, 42, 43, 44, 45, 46, 47, 48, 49, 50, 51, 52, 53, 54, 55, 56, 57, 58, 21, 22, 23, 24, 59, 60, 61, 62, 63, 64, 65, 66, 67, 68, 69, 70, 71, 72, 73, 74, 75, 76, 77, 4, 78, 79, 80, 81, 82, 83, 84, 85, 86, 87, 88, 89, 90, 91] (by decide +kernel) (by decide +kernel)
set_option maxRecDepth 20000 in
theorem gX1_through_X1_goOn : GoodIn wsX1_through (wsV RX1 52 RX1 yX1_goOn wsX1_goOn) := goodIn_app (goodIn_of _ (by decide +kernel)) ggX1_through_X1_goOn
set_option maxRecDepth 20000 in
theorem ggX1_through_X0_joined : GoodIn wsX1_through wsX0_joined := goodIn_r _ [72] (by decide +kernel) (by decide +kernel)
set_option maxRecDepth 20000 in
theorem gX1_through_X0_joined_u56X0 : GoodIn wsX1_through (va_wsU RX1 56 RX0 "CoverSheet$Measure" ⟨"CoverSheet$Measure", "joined", "(JJ)J"⟩ yX0_joined wsX0_joined) := goodIn_app (goodIn_of _ (by decide +kernel)) ggX1_through_X0_joined
set_option maxRecDepth 20000 in
theorem ggX1_through_X5_joined : GoodIn wsX1_through wsX5_joined := goodIn_r _ [75, 76, 77, 4, 78] (by decide +kernel) (by decide +kernel)
set_option maxRecDepth 20000 in
theorem gX1_through_X5_joined_u56X5 : GoodIn wsX1_through (va_wsU RX1 56 RX5 "CoverSheet$Measure" ⟨"CoverSheet$Measure", "joined", "(JJ)J"⟩ yX5_joined wsX5_joined) := goodIn_app (goodIn_of _ (by decide +kernel)) ggX1_through_X5_joined
theorem dX1_through_0 : decode cX1_through 0 = .ok (.aload_n 0, 1) := by decide +kernel
theorem dX1_through_1 : decode cX1_through 1 = .ok (.getfield 11, 3) := by decide +kernel
theorem dX1_through_4 : decode cX1_through 4 = .ok (.aload_n 3, 1) := by decide +kernel
theorem dX1_through_5 : decode cX1_through 5 = .ok (.invokevirtual 18, 3) := by decide +kernel
theorem dX1_through_8 : decode cX1_through 8 = .ok (.invokestatic 24, 3) := by decide +kernel
theorem dX1_through_11 : decode cX1_through 11 = .ok (.iconst 0, 1) := by decide +kernel
theorem dX1_through_12 : decode cX1_through 12 = .ok (.aload_n 1, 1) := by decide +kernel
theorem dX1_through_13 : decode cX1_through 13 = .ok (.getfield 30, 3) := by decide +kernel
theorem dX1_through_16 : decode cX1_through 16 = .ok (.bipush 14, 2) := by decide +kernel
theorem dX1_through_18 : decode cX1_through 18 = .ok (.invokestatic 36, 3) := by decide +kernel
theorem dX1_through_21 : decode cX1_through 21 = .ok (.aload_n 1, 1) := by decide +kernel
theorem dX1_through_22 : decode cX1_through 22 = .ok (.getfield 42, 3) := by decide +kernel
theorem dX1_through_25 : decode cX1_through 25 = .ok (.invokestatic 45, 3) := by decide +kernel
theorem dX1_through_28 : decode cX1_through 28 = .ok (.istore 4, 2) := by decide +kernel
theorem dX1_through_30 : decode cX1_through 30 = .ok (.iload 4, 2) := by decide +kernel
theorem dX1_through_32 : decode cX1_through 32 = .ok (.ifCond .lt 24, 3) := by decide +kernel
theorem dX1_through_35 : decode cX1_through 35 = .ok (.iload 4, 2) := by decide +kernel
theorem dX1_through_37 : decode cX1_through 37 = .ok (.aload_n 0, 1) := by decide +kernel
theorem dX1_through_38 : decode cX1_through 38 = .ok (.getfield 11, 3) := by decide +kernel
theorem dX1_through_41 : decode cX1_through 41 = .ok (.arraylength, 1) := by decide +kernel
theorem dX1_through_42 : decode cX1_through 42 = .ok (.if_icmp .ge 14, 3) := by decide +kernel
theorem dX1_through_45 : decode cX1_through 45 = .ok (.aload_n 0, 1) := by decide +kernel
theorem dX1_through_46 : decode cX1_through 46 = .ok (.getfield 11, 3) := by decide +kernel
theorem dX1_through_49 : decode cX1_through 49 = .ok (.iload 4, 2) := by decide +kernel
theorem dX1_through_51 : decode cX1_through 51 = .ok (.aload_n 3, 1) := by decide +kernel
theorem dX1_through_52 : decode cX1_through 52 = .ok (.invokevirtual 49, 3) := by decide +kernel
theorem dX1_through_55 : decode cX1_through 55 = .ok (.lastore, 1) := by decide +kernel
theorem dX1_through_56 : decode cX1_through 56 = .ok (.iconst 0, 1) := by decide +kernel
theorem dX1_through_57 : decode cX1_through 57 = .ok (.istore 5, 2) := by decide +kernel
theorem dX1_through_59 : decode cX1_through 59 = .ok (.iload 5, 2) := by decide +kernel
theorem dX1_through_61 : decode cX1_through 61 = .ok (.bipush 7, 2) := by decide +kernel
theorem dX1_through_63 : decode cX1_through 63 = .ok (.if_icmp .ge 18, 3) := by decide +kernel
theorem dX1_through_66 : decode cX1_through 66 = .ok (.aload_n 0, 1) := by decide +kernel
theorem dX1_through_67 : decode cX1_through 67 = .ok (.aload_n 1, 1) := by decide +kernel
theorem dX1_through_68 : decode cX1_through 68 = .ok (.aload_n 2, 1) := by decide +kernel
theorem dX1_through_69 : decode cX1_through 69 = .ok (.aload_n 3, 1) := by decide +kernel
theorem dX1_through_70 : decode cX1_through 70 = .ok (.iload 5, 2) := by decide +kernel
theorem dX1_through_72 : decode cX1_through 72 = .ok (.invokevirtual 52, 3) := by decide +kernel
theorem dX1_through_75 : decode cX1_through 75 = .ok (.iinc 5 1, 3) := by decide +kernel
theorem dX1_through_78 : decode cX1_through 78 = .ok (.goto (-19), 3) := by decide +kernel
theorem dX1_through_81 : decode cX1_through 81 = .ok (.aload_n 3, 1) := by decide +kernel
theorem dX1_through_82 : decode cX1_through 82 = .ok (.invokevirtual 18, 3) := by decide +kernel
theorem dX1_through_85 : decode cX1_through 85 = .ok (.lstore 5, 2) := by decide +kernel
theorem dX1_through_87 : decode cX1_through 87 = .ok (.aload_n 0, 1) := by decide +kernel
theorem dX1_through_88 : decode cX1_through 88 = .ok (.getfield 11, 3) := by decide +kernel
theorem dX1_through_91 : decode cX1_through 91 = .ok (.astore 7, 2) := by decide +kernel
theorem dX1_through_93 : decode cX1_through 93 = .ok (.aload 7, 2) := by decide +kernel
theorem dX1_through_95 : decode cX1_through 95 = .ok (.arraylength, 1) := by decide +kernel
theorem dX1_through_96 : decode cX1_through 96 = .ok (.istore 8, 2) := by decide +kernel
theorem dX1_through_98 : decode cX1_through 98 = .ok (.iconst 0, 1) := by decide +kernel
theorem dX1_through_99 : decode cX1_through 99 = .ok (.istore 9, 2) := by decide +kernel
theorem dX1_through_101 : decode cX1_through 101 = .ok (.iload 9, 2) := by decide +kernel
theorem dX1_through_103 : decode cX1_through 103 = .ok (.iload 8, 2) := by decide +kernel
theorem dX1_through_105 : decode cX1_through 105 = .ok (.if_icmp .ge 26, 3) := by decide +kernel
theorem dX1_through_108 : decode cX1_through 108 = .ok (.aload 7, 2) := by decide +kernel
theorem dX1_through_110 : decode cX1_through 110 = .ok (.iload 9, 2) := by decide +kernel
theorem dX1_through_112 : decode cX1_through 112 = .ok (.laload, 1) := by decide +kernel
theorem dX1_through_113 : decode cX1_through 113 = .ok (.lstore 10, 2) := by decide +kernel
theorem dX1_through_115 : decode cX1_through 115 = .ok (.aload_n 3, 1) := by decide +kernel
theorem dX1_through_116 : decode cX1_through 116 = .ok (.lload 5, 2) := by decide +kernel
theorem dX1_through_118 : decode cX1_through 118 = .ok (.lload 10, 2) := by decide +kernel
theorem dX1_through_120 : decode cX1_through 120 = .ok (.invokevirtual 56, 3) := by decide +kernel
theorem dX1_through_123 : decode cX1_through 123 = .ok (.lstore 5, 2) := by decide +kernel
theorem dX1_through_125 : decode cX1_through 125 = .ok (.iinc 9 1, 3) := by decide +kernel
theorem dX1_through_128 : decode cX1_through 128 = .ok (.goto (-27), 3) := by decide +kernel
theorem dX1_through_131 : decode cX1_through 131 = .ok (.lload 5, 2) := by decide +kernel
theorem dX1_through_133 : decode cX1_through 133 = .ok (.lreturn, 1) := by decide +kernel
set_option maxRecDepth 20000 in
theorem ggX1_goOn_X0_none : GoodIn wsX1_goOn wsX0_none := goodIn_r _ [8] (by decide +kernel) (by decide +kernel)
set_option maxRecDepth 20000 in
theorem gX1_goOn_X0_none_u18X0 : GoodIn wsX1_goOn (va_wsU RX1 18 RX0 "CoverSheet$Measure" ⟨"CoverSheet$Measure", "none", "()J"⟩ yX0_none wsX0_none) := goodIn_app (goodIn_of _ (by decide +kernel)) ggX1_goOn_X0_none
set_option maxRecDepth 20000 in
theorem ggX1_goOn_X5_none : GoodIn wsX1_goOn wsX5_none := goodIn_r _ [12, 13] (by decide +kernel) (by decide +kernel)
set_option maxRecDepth 20000 in
theorem gX1_goOn_X5_none_u18X5 : GoodIn wsX1_goOn (va_wsU RX1 18 RX5 "CoverSheet$Measure" ⟨"CoverSheet$Measure", "none", "()J"⟩ yX5_none wsX5_none) := goodIn_app (goodIn_of _ (by decide +kernel)) ggX1_goOn_X5_none
set_option maxRecDepth 20000 in
theorem ggX1_goOn_J7_fill_d0a16 : GoodIn wsX1_goOn wsJ7_fill_d0a16 := goodIn_r _ [17] (by decide +kernel) (by decide +kernel)
set_option maxRecDepth 20000 in
theorem gX1_goOn_J7_fill_d0a16 : GoodIn wsX1_goOn (va_wsS RX1 24 yJ7_fill_d0a16 wsJ7_fill_d0a16) := goodIn_app (goodIn_of _ (by decide +kernel)) ggX1_goOn_J7_fill_d0a16
set_option maxRecDepth 20000 in
theorem ggX1_goOn_X4_mayHave : GoodIn wsX1_goOn wsX4_mayHave := goodIn_r _ [22, 23, 24, 25, 26, 21, 27, 28, 66, 67, 68, 69, 70, 71, 72, 73] (by decide +kernel) (by decide +kernel)
set_option maxRecDepth 20000 in
theorem gX1_goOn_X4_mayHave : GoodIn wsX1_goOn (wsV RX1 63 RX4 yX4_mayHave wsX4_mayHave) := goodIn_app (goodIn_of _ (by decide +kernel)) ggX1_goOn_X4_mayHave
set_option maxRecDepth 20000 in
theorem ggX1_goOn_X6_allow : GoodIn wsX1_goOn wsX6_allow := goodIn_r _ [33, 34, 35, 36, 37, 32, 38, 74, 75] (by decide +kernel) (by decide +kernel)
set_option maxRecDepth 20000 in
theorem gX1_goOn_X6_allow : GoodIn wsX1_goOn (wsV RX1 67 RX6 yX6_allow wsX6_allow) := goodIn_app (goodIn_of _ (by decide +kernel)) ggX1_goOn_X6_allow
set_option maxRecDepth 20000 in
theorem ggX1_goOn_X1_placeOf : GoodIn wsX1_goOn wsX1_placeOf := goodIn_r _ [42] (by decide +kernel) (by decide +kernel)
set_option maxRecDepth 20000 in
theorem gX1_goOn_X1_placeOf : GoodIn wsX1_goOn (va_wsS RX1 45 yX1_placeOf wsX1_placeOf) := goodIn_app (goodIn_of _ (by decide +kernel)) ggX1_goOn_X1_placeOf
set_option maxRecDepth 20000 in
theorem ggX1_goOn_X0_longer : GoodIn wsX1_goOn wsX0_longer := goodIn_r _ [47] (by decide +kernel) (by decide +kernel)
set_option maxRecDepth 20000 in
theorem gX1_goOn_X0_longer_u73X0 : GoodIn wsX1_goOn (va_wsU RX1 73 RX0 "CoverSheet$Measure" ⟨"CoverSheet$Measure", "longer", "(JII)J"⟩ yX0_longer wsX0_longer) := goodIn_app (goodIn_of _ (by decide +kernel)) ggX1_goOn_X0_longer
set_option maxRecDepth 20000 in
theorem ggX1_goOn_X5_longer : GoodIn wsX1_goOn wsX5_longer := goodIn_r _ [50, 51, 13, 76] (by decide +kernel) (by decide +kernel)
set_option maxRecDepth 20000 in
theorem gX1_goOn_X5_longer_u73X5 : GoodIn wsX1_goOn (va_wsU RX1 73 RX5 "CoverSheet$Measure" ⟨"CoverSheet$Measure", "longer", "(JII)J"⟩ yX5_longer wsX5_longer) := goodIn_app (goodIn_of _ (by decide +kernel)) ggX1_goOn_X5_longer
set_option maxRecDepth 20000 in
theorem ggX1_goOn_X0_joined : GoodIn wsX1_goOn wsX0_joined := goodIn_r _ [56] (by decide +kernel) (by decide +kernel)
set_option maxRecDepth 20000 in
theorem gX1_goOn_X0_joined_u56X0 : GoodIn wsX1_goOn (va_wsU RX1 56 RX0 "CoverSheet$Measure" ⟨"CoverSheet$Measure", "joined", "(JJ)J"⟩ yX0_joined wsX0_joined) := goodIn_app (goodIn_of _ (by decide +kernel)) ggX1_goOn_X0_joined
set_option maxRecDepth 20000 in
theorem ggX1_goOn_X5_joined : GoodIn wsX1_goOn wsX5_joined := goodIn_r _ [59, 60, 61, 62, 63] (by decide +kernel) (by decide +kernel)
set_option maxRecDepth 20000 in
theorem gX1_goOn_X5_joined_u56X5 : GoodIn wsX1_goOn (va_wsU RX1 56 RX5 "CoverSheet$Measure" ⟨"CoverSheet$Measure", "joined", "(JJ)J"⟩ yX5_joined wsX5_joined) := goodIn_app (goodIn_of _ (by decide +kernel)) ggX1_goOn_X5_joined
theorem dX1_goOn_0 : decode cX1_goOn 0 = .ok (.aload_n 0, 1) := by decide +kernel
theorem dX1_goOn_1 : decode cX1_goOn 1 = .ok (.getfield 15, 3) := by decide +kernel
theorem dX1_goOn_4 : decode cX1_goOn 4 = .ok (.aload_n 3, 1) := by decide +kernel
theorem dX1_goOn_5 : decode cX1_goOn 5 = .ok (.invokevirtual 18, 3) := by decide +kernel
theorem dX1_goOn_8 : decode cX1_goOn 8 = .ok (.invokestatic 24, 3) := by decide +kernel
theorem dX1_goOn_11 : decode cX1_goOn 11 = .ok (.iconst 0, 1) := by decide +kernel
theorem dX1_goOn_12 : decode cX1_goOn 12 = .ok (.istore 5, 2) := by decide +kernel
theorem dX1_goOn_14 : decode cX1_goOn 14 = .ok (.iload 5, 2) := by decide +kernel
theorem dX1_goOn_16 : decode cX1_goOn 16 = .ok (.aload_n 0, 1) := by decide +kernel
theorem dX1_goOn_17 : decode cX1_goOn 17 = .ok (.getfield 11, 3) := by decide +kernel
theorem dX1_goOn_20 : decode cX1_goOn 20 = .ok (.arraylength, 1) := by decide +kernel
theorem dX1_goOn_21 : decode cX1_goOn 21 = .ok (.if_icmp .ge 200, 3) := by decide +kernel
theorem dX1_goOn_24 : decode cX1_goOn 24 = .ok (.aload_n 0, 1) := by decide +kernel
theorem dX1_goOn_25 : decode cX1_goOn 25 = .ok (.getfield 11, 3) := by decide +kernel
theorem dX1_goOn_28 : decode cX1_goOn 28 = .ok (.iload 5, 2) := by decide +kernel
theorem dX1_goOn_30 : decode cX1_goOn 30 = .ok (.laload, 1) := by decide +kernel
theorem dX1_goOn_31 : decode cX1_goOn 31 = .ok (.lstore 6, 2) := by decide +kernel
theorem dX1_goOn_33 : decode cX1_goOn 33 = .ok (.lload 6, 2) := by decide +kernel
theorem dX1_goOn_35 : decode cX1_goOn 35 = .ok (.aload_n 3, 1) := by decide +kernel
theorem dX1_goOn_36 : decode cX1_goOn 36 = .ok (.invokevirtual 18, 3) := by decide +kernel
theorem dX1_goOn_39 : decode cX1_goOn 39 = .ok (.lcmp, 1) := by decide +kernel
theorem dX1_goOn_40 : decode cX1_goOn 40 = .ok (.ifCond .ne 6, 3) := by decide +kernel
theorem dX1_goOn_43 : decode cX1_goOn 43 = .ok (.goto 172, 3) := by decide +kernel
theorem dX1_goOn_46 : decode cX1_goOn 46 = .ok (.iload 5, 2) := by decide +kernel
theorem dX1_goOn_48 : decode cX1_goOn 48 = .ok (.iconst 4, 1) := by decide +kernel
theorem dX1_goOn_49 : decode cX1_goOn 49 = .ok (.irem, 1) := by decide +kernel
theorem dX1_goOn_50 : decode cX1_goOn 50 = .ok (.istore 8, 2) := by decide +kernel
theorem dX1_goOn_52 : decode cX1_goOn 52 = .ok (.iload 5, 2) := by decide +kernel
theorem dX1_goOn_54 : decode cX1_goOn 54 = .ok (.iconst 4, 1) := by decide +kernel
theorem dX1_goOn_55 : decode cX1_goOn 55 = .ok (.idiv, 1) := by decide +kernel
theorem dX1_goOn_56 : decode cX1_goOn 56 = .ok (.bipush 15, 2) := by decide +kernel
theorem dX1_goOn_58 : decode cX1_goOn 58 = .ok (.irem, 1) := by decide +kernel
theorem dX1_goOn_59 : decode cX1_goOn 59 = .ok (.istore 9, 2) := by decide +kernel
theorem dX1_goOn_61 : decode cX1_goOn 61 = .ok (.iload 5, 2) := by decide +kernel
theorem dX1_goOn_63 : decode cX1_goOn 63 = .ok (.iconst 4, 1) := by decide +kernel
theorem dX1_goOn_64 : decode cX1_goOn 64 = .ok (.idiv, 1) := by decide +kernel
theorem dX1_goOn_65 : decode cX1_goOn 65 = .ok (.bipush 15, 2) := by decide +kernel
theorem dX1_goOn_67 : decode cX1_goOn 67 = .ok (.idiv, 1) := by decide +kernel
theorem dX1_goOn_68 : decode cX1_goOn 68 = .ok (.istore 10, 2) := by decide +kernel
theorem dX1_goOn_70 : decode cX1_goOn 70 = .ok (.iconst 0, 1) := by decide +kernel
theorem dX1_goOn_71 : decode cX1_goOn 71 = .ok (.istore 11, 2) := by decide +kernel
theorem dX1_goOn_73 : decode cX1_goOn 73 = .ok (.iload 11, 2) := by decide +kernel
theorem dX1_goOn_75 : decode cX1_goOn 75 = .ok (.iconst 3, 1) := by decide +kernel
theorem dX1_goOn_76 : decode cX1_goOn 76 = .ok (.if_icmp .gt 139, 3) := by decide +kernel
theorem dX1_goOn_79 : decode cX1_goOn 79 = .ok (.iload 11, 2) := by decide +kernel
theorem dX1_goOn_81 : decode cX1_goOn 81 = .ok (.ifCond .eq 16, 3) := by decide +kernel
theorem dX1_goOn_84 : decode cX1_goOn 84 = .ok (.iload 10, 2) := by decide +kernel
theorem dX1_goOn_86 : decode cX1_goOn 86 = .ok (.aload_n 1, 1) := by decide +kernel
theorem dX1_goOn_87 : decode cX1_goOn 87 = .ok (.getfield 60, 3) := by decide +kernel
theorem dX1_goOn_90 : decode cX1_goOn 90 = .ok (.if_icmp .lt 7, 3) := by decide +kernel
theorem dX1_goOn_93 : decode cX1_goOn 93 = .ok (.iconst 1, 1) := by decide +kernel
theorem dX1_goOn_94 : decode cX1_goOn 94 = .ok (.goto 4, 3) := by decide +kernel
theorem dX1_goOn_97 : decode cX1_goOn 97 = .ok (.iconst 0, 1) := by decide +kernel
theorem dX1_goOn_98 : decode cX1_goOn 98 = .ok (.istore 12, 2) := by decide +kernel
theorem dX1_goOn_100 : decode cX1_goOn 100 = .ok (.iload 12, 2) := by decide +kernel
theorem dX1_goOn_102 : decode cX1_goOn 102 = .ok (.ifCond .ne 107, 3) := by decide +kernel
theorem dX1_goOn_105 : decode cX1_goOn 105 = .ok (.aload_n 1, 1) := by decide +kernel
theorem dX1_goOn_106 : decode cX1_goOn 106 = .ok (.iload 4, 2) := by decide +kernel
theorem dX1_goOn_108 : decode cX1_goOn 108 = .ok (.iload 11, 2) := by decide +kernel
theorem dX1_goOn_110 : decode cX1_goOn 110 = .ok (.invokevirtual 63, 3) := by decide +kernel
theorem dX1_goOn_113 : decode cX1_goOn 113 = .ok (.ifCond .eq 96, 3) := by decide +kernel
theorem dX1_goOn_116 : decode cX1_goOn 116 = .ok (.aload_n 2, 1) := by decide +kernel
theorem dX1_goOn_117 : decode cX1_goOn 117 = .ok (.iload 8, 2) := by decide +kernel
theorem dX1_goOn_119 : decode cX1_goOn 119 = .ok (.iload 9, 2) := by decide +kernel
theorem dX1_goOn_121 : decode cX1_goOn 121 = .ok (.iload 11, 2) := by decide +kernel
theorem dX1_goOn_123 : decode cX1_goOn 123 = .ok (.invokevirtual 67, 3) := by decide +kernel
theorem dX1_goOn_126 : decode cX1_goOn 126 = .ok (.ifCond .ne 6, 3) := by decide +kernel
theorem dX1_goOn_129 : decode cX1_goOn 129 = .ok (.goto 80, 3) := by decide +kernel
theorem dX1_goOn_132 : decode cX1_goOn 132 = .ok (.iload 11, 2) := by decide +kernel
theorem dX1_goOn_134 : decode cX1_goOn 134 = .ok (.ifCond .ne 13, 3) := by decide +kernel
theorem dX1_goOn_137 : decode cX1_goOn 137 = .ok (.iload 10, 2) := by decide +kernel
theorem dX1_goOn_139 : decode cX1_goOn 139 = .ok (.iconst 0, 1) := by decide +kernel
theorem dX1_goOn_140 : decode cX1_goOn 140 = .ok (.iconst 0, 1) := by decide +kernel
theorem dX1_goOn_141 : decode cX1_goOn 141 = .ok (.invokestatic 45, 3) := by decide +kernel
theorem dX1_goOn_144 : decode cX1_goOn 144 = .ok (.goto 16, 3) := by decide +kernel
theorem dX1_goOn_147 : decode cX1_goOn 147 = .ok (.iload 10, 2) := by decide +kernel
theorem dX1_goOn_149 : decode cX1_goOn 149 = .ok (.iconst 1, 1) := by decide +kernel
theorem dX1_goOn_150 : decode cX1_goOn 150 = .ok (.iadd, 1) := by decide +kernel
theorem dX1_goOn_151 : decode cX1_goOn 151 = .ok (.iload 9, 2) := by decide +kernel
theorem dX1_goOn_153 : decode cX1_goOn 153 = .ok (.iconst 1, 1) := by decide +kernel
theorem dX1_goOn_154 : decode cX1_goOn 154 = .ok (.iadd, 1) := by decide +kernel
theorem dX1_goOn_155 : decode cX1_goOn 155 = .ok (.iload 11, 2) := by decide +kernel
theorem dX1_goOn_157 : decode cX1_goOn 157 = .ok (.invokestatic 45, 3) := by decide +kernel
theorem dX1_goOn_160 : decode cX1_goOn 160 = .ok (.istore 13, 2) := by decide +kernel
theorem dX1_goOn_162 : decode cX1_goOn 162 = .ok (.iload 13, 2) := by decide +kernel
theorem dX1_goOn_164 : decode cX1_goOn 164 = .ok (.ifCond .lt 45, 3) := by decide +kernel
theorem dX1_goOn_167 : decode cX1_goOn 167 = .ok (.iload 13, 2) := by decide +kernel
theorem dX1_goOn_169 : decode cX1_goOn 169 = .ok (.aload_n 0, 1) := by decide +kernel
theorem dX1_goOn_170 : decode cX1_goOn 170 = .ok (.getfield 15, 3) := by decide +kernel
theorem dX1_goOn_173 : decode cX1_goOn 173 = .ok (.arraylength, 1) := by decide +kernel
theorem dX1_goOn_174 : decode cX1_goOn 174 = .ok (.if_icmp .ge 35, 3) := by decide +kernel
theorem dX1_goOn_177 : decode cX1_goOn 177 = .ok (.aload_n 3, 1) := by decide +kernel
theorem dX1_goOn_178 : decode cX1_goOn 178 = .ok (.lload 6, 2) := by decide +kernel
theorem dX1_goOn_180 : decode cX1_goOn 180 = .ok (.iload 4, 2) := by decide +kernel
theorem dX1_goOn_182 : decode cX1_goOn 182 = .ok (.iload 11, 2) := by decide +kernel
theorem dX1_goOn_184 : decode cX1_goOn 184 = .ok (.invokevirtual 73, 3) := by decide +kernel
theorem dX1_goOn_187 : decode cX1_goOn 187 = .ok (.lstore 14, 2) := by decide +kernel
theorem dX1_goOn_189 : decode cX1_goOn 189 = .ok (.aload_n 0, 1) := by decide +kernel
theorem dX1_goOn_190 : decode cX1_goOn 190 = .ok (.getfield 15, 3) := by decide +kernel
theorem dX1_goOn_193 : decode cX1_goOn 193 = .ok (.iload 13, 2) := by decide +kernel
theorem dX1_goOn_195 : decode cX1_goOn 195 = .ok (.aload_n 3, 1) := by decide +kernel
theorem dX1_goOn_196 : decode cX1_goOn 196 = .ok (.aload_n 0, 1) := by decide +kernel
theorem dX1_goOn_197 : decode cX1_goOn 197 = .ok (.getfield 15, 3) := by decide +kernel
theorem dX1_goOn_200 : decode cX1_goOn 200 = .ok (.iload 13, 2) := by decide +kernel
theorem dX1_goOn_202 : decode cX1_goOn 202 = .ok (.laload, 1) := by decide +kernel
theorem dX1_goOn_203 : decode cX1_goOn 203 = .ok (.lload 14, 2) := by decide +kernel
theorem dX1_goOn_205 : decode cX1_goOn 205 = .ok (.invokevirtual 56, 3) := by decide +kernel
theorem dX1_goOn_208 : decode cX1_goOn 208 = .ok (.lastore, 1) := by decide +kernel
theorem dX1_goOn_209 : decode cX1_goOn 209 = .ok (.iinc 11 1, 3) := by decide +kernel
theorem dX1_goOn_212 : decode cX1_goOn 212 = .ok (.goto (-139), 3) := by decide +kernel
theorem dX1_goOn_215 : decode cX1_goOn 215 = .ok (.iinc 5 1, 3) := by decide +kernel
theorem dX1_goOn_218 : decode cX1_goOn 218 = .ok (.goto (-204), 3) := by decide +kernel
theorem dX1_goOn_221 : decode cX1_goOn 221 = .ok (.aload_n 0, 1) := by decide +kernel
theorem dX1_goOn_222 : decode cX1_goOn 222 = .ok (.getfield 11, 3) := by decide +kernel
theorem dX1_goOn_225 : decode cX1_goOn 225 = .ok (.astore 5, 2) := by decide +kernel
theorem dX1_goOn_227 : decode cX1_goOn 227 = .ok (.aload_n 0, 1) := by decide +kernel
theorem dX1_goOn_228 : decode cX1_goOn 228 = .ok (.aload_n 0, 1) := by decide +kernel
theorem dX1_goOn_229 : decode cX1_goOn 229 = .ok (.getfield 15, 3) := by decide +kernel
theorem dX1_goOn_232 : decode cX1_goOn 232 = .ok (.putfield 11, 3) := by decide +kernel
theorem dX1_goOn_235 : decode cX1_goOn 235 = .ok (.aload_n 0, 1) := by decide +kernel
theorem dX1_goOn_236 : decode cX1_goOn 236 = .ok (.aload 5, 2) := by decide +kernel
theorem dX1_goOn_238 : decode cX1_goOn 238 = .ok (.putfield 15, 3) := by decide +kernel
theorem dX1_goOn_241 : decode cX1_goOn 241 = .ok (.return_, 1) := by decide +kernel
theorem dX2_init_0 : decode cX2_init 0 = .ok (.aload_n 0, 1) := by decide +kernel
theorem dX2_init_1 : decode cX2_init 1 = .ok (.invokespecial 1, 3) := by decide +kernel
theorem dX2_init_4 : decode cX2_init 4 = .ok (.return_, 1) := by decide +kernel
theorem dX3_init_0 : decode cX3_init 0 = .ok (.aload_n 0, 1) := by decide +kernel
theorem dX3_init_1 : decode cX3_init 1 = .ok (.invokespecial 3, 3) := by decide +kernel
theorem dX3_init_4 : decode cX3_init 4 = .ok (.aload_n 0, 1) := by decide +kernel
theorem dX3_init_5 : decode cX3_init 5 = .ok (.bipush 28, 2) := by decide +kernel
theorem dX3_init_7 : decode cX3_init 7 = .ok (.newarray .int, 2) := by decide +kernel
theorem dX3_init_9 : decode cX3_init 9 = .ok (.putfield 9, 3) := by decide +kernel
theorem dX3_init_12 : decode cX3_init 12 = .ok (.return_, 1) := by decide +kernel
theorem dX3_of_0 : decode cX3_of 0 = .ok (.iload_n 1, 1) := by decide +kernel
theorem dX3_of_1 : decode cX3_of 1 = .ok (.iconst 4, 1) := by decide +kernel
theorem dX3_of_2 : decode cX3_of 2 = .ok (.imul, 1) := by decide +kernel
theorem dX3_of_3 : decode cX3_of 3 = .ok (.iload_n 2, 1) := by decide +kernel
theorem dX3_of_4 : decode cX3_of 4 = .ok (.iadd, 1) := by decide +kernel
theorem dX3_of_5 : decode cX3_of 5 = .ok (.istore_n 3, 1) := by decide +kernel
theorem dX3_of_6 : decode cX3_of 6 = .ok (.iload_n 3, 1) := by decide +kernel
theorem dX3_of_7 : decode cX3_of 7 = .ok (.ifCond .lt 12, 3) := by decide +kernel
theorem dX3_of_10 : decode cX3_of 10 = .ok (.iload_n 3, 1) := by decide +kernel
theorem dX3_of_11 : decode cX3_of 11 = .ok (.aload_n 0, 1) := by decide +kernel
theorem dX3_of_12 : decode cX3_of 12 = .ok (.getfield 9, 3) := by decide +kernel
theorem dX3_of_15 : decode cX3_of 15 = .ok (.arraylength, 1) := by decide +kernel
theorem dX3_of_16 : decode cX3_of 16 = .ok (.if_icmp .lt 7, 3) := by decide +kernel
theorem dX3_of_19 : decode cX3_of 19 = .ok (.iconst 0, 1) := by decide +kernel
theorem dX3_of_20 : decode cX3_of 20 = .ok (.goto 9, 3) := by decide +kernel
theorem dX3_of_23 : decode cX3_of 23 = .ok (.aload_n 0, 1) := by decide +kernel
theorem dX3_of_24 : decode cX3_of 24 = .ok (.getfield 9, 3) := by decide +kernel
theorem dX3_of_27 : decode cX3_of 27 = .ok (.iload_n 3, 1) := by decide +kernel
theorem dX3_of_28 : decode cX3_of 28 = .ok (.iaload, 1) := by decide +kernel
theorem dX3_of_29 : decode cX3_of 29 = .ok (.ireturn, 1) := by decide +kernel
theorem dX3_put_0 : decode cX3_put 0 = .ok (.iload_n 1, 1) := by decide +kernel
theorem dX3_put_1 : decode cX3_put 1 = .ok (.iconst 4, 1) := by decide +kernel
theorem dX3_put_2 : decode cX3_put 2 = .ok (.imul, 1) := by decide +kernel
theorem dX3_put_3 : decode cX3_put 3 = .ok (.iload_n 2, 1) := by decide +kernel
theorem dX3_put_4 : decode cX3_put 4 = .ok (.iadd, 1) := by decide +kernel
theorem dX3_put_5 : decode cX3_put 5 = .ok (.istore 4, 2) := by decide +kernel
theorem dX3_put_7 : decode cX3_put 7 = .ok (.iload 4, 2) := by decide +kernel
theorem dX3_put_9 : decode cX3_put 9 = .ok (.ifCond .lt 21, 3) := by decide +kernel
theorem dX3_put_12 : decode cX3_put 12 = .ok (.iload 4, 2) := by decide +kernel
theorem dX3_put_14 : decode cX3_put 14 = .ok (.aload_n 0, 1) := by decide +kernel
theorem dX3_put_15 : decode cX3_put 15 = .ok (.getfield 9, 3) := by decide +kernel
theorem dX3_put_18 : decode cX3_put 18 = .ok (.arraylength, 1) := by decide +kernel
theorem dX3_put_19 : decode cX3_put 19 = .ok (.if_icmp .ge 11, 3) := by decide +kernel
theorem dX3_put_22 : decode cX3_put 22 = .ok (.aload_n 0, 1) := by decide +kernel
theorem dX3_put_23 : decode cX3_put 23 = .ok (.getfield 9, 3) := by decide +kernel
theorem dX3_put_26 : decode cX3_put 26 = .ok (.iload 4, 2) := by decide +kernel
theorem dX3_put_28 : decode cX3_put 28 = .ok (.iload_n 3, 1) := by decide +kernel
theorem dX3_put_29 : decode cX3_put 29 = .ok (.iastore, 1) := by decide +kernel
theorem dX3_put_30 : decode cX3_put 30 = .ok (.return_, 1) := by decide +kernel
theorem dX4_init_0 : decode cX4_init 0 = .ok (.aload_n 0, 1) := by decide +kernel
theorem dX4_init_1 : decode cX4_init 1 = .ok (.invokespecial 3, 3) := by decide +kernel
theorem dX4_init_4 : decode cX4_init 4 = .ok (.aload_n 0, 1) := by decide +kernel
theorem dX4_init_5 : decode cX4_init 5 = .ok (.iload_n 1, 1) := by decide +kernel
theorem dX4_init_6 : decode cX4_init 6 = .ok (.putfield 9, 3) := by decide +kernel
theorem dX4_init_9 : decode cX4_init 9 = .ok (.aload_n 0, 1) := by decide +kernel
theorem dX4_init_10 : decode cX4_init 10 = .ok (.iload_n 2, 1) := by decide +kernel
theorem dX4_init_11 : decode cX4_init 11 = .ok (.putfield 15, 3) := by decide +kernel
theorem dX4_init_14 : decode cX4_init 14 = .ok (.return_, 1) := by decide +kernel
theorem dX4_changeWish_0 : decode cX4_changeWish 0 = .ok (.aload_n 0, 1) := by decide +kernel
theorem dX4_changeWish_1 : decode cX4_changeWish 1 = .ok (.getfield 18, 3) := by decide +kernel
theorem dX4_changeWish_4 : decode cX4_changeWish 4 = .ok (.istore_n 3, 1) := by decide +kernel
theorem dX4_changeWish_5 : decode cX4_changeWish 5 = .ok (.aload_n 0, 1) := by decide +kernel
theorem dX4_changeWish_6 : decode cX4_changeWish 6 = .ok (.iload_n 2, 1) := by decide +kernel
theorem dX4_changeWish_7 : decode cX4_changeWish 7 = .ok (.ifCond .eq 11, 3) := by decide +kernel
theorem dX4_changeWish_10 : decode cX4_changeWish 10 = .ok (.iload_n 3, 1) := by decide +kernel
theorem dX4_changeWish_11 : decode cX4_changeWish 11 = .ok (.iconst 1, 1) := by decide +kernel
theorem dX4_changeWish_12 : decode cX4_changeWish 12 = .ok (.iload_n 1, 1) := by decide +kernel
theorem dX4_changeWish_13 : decode cX4_changeWish 13 = .ok (.ishl, 1) := by decide +kernel
theorem dX4_changeWish_14 : decode cX4_changeWish 14 = .ok (.ior, 1) := by decide +kernel
theorem dX4_changeWish_15 : decode cX4_changeWish 15 = .ok (.goto 10, 3) := by decide +kernel
theorem dX4_changeWish_18 : decode cX4_changeWish 18 = .ok (.iload_n 3, 1) := by decide +kernel
theorem dX4_changeWish_19 : decode cX4_changeWish 19 = .ok (.iconst 1, 1) := by decide +kernel
theorem dX4_changeWish_20 : decode cX4_changeWish 20 = .ok (.iload_n 1, 1) := by decide +kernel
theorem dX4_changeWish_21 : decode cX4_changeWish 21 = .ok (.ishl, 1) := by decide +kernel
theorem dX4_changeWish_22 : decode cX4_changeWish 22 = .ok (.iconst (-1), 1) := by decide +kernel
theorem dX4_changeWish_23 : decode cX4_changeWish 23 = .ok (.ixor, 1) := by decide +kernel
theorem dX4_changeWish_24 : decode cX4_changeWish 24 = .ok (.iand, 1) := by decide +kernel
theorem dX4_changeWish_25 : decode cX4_changeWish 25 = .ok (.putfield 18, 3) := by decide +kernel
theorem dX4_changeWish_28 : decode cX4_changeWish 28 = .ok (.aload_n 0, 1) := by decide +kernel
theorem dX4_changeWish_29 : decode cX4_changeWish 29 = .ok (.getfield 18, 3) := by decide +kernel
theorem dX4_changeWish_32 : decode cX4_changeWish 32 = .ok (.iload_n 3, 1) := by decide +kernel
theorem dX4_changeWish_33 : decode cX4_changeWish 33 = .ok (.if_icmp .eq 7, 3) := by decide +kernel
theorem dX4_changeWish_36 : decode cX4_changeWish 36 = .ok (.iconst 1, 1) := by decide +kernel
theorem dX4_changeWish_37 : decode cX4_changeWish 37 = .ok (.goto 4, 3) := by decide +kernel
theorem dX4_changeWish_40 : decode cX4_changeWish 40 = .ok (.iconst 0, 1) := by decide +kernel
theorem dX4_changeWish_41 : decode cX4_changeWish 41 = .ok (.ireturn, 1) := by decide +kernel
theorem dX4_breaksWish_0 : decode cX4_breaksWish 0 = .ok (.iload_n 2, 1) := by decide +kernel
theorem dX4_breaksWish_1 : decode cX4_breaksWish 1 = .ok (.ifCond .eq 18, 3) := by decide +kernel
theorem dX4_breaksWish_4 : decode cX4_breaksWish 4 = .ok (.aload_n 0, 1) := by decide +kernel
theorem dX4_breaksWish_5 : decode cX4_breaksWish 5 = .ok (.getfield 18, 3) := by decide +kernel
theorem dX4_breaksWish_8 : decode cX4_breaksWish 8 = .ok (.iconst 1, 1) := by decide +kernel
theorem dX4_breaksWish_9 : decode cX4_breaksWish 9 = .ok (.iload_n 1, 1) := by decide +kernel
theorem dX4_breaksWish_10 : decode cX4_breaksWish 10 = .ok (.ishl, 1) := by decide +kernel
theorem dX4_breaksWish_11 : decode cX4_breaksWish 11 = .ok (.iand, 1) := by decide +kernel
theorem dX4_breaksWish_12 : decode cX4_breaksWish 12 = .ok (.ifCond .eq 7, 3) := by decide +kernel
theorem dX4_breaksWish_15 : decode cX4_breaksWish 15 = .ok (.iconst 1, 1) := by decide +kernel
theorem dX4_breaksWish_16 : decode cX4_breaksWish 16 = .ok (.goto 4, 3) := by decide +kernel
theorem dX4_breaksWish_19 : decode cX4_breaksWish 19 = .ok (.iconst 0, 1) := by decide +kernel
theorem dX4_breaksWish_20 : decode cX4_breaksWish 20 = .ok (.ireturn, 1) := by decide +kernel
set_option maxRecDepth 20000 in
theorem ggX4_brokenWishes_X7_at : GoodIn wsX4_brokenWishes wsX7_at := goodIn_r _ [5, 6, 7, 4, 8] (by decide +kernel) (by decide +kernel)
set_option maxRecDepth 20000 in
theorem gX4_brokenWishes_X7_at : GoodIn wsX4_brokenWishes (va_wsS RX4 24 yX7_at wsX7_at) := goodIn_app (goodIn_of _ (by decide +kernel)) ggX4_brokenWishes_X7_at
set_option maxRecDepth 20000 in
theorem ggX4_brokenWishes_X4_breaksWish : GoodIn wsX4_brokenWishes wsX4_breaksWish := goodIn_r _ [13, 14, 15, 16, 17, 18, 19, 20, 21, 22] (by decide +kernel) (by decide +kernel)
set_option maxRecDepth 20000 in
theorem gX4_brokenWishes_X4_breaksWish : GoodIn wsX4_brokenWishes (wsV RX4 30 RX4 yX4_breaksWish wsX4_breaksWish) := goodIn_app (goodIn_of _ (by decide +kernel)) ggX4_brokenWishes_X4_breaksWish
theorem dX4_brokenWishes_0 : decode cX4_brokenWishes 0 = .ok (.iconst 0, 1) := by decide +kernel
theorem dX4_brokenWishes_1 : decode cX4_brokenWishes 1 = .ok (.istore_n 1, 1) := by decide +kernel
theorem dX4_brokenWishes_2 : decode cX4_brokenWishes 2 = .ok (.iconst 0, 1) := by decide +kernel
theorem dX4_brokenWishes_3 : decode cX4_brokenWishes 3 = .ok (.istore_n 2, 1) := by decide +kernel
theorem dX4_brokenWishes_4 : decode cX4_brokenWishes 4 = .ok (.iload_n 2, 1) := by decide +kernel
theorem dX4_brokenWishes_5 : decode cX4_brokenWishes 5 = .ok (.bipush 7, 2) := by decide +kernel
theorem dX4_brokenWishes_7 : decode cX4_brokenWishes 7 = .ok (.if_icmp .ge 28, 3) := by decide +kernel
theorem dX4_brokenWishes_10 : decode cX4_brokenWishes 10 = .ok (.aload_n 0, 1) := by decide +kernel
theorem dX4_brokenWishes_11 : decode cX4_brokenWishes 11 = .ok (.iload_n 2, 1) := by decide +kernel
theorem dX4_brokenWishes_12 : decode cX4_brokenWishes 12 = .ok (.aload_n 0, 1) := by decide +kernel
theorem dX4_brokenWishes_13 : decode cX4_brokenWishes 13 = .ok (.getfield 21, 3) := by decide +kernel
theorem dX4_brokenWishes_16 : decode cX4_brokenWishes 16 = .ok (.iload_n 2, 1) := by decide +kernel
theorem dX4_brokenWishes_17 : decode cX4_brokenWishes 17 = .ok (.invokestatic 24, 3) := by decide +kernel
theorem dX4_brokenWishes_20 : decode cX4_brokenWishes 20 = .ok (.invokevirtual 30, 3) := by decide +kernel
theorem dX4_brokenWishes_23 : decode cX4_brokenWishes 23 = .ok (.ifCond .eq 6, 3) := by decide +kernel
theorem dX4_brokenWishes_26 : decode cX4_brokenWishes 26 = .ok (.iinc 1 1, 3) := by decide +kernel
theorem dX4_brokenWishes_29 : decode cX4_brokenWishes 29 = .ok (.iinc 2 1, 3) := by decide +kernel
theorem dX4_brokenWishes_32 : decode cX4_brokenWishes 32 = .ok (.goto (-28), 3) := by decide +kernel
theorem dX4_brokenWishes_35 : decode cX4_brokenWishes 35 = .ok (.iload_n 1, 1) := by decide +kernel
theorem dX4_brokenWishes_36 : decode cX4_brokenWishes 36 = .ok (.ireturn, 1) := by decide +kernel
theorem dX4_fixedAt_0 : decode cX4_fixedAt 0 = .ok (.aload_n 0, 1) := by decide +kernel
theorem dX4_fixedAt_1 : decode cX4_fixedAt 1 = .ok (.getfield 34, 3) := by decide +kernel
theorem dX4_fixedAt_4 : decode cX4_fixedAt 4 = .ok (.iconst 4, 1) := by decide +kernel
theorem dX4_fixedAt_5 : decode cX4_fixedAt 5 = .ok (.iload_n 1, 1) := by decide +kernel
theorem dX4_fixedAt_6 : decode cX4_fixedAt 6 = .ok (.imul, 1) := by decide +kernel
theorem dX4_fixedAt_7 : decode cX4_fixedAt 7 = .ok (.ishr, 1) := by decide +kernel
theorem dX4_fixedAt_8 : decode cX4_fixedAt 8 = .ok (.bipush 15, 2) := by decide +kernel
theorem dX4_fixedAt_10 : decode cX4_fixedAt 10 = .ok (.iand, 1) := by decide +kernel
theorem dX4_fixedAt_11 : decode cX4_fixedAt 11 = .ok (.iconst 1, 1) := by decide +kernel
theorem dX4_fixedAt_12 : decode cX4_fixedAt 12 = .ok (.isub, 1) := by decide +kernel
theorem dX4_fixedAt_13 : decode cX4_fixedAt 13 = .ok (.ireturn, 1) := by decide +kernel
theorem dX4_changeFixed_0 : decode cX4_changeFixed 0 = .ok (.iconst 4, 1) := by decide +kernel
theorem dX4_changeFixed_1 : decode cX4_changeFixed 1 = .ok (.iload_n 1, 1) := by decide +kernel
theorem dX4_changeFixed_2 : decode cX4_changeFixed 2 = .ok (.imul, 1) := by decide +kernel
theorem dX4_changeFixed_3 : decode cX4_changeFixed 3 = .ok (.istore_n 3, 1) := by decide +kernel
theorem dX4_changeFixed_4 : decode cX4_changeFixed 4 = .ok (.aload_n 0, 1) := by decide +kernel
theorem dX4_changeFixed_5 : decode cX4_changeFixed 5 = .ok (.aload_n 0, 1) := by decide +kernel
theorem dX4_changeFixed_6 : decode cX4_changeFixed 6 = .ok (.getfield 34, 3) := by decide +kernel
theorem dX4_changeFixed_9 : decode cX4_changeFixed 9 = .ok (.bipush 15, 2) := by decide +kernel
theorem dX4_changeFixed_11 : decode cX4_changeFixed 11 = .ok (.iload_n 3, 1) := by decide +kernel
theorem dX4_changeFixed_12 : decode cX4_changeFixed 12 = .ok (.ishl, 1) := by decide +kernel
theorem dX4_changeFixed_13 : decode cX4_changeFixed 13 = .ok (.iconst (-1), 1) := by decide +kernel
theorem dX4_changeFixed_14 : decode cX4_changeFixed 14 = .ok (.ixor, 1) := by decide +kernel
theorem dX4_changeFixed_15 : decode cX4_changeFixed 15 = .ok (.iand, 1) := by decide +kernel
theorem dX4_changeFixed_16 : decode cX4_changeFixed 16 = .ok (.iload_n 2, 1) := by decide +kernel
theorem dX4_changeFixed_17 : decode cX4_changeFixed 17 = .ok (.iconst 1, 1) := by decide +kernel
theorem dX4_changeFixed_18 : decode cX4_changeFixed 18 = .ok (.iadd, 1) := by decide +kernel
theorem dX4_changeFixed_19 : decode cX4_changeFixed 19 = .ok (.iload_n 3, 1) := by decide +kernel
theorem dX4_changeFixed_20 : decode cX4_changeFixed 20 = .ok (.ishl, 1) := by decide +kernel
theorem dX4_changeFixed_21 : decode cX4_changeFixed 21 = .ok (.ior, 1) := by decide +kernel
theorem dX4_changeFixed_22 : decode cX4_changeFixed 22 = .ok (.putfield 34, 3) := by decide +kernel
theorem dX4_changeFixed_25 : decode cX4_changeFixed 25 = .ok (.return_, 1) := by decide +kernel
set_option maxRecDepth 20000 in
theorem ggX4_mayHave_X4_fixedAt : GoodIn wsX4_mayHave wsX4_fixedAt := goodIn_r _ [6, 7, 8, 9, 10, 11, 12, 13, 14, 15] (by decide +kernel) (by decide +kernel)
set_option maxRecDepth 20000 in
theorem gX4_mayHave_X4_fixedAt : GoodIn wsX4_mayHave (wsV RX4 37 RX4 yX4_fixedAt wsX4_fixedAt) := goodIn_app (goodIn_of _ (by decide +kernel)) ggX4_mayHave_X4_fixedAt
theorem dX4_mayHave_0 : decode cX4_mayHave 0 = .ok (.aload_n 0, 1) := by decide +kernel
theorem dX4_mayHave_1 : decode cX4_mayHave 1 = .ok (.iload_n 1, 1) := by decide +kernel
theorem dX4_mayHave_2 : decode cX4_mayHave 2 = .ok (.invokevirtual 37, 3) := by decide +kernel
theorem dX4_mayHave_5 : decode cX4_mayHave 5 = .ok (.istore_n 3, 1) := by decide +kernel
theorem dX4_mayHave_6 : decode cX4_mayHave 6 = .ok (.iload_n 3, 1) := by decide +kernel
theorem dX4_mayHave_7 : decode cX4_mayHave 7 = .ok (.iconst (-1), 1) := by decide +kernel
theorem dX4_mayHave_8 : decode cX4_mayHave 8 = .ok (.if_icmp .eq 8, 3) := by decide +kernel
theorem dX4_mayHave_11 : decode cX4_mayHave 11 = .ok (.iload_n 3, 1) := by decide +kernel
theorem dX4_mayHave_12 : decode cX4_mayHave 12 = .ok (.iload_n 2, 1) := by decide +kernel
theorem dX4_mayHave_13 : decode cX4_mayHave 13 = .ok (.if_icmp .ne 22, 3) := by decide +kernel
theorem dX4_mayHave_16 : decode cX4_mayHave 16 = .ok (.iload_n 2, 1) := by decide +kernel
theorem dX4_mayHave_17 : decode cX4_mayHave 17 = .ok (.ifCond .eq 14, 3) := by decide +kernel
theorem dX4_mayHave_20 : decode cX4_mayHave 20 = .ok (.aload_n 0, 1) := by decide +kernel
theorem dX4_mayHave_21 : decode cX4_mayHave 21 = .ok (.getfield 9, 3) := by decide +kernel
theorem dX4_mayHave_24 : decode cX4_mayHave 24 = .ok (.iconst 1, 1) := by decide +kernel
theorem dX4_mayHave_25 : decode cX4_mayHave 25 = .ok (.iload_n 2, 1) := by decide +kernel
theorem dX4_mayHave_26 : decode cX4_mayHave 26 = .ok (.ishl, 1) := by decide +kernel
theorem dX4_mayHave_27 : decode cX4_mayHave 27 = .ok (.iand, 1) := by decide +kernel
theorem dX4_mayHave_28 : decode cX4_mayHave 28 = .ok (.ifCond .eq 7, 3) := by decide +kernel
theorem dX4_mayHave_31 : decode cX4_mayHave 31 = .ok (.iconst 1, 1) := by decide +kernel
theorem dX4_mayHave_32 : decode cX4_mayHave 32 = .ok (.goto 4, 3) := by decide +kernel
theorem dX4_mayHave_35 : decode cX4_mayHave 35 = .ok (.iconst 0, 1) := by decide +kernel
theorem dX4_mayHave_36 : decode cX4_mayHave 36 = .ok (.ireturn, 1) := by decide +kernel
set_option maxRecDepth 20000 in
theorem ggX4_canHave_X7_at : GoodIn wsX4_canHave wsX7_at := goodIn_r _ [7, 8, 9, 6, 10] (by decide +kernel) (by decide +kernel)
set_option maxRecDepth 20000 in
theorem gX4_canHave_X7_at : GoodIn wsX4_canHave (va_wsS RX4 24 yX7_at wsX7_at) := goodIn_app (goodIn_of _ (by decide +kernel)) ggX4_canHave_X7_at
set_option maxRecDepth 20000 in
theorem ggX4_canHave_X4_mayHave : GoodIn wsX4_canHave wsX4_mayHave := goodIn_r _ [15, 16, 17, 18, 19, 14, 20, 21, 36, 37, 38, 39, 40, 41, 42, 43] (by decide +kernel) (by decide +kernel)
set_option maxRecDepth 20000 in
theorem gX4_canHave_X4_mayHave : GoodIn wsX4_canHave (wsV RX4 47 RX4 yX4_mayHave wsX4_mayHave) := goodIn_app (goodIn_of _ (by decide +kernel)) ggX4_canHave_X4_mayHave
set_option maxRecDepth 20000 in
theorem ggX4_canHave_X6_allow : GoodIn wsX4_canHave wsX6_allow := goodIn_r _ [26, 27, 28, 29, 30, 25, 31, 44, 45] (by decide +kernel) (by decide +kernel)
set_option maxRecDepth 20000 in
theorem gX4_canHave_X6_allow : GoodIn wsX4_canHave (wsV RX4 50 RX6 yX6_allow wsX6_allow) := goodIn_app (goodIn_of _ (by decide +kernel)) ggX4_canHave_X6_allow
set_option maxRecDepth 20000 in
theorem ggX4_canHave_X7_shiftsFrom : GoodIn wsX4_canHave wsX7_shiftsFrom := goodIn_r _ [34, 35, 5, 6, 7, 8, 9, 10] (by decide +kernel) (by decide +kernel)
set_option maxRecDepth 20000 in
theorem gX4_canHave_X7_shiftsFrom : GoodIn wsX4_canHave (va_wsS RX4 56 yX7_shiftsFrom wsX7_shiftsFrom) := goodIn_app (goodIn_of _ (by decide +kernel)) ggX4_canHave_X7_shiftsFrom
theorem dX4_canHave_0 : decode cX4_canHave 0 = .ok (.aload_n 0, 1) := by decide +kernel
theorem dX4_canHave_1 : decode cX4_canHave 1 = .ok (.getfield 41, 3) := by decide +kernel
theorem dX4_canHave_4 : decode cX4_canHave 4 = .ok (.istore_n 3, 1) := by decide +kernel
theorem dX4_canHave_5 : decode cX4_canHave 5 = .ok (.aload_n 0, 1) := by decide +kernel
theorem dX4_canHave_6 : decode cX4_canHave 6 = .ok (.getfield 44, 3) := by decide +kernel
theorem dX4_canHave_9 : decode cX4_canHave 9 = .ok (.istore 4, 2) := by decide +kernel
theorem dX4_canHave_11 : decode cX4_canHave 11 = .ok (.iconst 0, 1) := by decide +kernel
theorem dX4_canHave_12 : decode cX4_canHave 12 = .ok (.istore 5, 2) := by decide +kernel
theorem dX4_canHave_14 : decode cX4_canHave 14 = .ok (.iload 5, 2) := by decide +kernel
theorem dX4_canHave_16 : decode cX4_canHave 16 = .ok (.bipush 7, 2) := by decide +kernel
theorem dX4_canHave_18 : decode cX4_canHave 18 = .ok (.if_icmp .ge 60, 3) := by decide +kernel
theorem dX4_canHave_21 : decode cX4_canHave 21 = .ok (.iload_n 1, 1) := by decide +kernel
theorem dX4_canHave_22 : decode cX4_canHave 22 = .ok (.iload 5, 2) := by decide +kernel
theorem dX4_canHave_24 : decode cX4_canHave 24 = .ok (.invokestatic 24, 3) := by decide +kernel
theorem dX4_canHave_27 : decode cX4_canHave 27 = .ok (.istore 6, 2) := by decide +kernel
theorem dX4_canHave_29 : decode cX4_canHave 29 = .ok (.aload_n 0, 1) := by decide +kernel
theorem dX4_canHave_30 : decode cX4_canHave 30 = .ok (.iload 5, 2) := by decide +kernel
theorem dX4_canHave_32 : decode cX4_canHave 32 = .ok (.iload 6, 2) := by decide +kernel
theorem dX4_canHave_34 : decode cX4_canHave 34 = .ok (.invokevirtual 47, 3) := by decide +kernel
theorem dX4_canHave_37 : decode cX4_canHave 37 = .ok (.ifCond .eq 15, 3) := by decide +kernel
theorem dX4_canHave_40 : decode cX4_canHave 40 = .ok (.aload_n 2, 1) := by decide +kernel
theorem dX4_canHave_41 : decode cX4_canHave 41 = .ok (.iload_n 3, 1) := by decide +kernel
theorem dX4_canHave_42 : decode cX4_canHave 42 = .ok (.iload 4, 2) := by decide +kernel
theorem dX4_canHave_44 : decode cX4_canHave 44 = .ok (.iload 6, 2) := by decide +kernel
theorem dX4_canHave_46 : decode cX4_canHave 46 = .ok (.invokevirtual 50, 3) := by decide +kernel
theorem dX4_canHave_49 : decode cX4_canHave 49 = .ok (.ifCond .ne 5, 3) := by decide +kernel
theorem dX4_canHave_52 : decode cX4_canHave 52 = .ok (.iconst 0, 1) := by decide +kernel
theorem dX4_canHave_53 : decode cX4_canHave 53 = .ok (.ireturn, 1) := by decide +kernel
theorem dX4_canHave_54 : decode cX4_canHave 54 = .ok (.iload 6, 2) := by decide +kernel
theorem dX4_canHave_56 : decode cX4_canHave 56 = .ok (.istore_n 3, 1) := by decide +kernel
theorem dX4_canHave_57 : decode cX4_canHave 57 = .ok (.iload 6, 2) := by decide +kernel
theorem dX4_canHave_59 : decode cX4_canHave 59 = .ok (.ifCond .ne 7, 3) := by decide +kernel
theorem dX4_canHave_62 : decode cX4_canHave 62 = .ok (.iconst 0, 1) := by decide +kernel
theorem dX4_canHave_63 : decode cX4_canHave 63 = .ok (.goto 7, 3) := by decide +kernel
theorem dX4_canHave_66 : decode cX4_canHave 66 = .ok (.iload 4, 2) := by decide +kernel
theorem dX4_canHave_68 : decode cX4_canHave 68 = .ok (.iconst 1, 1) := by decide +kernel
theorem dX4_canHave_69 : decode cX4_canHave 69 = .ok (.iadd, 1) := by decide +kernel
theorem dX4_canHave_70 : decode cX4_canHave 70 = .ok (.istore 4, 2) := by decide +kernel
theorem dX4_canHave_72 : decode cX4_canHave 72 = .ok (.iinc 5 1, 3) := by decide +kernel
theorem dX4_canHave_75 : decode cX4_canHave 75 = .ok (.goto (-61), 3) := by decide +kernel
theorem dX4_canHave_78 : decode cX4_canHave 78 = .ok (.iload_n 1, 1) := by decide +kernel
theorem dX4_canHave_79 : decode cX4_canHave 79 = .ok (.iconst 0, 1) := by decide +kernel
theorem dX4_canHave_80 : decode cX4_canHave 80 = .ok (.invokestatic 56, 3) := by decide +kernel
theorem dX4_canHave_83 : decode cX4_canHave 83 = .ok (.aload_n 0, 1) := by decide +kernel
theorem dX4_canHave_84 : decode cX4_canHave 84 = .ok (.getfield 15, 3) := by decide +kernel
theorem dX4_canHave_87 : decode cX4_canHave 87 = .ok (.if_icmp .gt 7, 3) := by decide +kernel
theorem dX4_canHave_90 : decode cX4_canHave 90 = .ok (.iconst 1, 1) := by decide +kernel
theorem dX4_canHave_91 : decode cX4_canHave 91 = .ok (.goto 4, 3) := by decide +kernel
theorem dX4_canHave_94 : decode cX4_canHave 94 = .ok (.iconst 0, 1) := by decide +kernel
theorem dX4_canHave_95 : decode cX4_canHave 95 = .ok (.ireturn, 1) := by decide +kernel
set_option maxRecDepth 20000 in
theorem ggX4_noteWeek_X7_at : GoodIn wsX4_noteWeek wsX7_at := goodIn_r _ [10, 11, 12, 9, 13] (by decide +kernel) (by decide +kernel)
set_option maxRecDepth 20000 in
theorem gX4_noteWeek_X7_at : GoodIn wsX4_noteWeek (va_wsS RX4 24 yX7_at wsX7_at) := goodIn_app (goodIn_of _ (by decide +kernel)) ggX4_noteWeek_X7_at
set_option maxRecDepth 20000 in
theorem ggX4_noteWeek_X7_shiftsFrom : GoodIn wsX4_noteWeek wsX7_shiftsFrom := goodIn_r _ [16, 17, 8, 9, 10, 11, 12, 13] (by decide +kernel) (by decide +kernel)
set_option maxRecDepth 20000 in
theorem gX4_noteWeek_X7_shiftsFrom : GoodIn wsX4_noteWeek (va_wsS RX4 56 yX7_shiftsFrom wsX7_shiftsFrom) := goodIn_app (goodIn_of _ (by decide +kernel)) ggX4_noteWeek_X7_shiftsFrom
theorem dX4_noteWeek_0 : decode cX4_noteWeek 0 = .ok (.iconst 0, 1) := by decide +kernel
theorem dX4_noteWeek_1 : decode cX4_noteWeek 1 = .ok (.istore_n 1, 1) := by decide +kernel
theorem dX4_noteWeek_2 : decode cX4_noteWeek 2 = .ok (.iload_n 1, 1) := by decide +kernel
theorem dX4_noteWeek_3 : decode cX4_noteWeek 3 = .ok (.bipush 7, 2) := by decide +kernel
theorem dX4_noteWeek_5 : decode cX4_noteWeek 5 = .ok (.if_icmp .ge 34, 3) := by decide +kernel
theorem dX4_noteWeek_8 : decode cX4_noteWeek 8 = .ok (.aload_n 0, 1) := by decide +kernel
theorem dX4_noteWeek_9 : decode cX4_noteWeek 9 = .ok (.aload_n 0, 1) := by decide +kernel
theorem dX4_noteWeek_10 : decode cX4_noteWeek 10 = .ok (.getfield 21, 3) := by decide +kernel
theorem dX4_noteWeek_13 : decode cX4_noteWeek 13 = .ok (.iload_n 1, 1) := by decide +kernel
theorem dX4_noteWeek_14 : decode cX4_noteWeek 14 = .ok (.invokestatic 24, 3) := by decide +kernel
theorem dX4_noteWeek_17 : decode cX4_noteWeek 17 = .ok (.ifCond .ne 7, 3) := by decide +kernel
theorem dX4_noteWeek_20 : decode cX4_noteWeek 20 = .ok (.iconst 0, 1) := by decide +kernel
theorem dX4_noteWeek_21 : decode cX4_noteWeek 21 = .ok (.goto 9, 3) := by decide +kernel
theorem dX4_noteWeek_24 : decode cX4_noteWeek 24 = .ok (.aload_n 0, 1) := by decide +kernel
theorem dX4_noteWeek_25 : decode cX4_noteWeek 25 = .ok (.getfield 44, 3) := by decide +kernel
theorem dX4_noteWeek_28 : decode cX4_noteWeek 28 = .ok (.iconst 1, 1) := by decide +kernel
theorem dX4_noteWeek_29 : decode cX4_noteWeek 29 = .ok (.iadd, 1) := by decide +kernel
theorem dX4_noteWeek_30 : decode cX4_noteWeek 30 = .ok (.putfield 44, 3) := by decide +kernel
theorem dX4_noteWeek_33 : decode cX4_noteWeek 33 = .ok (.iinc 1 1, 3) := by decide +kernel
theorem dX4_noteWeek_36 : decode cX4_noteWeek 36 = .ok (.goto (-34), 3) := by decide +kernel
theorem dX4_noteWeek_39 : decode cX4_noteWeek 39 = .ok (.aload_n 0, 1) := by decide +kernel
theorem dX4_noteWeek_40 : decode cX4_noteWeek 40 = .ok (.aload_n 0, 1) := by decide +kernel
theorem dX4_noteWeek_41 : decode cX4_noteWeek 41 = .ok (.getfield 21, 3) := by decide +kernel
theorem dX4_noteWeek_44 : decode cX4_noteWeek 44 = .ok (.bipush 6, 2) := by decide +kernel
theorem dX4_noteWeek_46 : decode cX4_noteWeek 46 = .ok (.invokestatic 24, 3) := by decide +kernel
theorem dX4_noteWeek_49 : decode cX4_noteWeek 49 = .ok (.putfield 41, 3) := by decide +kernel
theorem dX4_noteWeek_52 : decode cX4_noteWeek 52 = .ok (.aload_n 0, 1) := by decide +kernel
theorem dX4_noteWeek_53 : decode cX4_noteWeek 53 = .ok (.dup, 1) := by decide +kernel
theorem dX4_noteWeek_54 : decode cX4_noteWeek 54 = .ok (.getfield 59, 3) := by decide +kernel
theorem dX4_noteWeek_57 : decode cX4_noteWeek 57 = .ok (.aload_n 0, 1) := by decide +kernel
theorem dX4_noteWeek_58 : decode cX4_noteWeek 58 = .ok (.getfield 21, 3) := by decide +kernel
theorem dX4_noteWeek_61 : decode cX4_noteWeek 61 = .ok (.iconst 5, 1) := by decide +kernel
theorem dX4_noteWeek_62 : decode cX4_noteWeek 62 = .ok (.invokestatic 56, 3) := by decide +kernel
theorem dX4_noteWeek_65 : decode cX4_noteWeek 65 = .ok (.iadd, 1) := by decide +kernel
theorem dX4_noteWeek_66 : decode cX4_noteWeek 66 = .ok (.putfield 59, 3) := by decide +kernel
theorem dX4_noteWeek_69 : decode cX4_noteWeek 69 = .ok (.aload_n 0, 1) := by decide +kernel
theorem dX4_noteWeek_70 : decode cX4_noteWeek 70 = .ok (.iconst 0, 1) := by decide +kernel
theorem dX4_noteWeek_71 : decode cX4_noteWeek 71 = .ok (.putfield 21, 3) := by decide +kernel
theorem dX4_noteWeek_74 : decode cX4_noteWeek 74 = .ok (.aload_n 0, 1) := by decide +kernel
theorem dX4_noteWeek_75 : decode cX4_noteWeek 75 = .ok (.iconst 0, 1) := by decide +kernel
theorem dX4_noteWeek_76 : decode cX4_noteWeek 76 = .ok (.putfield 18, 3) := by decide +kernel
theorem dX4_noteWeek_79 : decode cX4_noteWeek 79 = .ok (.aload_n 0, 1) := by decide +kernel
theorem dX4_noteWeek_80 : decode cX4_noteWeek 80 = .ok (.iconst 0, 1) := by decide +kernel
theorem dX4_noteWeek_81 : decode cX4_noteWeek 81 = .ok (.putfield 34, 3) := by decide +kernel
theorem dX4_noteWeek_84 : decode cX4_noteWeek 84 = .ok (.return_, 1) := by decide +kernel
set_option maxRecDepth 20000 in
theorem ggX5_init_X2_init : GoodIn wsX5_init wsX2_init := goodIn_r _ [5, 6, 7, 8] (by decide +kernel) (by decide +kernel)
set_option maxRecDepth 20000 in
theorem gX5_init_X2_init_n9 : GoodIn wsX5_init (wsX2_init) := ggX5_init_X2_init
theorem dX5_init_0 : decode cX5_init 0 = .ok (.aload_n 0, 1) := by decide +kernel
theorem dX5_init_1 : decode cX5_init 1 = .ok (.invokespecial 9, 3) := by decide +kernel
theorem dX5_init_4 : decode cX5_init 4 = .ok (.aload_n 0, 1) := by decide +kernel
theorem dX5_init_5 : decode cX5_init 5 = .ok (.bipush 28, 2) := by decide +kernel
theorem dX5_init_7 : decode cX5_init 7 = .ok (.newarray .long, 2) := by decide +kernel
theorem dX5_init_9 : decode cX5_init 9 = .ok (.putfield 15, 3) := by decide +kernel
theorem dX5_init_12 : decode cX5_init 12 = .ok (.return_, 1) := by decide +kernel
set_option maxRecDepth 20000 in
theorem ggX5_priceOf_X7_with : GoodIn wsX5_priceOf wsX7_with := goodIn_r _ [8, 9, 10, 7, 11] (by decide +kernel) (by decide +kernel)
set_option maxRecDepth 20000 in
theorem gX5_priceOf_X7_with : GoodIn wsX5_priceOf (va_wsS RX5 19 yX7_with wsX7_with) := goodIn_app (goodIn_of _ (by decide +kernel)) ggX5_priceOf_X7_with
set_option maxRecDepth 20000 in
theorem ggX5_priceOf_X4_breaksWish : GoodIn wsX5_priceOf wsX4_breaksWish := goodIn_r _ [16, 17, 18, 19, 20, 21, 22, 23, 24, 25] (by decide +kernel) (by decide +kernel)
set_option maxRecDepth 20000 in
theorem gX5_priceOf_X4_breaksWish : GoodIn wsX5_priceOf (wsV RX5 35 RX4 yX4_breaksWish wsX4_breaksWish) := goodIn_app (goodIn_of _ (by decide +kernel)) ggX5_priceOf_X4_breaksWish
theorem dX5_priceOf_0 : decode cX5_priceOf 0 = .ok (.iconst 0, 1) := by decide +kernel
theorem dX5_priceOf_1 : decode cX5_priceOf 1 = .ok (.iload_n 1, 1) := by decide +kernel
theorem dX5_priceOf_2 : decode cX5_priceOf 2 = .ok (.iload_n 2, 1) := by decide +kernel
theorem dX5_priceOf_3 : decode cX5_priceOf 3 = .ok (.invokestatic 19, 3) := by decide +kernel
theorem dX5_priceOf_6 : decode cX5_priceOf 6 = .ok (.i2l, 1) := by decide +kernel
theorem dX5_priceOf_7 : decode cX5_priceOf 7 = .ok (.lstore 4, 2) := by decide +kernel
theorem dX5_priceOf_9 : decode cX5_priceOf 9 = .ok (.iload_n 3, 1) := by decide +kernel
theorem dX5_priceOf_10 : decode cX5_priceOf 10 = .ok (.ifCond .ne 11, 3) := by decide +kernel
theorem dX5_priceOf_13 : decode cX5_priceOf 13 = .ok (.lload 4, 2) := by decide +kernel
theorem dX5_priceOf_15 : decode cX5_priceOf 15 = .ok (.ldc2_w 23, 3) := by decide +kernel
theorem dX5_priceOf_18 : decode cX5_priceOf 18 = .ok (.ladd, 1) := by decide +kernel
theorem dX5_priceOf_19 : decode cX5_priceOf 19 = .ok (.lstore 4, 2) := by decide +kernel
theorem dX5_priceOf_21 : decode cX5_priceOf 21 = .ok (.iload_n 2, 1) := by decide +kernel
theorem dX5_priceOf_22 : decode cX5_priceOf 22 = .ok (.ifCond .eq 11, 3) := by decide +kernel
theorem dX5_priceOf_25 : decode cX5_priceOf 25 = .ok (.lload 4, 2) := by decide +kernel
theorem dX5_priceOf_27 : decode cX5_priceOf 27 = .ok (.ldc2_w 25, 3) := by decide +kernel
theorem dX5_priceOf_30 : decode cX5_priceOf 30 = .ok (.ladd, 1) := by decide +kernel
theorem dX5_priceOf_31 : decode cX5_priceOf 31 = .ok (.lstore 4, 2) := by decide +kernel
theorem dX5_priceOf_33 : decode cX5_priceOf 33 = .ok (.iload_n 2, 1) := by decide +kernel
theorem dX5_priceOf_34 : decode cX5_priceOf 34 = .ok (.ifCond .eq 22, 3) := by decide +kernel
theorem dX5_priceOf_37 : decode cX5_priceOf 37 = .ok (.iload_n 1, 1) := by decide +kernel
theorem dX5_priceOf_38 : decode cX5_priceOf 38 = .ok (.iconst 5, 1) := by decide +kernel
theorem dX5_priceOf_39 : decode cX5_priceOf 39 = .ok (.if_icmp .lt 17, 3) := by decide +kernel
theorem dX5_priceOf_42 : decode cX5_priceOf 42 = .ok (.lload 4, 2) := by decide +kernel
theorem dX5_priceOf_44 : decode cX5_priceOf 44 = .ok (.ldc2_w 27, 3) := by decide +kernel
theorem dX5_priceOf_47 : decode cX5_priceOf 47 = .ok (.aload_n 0, 1) := by decide +kernel
theorem dX5_priceOf_48 : decode cX5_priceOf 48 = .ok (.getfield 29, 3) := by decide +kernel
theorem dX5_priceOf_51 : decode cX5_priceOf 51 = .ok (.i2l, 1) := by decide +kernel
theorem dX5_priceOf_52 : decode cX5_priceOf 52 = .ok (.lmul, 1) := by decide +kernel
theorem dX5_priceOf_53 : decode cX5_priceOf 53 = .ok (.ladd, 1) := by decide +kernel
theorem dX5_priceOf_54 : decode cX5_priceOf 54 = .ok (.lstore 4, 2) := by decide +kernel
theorem dX5_priceOf_56 : decode cX5_priceOf 56 = .ok (.aload_n 0, 1) := by decide +kernel
theorem dX5_priceOf_57 : decode cX5_priceOf 57 = .ok (.iload_n 1, 1) := by decide +kernel
theorem dX5_priceOf_58 : decode cX5_priceOf 58 = .ok (.iload_n 2, 1) := by decide +kernel
theorem dX5_priceOf_59 : decode cX5_priceOf 59 = .ok (.invokevirtual 35, 3) := by decide +kernel
theorem dX5_priceOf_62 : decode cX5_priceOf 62 = .ok (.ifCond .eq 11, 3) := by decide +kernel
theorem dX5_priceOf_65 : decode cX5_priceOf 65 = .ok (.lload 4, 2) := by decide +kernel
theorem dX5_priceOf_67 : decode cX5_priceOf 67 = .ok (.ldc2_w 39, 3) := by decide +kernel
theorem dX5_priceOf_70 : decode cX5_priceOf 70 = .ok (.ladd, 1) := by decide +kernel
theorem dX5_priceOf_71 : decode cX5_priceOf 71 = .ok (.lstore 4, 2) := by decide +kernel
theorem dX5_priceOf_73 : decode cX5_priceOf 73 = .ok (.lload 4, 2) := by decide +kernel
theorem dX5_priceOf_75 : decode cX5_priceOf 75 = .ok (.lreturn, 1) := by decide +kernel
theorem dX5_weekOf_0 : decode cX5_weekOf 0 = .ok (.lload_n 0, 1) := by decide +kernel
theorem dX5_weekOf_1 : decode cX5_weekOf 1 = .ok (.ldc2_w 41, 3) := by decide +kernel
theorem dX5_weekOf_4 : decode cX5_weekOf 4 = .ok (.lcmp, 1) := by decide +kernel
theorem dX5_weekOf_5 : decode cX5_weekOf 5 = .ok (.ifCond .ne 7, 3) := by decide +kernel
theorem dX5_weekOf_8 : decode cX5_weekOf 8 = .ok (.iconst 0, 1) := by decide +kernel
theorem dX5_weekOf_9 : decode cX5_weekOf 9 = .ok (.goto 9, 3) := by decide +kernel
theorem dX5_weekOf_12 : decode cX5_weekOf 12 = .ok (.lload_n 0, 1) := by decide +kernel
theorem dX5_weekOf_13 : decode cX5_weekOf 13 = .ok (.ldc2_w 43, 3) := by decide +kernel
theorem dX5_weekOf_16 : decode cX5_weekOf 16 = .ok (.land, 1) := by decide +kernel
theorem dX5_weekOf_17 : decode cX5_weekOf 17 = .ok (.l2i, 1) := by decide +kernel
theorem dX5_weekOf_18 : decode cX5_weekOf 18 = .ok (.ireturn, 1) := by decide +kernel
theorem dX5_put_0 : decode cX5_put 0 = .ok (.iload_n 1, 1) := by decide +kernel
theorem dX5_put_1 : decode cX5_put 1 = .ok (.iconst 4, 1) := by decide +kernel
theorem dX5_put_2 : decode cX5_put 2 = .ok (.imul, 1) := by decide +kernel
theorem dX5_put_3 : decode cX5_put 3 = .ok (.iload_n 2, 1) := by decide +kernel
theorem dX5_put_4 : decode cX5_put 4 = .ok (.iadd, 1) := by decide +kernel
theorem dX5_put_5 : decode cX5_put 5 = .ok (.istore 5, 2) := by decide +kernel
theorem dX5_put_7 : decode cX5_put 7 = .ok (.iload 5, 2) := by decide +kernel
theorem dX5_put_9 : decode cX5_put 9 = .ok (.ifCond .lt 21, 3) := by decide +kernel
theorem dX5_put_12 : decode cX5_put 12 = .ok (.iload 5, 2) := by decide +kernel
theorem dX5_put_14 : decode cX5_put 14 = .ok (.aload_n 0, 1) := by decide +kernel
theorem dX5_put_15 : decode cX5_put 15 = .ok (.getfield 15, 3) := by decide +kernel
theorem dX5_put_18 : decode cX5_put 18 = .ok (.arraylength, 1) := by decide +kernel
theorem dX5_put_19 : decode cX5_put 19 = .ok (.if_icmp .ge 11, 3) := by decide +kernel
theorem dX5_put_22 : decode cX5_put 22 = .ok (.aload_n 0, 1) := by decide +kernel
theorem dX5_put_23 : decode cX5_put 23 = .ok (.getfield 15, 3) := by decide +kernel
theorem dX5_put_26 : decode cX5_put 26 = .ok (.iload 5, 2) := by decide +kernel
theorem dX5_put_28 : decode cX5_put 28 = .ok (.lload_n 3, 1) := by decide +kernel
theorem dX5_put_29 : decode cX5_put 29 = .ok (.lastore, 1) := by decide +kernel
theorem dX5_put_30 : decode cX5_put 30 = .ok (.return_, 1) := by decide +kernel
theorem dX5_none_0 : decode cX5_none 0 = .ok (.ldc2_w 41, 3) := by decide +kernel
theorem dX5_none_3 : decode cX5_none 3 = .ok (.lreturn, 1) := by decide +kernel
theorem dX5_start_0 : decode cX5_start 0 = .ok (.lconst 0, 1) := by decide +kernel
theorem dX5_start_1 : decode cX5_start 1 = .ok (.lreturn, 1) := by decide +kernel
theorem dX5_longer_0 : decode cX5_longer 0 = .ok (.iload_n 3, 1) := by decide +kernel
theorem dX5_longer_1 : decode cX5_longer 1 = .ok (.iconst 4, 1) := by decide +kernel
theorem dX5_longer_2 : decode cX5_longer 2 = .ok (.imul, 1) := by decide +kernel
theorem dX5_longer_3 : decode cX5_longer 3 = .ok (.iload 4, 2) := by decide +kernel
theorem dX5_longer_5 : decode cX5_longer 5 = .ok (.iadd, 1) := by decide +kernel
theorem dX5_longer_6 : decode cX5_longer 6 = .ok (.istore 5, 2) := by decide +kernel
theorem dX5_longer_8 : decode cX5_longer 8 = .ok (.iload 5, 2) := by decide +kernel
theorem dX5_longer_10 : decode cX5_longer 10 = .ok (.ifCond .lt 13, 3) := by decide +kernel
theorem dX5_longer_13 : decode cX5_longer 13 = .ok (.iload 5, 2) := by decide +kernel
theorem dX5_longer_15 : decode cX5_longer 15 = .ok (.aload_n 0, 1) := by decide +kernel
theorem dX5_longer_16 : decode cX5_longer 16 = .ok (.getfield 15, 3) := by decide +kernel
theorem dX5_longer_19 : decode cX5_longer 19 = .ok (.arraylength, 1) := by decide +kernel
theorem dX5_longer_20 : decode cX5_longer 20 = .ok (.if_icmp .lt 9, 3) := by decide +kernel
theorem dX5_longer_23 : decode cX5_longer 23 = .ok (.ldc2_w 41, 3) := by decide +kernel
theorem dX5_longer_26 : decode cX5_longer 26 = .ok (.goto 12, 3) := by decide +kernel
theorem dX5_longer_29 : decode cX5_longer 29 = .ok (.lload_n 1, 1) := by decide +kernel
theorem dX5_longer_30 : decode cX5_longer 30 = .ok (.aload_n 0, 1) := by decide +kernel
theorem dX5_longer_31 : decode cX5_longer 31 = .ok (.getfield 15, 3) := by decide +kernel
theorem dX5_longer_34 : decode cX5_longer 34 = .ok (.iload 5, 2) := by decide +kernel
theorem dX5_longer_36 : decode cX5_longer 36 = .ok (.laload, 1) := by decide +kernel
theorem dX5_longer_37 : decode cX5_longer 37 = .ok (.ladd, 1) := by decide +kernel
theorem dX5_longer_38 : decode cX5_longer 38 = .ok (.lreturn, 1) := by decide +kernel
theorem dX5_joined_0 : decode cX5_joined 0 = .ok (.lload_n 1, 1) := by decide +kernel
theorem dX5_joined_1 : decode cX5_joined 1 = .ok (.lload_n 3, 1) := by decide +kernel
theorem dX5_joined_2 : decode cX5_joined 2 = .ok (.invokestatic 45, 3) := by decide +kernel
theorem dX5_joined_5 : decode cX5_joined 5 = .ok (.lreturn, 1) := by decide +kernel
set_option maxRecDepth 20000 in
theorem ggX6_init_X6_pairOf : GoodIn wsX6_init wsX6_pairOf := goodIn_r _ [9] (by decide +kernel) (by decide +kernel)
set_option maxRecDepth 20000 in
theorem gX6_init_X6_pairOf : GoodIn wsX6_init (va_wsS RX6 9 yX6_pairOf wsX6_pairOf) := goodIn_app (goodIn_of _ (by decide +kernel)) ggX6_init_X6_pairOf
theorem dX6_init_0 : decode cX6_init 0 = .ok (.aload_n 0, 1) := by decide +kernel
theorem dX6_init_1 : decode cX6_init 1 = .ok (.invokespecial 3, 3) := by decide +kernel
theorem dX6_init_4 : decode cX6_init 4 = .ok (.aload_n 0, 1) := by decide +kernel
theorem dX6_init_5 : decode cX6_init 5 = .ok (.iconst 2, 1) := by decide +kernel
theorem dX6_init_6 : decode cX6_init 6 = .ok (.iconst 1, 1) := by decide +kernel
theorem dX6_init_7 : decode cX6_init 7 = .ok (.invokestatic 9, 3) := by decide +kernel
theorem dX6_init_10 : decode cX6_init 10 = .ok (.iconst 3, 1) := by decide +kernel
theorem dX6_init_11 : decode cX6_init 11 = .ok (.iconst 1, 1) := by decide +kernel
theorem dX6_init_12 : decode cX6_init 12 = .ok (.invokestatic 9, 3) := by decide +kernel
theorem dX6_init_15 : decode cX6_init 15 = .ok (.ior, 1) := by decide +kernel
theorem dX6_init_16 : decode cX6_init 16 = .ok (.iconst 3, 1) := by decide +kernel
theorem dX6_init_17 : decode cX6_init 17 = .ok (.iconst 2, 1) := by decide +kernel
theorem dX6_init_18 : decode cX6_init 18 = .ok (.invokestatic 9, 3) := by decide +kernel
theorem dX6_init_21 : decode cX6_init 21 = .ok (.ior, 1) := by decide +kernel
theorem dX6_init_22 : decode cX6_init 22 = .ok (.putfield 15, 3) := by decide +kernel
theorem dX6_init_25 : decode cX6_init 25 = .ok (.aload_n 0, 1) := by decide +kernel
theorem dX6_init_26 : decode cX6_init 26 = .ok (.iconst 5, 1) := by decide +kernel
theorem dX6_init_27 : decode cX6_init 27 = .ok (.putfield 19, 3) := by decide +kernel
theorem dX6_init_30 : decode cX6_init 30 = .ok (.return_, 1) := by decide +kernel
theorem dX6_pairOf_0 : decode cX6_pairOf 0 = .ok (.iconst 1, 1) := by decide +kernel
theorem dX6_pairOf_1 : decode cX6_pairOf 1 = .ok (.iload_n 0, 1) := by decide +kernel
theorem dX6_pairOf_2 : decode cX6_pairOf 2 = .ok (.iconst 4, 1) := by decide +kernel
theorem dX6_pairOf_3 : decode cX6_pairOf 3 = .ok (.imul, 1) := by decide +kernel
theorem dX6_pairOf_4 : decode cX6_pairOf 4 = .ok (.iload_n 1, 1) := by decide +kernel
theorem dX6_pairOf_5 : decode cX6_pairOf 5 = .ok (.iadd, 1) := by decide +kernel
theorem dX6_pairOf_6 : decode cX6_pairOf 6 = .ok (.ishl, 1) := by decide +kernel
theorem dX6_pairOf_7 : decode cX6_pairOf 7 = .ok (.ireturn, 1) := by decide +kernel
set_option maxRecDepth 20000 in
theorem ggX6_changeFollowing_X6_pairOf : GoodIn wsX6_changeFollowing wsX6_pairOf := goodIn_r _ [5] (by decide +kernel) (by decide +kernel)
set_option maxRecDepth 20000 in
theorem gX6_changeFollowing_X6_pairOf : GoodIn wsX6_changeFollowing (va_wsS RX6 9 yX6_pairOf wsX6_pairOf) := goodIn_app (goodIn_of _ (by decide +kernel)) ggX6_changeFollowing_X6_pairOf
theorem dX6_changeFollowing_0 : decode cX6_changeFollowing 0 = .ok (.aload_n 0, 1) := by decide +kernel
theorem dX6_changeFollowing_1 : decode cX6_changeFollowing 1 = .ok (.getfield 15, 3) := by decide +kernel
theorem dX6_changeFollowing_4 : decode cX6_changeFollowing 4 = .ok (.istore 4, 2) := by decide +kernel
theorem dX6_changeFollowing_6 : decode cX6_changeFollowing 6 = .ok (.aload_n 0, 1) := by decide +kernel
theorem dX6_changeFollowing_7 : decode cX6_changeFollowing 7 = .ok (.iload_n 3, 1) := by decide +kernel
theorem dX6_changeFollowing_8 : decode cX6_changeFollowing 8 = .ok (.ifCond .eq 14, 3) := by decide +kernel
theorem dX6_changeFollowing_11 : decode cX6_changeFollowing 11 = .ok (.iload 4, 2) := by decide +kernel
theorem dX6_changeFollowing_13 : decode cX6_changeFollowing 13 = .ok (.iload_n 1, 1) := by decide +kernel
theorem dX6_changeFollowing_14 : decode cX6_changeFollowing 14 = .ok (.iload_n 2, 1) := by decide +kernel
theorem dX6_changeFollowing_15 : decode cX6_changeFollowing 15 = .ok (.invokestatic 9, 3) := by decide +kernel
theorem dX6_changeFollowing_18 : decode cX6_changeFollowing 18 = .ok (.ior, 1) := by decide +kernel
theorem dX6_changeFollowing_19 : decode cX6_changeFollowing 19 = .ok (.goto 13, 3) := by decide +kernel
theorem dX6_changeFollowing_22 : decode cX6_changeFollowing 22 = .ok (.iload 4, 2) := by decide +kernel
theorem dX6_changeFollowing_24 : decode cX6_changeFollowing 24 = .ok (.iload_n 1, 1) := by decide +kernel
theorem dX6_changeFollowing_25 : decode cX6_changeFollowing 25 = .ok (.iload_n 2, 1) := by decide +kernel
theorem dX6_changeFollowing_26 : decode cX6_changeFollowing 26 = .ok (.invokestatic 9, 3) := by decide +kernel
theorem dX6_changeFollowing_29 : decode cX6_changeFollowing 29 = .ok (.iconst (-1), 1) := by decide +kernel
theorem dX6_changeFollowing_30 : decode cX6_changeFollowing 30 = .ok (.ixor, 1) := by decide +kernel
theorem dX6_changeFollowing_31 : decode cX6_changeFollowing 31 = .ok (.iand, 1) := by decide +kernel
theorem dX6_changeFollowing_32 : decode cX6_changeFollowing 32 = .ok (.putfield 15, 3) := by decide +kernel
theorem dX6_changeFollowing_35 : decode cX6_changeFollowing 35 = .ok (.aload_n 0, 1) := by decide +kernel
theorem dX6_changeFollowing_36 : decode cX6_changeFollowing 36 = .ok (.getfield 15, 3) := by decide +kernel
theorem dX6_changeFollowing_39 : decode cX6_changeFollowing 39 = .ok (.iload 4, 2) := by decide +kernel
theorem dX6_changeFollowing_41 : decode cX6_changeFollowing 41 = .ok (.if_icmp .eq 7, 3) := by decide +kernel
theorem dX6_changeFollowing_44 : decode cX6_changeFollowing 44 = .ok (.iconst 1, 1) := by decide +kernel
theorem dX6_changeFollowing_45 : decode cX6_changeFollowing 45 = .ok (.goto 4, 3) := by decide +kernel
theorem dX6_changeFollowing_48 : decode cX6_changeFollowing 48 = .ok (.iconst 0, 1) := by decide +kernel
theorem dX6_changeFollowing_49 : decode cX6_changeFollowing 49 = .ok (.ireturn, 1) := by decide +kernel
set_option maxRecDepth 20000 in
theorem ggX6_allow_X6_pairOf : GoodIn wsX6_allow wsX6_pairOf := goodIn_r _ [6] (by decide +kernel) (by decide +kernel)
set_option maxRecDepth 20000 in
theorem gX6_allow_X6_pairOf : GoodIn wsX6_allow (va_wsS RX6 9 yX6_pairOf wsX6_pairOf) := goodIn_app (goodIn_of _ (by decide +kernel)) ggX6_allow_X6_pairOf
theorem dX6_allow_0 : decode cX6_allow 0 = .ok (.iload_n 3, 1) := by decide +kernel
theorem dX6_allow_1 : decode cX6_allow 1 = .ok (.ifCond .eq 24, 3) := by decide +kernel
theorem dX6_allow_4 : decode cX6_allow 4 = .ok (.iload_n 2, 1) := by decide +kernel
theorem dX6_allow_5 : decode cX6_allow 5 = .ok (.aload_n 0, 1) := by decide +kernel
theorem dX6_allow_6 : decode cX6_allow 6 = .ok (.getfield 19, 3) := by decide +kernel
theorem dX6_allow_9 : decode cX6_allow 9 = .ok (.if_icmp .ge 20, 3) := by decide +kernel
theorem dX6_allow_12 : decode cX6_allow 12 = .ok (.aload_n 0, 1) := by decide +kernel
theorem dX6_allow_13 : decode cX6_allow 13 = .ok (.getfield 15, 3) := by decide +kernel
theorem dX6_allow_16 : decode cX6_allow 16 = .ok (.iload_n 1, 1) := by decide +kernel
theorem dX6_allow_17 : decode cX6_allow 17 = .ok (.iload_n 3, 1) := by decide +kernel
theorem dX6_allow_18 : decode cX6_allow 18 = .ok (.invokestatic 9, 3) := by decide +kernel
theorem dX6_allow_21 : decode cX6_allow 21 = .ok (.iand, 1) := by decide +kernel
theorem dX6_allow_22 : decode cX6_allow 22 = .ok (.ifCond .ne 7, 3) := by decide +kernel
theorem dX6_allow_25 : decode cX6_allow 25 = .ok (.iconst 1, 1) := by decide +kernel
theorem dX6_allow_26 : decode cX6_allow 26 = .ok (.goto 4, 3) := by decide +kernel
theorem dX6_allow_29 : decode cX6_allow 29 = .ok (.iconst 0, 1) := by decide +kernel
theorem dX6_allow_30 : decode cX6_allow 30 = .ok (.ireturn, 1) := by decide +kernel
theorem dX7_placeOf_0 : decode cX7_placeOf 0 = .ok (.iconst 2, 1) := by decide +kernel
theorem dX7_placeOf_1 : decode cX7_placeOf 1 = .ok (.bipush 6, 2) := by decide +kernel
theorem dX7_placeOf_3 : decode cX7_placeOf 3 = .ok (.iload_n 0, 1) := by decide +kernel
theorem dX7_placeOf_4 : decode cX7_placeOf 4 = .ok (.isub, 1) := by decide +kernel
theorem dX7_placeOf_5 : decode cX7_placeOf 5 = .ok (.imul, 1) := by decide +kernel
theorem dX7_placeOf_6 : decode cX7_placeOf 6 = .ok (.ireturn, 1) := by decide +kernel
set_option maxRecDepth 20000 in
theorem ggX7_at_X7_placeOf : GoodIn wsX7_at wsX7_placeOf := goodIn_r _ [4] (by decide +kernel) (by decide +kernel)
set_option maxRecDepth 20000 in
theorem gX7_at_X7_placeOf : GoodIn wsX7_at (va_wsS RX7 9 yX7_placeOf wsX7_placeOf) := goodIn_app (goodIn_of _ (by decide +kernel)) ggX7_at_X7_placeOf
theorem dX7_at_0 : decode cX7_at 0 = .ok (.iload_n 0, 1) := by decide +kernel
theorem dX7_at_1 : decode cX7_at 1 = .ok (.iload_n 1, 1) := by decide +kernel
theorem dX7_at_2 : decode cX7_at 2 = .ok (.invokestatic 9, 3) := by decide +kernel
theorem dX7_at_5 : decode cX7_at 5 = .ok (.ishr, 1) := by decide +kernel
theorem dX7_at_6 : decode cX7_at 6 = .ok (.iconst 3, 1) := by decide +kernel
theorem dX7_at_7 : decode cX7_at 7 = .ok (.iand, 1) := by decide +kernel
theorem dX7_at_8 : decode cX7_at 8 = .ok (.ireturn, 1) := by decide +kernel
set_option maxRecDepth 20000 in
theorem ggX7_with_X7_placeOf : GoodIn wsX7_with wsX7_placeOf := goodIn_r _ [4] (by decide +kernel) (by decide +kernel)
set_option maxRecDepth 20000 in
theorem gX7_with_X7_placeOf : GoodIn wsX7_with (va_wsS RX7 9 yX7_placeOf wsX7_placeOf) := goodIn_app (goodIn_of _ (by decide +kernel)) ggX7_with_X7_placeOf
theorem dX7_with_0 : decode cX7_with 0 = .ok (.iload_n 1, 1) := by decide +kernel
theorem dX7_with_1 : decode cX7_with 1 = .ok (.invokestatic 9, 3) := by decide +kernel
theorem dX7_with_4 : decode cX7_with 4 = .ok (.istore_n 3, 1) := by decide +kernel
theorem dX7_with_5 : decode cX7_with 5 = .ok (.iload_n 0, 1) := by decide +kernel
theorem dX7_with_6 : decode cX7_with 6 = .ok (.iconst 3, 1) := by decide +kernel
theorem dX7_with_7 : decode cX7_with 7 = .ok (.iload_n 3, 1) := by decide +kernel
theorem dX7_with_8 : decode cX7_with 8 = .ok (.ishl, 1) := by decide +kernel
theorem dX7_with_9 : decode cX7_with 9 = .ok (.iconst (-1), 1) := by decide +kernel
theorem dX7_with_10 : decode cX7_with 10 = .ok (.ixor, 1) := by decide +kernel
theorem dX7_with_11 : decode cX7_with 11 = .ok (.iand, 1) := by decide +kernel
theorem dX7_with_12 : decode cX7_with 12 = .ok (.iload_n 2, 1) := by decide +kernel
theorem dX7_with_13 : decode cX7_with 13 = .ok (.iload_n 3, 1) := by decide +kernel
theorem dX7_with_14 : decode cX7_with 14 = .ok (.ishl, 1) := by decide +kernel
theorem dX7_with_15 : decode cX7_with 15 = .ok (.ior, 1) := by decide +kernel
theorem dX7_with_16 : decode cX7_with 16 = .ok (.ireturn, 1) := by decide +kernel
set_option maxRecDepth 20000 in
theorem ggX7_shiftsFrom_X7_at : GoodIn wsX7_shiftsFrom wsX7_at := goodIn_r _ [4, 5, 6, 3, 7] (by decide +kernel) (by decide +kernel)
set_option maxRecDepth 20000 in
theorem gX7_shiftsFrom_X7_at : GoodIn wsX7_shiftsFrom (va_wsS RX7 15 yX7_at wsX7_at) := goodIn_app (goodIn_of _ (by decide +kernel)) ggX7_shiftsFrom_X7_at
theorem dX7_shiftsFrom_0 : decode cX7_shiftsFrom 0 = .ok (.iconst 0, 1) := by decide +kernel
theorem dX7_shiftsFrom_1 : decode cX7_shiftsFrom 1 = .ok (.istore_n 2, 1) := by decide +kernel
theorem dX7_shiftsFrom_2 : decode cX7_shiftsFrom 2 = .ok (.iload_n 1, 1) := by decide +kernel
theorem dX7_shiftsFrom_3 : decode cX7_shiftsFrom 3 = .ok (.istore_n 3, 1) := by decide +kernel
theorem dX7_shiftsFrom_4 : decode cX7_shiftsFrom 4 = .ok (.iload_n 3, 1) := by decide +kernel
theorem dX7_shiftsFrom_5 : decode cX7_shiftsFrom 5 = .ok (.bipush 7, 2) := by decide +kernel
theorem dX7_shiftsFrom_7 : decode cX7_shiftsFrom 7 = .ok (.if_icmp .ge 20, 3) := by decide +kernel
theorem dX7_shiftsFrom_10 : decode cX7_shiftsFrom 10 = .ok (.iload_n 0, 1) := by decide +kernel
theorem dX7_shiftsFrom_11 : decode cX7_shiftsFrom 11 = .ok (.iload_n 3, 1) := by decide +kernel
theorem dX7_shiftsFrom_12 : decode cX7_shiftsFrom 12 = .ok (.invokestatic 15, 3) := by decide +kernel
theorem dX7_shiftsFrom_15 : decode cX7_shiftsFrom 15 = .ok (.ifCond .eq 6, 3) := by decide +kernel
theorem dX7_shiftsFrom_18 : decode cX7_shiftsFrom 18 = .ok (.iinc 2 1, 3) := by decide +kernel
theorem dX7_shiftsFrom_21 : decode cX7_shiftsFrom 21 = .ok (.iinc 3 1, 3) := by decide +kernel
theorem dX7_shiftsFrom_24 : decode cX7_shiftsFrom 24 = .ok (.goto (-20), 3) := by decide +kernel
theorem dX7_shiftsFrom_27 : decode cX7_shiftsFrom 27 = .ok (.iload_n 2, 1) := by decide +kernel
theorem dX7_shiftsFrom_28 : decode cX7_shiftsFrom 28 = .ok (.ireturn, 1) := by decide +kernel
set_option maxRecDepth 20000 in
theorem ggX8_init_X3_init : GoodIn wsX8_init wsX3_init := goodIn_r _ [27, 28, 2, 3, 29, 30, 63] (by decide +kernel) (by decide +kernel)
set_option maxRecDepth 20000 in
theorem gX8_init_X3_init_n17 : GoodIn wsX8_init (wsX3_init) := ggX8_init_X3_init
set_option maxRecDepth 20000 in
theorem ggX8_init_X6_init : GoodIn wsX8_init wsX6_init := goodIn_r _ [32, 33, 2, 3, 34, 35, 36, 37, 12, 38, 64, 65] (by decide +kernel) (by decide +kernel)
set_option maxRecDepth 20000 in
theorem gX8_init_X6_init_n24 : GoodIn wsX8_init (wsX6_init) := ggX8_init_X6_init
set_option maxRecDepth 20000 in
theorem ggX8_init_X1_init : GoodIn wsX8_init wsX1_init := goodIn_r _ [40, 41, 2, 3, 42, 43, 44, 66, 67] (by decide +kernel) (by decide +kernel)
set_option maxRecDepth 20000 in
theorem gX8_init_X1_init_n31 : GoodIn wsX8_init (wsX1_init) := ggX8_init_X1_init
set_option maxRecDepth 20000 in
theorem ggX8_init_X0_init : GoodIn wsX8_init wsX0_init := goodIn_r _ [46, 47, 48, 49, 50, 2, 3] (by decide +kernel) (by decide +kernel)
set_option maxRecDepth 20000 in
theorem gX8_init_X0_init_n38 : GoodIn wsX8_init (wsX0_init) := ggX8_init_X0_init
set_option maxRecDepth 20000 in
theorem ggX8_init_X5_init : GoodIn wsX8_init wsX5_init := goodIn_r _ [52, 42, 53, 47, 48, 49, 50, 2, 3, 68] (by decide +kernel) (by decide +kernel)
set_option maxRecDepth 20000 in
theorem gX8_init_X5_init_n45 : GoodIn wsX8_init (wsX5_init) := ggX8_init_X5_init
theorem dX8_init_0 : decode cX8_init 0 = .ok (.aload_n 0, 1) := by decide +kernel
theorem dX8_init_1 : decode cX8_init 1 = .ok (.invokespecial 3, 3) := by decide +kernel
theorem dX8_init_4 : decode cX8_init 4 = .ok (.aload_n 0, 1) := by decide +kernel
theorem dX8_init_5 : decode cX8_init 5 = .ok (.bipush 8, 2) := by decide +kernel
theorem dX8_init_7 : decode cX8_init 7 = .ok (.anewarray 9, 3) := by decide +kernel
theorem dX8_init_10 : decode cX8_init 10 = .ok (.putfield 11, 3) := by decide +kernel
theorem dX8_init_13 : decode cX8_init 13 = .ok (.aload_n 0, 1) := by decide +kernel
theorem dX8_init_14 : decode cX8_init 14 = .ok (.new 15, 3) := by decide +kernel
theorem dX8_init_17 : decode cX8_init 17 = .ok (.dup, 1) := by decide +kernel
theorem dX8_init_18 : decode cX8_init 18 = .ok (.invokespecial 17, 3) := by decide +kernel
theorem dX8_init_21 : decode cX8_init 21 = .ok (.putfield 18, 3) := by decide +kernel
theorem dX8_init_24 : decode cX8_init 24 = .ok (.aload_n 0, 1) := by decide +kernel
theorem dX8_init_25 : decode cX8_init 25 = .ok (.new 22, 3) := by decide +kernel
theorem dX8_init_28 : decode cX8_init 28 = .ok (.dup, 1) := by decide +kernel
theorem dX8_init_29 : decode cX8_init 29 = .ok (.invokespecial 24, 3) := by decide +kernel
theorem dX8_init_32 : decode cX8_init 32 = .ok (.putfield 25, 3) := by decide +kernel
theorem dX8_init_35 : decode cX8_init 35 = .ok (.aload_n 0, 1) := by decide +kernel
theorem dX8_init_36 : decode cX8_init 36 = .ok (.new 29, 3) := by decide +kernel
theorem dX8_init_39 : decode cX8_init 39 = .ok (.dup, 1) := by decide +kernel
theorem dX8_init_40 : decode cX8_init 40 = .ok (.invokespecial 31, 3) := by decide +kernel
theorem dX8_init_43 : decode cX8_init 43 = .ok (.putfield 32, 3) := by decide +kernel
theorem dX8_init_46 : decode cX8_init 46 = .ok (.aload_n 0, 1) := by decide +kernel
theorem dX8_init_47 : decode cX8_init 47 = .ok (.new 36, 3) := by decide +kernel
theorem dX8_init_50 : decode cX8_init 50 = .ok (.dup, 1) := by decide +kernel
theorem dX8_init_51 : decode cX8_init 51 = .ok (.invokespecial 38, 3) := by decide +kernel
theorem dX8_init_54 : decode cX8_init 54 = .ok (.putfield 39, 3) := by decide +kernel
theorem dX8_init_57 : decode cX8_init 57 = .ok (.aload_n 0, 1) := by decide +kernel
theorem dX8_init_58 : decode cX8_init 58 = .ok (.new 43, 3) := by decide +kernel
theorem dX8_init_61 : decode cX8_init 61 = .ok (.dup, 1) := by decide +kernel
theorem dX8_init_62 : decode cX8_init 62 = .ok (.invokespecial 45, 3) := by decide +kernel
theorem dX8_init_65 : decode cX8_init 65 = .ok (.putfield 46, 3) := by decide +kernel
theorem dX8_init_68 : decode cX8_init 68 = .ok (.return_, 1) := by decide +kernel
set_option maxRecDepth 20000 in
theorem ggX8_addPerson_X4_init : GoodIn wsX8_addPerson wsX4_init := goodIn_r _ [11, 12, 13, 14, 15, 16, 26, 27, 28, 29, 30, 31, 32, 33] (by decide +kernel) (by decide +kernel)
set_option maxRecDepth 20000 in
theorem gX8_addPerson_X4_init_n68 : GoodIn wsX8_addPerson (wsX4_init) := ggX8_addPerson_X4_init
theorem dX8_addPerson_0 : decode cX8_addPerson 0 = .ok (.iload_n 1, 1) := by decide +kernel
theorem dX8_addPerson_1 : decode cX8_addPerson 1 = .ok (.ifCond .le 10, 3) := by decide +kernel
theorem dX8_addPerson_4 : decode cX8_addPerson 4 = .ok (.iload_n 1, 1) := by decide +kernel
theorem dX8_addPerson_5 : decode cX8_addPerson 5 = .ok (.bipush (-15), 2) := by decide +kernel
theorem dX8_addPerson_7 : decode cX8_addPerson 7 = .ok (.iand, 1) := by decide +kernel
theorem dX8_addPerson_8 : decode cX8_addPerson 8 = .ok (.ifCond .eq 13, 3) := by decide +kernel
theorem dX8_addPerson_11 : decode cX8_addPerson 11 = .ok (.new 50, 3) := by decide +kernel
theorem dX8_addPerson_14 : decode cX8_addPerson 14 = .ok (.dup, 1) := by decide +kernel
theorem dX8_addPerson_15 : decode cX8_addPerson 15 = .ok (.ldc 52, 2) := by decide +kernel
theorem dX8_addPerson_17 : decode cX8_addPerson 17 = .ok (.invokespecial 54, 3) := by decide +kernel
theorem dX8_addPerson_20 : decode cX8_addPerson 20 = .ok (.athrow, 1) := by decide +kernel
theorem dX8_addPerson_21 : decode cX8_addPerson 21 = .ok (.iload_n 2, 1) := by decide +kernel
theorem dX8_addPerson_22 : decode cX8_addPerson 22 = .ok (.ifCond .lt 9, 3) := by decide +kernel
theorem dX8_addPerson_25 : decode cX8_addPerson 25 = .ok (.iload_n 2, 1) := by decide +kernel
theorem dX8_addPerson_26 : decode cX8_addPerson 26 = .ok (.bipush 7, 2) := by decide +kernel
theorem dX8_addPerson_28 : decode cX8_addPerson 28 = .ok (.if_icmp .le 13, 3) := by decide +kernel
theorem dX8_addPerson_31 : decode cX8_addPerson 31 = .ok (.new 50, 3) := by decide +kernel
theorem dX8_addPerson_34 : decode cX8_addPerson 34 = .ok (.dup, 1) := by decide +kernel
theorem dX8_addPerson_35 : decode cX8_addPerson 35 = .ok (.ldc 57, 2) := by decide +kernel
theorem dX8_addPerson_37 : decode cX8_addPerson 37 = .ok (.invokespecial 54, 3) := by decide +kernel
theorem dX8_addPerson_40 : decode cX8_addPerson 40 = .ok (.athrow, 1) := by decide +kernel
theorem dX8_addPerson_41 : decode cX8_addPerson 41 = .ok (.aload_n 0, 1) := by decide +kernel
theorem dX8_addPerson_42 : decode cX8_addPerson 42 = .ok (.getfield 59, 3) := by decide +kernel
theorem dX8_addPerson_45 : decode cX8_addPerson 45 = .ok (.ifCond .lt 15, 3) := by decide +kernel
theorem dX8_addPerson_48 : decode cX8_addPerson 48 = .ok (.aload_n 0, 1) := by decide +kernel
theorem dX8_addPerson_49 : decode cX8_addPerson 49 = .ok (.getfield 59, 3) := by decide +kernel
theorem dX8_addPerson_52 : decode cX8_addPerson 52 = .ok (.aload_n 0, 1) := by decide +kernel
theorem dX8_addPerson_53 : decode cX8_addPerson 53 = .ok (.getfield 11, 3) := by decide +kernel
theorem dX8_addPerson_56 : decode cX8_addPerson 56 = .ok (.arraylength, 1) := by decide +kernel
theorem dX8_addPerson_57 : decode cX8_addPerson 57 = .ok (.if_icmp .lt 13, 3) := by decide +kernel
theorem dX8_addPerson_60 : decode cX8_addPerson 60 = .ok (.new 63, 3) := by decide +kernel
theorem dX8_addPerson_63 : decode cX8_addPerson 63 = .ok (.dup, 1) := by decide +kernel
theorem dX8_addPerson_64 : decode cX8_addPerson 64 = .ok (.ldc 65, 2) := by decide +kernel
theorem dX8_addPerson_66 : decode cX8_addPerson 66 = .ok (.invokespecial 67, 3) := by decide +kernel
theorem dX8_addPerson_69 : decode cX8_addPerson 69 = .ok (.athrow, 1) := by decide +kernel
theorem dX8_addPerson_70 : decode cX8_addPerson 70 = .ok (.aload_n 0, 1) := by decide +kernel
theorem dX8_addPerson_71 : decode cX8_addPerson 71 = .ok (.getfield 11, 3) := by decide +kernel
theorem dX8_addPerson_74 : decode cX8_addPerson 74 = .ok (.aload_n 0, 1) := by decide +kernel
theorem dX8_addPerson_75 : decode cX8_addPerson 75 = .ok (.getfield 59, 3) := by decide +kernel
theorem dX8_addPerson_78 : decode cX8_addPerson 78 = .ok (.new 9, 3) := by decide +kernel
theorem dX8_addPerson_81 : decode cX8_addPerson 81 = .ok (.dup, 1) := by decide +kernel
theorem dX8_addPerson_82 : decode cX8_addPerson 82 = .ok (.iload_n 1, 1) := by decide +kernel
theorem dX8_addPerson_83 : decode cX8_addPerson 83 = .ok (.iload_n 2, 1) := by decide +kernel
theorem dX8_addPerson_84 : decode cX8_addPerson 84 = .ok (.invokespecial 68, 3) := by decide +kernel
theorem dX8_addPerson_87 : decode cX8_addPerson 87 = .ok (.aastore, 1) := by decide +kernel
theorem dX8_addPerson_88 : decode cX8_addPerson 88 = .ok (.aload_n 0, 1) := by decide +kernel
theorem dX8_addPerson_89 : decode cX8_addPerson 89 = .ok (.dup, 1) := by decide +kernel
theorem dX8_addPerson_90 : decode cX8_addPerson 90 = .ok (.getfield 59, 3) := by decide +kernel
theorem dX8_addPerson_93 : decode cX8_addPerson 93 = .ok (.dup_x1, 1) := by decide +kernel
theorem dX8_addPerson_94 : decode cX8_addPerson 94 = .ok (.iconst 1, 1) := by decide +kernel
theorem dX8_addPerson_95 : decode cX8_addPerson 95 = .ok (.iadd, 1) := by decide +kernel
theorem dX8_addPerson_96 : decode cX8_addPerson 96 = .ok (.putfield 59, 3) := by decide +kernel
theorem dX8_addPerson_99 : decode cX8_addPerson 99 = .ok (.ireturn, 1) := by decide +kernel
set_option maxRecDepth 20000 in
theorem ggX8_setNeed_X8_isDay : GoodIn wsX8_setNeed wsX8_isDay := goodIn_r _ [9] (by decide +kernel) (by decide +kernel)
set_option maxRecDepth 20000 in
theorem gX8_setNeed_X8_isDay : GoodIn wsX8_setNeed (va_wsS RX8 71 yX8_isDay wsX8_isDay) := goodIn_app (goodIn_of _ (by decide +kernel)) ggX8_setNeed_X8_isDay
set_option maxRecDepth 20000 in
theorem ggX8_setNeed_X8_isKind : GoodIn wsX8_setNeed wsX8_isKind := goodIn_r _ [12] (by decide +kernel) (by decide +kernel)
set_option maxRecDepth 20000 in
theorem gX8_setNeed_X8_isKind : GoodIn wsX8_setNeed (va_wsS RX8 75 yX8_isKind wsX8_isKind) := goodIn_app (goodIn_of _ (by decide +kernel)) ggX8_setNeed_X8_isKind
set_option maxRecDepth 20000 in
theorem ggX8_setNeed_X3_of : GoodIn wsX8_setNeed wsX3_of := goodIn_r _ [17, 18, 32] (by decide +kernel) (by decide +kernel)
set_option maxRecDepth 20000 in
theorem gX8_setNeed_X3_of : GoodIn wsX8_setNeed (wsV RX8 85 RX3 yX3_of wsX3_of) := goodIn_app (goodIn_of _ (by decide +kernel)) ggX8_setNeed_X3_of
set_option maxRecDepth 20000 in
theorem ggX8_setNeed_X3_put : GoodIn wsX8_setNeed wsX3_put := goodIn_r _ [22, 18, 32] (by decide +kernel) (by decide +kernel)
set_option maxRecDepth 20000 in
theorem gX8_setNeed_X3_put : GoodIn wsX8_setNeed (wsV RX8 89 RX3 yX3_put wsX3_put) := goodIn_app (goodIn_of _ (by decide +kernel)) ggX8_setNeed_X3_put
theorem dX8_setNeed_0 : decode cX8_setNeed 0 = .ok (.iload_n 1, 1) := by decide +kernel
theorem dX8_setNeed_1 : decode cX8_setNeed 1 = .ok (.invokestatic 71, 3) := by decide +kernel
theorem dX8_setNeed_4 : decode cX8_setNeed 4 = .ok (.ifCond .eq 10, 3) := by decide +kernel
theorem dX8_setNeed_7 : decode cX8_setNeed 7 = .ok (.iload_n 2, 1) := by decide +kernel
theorem dX8_setNeed_8 : decode cX8_setNeed 8 = .ok (.invokestatic 75, 3) := by decide +kernel
theorem dX8_setNeed_11 : decode cX8_setNeed 11 = .ok (.ifCond .ne 13, 3) := by decide +kernel
theorem dX8_setNeed_14 : decode cX8_setNeed 14 = .ok (.new 78, 3) := by decide +kernel
theorem dX8_setNeed_17 : decode cX8_setNeed 17 = .ok (.dup, 1) := by decide +kernel
theorem dX8_setNeed_18 : decode cX8_setNeed 18 = .ok (.ldc 80, 2) := by decide +kernel
theorem dX8_setNeed_20 : decode cX8_setNeed 20 = .ok (.invokespecial 82, 3) := by decide +kernel
theorem dX8_setNeed_23 : decode cX8_setNeed 23 = .ok (.athrow, 1) := by decide +kernel
theorem dX8_setNeed_24 : decode cX8_setNeed 24 = .ok (.iload_n 3, 1) := by decide +kernel
theorem dX8_setNeed_25 : decode cX8_setNeed 25 = .ok (.ifCond .lt 8, 3) := by decide +kernel
theorem dX8_setNeed_28 : decode cX8_setNeed 28 = .ok (.iload_n 3, 1) := by decide +kernel
theorem dX8_setNeed_29 : decode cX8_setNeed 29 = .ok (.iconst 5, 1) := by decide +kernel
theorem dX8_setNeed_30 : decode cX8_setNeed 30 = .ok (.if_icmp .le 13, 3) := by decide +kernel
theorem dX8_setNeed_33 : decode cX8_setNeed 33 = .ok (.new 50, 3) := by decide +kernel
theorem dX8_setNeed_36 : decode cX8_setNeed 36 = .ok (.dup, 1) := by decide +kernel
theorem dX8_setNeed_37 : decode cX8_setNeed 37 = .ok (.ldc 83, 2) := by decide +kernel
theorem dX8_setNeed_39 : decode cX8_setNeed 39 = .ok (.invokespecial 54, 3) := by decide +kernel
theorem dX8_setNeed_42 : decode cX8_setNeed 42 = .ok (.athrow, 1) := by decide +kernel
theorem dX8_setNeed_43 : decode cX8_setNeed 43 = .ok (.aload_n 0, 1) := by decide +kernel
theorem dX8_setNeed_44 : decode cX8_setNeed 44 = .ok (.getfield 18, 3) := by decide +kernel
theorem dX8_setNeed_47 : decode cX8_setNeed 47 = .ok (.iload_n 1, 1) := by decide +kernel
theorem dX8_setNeed_48 : decode cX8_setNeed 48 = .ok (.iload_n 2, 1) := by decide +kernel
theorem dX8_setNeed_49 : decode cX8_setNeed 49 = .ok (.invokevirtual 85, 3) := by decide +kernel
theorem dX8_setNeed_52 : decode cX8_setNeed 52 = .ok (.istore 4, 2) := by decide +kernel
theorem dX8_setNeed_54 : decode cX8_setNeed 54 = .ok (.aload_n 0, 1) := by decide +kernel
theorem dX8_setNeed_55 : decode cX8_setNeed 55 = .ok (.getfield 18, 3) := by decide +kernel
theorem dX8_setNeed_58 : decode cX8_setNeed 58 = .ok (.iload_n 1, 1) := by decide +kernel
theorem dX8_setNeed_59 : decode cX8_setNeed 59 = .ok (.iload_n 2, 1) := by decide +kernel
theorem dX8_setNeed_60 : decode cX8_setNeed 60 = .ok (.iload_n 3, 1) := by decide +kernel
theorem dX8_setNeed_61 : decode cX8_setNeed 61 = .ok (.invokevirtual 89, 3) := by decide +kernel
theorem dX8_setNeed_64 : decode cX8_setNeed 64 = .ok (.iload 4, 2) := by decide +kernel
theorem dX8_setNeed_66 : decode cX8_setNeed 66 = .ok (.ireturn, 1) := by decide +kernel
set_option maxRecDepth 20000 in
theorem ggX8_forbid_X8_isKind : GoodIn wsX8_forbid wsX8_isKind := goodIn_r _ [7] (by decide +kernel) (by decide +kernel)
set_option maxRecDepth 20000 in
theorem gX8_forbid_X8_isKind : GoodIn wsX8_forbid (va_wsS RX8 75 yX8_isKind wsX8_isKind) := goodIn_app (goodIn_of _ (by decide +kernel)) ggX8_forbid_X8_isKind
set_option maxRecDepth 20000 in
theorem ggX8_forbid_X6_changeFollowing : GoodIn wsX8_forbid wsX6_changeFollowing := goodIn_r _ [12, 13, 14, 15, 11, 16, 26, 27] (by decide +kernel) (by decide +kernel)
set_option maxRecDepth 20000 in
theorem gX8_forbid_X6_changeFollowing : GoodIn wsX8_forbid (wsV RX8 95 RX6 yX6_changeFollowing wsX6_changeFollowing) := goodIn_app (goodIn_of _ (by decide +kernel)) ggX8_forbid_X6_changeFollowing
theorem dX8_forbid_0 : decode cX8_forbid 0 = .ok (.iload_n 1, 1) := by decide +kernel
theorem dX8_forbid_1 : decode cX8_forbid 1 = .ok (.invokestatic 75, 3) := by decide +kernel
theorem dX8_forbid_4 : decode cX8_forbid 4 = .ok (.ifCond .eq 10, 3) := by decide +kernel
theorem dX8_forbid_7 : decode cX8_forbid 7 = .ok (.iload_n 2, 1) := by decide +kernel
theorem dX8_forbid_8 : decode cX8_forbid 8 = .ok (.invokestatic 75, 3) := by decide +kernel
theorem dX8_forbid_11 : decode cX8_forbid 11 = .ok (.ifCond .ne 13, 3) := by decide +kernel
theorem dX8_forbid_14 : decode cX8_forbid 14 = .ok (.new 78, 3) := by decide +kernel
theorem dX8_forbid_17 : decode cX8_forbid 17 = .ok (.dup, 1) := by decide +kernel
theorem dX8_forbid_18 : decode cX8_forbid 18 = .ok (.ldc 93, 2) := by decide +kernel
theorem dX8_forbid_20 : decode cX8_forbid 20 = .ok (.invokespecial 82, 3) := by decide +kernel
theorem dX8_forbid_23 : decode cX8_forbid 23 = .ok (.athrow, 1) := by decide +kernel
theorem dX8_forbid_24 : decode cX8_forbid 24 = .ok (.aload_n 0, 1) := by decide +kernel
theorem dX8_forbid_25 : decode cX8_forbid 25 = .ok (.getfield 25, 3) := by decide +kernel
theorem dX8_forbid_28 : decode cX8_forbid 28 = .ok (.iload_n 1, 1) := by decide +kernel
theorem dX8_forbid_29 : decode cX8_forbid 29 = .ok (.iload_n 2, 1) := by decide +kernel
theorem dX8_forbid_30 : decode cX8_forbid 30 = .ok (.iload_n 3, 1) := by decide +kernel
theorem dX8_forbid_31 : decode cX8_forbid 31 = .ok (.invokevirtual 95, 3) := by decide +kernel
theorem dX8_forbid_34 : decode cX8_forbid 34 = .ok (.ireturn, 1) := by decide +kernel
theorem dX8_setRun_0 : decode cX8_setRun 0 = .ok (.iload_n 1, 1) := by decide +kernel
theorem dX8_setRun_1 : decode cX8_setRun 1 = .ok (.iconst 1, 1) := by decide +kernel
theorem dX8_setRun_2 : decode cX8_setRun 2 = .ok (.if_icmp .lt 9, 3) := by decide +kernel
theorem dX8_setRun_5 : decode cX8_setRun 5 = .ok (.iload_n 1, 1) := by decide +kernel
theorem dX8_setRun_6 : decode cX8_setRun 6 = .ok (.bipush 14, 2) := by decide +kernel
theorem dX8_setRun_8 : decode cX8_setRun 8 = .ok (.if_icmp .le 13, 3) := by decide +kernel
theorem dX8_setRun_11 : decode cX8_setRun 11 = .ok (.new 50, 3) := by decide +kernel
theorem dX8_setRun_14 : decode cX8_setRun 14 = .ok (.dup, 1) := by decide +kernel
theorem dX8_setRun_15 : decode cX8_setRun 15 = .ok (.ldc 99, 2) := by decide +kernel
theorem dX8_setRun_17 : decode cX8_setRun 17 = .ok (.invokespecial 54, 3) := by decide +kernel
theorem dX8_setRun_20 : decode cX8_setRun 20 = .ok (.athrow, 1) := by decide +kernel
theorem dX8_setRun_21 : decode cX8_setRun 21 = .ok (.aload_n 0, 1) := by decide +kernel
theorem dX8_setRun_22 : decode cX8_setRun 22 = .ok (.getfield 25, 3) := by decide +kernel
theorem dX8_setRun_25 : decode cX8_setRun 25 = .ok (.getfield 101, 3) := by decide +kernel
theorem dX8_setRun_28 : decode cX8_setRun 28 = .ok (.istore_n 2, 1) := by decide +kernel
theorem dX8_setRun_29 : decode cX8_setRun 29 = .ok (.aload_n 0, 1) := by decide +kernel
theorem dX8_setRun_30 : decode cX8_setRun 30 = .ok (.getfield 25, 3) := by decide +kernel
theorem dX8_setRun_33 : decode cX8_setRun 33 = .ok (.iload_n 1, 1) := by decide +kernel
theorem dX8_setRun_34 : decode cX8_setRun 34 = .ok (.putfield 101, 3) := by decide +kernel
theorem dX8_setRun_37 : decode cX8_setRun 37 = .ok (.iload_n 2, 1) := by decide +kernel
theorem dX8_setRun_38 : decode cX8_setRun 38 = .ok (.ireturn, 1) := by decide +kernel
set_option maxRecDepth 20000 in
theorem ggX8_wish_X8_personAt : GoodIn wsX8_wish wsX8_personAt := goodIn_r _ [7, 8, 18, 19, 20, 21, 22, 23, 24, 25, 26] (by decide +kernel) (by decide +kernel)
set_option maxRecDepth 20000 in
theorem gX8_wish_X8_personAt : GoodIn wsX8_wish (wsV RX8 104 RX8 yX8_personAt wsX8_personAt) := goodIn_app (goodIn_of _ (by decide +kernel)) ggX8_wish_X8_personAt
set_option maxRecDepth 20000 in
theorem ggX8_wish_X8_isDay : GoodIn wsX8_wish wsX8_isDay := goodIn_r _ [11] (by decide +kernel) (by decide +kernel)
set_option maxRecDepth 20000 in
theorem gX8_wish_X8_isDay : GoodIn wsX8_wish (va_wsS RX8 71 yX8_isDay wsX8_isDay) := goodIn_app (goodIn_of _ (by decide +kernel)) ggX8_wish_X8_isDay
set_option maxRecDepth 20000 in
theorem ggX8_wish_X4_changeWish : GoodIn wsX8_wish wsX4_changeWish := goodIn_r _ [16, 17, 27, 28, 29, 30, 31, 32, 33, 34] (by decide +kernel) (by decide +kernel)
set_option maxRecDepth 20000 in
theorem gX8_wish_X4_changeWish : GoodIn wsX8_wish (wsV RX8 110 RX4 yX4_changeWish wsX4_changeWish) := goodIn_app (goodIn_of _ (by decide +kernel)) ggX8_wish_X4_changeWish
theorem dX8_wish_0 : decode cX8_wish 0 = .ok (.aload_n 0, 1) := by decide +kernel
theorem dX8_wish_1 : decode cX8_wish 1 = .ok (.iload_n 1, 1) := by decide +kernel
theorem dX8_wish_2 : decode cX8_wish 2 = .ok (.invokevirtual 104, 3) := by decide +kernel
theorem dX8_wish_5 : decode cX8_wish 5 = .ok (.astore 4, 2) := by decide +kernel
theorem dX8_wish_7 : decode cX8_wish 7 = .ok (.aload 4, 2) := by decide +kernel
theorem dX8_wish_9 : decode cX8_wish 9 = .ok (.ifnull 10, 3) := by decide +kernel
theorem dX8_wish_12 : decode cX8_wish 12 = .ok (.iload_n 2, 1) := by decide +kernel
theorem dX8_wish_13 : decode cX8_wish 13 = .ok (.invokestatic 71, 3) := by decide +kernel
theorem dX8_wish_16 : decode cX8_wish 16 = .ok (.ifCond .ne 13, 3) := by decide +kernel
theorem dX8_wish_19 : decode cX8_wish 19 = .ok (.new 78, 3) := by decide +kernel
theorem dX8_wish_22 : decode cX8_wish 22 = .ok (.dup, 1) := by decide +kernel
theorem dX8_wish_23 : decode cX8_wish 23 = .ok (.ldc 108, 2) := by decide +kernel
theorem dX8_wish_25 : decode cX8_wish 25 = .ok (.invokespecial 82, 3) := by decide +kernel
theorem dX8_wish_28 : decode cX8_wish 28 = .ok (.athrow, 1) := by decide +kernel
theorem dX8_wish_29 : decode cX8_wish 29 = .ok (.aload 4, 2) := by decide +kernel
theorem dX8_wish_31 : decode cX8_wish 31 = .ok (.iload_n 2, 1) := by decide +kernel
theorem dX8_wish_32 : decode cX8_wish 32 = .ok (.iload_n 3, 1) := by decide +kernel
theorem dX8_wish_33 : decode cX8_wish 33 = .ok (.invokevirtual 110, 3) := by decide +kernel
theorem dX8_wish_36 : decode cX8_wish 36 = .ok (.ireturn, 1) := by decide +kernel
set_option maxRecDepth 20000 in
theorem ggX8_fix_X8_personAt : GoodIn wsX8_fix wsX8_personAt := goodIn_r _ [9, 10, 27, 28, 29, 30, 31, 32, 33, 34, 35] (by decide +kernel) (by decide +kernel)
set_option maxRecDepth 20000 in
theorem gX8_fix_X8_personAt : GoodIn wsX8_fix (wsV RX8 104 RX8 yX8_personAt wsX8_personAt) := goodIn_app (goodIn_of _ (by decide +kernel)) ggX8_fix_X8_personAt
set_option maxRecDepth 20000 in
theorem ggX8_fix_X8_isDay : GoodIn wsX8_fix wsX8_isDay := goodIn_r _ [13] (by decide +kernel) (by decide +kernel)
set_option maxRecDepth 20000 in
theorem gX8_fix_X8_isDay : GoodIn wsX8_fix (va_wsS RX8 71 yX8_isDay wsX8_isDay) := goodIn_app (goodIn_of _ (by decide +kernel)) ggX8_fix_X8_isDay
set_option maxRecDepth 20000 in
theorem ggX8_fix_X8_isEntry : GoodIn wsX8_fix wsX8_isEntry := goodIn_r _ [16] (by decide +kernel) (by decide +kernel)
set_option maxRecDepth 20000 in
theorem gX8_fix_X8_isEntry : GoodIn wsX8_fix (va_wsS RX8 114 yX8_isEntry wsX8_isEntry) := goodIn_app (goodIn_of _ (by decide +kernel)) ggX8_fix_X8_isEntry
set_option maxRecDepth 20000 in
theorem ggX8_fix_X4_fixedAt : GoodIn wsX8_fix wsX4_fixedAt := goodIn_r _ [21, 22, 36, 37, 38, 39, 40, 41, 42, 43] (by decide +kernel) (by decide +kernel)
set_option maxRecDepth 20000 in
theorem gX8_fix_X4_fixedAt : GoodIn wsX8_fix (wsV RX8 119 RX4 yX4_fixedAt wsX4_fixedAt) := goodIn_app (goodIn_of _ (by decide +kernel)) ggX8_fix_X4_fixedAt
set_option maxRecDepth 20000 in
theorem ggX8_fix_X4_changeFixed : GoodIn wsX8_fix wsX4_changeFixed := goodIn_r _ [26, 22, 36, 37, 38, 39, 40, 41, 42, 43] (by decide +kernel) (by decide +kernel)
set_option maxRecDepth 20000 in
theorem gX8_fix_X4_changeFixed : GoodIn wsX8_fix (wsV RX8 123 RX4 yX4_changeFixed wsX4_changeFixed) := goodIn_app (goodIn_of _ (by decide +kernel)) ggX8_fix_X4_changeFixed
theorem dX8_fix_0 : decode cX8_fix 0 = .ok (.aload_n 0, 1) := by decide +kernel
theorem dX8_fix_1 : decode cX8_fix 1 = .ok (.iload_n 1, 1) := by decide +kernel
theorem dX8_fix_2 : decode cX8_fix 2 = .ok (.invokevirtual 104, 3) := by decide +kernel
theorem dX8_fix_5 : decode cX8_fix 5 = .ok (.astore 4, 2) := by decide +kernel
theorem dX8_fix_7 : decode cX8_fix 7 = .ok (.aload 4, 2) := by decide +kernel
theorem dX8_fix_9 : decode cX8_fix 9 = .ok (.ifnull 10, 3) := by decide +kernel
theorem dX8_fix_12 : decode cX8_fix 12 = .ok (.iload_n 2, 1) := by decide +kernel
theorem dX8_fix_13 : decode cX8_fix 13 = .ok (.invokestatic 71, 3) := by decide +kernel
theorem dX8_fix_16 : decode cX8_fix 16 = .ok (.ifCond .ne 13, 3) := by decide +kernel
theorem dX8_fix_19 : decode cX8_fix 19 = .ok (.new 78, 3) := by decide +kernel
theorem dX8_fix_22 : decode cX8_fix 22 = .ok (.dup, 1) := by decide +kernel
theorem dX8_fix_23 : decode cX8_fix 23 = .ok (.ldc 108, 2) := by decide +kernel
theorem dX8_fix_25 : decode cX8_fix 25 = .ok (.invokespecial 82, 3) := by decide +kernel
theorem dX8_fix_28 : decode cX8_fix 28 = .ok (.athrow, 1) := by decide +kernel
theorem dX8_fix_29 : decode cX8_fix 29 = .ok (.iload_n 3, 1) := by decide +kernel
theorem dX8_fix_30 : decode cX8_fix 30 = .ok (.iconst (-1), 1) := by decide +kernel
theorem dX8_fix_31 : decode cX8_fix 31 = .ok (.if_icmp .eq 20, 3) := by decide +kernel
theorem dX8_fix_34 : decode cX8_fix 34 = .ok (.iload_n 3, 1) := by decide +kernel
theorem dX8_fix_35 : decode cX8_fix 35 = .ok (.invokestatic 114, 3) := by decide +kernel
theorem dX8_fix_38 : decode cX8_fix 38 = .ok (.ifCond .ne 13, 3) := by decide +kernel
theorem dX8_fix_41 : decode cX8_fix 41 = .ok (.new 50, 3) := by decide +kernel
theorem dX8_fix_44 : decode cX8_fix 44 = .ok (.dup, 1) := by decide +kernel
theorem dX8_fix_45 : decode cX8_fix 45 = .ok (.ldc 117, 2) := by decide +kernel
theorem dX8_fix_47 : decode cX8_fix 47 = .ok (.invokespecial 54, 3) := by decide +kernel
theorem dX8_fix_50 : decode cX8_fix 50 = .ok (.athrow, 1) := by decide +kernel
theorem dX8_fix_51 : decode cX8_fix 51 = .ok (.aload 4, 2) := by decide +kernel
theorem dX8_fix_53 : decode cX8_fix 53 = .ok (.iload_n 2, 1) := by decide +kernel
theorem dX8_fix_54 : decode cX8_fix 54 = .ok (.invokevirtual 119, 3) := by decide +kernel
theorem dX8_fix_57 : decode cX8_fix 57 = .ok (.istore 5, 2) := by decide +kernel
theorem dX8_fix_59 : decode cX8_fix 59 = .ok (.aload 4, 2) := by decide +kernel
theorem dX8_fix_61 : decode cX8_fix 61 = .ok (.iload_n 2, 1) := by decide +kernel
theorem dX8_fix_62 : decode cX8_fix 62 = .ok (.iload_n 3, 1) := by decide +kernel
theorem dX8_fix_63 : decode cX8_fix 63 = .ok (.invokevirtual 123, 3) := by decide +kernel
theorem dX8_fix_66 : decode cX8_fix 66 = .ok (.iload 5, 2) := by decide +kernel
theorem dX8_fix_68 : decode cX8_fix 68 = .ok (.ireturn, 1) := by decide +kernel
set_option maxRecDepth 20000 in
theorem ggX8_plan_X8_planRound : GoodIn wsX8_plan wsX8_planRound := goodIn_r _ [7, 1, 8, 9, 10, 6, 11, 12, 13, 14, 15, 16, 17, 18, 19, 20, 21, 22, 23, 24, 25, 26, 27, 28, 29, 30, 31, 32, 33, 34, 35, 36, 37, 38, 39, 40, 41, 42, 43, 44, 45, 46, 47, 48, 49, 50, 51, 52, 53, 54, 55, 56, 57, 58, 59, 60, 61, 62, 63, 64, 65, 66, 67, 68, 69, 70, 71, 72, 73, 74, 75, 76, 77, 78, 79, 80, 81, 82, 83, 84, 85, 86, 87, 88, 89, 90, 91, 92, 93, 94, 95, 96, 97, 98, 99, 100, 101, 102, 103, 104, 105, 106, 107, 108, 109, 110, 111, 112, 113, 114, 115, 116, 117, 118, 119, 120, 121, 122, 123, 124, 125, 126, 127, 128, 129, 130, 131, 132, 133, 134, 135, 136, 137, 138, 139, 140, 145, 146, 147, 148, 149, 150, 151, 152, 153, 154, 155, 156, 157, 158, 159, 160, 161, 162, 163, 164, 165, 166, 167] (by decide +kernel) (by decide +kernel)
set_option maxRecDepth 20000 in
theorem gX8_plan_X8_planRound : GoodIn wsX8_plan (wsV RX8 131 RX8 yX8_planRound wsX8_planRound) := goodIn_app (goodIn_of _ (by decide +kernel)) ggX8_plan_X8_planRound
set_option maxRecDepth 20000 in
theorem ggX8_plan_X8_allGaps : GoodIn wsX8_plan wsX8_allGaps := goodIn_r _ [144, 15, 16, 17, 6, 18, 19, 1, 20, 21, 22, 23, 24, 25, 26, 27, 28, 29, 30, 31, 32, 33, 34, 35, 36, 145, 146, 147, 148, 149, 150, 151, 152, 153, 154, 155, 156, 157, 158, 159, 160, 161, 162] (by decide +kernel) (by decide +kernel)
set_option maxRecDepth 20000 in
theorem gX8_plan_X8_allGaps : GoodIn wsX8_plan (wsV RX8 138 RX8 yX8_allGaps wsX8_allGaps) := goodIn_app (goodIn_of _ (by decide +kernel)) ggX8_plan_X8_allGaps
theorem dX8_plan_0 : decode cX8_plan 0 = .ok (.aload_n 0, 1) := by decide +kernel
theorem dX8_plan_1 : decode cX8_plan 1 = .ok (.getfield 11, 3) := by decide +kernel
theorem dX8_plan_4 : decode cX8_plan 4 = .ok (.astore_n 1, 1) := by decide +kernel
theorem dX8_plan_5 : decode cX8_plan 5 = .ok (.aload_n 1, 1) := by decide +kernel
theorem dX8_plan_6 : decode cX8_plan 6 = .ok (.arraylength, 1) := by decide +kernel
theorem dX8_plan_7 : decode cX8_plan 7 = .ok (.istore_n 2, 1) := by decide +kernel
theorem dX8_plan_8 : decode cX8_plan 8 = .ok (.iconst 0, 1) := by decide +kernel
theorem dX8_plan_9 : decode cX8_plan 9 = .ok (.istore_n 3, 1) := by decide +kernel
theorem dX8_plan_10 : decode cX8_plan 10 = .ok (.iload_n 3, 1) := by decide +kernel
theorem dX8_plan_11 : decode cX8_plan 11 = .ok (.iload_n 2, 1) := by decide +kernel
theorem dX8_plan_12 : decode cX8_plan 12 = .ok (.if_icmp .ge 25, 3) := by decide +kernel
theorem dX8_plan_15 : decode cX8_plan 15 = .ok (.aload_n 1, 1) := by decide +kernel
theorem dX8_plan_16 : decode cX8_plan 16 = .ok (.iload_n 3, 1) := by decide +kernel
theorem dX8_plan_17 : decode cX8_plan 17 = .ok (.aaload, 1) := by decide +kernel
theorem dX8_plan_18 : decode cX8_plan 18 = .ok (.astore 4, 2) := by decide +kernel
theorem dX8_plan_20 : decode cX8_plan 20 = .ok (.aload 4, 2) := by decide +kernel
theorem dX8_plan_22 : decode cX8_plan 22 = .ok (.ifnull 9, 3) := by decide +kernel
theorem dX8_plan_25 : decode cX8_plan 25 = .ok (.aload 4, 2) := by decide +kernel
theorem dX8_plan_27 : decode cX8_plan 27 = .ok (.iconst 0, 1) := by decide +kernel
theorem dX8_plan_28 : decode cX8_plan 28 = .ok (.putfield 128, 3) := by decide +kernel
theorem dX8_plan_31 : decode cX8_plan 31 = .ok (.iinc 3 1, 3) := by decide +kernel
theorem dX8_plan_34 : decode cX8_plan 34 = .ok (.goto (-24), 3) := by decide +kernel
theorem dX8_plan_37 : decode cX8_plan 37 = .ok (.iconst 1, 1) := by decide +kernel
theorem dX8_plan_38 : decode cX8_plan 38 = .ok (.istore_n 1, 1) := by decide +kernel
theorem dX8_plan_39 : decode cX8_plan 39 = .ok (.iconst 1, 1) := by decide +kernel
theorem dX8_plan_40 : decode cX8_plan 40 = .ok (.istore_n 2, 1) := by decide +kernel
theorem dX8_plan_41 : decode cX8_plan 41 = .ok (.iload_n 1, 1) := by decide +kernel
theorem dX8_plan_42 : decode cX8_plan 42 = .ok (.ifCond .eq 25, 3) := by decide +kernel
theorem dX8_plan_45 : decode cX8_plan 45 = .ok (.iload_n 2, 1) := by decide +kernel
theorem dX8_plan_46 : decode cX8_plan 46 = .ok (.bipush 10, 2) := by decide +kernel
theorem dX8_plan_48 : decode cX8_plan 48 = .ok (.if_icmp .gt 19, 3) := by decide +kernel
theorem dX8_plan_51 : decode cX8_plan 51 = .ok (.aload_n 0, 1) := by decide +kernel
theorem dX8_plan_52 : decode cX8_plan 52 = .ok (.invokevirtual 131, 3) := by decide +kernel
theorem dX8_plan_55 : decode cX8_plan 55 = .ok (.istore_n 1, 1) := by decide +kernel
theorem dX8_plan_56 : decode cX8_plan 56 = .ok (.aload_n 0, 1) := by decide +kernel
theorem dX8_plan_57 : decode cX8_plan 57 = .ok (.iload_n 2, 1) := by decide +kernel
theorem dX8_plan_58 : decode cX8_plan 58 = .ok (.putfield 135, 3) := by decide +kernel
theorem dX8_plan_61 : decode cX8_plan 61 = .ok (.iinc 2 1, 3) := by decide +kernel
theorem dX8_plan_64 : decode cX8_plan 64 = .ok (.goto (-23), 3) := by decide +kernel
theorem dX8_plan_67 : decode cX8_plan 67 = .ok (.aload_n 0, 1) := by decide +kernel
theorem dX8_plan_68 : decode cX8_plan 68 = .ok (.invokevirtual 138, 3) := by decide +kernel
theorem dX8_plan_71 : decode cX8_plan 71 = .ok (.ireturn, 1) := by decide +kernel
theorem dX8_rounds_0 : decode cX8_rounds 0 = .ok (.aload_n 0, 1) := by decide +kernel
theorem dX8_rounds_1 : decode cX8_rounds 1 = .ok (.getfield 135, 3) := by decide +kernel
theorem dX8_rounds_4 : decode cX8_rounds 4 = .ok (.ireturn, 1) := by decide +kernel
set_option maxRecDepth 20000 in
theorem ggX8_set_X8_personAt : GoodIn wsX8_set wsX8_personAt := goodIn_r _ [12, 13, 71, 72, 73, 74, 75, 76, 77, 78, 79] (by decide +kernel) (by decide +kernel)
set_option maxRecDepth 20000 in
theorem gX8_set_X8_personAt : GoodIn wsX8_set (wsV RX8 104 RX8 yX8_personAt wsX8_personAt) := goodIn_app (goodIn_of _ (by decide +kernel)) ggX8_set_X8_personAt
set_option maxRecDepth 20000 in
theorem ggX8_set_X8_isDay : GoodIn wsX8_set wsX8_isDay := goodIn_r _ [16] (by decide +kernel) (by decide +kernel)
set_option maxRecDepth 20000 in
theorem gX8_set_X8_isDay : GoodIn wsX8_set (va_wsS RX8 71 yX8_isDay wsX8_isDay) := goodIn_app (goodIn_of _ (by decide +kernel)) ggX8_set_X8_isDay
set_option maxRecDepth 20000 in
theorem ggX8_set_X8_isEntry : GoodIn wsX8_set wsX8_isEntry := goodIn_r _ [19] (by decide +kernel) (by decide +kernel)
set_option maxRecDepth 20000 in
theorem gX8_set_X8_isEntry : GoodIn wsX8_set (va_wsS RX8 114 yX8_isEntry wsX8_isEntry) := goodIn_app (goodIn_of _ (by decide +kernel)) ggX8_set_X8_isEntry
set_option maxRecDepth 20000 in
theorem ggX8_set_X7_with : GoodIn wsX8_set wsX7_with := goodIn_r _ [23, 24, 25, 22, 26] (by decide +kernel) (by decide +kernel)
set_option maxRecDepth 20000 in
theorem gX8_set_X7_with : GoodIn wsX8_set (va_wsS RX8 144 yX7_with wsX7_with) := goodIn_app (goodIn_of _ (by decide +kernel)) ggX8_set_X7_with
set_option maxRecDepth 20000 in
theorem ggX8_set_X4_canHave : GoodIn wsX8_set wsX4_canHave := goodIn_r _ [31, 32, 33, 34, 35, 36, 22, 37, 24, 25, 26, 38, 39, 40, 30, 41, 42, 43, 44, 45, 46, 47, 48, 49, 50, 51, 52, 53, 54, 55, 56, 57, 58, 59, 60, 61, 63, 64, 65, 66, 67, 68, 69, 70, 80, 81] (by decide +kernel) (by decide +kernel)
set_option maxRecDepth 20000 in
theorem gX8_set_X4_canHave : GoodIn wsX8_set (wsV RX8 148 RX4 yX4_canHave wsX4_canHave) := goodIn_app (goodIn_of _ (by decide +kernel)) ggX8_set_X4_canHave
set_option maxRecDepth 20000 in
theorem ggX8_set_X7_at : GoodIn wsX8_set wsX7_at := goodIn_r _ [37, 24, 25, 22, 26] (by decide +kernel) (by decide +kernel)
set_option maxRecDepth 20000 in
theorem gX8_set_X7_at : GoodIn wsX8_set (va_wsS RX8 154 yX7_at wsX7_at) := goodIn_app (goodIn_of _ (by decide +kernel)) ggX8_set_X7_at
theorem dX8_set_0 : decode cX8_set 0 = .ok (.aload_n 0, 1) := by decide +kernel
theorem dX8_set_1 : decode cX8_set 1 = .ok (.iload_n 1, 1) := by decide +kernel
theorem dX8_set_2 : decode cX8_set 2 = .ok (.invokevirtual 104, 3) := by decide +kernel
theorem dX8_set_5 : decode cX8_set 5 = .ok (.astore 4, 2) := by decide +kernel
theorem dX8_set_7 : decode cX8_set 7 = .ok (.aload 4, 2) := by decide +kernel
theorem dX8_set_9 : decode cX8_set 9 = .ok (.ifnull 10, 3) := by decide +kernel
theorem dX8_set_12 : decode cX8_set 12 = .ok (.iload_n 2, 1) := by decide +kernel
theorem dX8_set_13 : decode cX8_set 13 = .ok (.invokestatic 71, 3) := by decide +kernel
theorem dX8_set_16 : decode cX8_set 16 = .ok (.ifCond .ne 13, 3) := by decide +kernel
theorem dX8_set_19 : decode cX8_set 19 = .ok (.new 78, 3) := by decide +kernel
theorem dX8_set_22 : decode cX8_set 22 = .ok (.dup, 1) := by decide +kernel
theorem dX8_set_23 : decode cX8_set 23 = .ok (.ldc 108, 2) := by decide +kernel
theorem dX8_set_25 : decode cX8_set 25 = .ok (.invokespecial 82, 3) := by decide +kernel
theorem dX8_set_28 : decode cX8_set 28 = .ok (.athrow, 1) := by decide +kernel
theorem dX8_set_29 : decode cX8_set 29 = .ok (.iload_n 3, 1) := by decide +kernel
theorem dX8_set_30 : decode cX8_set 30 = .ok (.invokestatic 114, 3) := by decide +kernel
theorem dX8_set_33 : decode cX8_set 33 = .ok (.ifCond .ne 13, 3) := by decide +kernel
theorem dX8_set_36 : decode cX8_set 36 = .ok (.new 50, 3) := by decide +kernel
theorem dX8_set_39 : decode cX8_set 39 = .ok (.dup, 1) := by decide +kernel
theorem dX8_set_40 : decode cX8_set 40 = .ok (.ldc 142, 2) := by decide +kernel
theorem dX8_set_42 : decode cX8_set 42 = .ok (.invokespecial 54, 3) := by decide +kernel
theorem dX8_set_45 : decode cX8_set 45 = .ok (.athrow, 1) := by decide +kernel
theorem dX8_set_46 : decode cX8_set 46 = .ok (.aload 4, 2) := by decide +kernel
theorem dX8_set_48 : decode cX8_set 48 = .ok (.getfield 128, 3) := by decide +kernel
theorem dX8_set_51 : decode cX8_set 51 = .ok (.iload_n 2, 1) := by decide +kernel
theorem dX8_set_52 : decode cX8_set 52 = .ok (.iload_n 3, 1) := by decide +kernel
theorem dX8_set_53 : decode cX8_set 53 = .ok (.invokestatic 144, 3) := by decide +kernel
theorem dX8_set_56 : decode cX8_set 56 = .ok (.istore 5, 2) := by decide +kernel
theorem dX8_set_58 : decode cX8_set 58 = .ok (.aload 4, 2) := by decide +kernel
theorem dX8_set_60 : decode cX8_set 60 = .ok (.iload 5, 2) := by decide +kernel
theorem dX8_set_62 : decode cX8_set 62 = .ok (.aload_n 0, 1) := by decide +kernel
theorem dX8_set_63 : decode cX8_set 63 = .ok (.getfield 25, 3) := by decide +kernel
theorem dX8_set_66 : decode cX8_set 66 = .ok (.invokevirtual 148, 3) := by decide +kernel
theorem dX8_set_69 : decode cX8_set 69 = .ok (.ifCond .ne 13, 3) := by decide +kernel
theorem dX8_set_72 : decode cX8_set 72 = .ok (.new 63, 3) := by decide +kernel
theorem dX8_set_75 : decode cX8_set 75 = .ok (.dup, 1) := by decide +kernel
theorem dX8_set_76 : decode cX8_set 76 = .ok (.ldc 152, 2) := by decide +kernel
theorem dX8_set_78 : decode cX8_set 78 = .ok (.invokespecial 67, 3) := by decide +kernel
theorem dX8_set_81 : decode cX8_set 81 = .ok (.athrow, 1) := by decide +kernel
theorem dX8_set_82 : decode cX8_set 82 = .ok (.aload 4, 2) := by decide +kernel
theorem dX8_set_84 : decode cX8_set 84 = .ok (.getfield 128, 3) := by decide +kernel
theorem dX8_set_87 : decode cX8_set 87 = .ok (.iload_n 2, 1) := by decide +kernel
theorem dX8_set_88 : decode cX8_set 88 = .ok (.invokestatic 154, 3) := by decide +kernel
theorem dX8_set_91 : decode cX8_set 91 = .ok (.istore 6, 2) := by decide +kernel
theorem dX8_set_93 : decode cX8_set 93 = .ok (.aload 4, 2) := by decide +kernel
theorem dX8_set_95 : decode cX8_set 95 = .ok (.iload 5, 2) := by decide +kernel
theorem dX8_set_97 : decode cX8_set 97 = .ok (.putfield 128, 3) := by decide +kernel
theorem dX8_set_100 : decode cX8_set 100 = .ok (.iload 6, 2) := by decide +kernel
theorem dX8_set_102 : decode cX8_set 102 = .ok (.ireturn, 1) := by decide +kernel
set_option maxRecDepth 20000 in
theorem ggX8_swap_X8_personAt : GoodIn wsX8_swap wsX8_personAt := goodIn_r _ [9, 10, 80, 81, 82, 83, 84, 85, 86, 87, 88] (by decide +kernel) (by decide +kernel)
set_option maxRecDepth 20000 in
theorem gX8_swap_X8_personAt : GoodIn wsX8_swap (wsV RX8 104 RX8 yX8_personAt wsX8_personAt) := goodIn_app (goodIn_of _ (by decide +kernel)) ggX8_swap_X8_personAt
set_option maxRecDepth 20000 in
theorem ggX8_swap_X8_isDay : GoodIn wsX8_swap wsX8_isDay := goodIn_r _ [13] (by decide +kernel) (by decide +kernel)
set_option maxRecDepth 20000 in
theorem gX8_swap_X8_isDay : GoodIn wsX8_swap (va_wsS RX8 71 yX8_isDay wsX8_isDay) := goodIn_app (goodIn_of _ (by decide +kernel)) ggX8_swap_X8_isDay
set_option maxRecDepth 20000 in
theorem ggX8_swap_X8_couldSwap : GoodIn wsX8_swap wsX8_couldSwap := goodIn_r _ [17, 18, 19, 20, 21, 22, 23, 24, 25, 26, 27, 28, 29, 30, 31, 32, 33, 34, 35, 36, 37, 38, 39, 40, 41, 42, 43, 44, 45, 46, 47, 48, 49, 50, 51, 52, 53, 54, 55, 56, 57, 58, 59, 60, 61, 72, 73, 74, 75, 76, 77, 78, 79, 80, 81, 82, 83, 84, 85, 86, 87, 88, 89, 90] (by decide +kernel) (by decide +kernel)
set_option maxRecDepth 20000 in
theorem gX8_swap_X8_couldSwap : GoodIn wsX8_swap (wsV RX8 159 RX8 yX8_couldSwap wsX8_couldSwap) := goodIn_app (goodIn_of _ (by decide +kernel)) ggX8_swap_X8_couldSwap
set_option maxRecDepth 20000 in
theorem ggX8_swap_X7_at : GoodIn wsX8_swap wsX7_at := goodIn_r _ [22, 23, 24, 21, 25] (by decide +kernel) (by decide +kernel)
set_option maxRecDepth 20000 in
theorem gX8_swap_X7_at : GoodIn wsX8_swap (va_wsS RX8 154 yX7_at wsX7_at) := goodIn_app (goodIn_of _ (by decide +kernel)) ggX8_swap_X7_at
set_option maxRecDepth 20000 in
theorem ggX8_swap_X7_with : GoodIn wsX8_swap wsX7_with := goodIn_r _ [28, 23, 24, 21, 25] (by decide +kernel) (by decide +kernel)
set_option maxRecDepth 20000 in
theorem gX8_swap_X7_with : GoodIn wsX8_swap (va_wsS RX8 144 yX7_with wsX7_with) := goodIn_app (goodIn_of _ (by decide +kernel)) ggX8_swap_X7_with
set_option maxRecDepth 20000 in
theorem ggX8_swap_X4_brokenWishes : GoodIn wsX8_swap wsX4_brokenWishes := goodIn_r _ [65, 66, 37, 20, 21, 22, 23, 24, 25, 67, 68, 69, 32, 70, 71, 72, 73, 74, 75, 76, 77, 78, 79] (by decide +kernel) (by decide +kernel)
set_option maxRecDepth 20000 in
theorem gX8_swap_X4_brokenWishes : GoodIn wsX8_swap (wsV RX8 165 RX4 yX4_brokenWishes wsX4_brokenWishes) := goodIn_app (goodIn_of _ (by decide +kernel)) ggX8_swap_X4_brokenWishes
theorem dX8_swap_0 : decode cX8_swap 0 = .ok (.aload_n 0, 1) := by decide +kernel
theorem dX8_swap_1 : decode cX8_swap 1 = .ok (.iload_n 1, 1) := by decide +kernel
theorem dX8_swap_2 : decode cX8_swap 2 = .ok (.invokevirtual 104, 3) := by decide +kernel
theorem dX8_swap_5 : decode cX8_swap 5 = .ok (.astore 4, 2) := by decide +kernel
theorem dX8_swap_7 : decode cX8_swap 7 = .ok (.aload_n 0, 1) := by decide +kernel
theorem dX8_swap_8 : decode cX8_swap 8 = .ok (.iload_n 2, 1) := by decide +kernel
theorem dX8_swap_9 : decode cX8_swap 9 = .ok (.invokevirtual 104, 3) := by decide +kernel
theorem dX8_swap_12 : decode cX8_swap 12 = .ok (.astore 5, 2) := by decide +kernel
theorem dX8_swap_14 : decode cX8_swap 14 = .ok (.aload 4, 2) := by decide +kernel
theorem dX8_swap_16 : decode cX8_swap 16 = .ok (.ifnull 15, 3) := by decide +kernel
theorem dX8_swap_19 : decode cX8_swap 19 = .ok (.aload 5, 2) := by decide +kernel
theorem dX8_swap_21 : decode cX8_swap 21 = .ok (.ifnull 10, 3) := by decide +kernel
theorem dX8_swap_24 : decode cX8_swap 24 = .ok (.iload_n 3, 1) := by decide +kernel
theorem dX8_swap_25 : decode cX8_swap 25 = .ok (.invokestatic 71, 3) := by decide +kernel
theorem dX8_swap_28 : decode cX8_swap 28 = .ok (.ifCond .ne 13, 3) := by decide +kernel
theorem dX8_swap_31 : decode cX8_swap 31 = .ok (.new 78, 3) := by decide +kernel
theorem dX8_swap_34 : decode cX8_swap 34 = .ok (.dup, 1) := by decide +kernel
theorem dX8_swap_35 : decode cX8_swap 35 = .ok (.ldc 157, 2) := by decide +kernel
theorem dX8_swap_37 : decode cX8_swap 37 = .ok (.invokespecial 82, 3) := by decide +kernel
theorem dX8_swap_40 : decode cX8_swap 40 = .ok (.athrow, 1) := by decide +kernel
theorem dX8_swap_41 : decode cX8_swap 41 = .ok (.aload 4, 2) := by decide +kernel
theorem dX8_swap_43 : decode cX8_swap 43 = .ok (.aload 5, 2) := by decide +kernel
theorem dX8_swap_45 : decode cX8_swap 45 = .ok (.if_acmp .eq 15, 3) := by decide +kernel
theorem dX8_swap_48 : decode cX8_swap 48 = .ok (.aload_n 0, 1) := by decide +kernel
theorem dX8_swap_49 : decode cX8_swap 49 = .ok (.aload 4, 2) := by decide +kernel
theorem dX8_swap_51 : decode cX8_swap 51 = .ok (.aload 5, 2) := by decide +kernel
theorem dX8_swap_53 : decode cX8_swap 53 = .ok (.iload_n 3, 1) := by decide +kernel
theorem dX8_swap_54 : decode cX8_swap 54 = .ok (.invokevirtual 159, 3) := by decide +kernel
theorem dX8_swap_57 : decode cX8_swap 57 = .ok (.ifCond .ne 13, 3) := by decide +kernel
theorem dX8_swap_60 : decode cX8_swap 60 = .ok (.new 63, 3) := by decide +kernel
theorem dX8_swap_63 : decode cX8_swap 63 = .ok (.dup, 1) := by decide +kernel
theorem dX8_swap_64 : decode cX8_swap 64 = .ok (.ldc 163, 2) := by decide +kernel
theorem dX8_swap_66 : decode cX8_swap 66 = .ok (.invokespecial 67, 3) := by decide +kernel
theorem dX8_swap_69 : decode cX8_swap 69 = .ok (.athrow, 1) := by decide +kernel
theorem dX8_swap_70 : decode cX8_swap 70 = .ok (.aload 4, 2) := by decide +kernel
theorem dX8_swap_72 : decode cX8_swap 72 = .ok (.getfield 128, 3) := by decide +kernel
theorem dX8_swap_75 : decode cX8_swap 75 = .ok (.iload_n 3, 1) := by decide +kernel
theorem dX8_swap_76 : decode cX8_swap 76 = .ok (.invokestatic 154, 3) := by decide +kernel
theorem dX8_swap_79 : decode cX8_swap 79 = .ok (.istore 6, 2) := by decide +kernel
theorem dX8_swap_81 : decode cX8_swap 81 = .ok (.aload 4, 2) := by decide +kernel
theorem dX8_swap_83 : decode cX8_swap 83 = .ok (.aload 4, 2) := by decide +kernel
theorem dX8_swap_85 : decode cX8_swap 85 = .ok (.getfield 128, 3) := by decide +kernel
theorem dX8_swap_88 : decode cX8_swap 88 = .ok (.iload_n 3, 1) := by decide +kernel
theorem dX8_swap_89 : decode cX8_swap 89 = .ok (.aload 5, 2) := by decide +kernel
theorem dX8_swap_91 : decode cX8_swap 91 = .ok (.getfield 128, 3) := by decide +kernel
theorem dX8_swap_94 : decode cX8_swap 94 = .ok (.iload_n 3, 1) := by decide +kernel
theorem dX8_swap_95 : decode cX8_swap 95 = .ok (.invokestatic 154, 3) := by decide +kernel
theorem dX8_swap_98 : decode cX8_swap 98 = .ok (.invokestatic 144, 3) := by decide +kernel
theorem dX8_swap_101 : decode cX8_swap 101 = .ok (.putfield 128, 3) := by decide +kernel
theorem dX8_swap_104 : decode cX8_swap 104 = .ok (.aload 5, 2) := by decide +kernel
theorem dX8_swap_106 : decode cX8_swap 106 = .ok (.aload 5, 2) := by decide +kernel
theorem dX8_swap_108 : decode cX8_swap 108 = .ok (.getfield 128, 3) := by decide +kernel
theorem dX8_swap_111 : decode cX8_swap 111 = .ok (.iload_n 3, 1) := by decide +kernel
theorem dX8_swap_112 : decode cX8_swap 112 = .ok (.iload 6, 2) := by decide +kernel
theorem dX8_swap_114 : decode cX8_swap 114 = .ok (.invokestatic 144, 3) := by decide +kernel
theorem dX8_swap_117 : decode cX8_swap 117 = .ok (.putfield 128, 3) := by decide +kernel
theorem dX8_swap_120 : decode cX8_swap 120 = .ok (.aload 4, 2) := by decide +kernel
theorem dX8_swap_122 : decode cX8_swap 122 = .ok (.invokevirtual 165, 3) := by decide +kernel
theorem dX8_swap_125 : decode cX8_swap 125 = .ok (.aload 5, 2) := by decide +kernel
theorem dX8_swap_127 : decode cX8_swap 127 = .ok (.invokevirtual 165, 3) := by decide +kernel
theorem dX8_swap_130 : decode cX8_swap 130 = .ok (.iadd, 1) := by decide +kernel
theorem dX8_swap_131 : decode cX8_swap 131 = .ok (.ireturn, 1) := by decide +kernel
set_option maxRecDepth 20000 in
theorem ggX8_closeWeek_X4_noteWeek : GoodIn wsX8_closeWeek wsX4_noteWeek := goodIn_r _ [7, 8, 9, 10, 11, 12, 13, 14, 15, 16, 17, 18, 19, 20, 21, 22, 23, 24, 34, 35, 36, 37, 38, 39, 40, 41] (by decide +kernel) (by decide +kernel)
set_option maxRecDepth 20000 in
theorem gX8_closeWeek_X4_noteWeek : GoodIn wsX8_closeWeek (wsV RX8 168 RX4 yX4_noteWeek wsX4_noteWeek) := goodIn_app (goodIn_of _ (by decide +kernel)) ggX8_closeWeek_X4_noteWeek
theorem dX8_closeWeek_0 : decode cX8_closeWeek 0 = .ok (.aload_n 0, 1) := by decide +kernel
theorem dX8_closeWeek_1 : decode cX8_closeWeek 1 = .ok (.getfield 11, 3) := by decide +kernel
theorem dX8_closeWeek_4 : decode cX8_closeWeek 4 = .ok (.astore_n 1, 1) := by decide +kernel
theorem dX8_closeWeek_5 : decode cX8_closeWeek 5 = .ok (.aload_n 1, 1) := by decide +kernel
theorem dX8_closeWeek_6 : decode cX8_closeWeek 6 = .ok (.arraylength, 1) := by decide +kernel
theorem dX8_closeWeek_7 : decode cX8_closeWeek 7 = .ok (.istore_n 2, 1) := by decide +kernel
theorem dX8_closeWeek_8 : decode cX8_closeWeek 8 = .ok (.iconst 0, 1) := by decide +kernel
theorem dX8_closeWeek_9 : decode cX8_closeWeek 9 = .ok (.istore_n 3, 1) := by decide +kernel
theorem dX8_closeWeek_10 : decode cX8_closeWeek 10 = .ok (.iload_n 3, 1) := by decide +kernel
theorem dX8_closeWeek_11 : decode cX8_closeWeek 11 = .ok (.iload_n 2, 1) := by decide +kernel
theorem dX8_closeWeek_12 : decode cX8_closeWeek 12 = .ok (.if_icmp .ge 24, 3) := by decide +kernel
theorem dX8_closeWeek_15 : decode cX8_closeWeek 15 = .ok (.aload_n 1, 1) := by decide +kernel
theorem dX8_closeWeek_16 : decode cX8_closeWeek 16 = .ok (.iload_n 3, 1) := by decide +kernel
theorem dX8_closeWeek_17 : decode cX8_closeWeek 17 = .ok (.aaload, 1) := by decide +kernel
theorem dX8_closeWeek_18 : decode cX8_closeWeek 18 = .ok (.astore 4, 2) := by decide +kernel
theorem dX8_closeWeek_20 : decode cX8_closeWeek 20 = .ok (.aload 4, 2) := by decide +kernel
theorem dX8_closeWeek_22 : decode cX8_closeWeek 22 = .ok (.ifnull 8, 3) := by decide +kernel
theorem dX8_closeWeek_25 : decode cX8_closeWeek 25 = .ok (.aload 4, 2) := by decide +kernel
theorem dX8_closeWeek_27 : decode cX8_closeWeek 27 = .ok (.invokevirtual 168, 3) := by decide +kernel
theorem dX8_closeWeek_30 : decode cX8_closeWeek 30 = .ok (.iinc 3 1, 3) := by decide +kernel
theorem dX8_closeWeek_33 : decode cX8_closeWeek 33 = .ok (.goto (-23), 3) := by decide +kernel
theorem dX8_closeWeek_36 : decode cX8_closeWeek 36 = .ok (.aload_n 0, 1) := by decide +kernel
theorem dX8_closeWeek_37 : decode cX8_closeWeek 37 = .ok (.dup, 1) := by decide +kernel
theorem dX8_closeWeek_38 : decode cX8_closeWeek 38 = .ok (.getfield 171, 3) := by decide +kernel
theorem dX8_closeWeek_41 : decode cX8_closeWeek 41 = .ok (.iconst 1, 1) := by decide +kernel
theorem dX8_closeWeek_42 : decode cX8_closeWeek 42 = .ok (.iadd, 1) := by decide +kernel
theorem dX8_closeWeek_43 : decode cX8_closeWeek 43 = .ok (.putfield 171, 3) := by decide +kernel
theorem dX8_closeWeek_46 : decode cX8_closeWeek 46 = .ok (.aload_n 0, 1) := by decide +kernel
theorem dX8_closeWeek_47 : decode cX8_closeWeek 47 = .ok (.getfield 171, 3) := by decide +kernel
theorem dX8_closeWeek_50 : decode cX8_closeWeek 50 = .ok (.ireturn, 1) := by decide +kernel
theorem dX8_people_0 : decode cX8_people 0 = .ok (.aload_n 0, 1) := by decide +kernel
theorem dX8_people_1 : decode cX8_people 1 = .ok (.getfield 59, 3) := by decide +kernel
theorem dX8_people_4 : decode cX8_people 4 = .ok (.ireturn, 1) := by decide +kernel
set_option maxRecDepth 20000 in
theorem ggX8_entry_X8_personAt : GoodIn wsX8_entry wsX8_personAt := goodIn_r _ [7, 8, 27, 28, 29, 30, 31, 32, 33, 34, 35] (by decide +kernel) (by decide +kernel)
set_option maxRecDepth 20000 in
theorem gX8_entry_X8_personAt : GoodIn wsX8_entry (wsV RX8 104 RX8 yX8_personAt wsX8_personAt) := goodIn_app (goodIn_of _ (by decide +kernel)) ggX8_entry_X8_personAt
set_option maxRecDepth 20000 in
theorem ggX8_entry_X8_isDay : GoodIn wsX8_entry wsX8_isDay := goodIn_r _ [11] (by decide +kernel) (by decide +kernel)
set_option maxRecDepth 20000 in
theorem gX8_entry_X8_isDay : GoodIn wsX8_entry (va_wsS RX8 71 yX8_isDay wsX8_isDay) := goodIn_app (goodIn_of _ (by decide +kernel)) ggX8_entry_X8_isDay
set_option maxRecDepth 20000 in
theorem ggX8_entry_X7_at : GoodIn wsX8_entry wsX7_at := goodIn_r _ [15, 16, 17, 14, 18] (by decide +kernel) (by decide +kernel)
set_option maxRecDepth 20000 in
theorem gX8_entry_X7_at : GoodIn wsX8_entry (va_wsS RX8 154 yX7_at wsX7_at) := goodIn_app (goodIn_of _ (by decide +kernel)) ggX8_entry_X7_at
theorem dX8_entry_0 : decode cX8_entry 0 = .ok (.aload_n 0, 1) := by decide +kernel
theorem dX8_entry_1 : decode cX8_entry 1 = .ok (.iload_n 1, 1) := by decide +kernel
theorem dX8_entry_2 : decode cX8_entry 2 = .ok (.invokevirtual 104, 3) := by decide +kernel
theorem dX8_entry_5 : decode cX8_entry 5 = .ok (.astore_n 3, 1) := by decide +kernel
theorem dX8_entry_6 : decode cX8_entry 6 = .ok (.aload_n 3, 1) := by decide +kernel
theorem dX8_entry_7 : decode cX8_entry 7 = .ok (.ifnull 10, 3) := by decide +kernel
theorem dX8_entry_10 : decode cX8_entry 10 = .ok (.iload_n 2, 1) := by decide +kernel
theorem dX8_entry_11 : decode cX8_entry 11 = .ok (.invokestatic 71, 3) := by decide +kernel
theorem dX8_entry_14 : decode cX8_entry 14 = .ok (.ifCond .ne 13, 3) := by decide +kernel
theorem dX8_entry_17 : decode cX8_entry 17 = .ok (.new 78, 3) := by decide +kernel
theorem dX8_entry_20 : decode cX8_entry 20 = .ok (.dup, 1) := by decide +kernel
theorem dX8_entry_21 : decode cX8_entry 21 = .ok (.ldc 108, 2) := by decide +kernel
theorem dX8_entry_23 : decode cX8_entry 23 = .ok (.invokespecial 82, 3) := by decide +kernel
theorem dX8_entry_26 : decode cX8_entry 26 = .ok (.athrow, 1) := by decide +kernel
theorem dX8_entry_27 : decode cX8_entry 27 = .ok (.aload_n 3, 1) := by decide +kernel
theorem dX8_entry_28 : decode cX8_entry 28 = .ok (.getfield 128, 3) := by decide +kernel
theorem dX8_entry_31 : decode cX8_entry 31 = .ok (.iload_n 2, 1) := by decide +kernel
theorem dX8_entry_32 : decode cX8_entry 32 = .ok (.invokestatic 154, 3) := by decide +kernel
theorem dX8_entry_35 : decode cX8_entry 35 = .ok (.ireturn, 1) := by decide +kernel
set_option maxRecDepth 20000 in
theorem ggX8_gaps_X8_allGaps : GoodIn wsX8_gaps wsX8_allGaps := goodIn_r _ [5, 6, 7, 8, 4, 9, 10, 11, 12, 13, 14, 15, 16, 17, 18, 19, 20, 21, 22, 23, 24, 25, 26, 27, 28, 29, 30, 31, 32, 33, 34, 35, 36, 37, 38, 39, 40, 41, 42, 43, 44, 45, 46] (by decide +kernel) (by decide +kernel)
set_option maxRecDepth 20000 in
theorem gX8_gaps_X8_allGaps : GoodIn wsX8_gaps (wsV RX8 138 RX8 yX8_allGaps wsX8_allGaps) := goodIn_app (goodIn_of _ (by decide +kernel)) ggX8_gaps_X8_allGaps
theorem dX8_gaps_0 : decode cX8_gaps 0 = .ok (.aload_n 0, 1) := by decide +kernel
theorem dX8_gaps_1 : decode cX8_gaps 1 = .ok (.invokevirtual 138, 3) := by decide +kernel
theorem dX8_gaps_4 : decode cX8_gaps 4 = .ok (.ireturn, 1) := by decide +kernel
set_option maxRecDepth 20000 in
theorem ggX8_gap_X8_isDay : GoodIn wsX8_gap wsX8_isDay := goodIn_r _ [6] (by decide +kernel) (by decide +kernel)
set_option maxRecDepth 20000 in
theorem gX8_gap_X8_isDay : GoodIn wsX8_gap (va_wsS RX8 71 yX8_isDay wsX8_isDay) := goodIn_app (goodIn_of _ (by decide +kernel)) ggX8_gap_X8_isDay
set_option maxRecDepth 20000 in
theorem ggX8_gap_X8_isKind : GoodIn wsX8_gap wsX8_isKind := goodIn_r _ [9] (by decide +kernel) (by decide +kernel)
set_option maxRecDepth 20000 in
theorem gX8_gap_X8_isKind : GoodIn wsX8_gap (va_wsS RX8 75 yX8_isKind wsX8_isKind) := goodIn_app (goodIn_of _ (by decide +kernel)) ggX8_gap_X8_isKind
set_option maxRecDepth 20000 in
theorem ggX8_gap_X8_gapWithout : GoodIn wsX8_gap wsX8_gapWithout := goodIn_r _ [13, 14, 15, 16, 17, 18, 19, 20, 21, 22, 23, 24, 25, 26, 27, 28, 29, 30, 31, 32, 33, 34, 35, 36, 37, 38, 39, 40, 41, 42, 43, 44, 45, 46, 47, 48, 49, 50] (by decide +kernel) (by decide +kernel)
set_option maxRecDepth 20000 in
theorem gX8_gap_X8_gapWithout : GoodIn wsX8_gap (wsV RX8 174 RX8 yX8_gapWithout wsX8_gapWithout) := goodIn_app (goodIn_of _ (by decide +kernel)) ggX8_gap_X8_gapWithout
theorem dX8_gap_0 : decode cX8_gap 0 = .ok (.iload_n 1, 1) := by decide +kernel
theorem dX8_gap_1 : decode cX8_gap 1 = .ok (.invokestatic 71, 3) := by decide +kernel
theorem dX8_gap_4 : decode cX8_gap 4 = .ok (.ifCond .eq 10, 3) := by decide +kernel
theorem dX8_gap_7 : decode cX8_gap 7 = .ok (.iload_n 2, 1) := by decide +kernel
theorem dX8_gap_8 : decode cX8_gap 8 = .ok (.invokestatic 75, 3) := by decide +kernel
theorem dX8_gap_11 : decode cX8_gap 11 = .ok (.ifCond .ne 13, 3) := by decide +kernel
theorem dX8_gap_14 : decode cX8_gap 14 = .ok (.new 78, 3) := by decide +kernel
theorem dX8_gap_17 : decode cX8_gap 17 = .ok (.dup, 1) := by decide +kernel
theorem dX8_gap_18 : decode cX8_gap 18 = .ok (.ldc 80, 2) := by decide +kernel
theorem dX8_gap_20 : decode cX8_gap 20 = .ok (.invokespecial 82, 3) := by decide +kernel
theorem dX8_gap_23 : decode cX8_gap 23 = .ok (.athrow, 1) := by decide +kernel
theorem dX8_gap_24 : decode cX8_gap 24 = .ok (.aload_n 0, 1) := by decide +kernel
theorem dX8_gap_25 : decode cX8_gap 25 = .ok (.aconst_null, 1) := by decide +kernel
theorem dX8_gap_26 : decode cX8_gap 26 = .ok (.iload_n 1, 1) := by decide +kernel
theorem dX8_gap_27 : decode cX8_gap 27 = .ok (.iload_n 2, 1) := by decide +kernel
theorem dX8_gap_28 : decode cX8_gap 28 = .ok (.invokevirtual 174, 3) := by decide +kernel
theorem dX8_gap_31 : decode cX8_gap 31 = .ok (.ireturn, 1) := by decide +kernel
set_option maxRecDepth 20000 in
theorem ggX8_shifts_X8_personAt : GoodIn wsX8_shifts wsX8_personAt := goodIn_r _ [7, 8, 27, 28, 29, 30, 31, 32, 33, 34, 35] (by decide +kernel) (by decide +kernel)
set_option maxRecDepth 20000 in
theorem gX8_shifts_X8_personAt : GoodIn wsX8_shifts (wsV RX8 104 RX8 yX8_personAt wsX8_personAt) := goodIn_app (goodIn_of _ (by decide +kernel)) ggX8_shifts_X8_personAt
set_option maxRecDepth 20000 in
theorem ggX8_shifts_X7_shiftsFrom : GoodIn wsX8_shifts wsX7_shiftsFrom := goodIn_r _ [12, 13, 14, 11, 15, 16, 17, 18] (by decide +kernel) (by decide +kernel)
set_option maxRecDepth 20000 in
theorem gX8_shifts_X7_shiftsFrom : GoodIn wsX8_shifts (va_wsS RX8 180 yX7_shiftsFrom wsX7_shiftsFrom) := goodIn_app (goodIn_of _ (by decide +kernel)) ggX8_shifts_X7_shiftsFrom
theorem dX8_shifts_0 : decode cX8_shifts 0 = .ok (.aload_n 0, 1) := by decide +kernel
theorem dX8_shifts_1 : decode cX8_shifts 1 = .ok (.iload_n 1, 1) := by decide +kernel
theorem dX8_shifts_2 : decode cX8_shifts 2 = .ok (.invokevirtual 104, 3) := by decide +kernel
theorem dX8_shifts_5 : decode cX8_shifts 5 = .ok (.astore_n 2, 1) := by decide +kernel
theorem dX8_shifts_6 : decode cX8_shifts 6 = .ok (.aload_n 2, 1) := by decide +kernel
theorem dX8_shifts_7 : decode cX8_shifts 7 = .ok (.ifnonnull 13, 3) := by decide +kernel
theorem dX8_shifts_10 : decode cX8_shifts 10 = .ok (.new 78, 3) := by decide +kernel
theorem dX8_shifts_13 : decode cX8_shifts 13 = .ok (.dup, 1) := by decide +kernel
theorem dX8_shifts_14 : decode cX8_shifts 14 = .ok (.ldc 178, 2) := by decide +kernel
theorem dX8_shifts_16 : decode cX8_shifts 16 = .ok (.invokespecial 82, 3) := by decide +kernel
theorem dX8_shifts_19 : decode cX8_shifts 19 = .ok (.athrow, 1) := by decide +kernel
theorem dX8_shifts_20 : decode cX8_shifts 20 = .ok (.aload_n 2, 1) := by decide +kernel
theorem dX8_shifts_21 : decode cX8_shifts 21 = .ok (.getfield 128, 3) := by decide +kernel
theorem dX8_shifts_24 : decode cX8_shifts 24 = .ok (.iconst 0, 1) := by decide +kernel
theorem dX8_shifts_25 : decode cX8_shifts 25 = .ok (.invokestatic 180, 3) := by decide +kernel
theorem dX8_shifts_28 : decode cX8_shifts 28 = .ok (.ireturn, 1) := by decide +kernel
set_option maxRecDepth 20000 in
theorem ggX8_weekends_X8_personAt : GoodIn wsX8_weekends wsX8_personAt := goodIn_r _ [7, 8, 17, 18, 19, 20, 21, 22, 23, 24, 25] (by decide +kernel) (by decide +kernel)
set_option maxRecDepth 20000 in
theorem gX8_weekends_X8_personAt : GoodIn wsX8_weekends (wsV RX8 104 RX8 yX8_personAt wsX8_personAt) := goodIn_app (goodIn_of _ (by decide +kernel)) ggX8_weekends_X8_personAt
theorem dX8_weekends_0 : decode cX8_weekends 0 = .ok (.aload_n 0, 1) := by decide +kernel
theorem dX8_weekends_1 : decode cX8_weekends 1 = .ok (.iload_n 1, 1) := by decide +kernel
theorem dX8_weekends_2 : decode cX8_weekends 2 = .ok (.invokevirtual 104, 3) := by decide +kernel
theorem dX8_weekends_5 : decode cX8_weekends 5 = .ok (.astore_n 2, 1) := by decide +kernel
theorem dX8_weekends_6 : decode cX8_weekends 6 = .ok (.aload_n 2, 1) := by decide +kernel
theorem dX8_weekends_7 : decode cX8_weekends 7 = .ok (.ifnonnull 13, 3) := by decide +kernel
theorem dX8_weekends_10 : decode cX8_weekends 10 = .ok (.new 78, 3) := by decide +kernel
theorem dX8_weekends_13 : decode cX8_weekends 13 = .ok (.dup, 1) := by decide +kernel
theorem dX8_weekends_14 : decode cX8_weekends 14 = .ok (.ldc 178, 2) := by decide +kernel
theorem dX8_weekends_16 : decode cX8_weekends 16 = .ok (.invokespecial 82, 3) := by decide +kernel
theorem dX8_weekends_19 : decode cX8_weekends 19 = .ok (.athrow, 1) := by decide +kernel
theorem dX8_weekends_20 : decode cX8_weekends 20 = .ok (.aload_n 2, 1) := by decide +kernel
theorem dX8_weekends_21 : decode cX8_weekends 21 = .ok (.getfield 183, 3) := by decide +kernel
theorem dX8_weekends_24 : decode cX8_weekends 24 = .ok (.ireturn, 1) := by decide +kernel
set_option maxRecDepth 20000 in
theorem ggX8_broken_X8_personAt : GoodIn wsX8_broken wsX8_personAt := goodIn_r _ [7, 8, 27, 28, 29, 30, 31, 32, 33, 34, 35] (by decide +kernel) (by decide +kernel)
set_option maxRecDepth 20000 in
theorem gX8_broken_X8_personAt : GoodIn wsX8_broken (wsV RX8 104 RX8 yX8_personAt wsX8_personAt) := goodIn_app (goodIn_of _ (by decide +kernel)) ggX8_broken_X8_personAt
set_option maxRecDepth 20000 in
theorem ggX8_broken_X4_brokenWishes : GoodIn wsX8_broken wsX4_brokenWishes := goodIn_r _ [13, 14, 15, 16, 17, 18, 19, 20, 21, 22, 23, 24, 12, 25, 26, 36, 37, 38, 39, 40, 41, 42, 43] (by decide +kernel) (by decide +kernel)
set_option maxRecDepth 20000 in
theorem gX8_broken_X4_brokenWishes : GoodIn wsX8_broken (wsV RX8 165 RX4 yX4_brokenWishes wsX4_brokenWishes) := goodIn_app (goodIn_of _ (by decide +kernel)) ggX8_broken_X4_brokenWishes
theorem dX8_broken_0 : decode cX8_broken 0 = .ok (.aload_n 0, 1) := by decide +kernel
theorem dX8_broken_1 : decode cX8_broken 1 = .ok (.iload_n 1, 1) := by decide +kernel
theorem dX8_broken_2 : decode cX8_broken 2 = .ok (.invokevirtual 104, 3) := by decide +kernel
theorem dX8_broken_5 : decode cX8_broken 5 = .ok (.astore_n 2, 1) := by decide +kernel
theorem dX8_broken_6 : decode cX8_broken 6 = .ok (.aload_n 2, 1) := by decide +kernel
theorem dX8_broken_7 : decode cX8_broken 7 = .ok (.ifnonnull 13, 3) := by decide +kernel
theorem dX8_broken_10 : decode cX8_broken 10 = .ok (.new 78, 3) := by decide +kernel
theorem dX8_broken_13 : decode cX8_broken 13 = .ok (.dup, 1) := by decide +kernel
theorem dX8_broken_14 : decode cX8_broken 14 = .ok (.ldc 178, 2) := by decide +kernel
theorem dX8_broken_16 : decode cX8_broken 16 = .ok (.invokespecial 82, 3) := by decide +kernel
theorem dX8_broken_19 : decode cX8_broken 19 = .ok (.athrow, 1) := by decide +kernel
theorem dX8_broken_20 : decode cX8_broken 20 = .ok (.aload_n 2, 1) := by decide +kernel
theorem dX8_broken_21 : decode cX8_broken 21 = .ok (.invokevirtual 165, 3) := by decide +kernel
theorem dX8_broken_24 : decode cX8_broken 24 = .ok (.ireturn, 1) := by decide +kernel
set_option maxRecDepth 20000 in
theorem ggX8_runBefore_X8_personAt : GoodIn wsX8_runBefore wsX8_personAt := goodIn_r _ [7, 8, 17, 18, 19, 20, 21, 22, 23, 24, 25] (by decide +kernel) (by decide +kernel)
set_option maxRecDepth 20000 in
theorem gX8_runBefore_X8_personAt : GoodIn wsX8_runBefore (wsV RX8 104 RX8 yX8_personAt wsX8_personAt) := goodIn_app (goodIn_of _ (by decide +kernel)) ggX8_runBefore_X8_personAt
theorem dX8_runBefore_0 : decode cX8_runBefore 0 = .ok (.aload_n 0, 1) := by decide +kernel
theorem dX8_runBefore_1 : decode cX8_runBefore 1 = .ok (.iload_n 1, 1) := by decide +kernel
theorem dX8_runBefore_2 : decode cX8_runBefore 2 = .ok (.invokevirtual 104, 3) := by decide +kernel
theorem dX8_runBefore_5 : decode cX8_runBefore 5 = .ok (.astore_n 2, 1) := by decide +kernel
theorem dX8_runBefore_6 : decode cX8_runBefore 6 = .ok (.aload_n 2, 1) := by decide +kernel
theorem dX8_runBefore_7 : decode cX8_runBefore 7 = .ok (.ifnonnull 13, 3) := by decide +kernel
theorem dX8_runBefore_10 : decode cX8_runBefore 10 = .ok (.new 78, 3) := by decide +kernel
theorem dX8_runBefore_13 : decode cX8_runBefore 13 = .ok (.dup, 1) := by decide +kernel
theorem dX8_runBefore_14 : decode cX8_runBefore 14 = .ok (.ldc 178, 2) := by decide +kernel
theorem dX8_runBefore_16 : decode cX8_runBefore 16 = .ok (.invokespecial 82, 3) := by decide +kernel
theorem dX8_runBefore_19 : decode cX8_runBefore 19 = .ok (.athrow, 1) := by decide +kernel
theorem dX8_runBefore_20 : decode cX8_runBefore 20 = .ok (.aload_n 2, 1) := by decide +kernel
theorem dX8_runBefore_21 : decode cX8_runBefore 21 = .ok (.getfield 186, 3) := by decide +kernel
theorem dX8_runBefore_24 : decode cX8_runBefore 24 = .ok (.ireturn, 1) := by decide +kernel
set_option maxRecDepth 20000 in
theorem ggX8_isFeasible_X8_personAt : GoodIn wsX8_isFeasible wsX8_personAt := goodIn_r _ [8, 9, 57, 58, 59, 60, 61, 62, 63, 64, 65] (by decide +kernel) (by decide +kernel)
set_option maxRecDepth 20000 in
theorem gX8_isFeasible_X8_personAt : GoodIn wsX8_isFeasible (wsV RX8 104 RX8 yX8_personAt wsX8_personAt) := goodIn_app (goodIn_of _ (by decide +kernel)) ggX8_isFeasible_X8_personAt
set_option maxRecDepth 20000 in
theorem ggX8_isFeasible_X4_canHave : GoodIn wsX8_isFeasible wsX4_canHave := goodIn_r _ [14, 15, 16, 17, 18, 19, 20, 21, 22, 23, 24, 25, 26, 27, 13, 28, 29, 30, 31, 32, 33, 34, 35, 36, 37, 38, 39, 40, 41, 42, 43, 44, 45, 46, 47, 48, 49, 50, 51, 52, 53, 54, 55, 56, 66, 67] (by decide +kernel) (by decide +kernel)
set_option maxRecDepth 20000 in
theorem gX8_isFeasible_X4_canHave : GoodIn wsX8_isFeasible (wsV RX8 148 RX4 yX4_canHave wsX4_canHave) := goodIn_app (goodIn_of _ (by decide +kernel)) ggX8_isFeasible_X4_canHave
theorem dX8_isFeasible_0 : decode cX8_isFeasible 0 = .ok (.aload_n 0, 1) := by decide +kernel
theorem dX8_isFeasible_1 : decode cX8_isFeasible 1 = .ok (.iload_n 1, 1) := by decide +kernel
theorem dX8_isFeasible_2 : decode cX8_isFeasible 2 = .ok (.invokevirtual 104, 3) := by decide +kernel
theorem dX8_isFeasible_5 : decode cX8_isFeasible 5 = .ok (.astore_n 2, 1) := by decide +kernel
theorem dX8_isFeasible_6 : decode cX8_isFeasible 6 = .ok (.aload_n 2, 1) := by decide +kernel
theorem dX8_isFeasible_7 : decode cX8_isFeasible 7 = .ok (.ifnonnull 13, 3) := by decide +kernel
theorem dX8_isFeasible_10 : decode cX8_isFeasible 10 = .ok (.new 78, 3) := by decide +kernel
theorem dX8_isFeasible_13 : decode cX8_isFeasible 13 = .ok (.dup, 1) := by decide +kernel
theorem dX8_isFeasible_14 : decode cX8_isFeasible 14 = .ok (.ldc 178, 2) := by decide +kernel
theorem dX8_isFeasible_16 : decode cX8_isFeasible 16 = .ok (.invokespecial 82, 3) := by decide +kernel
theorem dX8_isFeasible_19 : decode cX8_isFeasible 19 = .ok (.athrow, 1) := by decide +kernel
theorem dX8_isFeasible_20 : decode cX8_isFeasible 20 = .ok (.aload_n 2, 1) := by decide +kernel
theorem dX8_isFeasible_21 : decode cX8_isFeasible 21 = .ok (.aload_n 2, 1) := by decide +kernel
theorem dX8_isFeasible_22 : decode cX8_isFeasible 22 = .ok (.getfield 128, 3) := by decide +kernel
theorem dX8_isFeasible_25 : decode cX8_isFeasible 25 = .ok (.aload_n 0, 1) := by decide +kernel
theorem dX8_isFeasible_26 : decode cX8_isFeasible 26 = .ok (.getfield 25, 3) := by decide +kernel
theorem dX8_isFeasible_29 : decode cX8_isFeasible 29 = .ok (.invokevirtual 148, 3) := by decide +kernel
theorem dX8_isFeasible_32 : decode cX8_isFeasible 32 = .ok (.ireturn, 1) := by decide +kernel
set_option maxRecDepth 20000 in
theorem ggX8_weeks_X8_personAt : GoodIn wsX8_weeks wsX8_personAt := goodIn_r _ [8, 9, 49, 50, 51, 52, 53, 54, 55, 56, 57] (by decide +kernel) (by decide +kernel)
set_option maxRecDepth 20000 in
theorem gX8_weeks_X8_personAt : GoodIn wsX8_weeks (wsV RX8 104 RX8 yX8_personAt wsX8_personAt) := goodIn_app (goodIn_of _ (by decide +kernel)) ggX8_weeks_X8_personAt
set_option maxRecDepth 20000 in
theorem ggX8_weeks_X4_canHave : GoodIn wsX8_weeks wsX4_canHave := goodIn_r _ [14, 15, 16, 17, 18, 19, 20, 21, 22, 23, 24, 25, 26, 27, 13, 28, 29, 30, 31, 32, 33, 34, 35, 36, 37, 38, 39, 40, 41, 42, 43, 44, 45, 46, 47, 48, 58, 59, 60, 61, 62, 63, 64, 65, 66, 67] (by decide +kernel) (by decide +kernel)
set_option maxRecDepth 20000 in
theorem gX8_weeks_X4_canHave : GoodIn wsX8_weeks (wsV RX8 148 RX4 yX4_canHave wsX4_canHave) := goodIn_app (goodIn_of _ (by decide +kernel)) ggX8_weeks_X4_canHave
theorem dX8_weeks_0 : decode cX8_weeks 0 = .ok (.aload_n 0, 1) := by decide +kernel
theorem dX8_weeks_1 : decode cX8_weeks 1 = .ok (.iload_n 1, 1) := by decide +kernel
theorem dX8_weeks_2 : decode cX8_weeks 2 = .ok (.invokevirtual 104, 3) := by decide +kernel
theorem dX8_weeks_5 : decode cX8_weeks 5 = .ok (.astore_n 2, 1) := by decide +kernel
theorem dX8_weeks_6 : decode cX8_weeks 6 = .ok (.aload_n 2, 1) := by decide +kernel
theorem dX8_weeks_7 : decode cX8_weeks 7 = .ok (.ifnonnull 13, 3) := by decide +kernel
theorem dX8_weeks_10 : decode cX8_weeks 10 = .ok (.new 78, 3) := by decide +kernel
theorem dX8_weeks_13 : decode cX8_weeks 13 = .ok (.dup, 1) := by decide +kernel
theorem dX8_weeks_14 : decode cX8_weeks 14 = .ok (.ldc 178, 2) := by decide +kernel
theorem dX8_weeks_16 : decode cX8_weeks 16 = .ok (.invokespecial 82, 3) := by decide +kernel
theorem dX8_weeks_19 : decode cX8_weeks 19 = .ok (.athrow, 1) := by decide +kernel
theorem dX8_weeks_20 : decode cX8_weeks 20 = .ok (.iconst 0, 1) := by decide +kernel
theorem dX8_weeks_21 : decode cX8_weeks 21 = .ok (.istore_n 3, 1) := by decide +kernel
theorem dX8_weeks_22 : decode cX8_weeks 22 = .ok (.iconst 0, 1) := by decide +kernel
theorem dX8_weeks_23 : decode cX8_weeks 23 = .ok (.istore 4, 2) := by decide +kernel
theorem dX8_weeks_25 : decode cX8_weeks 25 = .ok (.iload 4, 2) := by decide +kernel
theorem dX8_weeks_27 : decode cX8_weeks 27 = .ok (.sipush 16384, 3) := by decide +kernel
theorem dX8_weeks_30 : decode cX8_weeks 30 = .ok (.if_icmp .ge 25, 3) := by decide +kernel
theorem dX8_weeks_33 : decode cX8_weeks 33 = .ok (.aload_n 2, 1) := by decide +kernel
theorem dX8_weeks_34 : decode cX8_weeks 34 = .ok (.iload 4, 2) := by decide +kernel
theorem dX8_weeks_36 : decode cX8_weeks 36 = .ok (.aload_n 0, 1) := by decide +kernel
theorem dX8_weeks_37 : decode cX8_weeks 37 = .ok (.getfield 25, 3) := by decide +kernel
theorem dX8_weeks_40 : decode cX8_weeks 40 = .ok (.invokevirtual 148, 3) := by decide +kernel
theorem dX8_weeks_43 : decode cX8_weeks 43 = .ok (.ifCond .eq 6, 3) := by decide +kernel
theorem dX8_weeks_46 : decode cX8_weeks 46 = .ok (.iinc 3 1, 3) := by decide +kernel
theorem dX8_weeks_49 : decode cX8_weeks 49 = .ok (.iinc 4 1, 3) := by decide +kernel
theorem dX8_weeks_52 : decode cX8_weeks 52 = .ok (.goto (-27), 3) := by decide +kernel
theorem dX8_weeks_55 : decode cX8_weeks 55 = .ok (.iload_n 3, 1) := by decide +kernel
theorem dX8_weeks_56 : decode cX8_weeks 56 = .ok (.ireturn, 1) := by decide +kernel
set_option maxRecDepth 20000 in
theorem ggX8_weeksByDays_X8_personAt : GoodIn wsX8_weeksByDays wsX8_personAt := goodIn_r _ [10, 11, 94, 95, 96, 97, 98, 99, 100, 101, 102] (by decide +kernel) (by decide +kernel)
set_option maxRecDepth 20000 in
theorem gX8_weeksByDays_X8_personAt : GoodIn wsX8_weeksByDays (wsV RX8 104 RX8 yX8_personAt wsX8_personAt) := goodIn_app (goodIn_of _ (by decide +kernel)) ggX8_weeksByDays_X8_personAt
set_option maxRecDepth 20000 in
theorem ggX8_weeksByDays_X1_through : GoodIn wsX8_weeksByDays wsX1_through := goodIn_r _ [16, 17, 18, 19, 20, 21, 22, 23, 24, 25, 26, 27, 28, 29, 30, 31, 32, 33, 34, 35, 36, 37, 38, 15, 39, 40, 41, 42, 43, 44, 45, 46, 47, 48, 49, 50, 51, 52, 53, 54, 55, 56, 57, 58, 59, 60, 61, 62, 63, 64, 65, 66, 67, 68, 69, 70, 71, 72, 73, 74, 75, 76, 77, 78, 79, 80, 81, 82, 83, 84, 85, 86, 87, 88, 89, 90, 91, 92, 93, 103, 104, 105, 106, 107, 108, 109, 110, 111, 112, 113, 114, 115] (by decide +kernel) (by decide +kernel)
set_option maxRecDepth 20000 in
theorem gX8_weeksByDays_X1_through : GoodIn wsX8_weeksByDays (wsV RX8 189 RX1 yX1_through wsX1_through) := goodIn_app (goodIn_of _ (by decide +kernel)) ggX8_weeksByDays_X1_through
theorem dX8_weeksByDays_0 : decode cX8_weeksByDays 0 = .ok (.aload_n 0, 1) := by decide +kernel
theorem dX8_weeksByDays_1 : decode cX8_weeksByDays 1 = .ok (.iload_n 1, 1) := by decide +kernel
theorem dX8_weeksByDays_2 : decode cX8_weeksByDays 2 = .ok (.invokevirtual 104, 3) := by decide +kernel
theorem dX8_weeksByDays_5 : decode cX8_weeksByDays 5 = .ok (.astore_n 2, 1) := by decide +kernel
theorem dX8_weeksByDays_6 : decode cX8_weeksByDays 6 = .ok (.aload_n 2, 1) := by decide +kernel
theorem dX8_weeksByDays_7 : decode cX8_weeksByDays 7 = .ok (.ifnonnull 13, 3) := by decide +kernel
theorem dX8_weeksByDays_10 : decode cX8_weeksByDays 10 = .ok (.new 78, 3) := by decide +kernel
theorem dX8_weeksByDays_13 : decode cX8_weeksByDays 13 = .ok (.dup, 1) := by decide +kernel
theorem dX8_weeksByDays_14 : decode cX8_weeksByDays 14 = .ok (.ldc 178, 2) := by decide +kernel
theorem dX8_weeksByDays_16 : decode cX8_weeksByDays 16 = .ok (.invokespecial 82, 3) := by decide +kernel
theorem dX8_weeksByDays_19 : decode cX8_weeksByDays 19 = .ok (.athrow, 1) := by decide +kernel
theorem dX8_weeksByDays_20 : decode cX8_weeksByDays 20 = .ok (.aload_n 0, 1) := by decide +kernel
theorem dX8_weeksByDays_21 : decode cX8_weeksByDays 21 = .ok (.getfield 32, 3) := by decide +kernel
theorem dX8_weeksByDays_24 : decode cX8_weeksByDays 24 = .ok (.aload_n 2, 1) := by decide +kernel
theorem dX8_weeksByDays_25 : decode cX8_weeksByDays 25 = .ok (.aload_n 0, 1) := by decide +kernel
theorem dX8_weeksByDays_26 : decode cX8_weeksByDays 26 = .ok (.getfield 25, 3) := by decide +kernel
theorem dX8_weeksByDays_29 : decode cX8_weeksByDays 29 = .ok (.aload_n 0, 1) := by decide +kernel
theorem dX8_weeksByDays_30 : decode cX8_weeksByDays 30 = .ok (.getfield 39, 3) := by decide +kernel
theorem dX8_weeksByDays_33 : decode cX8_weeksByDays 33 = .ok (.invokevirtual 189, 3) := by decide +kernel
theorem dX8_weeksByDays_36 : decode cX8_weeksByDays 36 = .ok (.l2i, 1) := by decide +kernel
theorem dX8_weeksByDays_37 : decode cX8_weeksByDays 37 = .ok (.ireturn, 1) := by decide +kernel
set_option maxRecDepth 20000 in
theorem ggX8_couldTake_X8_isDay : GoodIn wsX8_couldTake wsX8_isDay := goodIn_r _ [8] (by decide +kernel) (by decide +kernel)
set_option maxRecDepth 20000 in
theorem gX8_couldTake_X8_isDay : GoodIn wsX8_couldTake (va_wsS RX8 71 yX8_isDay wsX8_isDay) := goodIn_app (goodIn_of _ (by decide +kernel)) ggX8_couldTake_X8_isDay
set_option maxRecDepth 20000 in
theorem ggX8_couldTake_X8_isKind : GoodIn wsX8_couldTake wsX8_isKind := goodIn_r _ [11] (by decide +kernel) (by decide +kernel)
set_option maxRecDepth 20000 in
theorem gX8_couldTake_X8_isKind : GoodIn wsX8_couldTake (va_wsS RX8 75 yX8_isKind wsX8_isKind) := goodIn_app (goodIn_of _ (by decide +kernel)) ggX8_couldTake_X8_isKind
set_option maxRecDepth 20000 in
theorem ggX8_couldTake_X8_personAt : GoodIn wsX8_couldTake wsX8_personAt := goodIn_r _ [15, 16, 60, 61, 62, 63, 64, 65, 66, 67, 68] (by decide +kernel) (by decide +kernel)
set_option maxRecDepth 20000 in
theorem gX8_couldTake_X8_personAt : GoodIn wsX8_couldTake (wsV RX8 104 RX8 yX8_personAt wsX8_personAt) := goodIn_app (goodIn_of _ (by decide +kernel)) ggX8_couldTake_X8_personAt
set_option maxRecDepth 20000 in
theorem ggX8_couldTake_X7_at : GoodIn wsX8_couldTake wsX7_at := goodIn_r _ [20, 21, 22, 19, 23] (by decide +kernel) (by decide +kernel)
set_option maxRecDepth 20000 in
theorem gX8_couldTake_X7_at : GoodIn wsX8_couldTake (va_wsS RX8 154 yX7_at wsX7_at) := goodIn_app (goodIn_of _ (by decide +kernel)) ggX8_couldTake_X7_at
set_option maxRecDepth 20000 in
theorem ggX8_couldTake_X7_with : GoodIn wsX8_couldTake wsX7_with := goodIn_r _ [26, 21, 22, 19, 23] (by decide +kernel) (by decide +kernel)
set_option maxRecDepth 20000 in
theorem gX8_couldTake_X7_with : GoodIn wsX8_couldTake (va_wsS RX8 144 yX7_with wsX7_with) := goodIn_app (goodIn_of _ (by decide +kernel)) ggX8_couldTake_X7_with
set_option maxRecDepth 20000 in
theorem ggX8_couldTake_X4_canHave : GoodIn wsX8_couldTake wsX4_canHave := goodIn_r _ [31, 32, 33, 34, 35, 18, 19, 20, 21, 22, 23, 36, 37, 38, 30, 39, 40, 41, 42, 43, 44, 45, 46, 47, 48, 49, 50, 51, 52, 53, 54, 55, 56, 57, 58, 59, 69, 70, 71, 72, 73, 74, 75, 76, 77, 78] (by decide +kernel) (by decide +kernel)
set_option maxRecDepth 20000 in
theorem gX8_couldTake_X4_canHave : GoodIn wsX8_couldTake (wsV RX8 148 RX4 yX4_canHave wsX4_canHave) := goodIn_app (goodIn_of _ (by decide +kernel)) ggX8_couldTake_X4_canHave
theorem dX8_couldTake_0 : decode cX8_couldTake 0 = .ok (.iload_n 1, 1) := by decide +kernel
theorem dX8_couldTake_1 : decode cX8_couldTake 1 = .ok (.invokestatic 71, 3) := by decide +kernel
theorem dX8_couldTake_4 : decode cX8_couldTake 4 = .ok (.ifCond .eq 10, 3) := by decide +kernel
theorem dX8_couldTake_7 : decode cX8_couldTake 7 = .ok (.iload_n 2, 1) := by decide +kernel
theorem dX8_couldTake_8 : decode cX8_couldTake 8 = .ok (.invokestatic 75, 3) := by decide +kernel
theorem dX8_couldTake_11 : decode cX8_couldTake 11 = .ok (.ifCond .ne 13, 3) := by decide +kernel
theorem dX8_couldTake_14 : decode cX8_couldTake 14 = .ok (.new 78, 3) := by decide +kernel
theorem dX8_couldTake_17 : decode cX8_couldTake 17 = .ok (.dup, 1) := by decide +kernel
theorem dX8_couldTake_18 : decode cX8_couldTake 18 = .ok (.ldc 80, 2) := by decide +kernel
theorem dX8_couldTake_20 : decode cX8_couldTake 20 = .ok (.invokespecial 82, 3) := by decide +kernel
theorem dX8_couldTake_23 : decode cX8_couldTake 23 = .ok (.athrow, 1) := by decide +kernel
theorem dX8_couldTake_24 : decode cX8_couldTake 24 = .ok (.iconst 0, 1) := by decide +kernel
theorem dX8_couldTake_25 : decode cX8_couldTake 25 = .ok (.istore_n 3, 1) := by decide +kernel
theorem dX8_couldTake_26 : decode cX8_couldTake 26 = .ok (.iconst 0, 1) := by decide +kernel
theorem dX8_couldTake_27 : decode cX8_couldTake 27 = .ok (.istore 4, 2) := by decide +kernel
theorem dX8_couldTake_29 : decode cX8_couldTake 29 = .ok (.iload 4, 2) := by decide +kernel
theorem dX8_couldTake_31 : decode cX8_couldTake 31 = .ok (.aload_n 0, 1) := by decide +kernel
theorem dX8_couldTake_32 : decode cX8_couldTake 32 = .ok (.getfield 59, 3) := by decide +kernel
theorem dX8_couldTake_35 : decode cX8_couldTake 35 = .ok (.if_icmp .ge 63, 3) := by decide +kernel
theorem dX8_couldTake_38 : decode cX8_couldTake 38 = .ok (.aload_n 0, 1) := by decide +kernel
theorem dX8_couldTake_39 : decode cX8_couldTake 39 = .ok (.iload 4, 2) := by decide +kernel
theorem dX8_couldTake_41 : decode cX8_couldTake 41 = .ok (.invokevirtual 104, 3) := by decide +kernel
theorem dX8_couldTake_44 : decode cX8_couldTake 44 = .ok (.astore 5, 2) := by decide +kernel
theorem dX8_couldTake_46 : decode cX8_couldTake 46 = .ok (.aload 5, 2) := by decide +kernel
theorem dX8_couldTake_48 : decode cX8_couldTake 48 = .ok (.ifnull 44, 3) := by decide +kernel
theorem dX8_couldTake_51 : decode cX8_couldTake 51 = .ok (.aload 5, 2) := by decide +kernel
theorem dX8_couldTake_53 : decode cX8_couldTake 53 = .ok (.getfield 128, 3) := by decide +kernel
theorem dX8_couldTake_56 : decode cX8_couldTake 56 = .ok (.iload_n 1, 1) := by decide +kernel
theorem dX8_couldTake_57 : decode cX8_couldTake 57 = .ok (.invokestatic 154, 3) := by decide +kernel
theorem dX8_couldTake_60 : decode cX8_couldTake 60 = .ok (.ifCond .ne 32, 3) := by decide +kernel
theorem dX8_couldTake_63 : decode cX8_couldTake 63 = .ok (.aload 5, 2) := by decide +kernel
theorem dX8_couldTake_65 : decode cX8_couldTake 65 = .ok (.aload 5, 2) := by decide +kernel
theorem dX8_couldTake_67 : decode cX8_couldTake 67 = .ok (.getfield 128, 3) := by decide +kernel
theorem dX8_couldTake_70 : decode cX8_couldTake 70 = .ok (.iload_n 1, 1) := by decide +kernel
theorem dX8_couldTake_71 : decode cX8_couldTake 71 = .ok (.iload_n 2, 1) := by decide +kernel
theorem dX8_couldTake_72 : decode cX8_couldTake 72 = .ok (.invokestatic 144, 3) := by decide +kernel
theorem dX8_couldTake_75 : decode cX8_couldTake 75 = .ok (.aload_n 0, 1) := by decide +kernel
theorem dX8_couldTake_76 : decode cX8_couldTake 76 = .ok (.getfield 25, 3) := by decide +kernel
theorem dX8_couldTake_79 : decode cX8_couldTake 79 = .ok (.invokevirtual 148, 3) := by decide +kernel
theorem dX8_couldTake_82 : decode cX8_couldTake 82 = .ok (.ifCond .eq 10, 3) := by decide +kernel
theorem dX8_couldTake_85 : decode cX8_couldTake 85 = .ok (.iload_n 3, 1) := by decide +kernel
theorem dX8_couldTake_86 : decode cX8_couldTake 86 = .ok (.iconst 1, 1) := by decide +kernel
theorem dX8_couldTake_87 : decode cX8_couldTake 87 = .ok (.iload 4, 2) := by decide +kernel
theorem dX8_couldTake_89 : decode cX8_couldTake 89 = .ok (.ishl, 1) := by decide +kernel
theorem dX8_couldTake_90 : decode cX8_couldTake 90 = .ok (.ior, 1) := by decide +kernel
theorem dX8_couldTake_91 : decode cX8_couldTake 91 = .ok (.istore_n 3, 1) := by decide +kernel
theorem dX8_couldTake_92 : decode cX8_couldTake 92 = .ok (.iinc 4 1, 3) := by decide +kernel
theorem dX8_couldTake_95 : decode cX8_couldTake 95 = .ok (.goto (-66), 3) := by decide +kernel
theorem dX8_couldTake_98 : decode cX8_couldTake 98 = .ok (.iload_n 3, 1) := by decide +kernel
theorem dX8_couldTake_99 : decode cX8_couldTake 99 = .ok (.ireturn, 1) := by decide +kernel
set_option maxRecDepth 20000 in
theorem ggX8_swapFor_X8_personAt : GoodIn wsX8_swapFor wsX8_personAt := goodIn_r _ [8, 9, 62, 63, 64, 65, 66, 67, 68, 69, 70] (by decide +kernel) (by decide +kernel)
set_option maxRecDepth 20000 in
theorem gX8_swapFor_X8_personAt : GoodIn wsX8_swapFor (wsV RX8 104 RX8 yX8_personAt wsX8_personAt) := goodIn_app (goodIn_of _ (by decide +kernel)) ggX8_swapFor_X8_personAt
set_option maxRecDepth 20000 in
theorem ggX8_swapFor_X8_isDay : GoodIn wsX8_swapFor wsX8_isDay := goodIn_r _ [12] (by decide +kernel) (by decide +kernel)
set_option maxRecDepth 20000 in
theorem gX8_swapFor_X8_isDay : GoodIn wsX8_swapFor (va_wsS RX8 71 yX8_isDay wsX8_isDay) := goodIn_app (goodIn_of _ (by decide +kernel)) ggX8_swapFor_X8_isDay
set_option maxRecDepth 20000 in
theorem ggX8_swapFor_X7_at : GoodIn wsX8_swapFor wsX7_at := goodIn_r _ [16, 17, 18, 15, 19] (by decide +kernel) (by decide +kernel)
set_option maxRecDepth 20000 in
theorem gX8_swapFor_X7_at : GoodIn wsX8_swapFor (va_wsS RX8 154 yX7_at wsX7_at) := goodIn_app (goodIn_of _ (by decide +kernel)) ggX8_swapFor_X7_at
set_option maxRecDepth 20000 in
theorem ggX8_swapFor_X7_shiftsFrom : GoodIn wsX8_swapFor wsX7_shiftsFrom := goodIn_r _ [22, 23, 14, 15, 16, 17, 18, 19] (by decide +kernel) (by decide +kernel)
set_option maxRecDepth 20000 in
theorem gX8_swapFor_X7_shiftsFrom : GoodIn wsX8_swapFor (va_wsS RX8 180 yX7_shiftsFrom wsX7_shiftsFrom) := goodIn_app (goodIn_of _ (by decide +kernel)) ggX8_swapFor_X7_shiftsFrom
set_option maxRecDepth 20000 in
theorem ggX8_swapFor_X8_couldSwap : GoodIn wsX8_swapFor wsX8_couldSwap := goodIn_r _ [27, 28, 13, 14, 15, 16, 17, 18, 19, 29, 30, 31, 32, 33, 34, 35, 36, 37, 38, 39, 40, 41, 42, 43, 44, 45, 46, 47, 48, 49, 50, 51, 52, 53, 54, 55, 56, 57, 58, 59, 60, 61, 21, 22, 23, 71, 72, 73, 74, 75, 76, 77, 78, 62, 63, 64, 65, 66, 67, 68, 69, 70, 79, 80] (by decide +kernel) (by decide +kernel)
set_option maxRecDepth 20000 in
theorem gX8_swapFor_X8_couldSwap : GoodIn wsX8_swapFor (wsV RX8 159 RX8 yX8_couldSwap wsX8_couldSwap) := goodIn_app (goodIn_of _ (by decide +kernel)) ggX8_swapFor_X8_couldSwap
theorem dX8_swapFor_0 : decode cX8_swapFor 0 = .ok (.aload_n 0, 1) := by decide +kernel
theorem dX8_swapFor_1 : decode cX8_swapFor 1 = .ok (.iload_n 1, 1) := by decide +kernel
theorem dX8_swapFor_2 : decode cX8_swapFor 2 = .ok (.invokevirtual 104, 3) := by decide +kernel
theorem dX8_swapFor_5 : decode cX8_swapFor 5 = .ok (.astore_n 3, 1) := by decide +kernel
theorem dX8_swapFor_6 : decode cX8_swapFor 6 = .ok (.aload_n 3, 1) := by decide +kernel
theorem dX8_swapFor_7 : decode cX8_swapFor 7 = .ok (.ifnull 10, 3) := by decide +kernel
theorem dX8_swapFor_10 : decode cX8_swapFor 10 = .ok (.iload_n 2, 1) := by decide +kernel
theorem dX8_swapFor_11 : decode cX8_swapFor 11 = .ok (.invokestatic 71, 3) := by decide +kernel
theorem dX8_swapFor_14 : decode cX8_swapFor 14 = .ok (.ifCond .ne 13, 3) := by decide +kernel
theorem dX8_swapFor_17 : decode cX8_swapFor 17 = .ok (.new 78, 3) := by decide +kernel
theorem dX8_swapFor_20 : decode cX8_swapFor 20 = .ok (.dup, 1) := by decide +kernel
theorem dX8_swapFor_21 : decode cX8_swapFor 21 = .ok (.ldc 108, 2) := by decide +kernel
theorem dX8_swapFor_23 : decode cX8_swapFor 23 = .ok (.invokespecial 82, 3) := by decide +kernel
theorem dX8_swapFor_26 : decode cX8_swapFor 26 = .ok (.athrow, 1) := by decide +kernel
theorem dX8_swapFor_27 : decode cX8_swapFor 27 = .ok (.iconst (-1), 1) := by decide +kernel
theorem dX8_swapFor_28 : decode cX8_swapFor 28 = .ok (.istore 4, 2) := by decide +kernel
theorem dX8_swapFor_30 : decode cX8_swapFor 30 = .ok (.bipush 8, 2) := by decide +kernel
theorem dX8_swapFor_32 : decode cX8_swapFor 32 = .ok (.istore 5, 2) := by decide +kernel
theorem dX8_swapFor_34 : decode cX8_swapFor 34 = .ok (.iconst 0, 1) := by decide +kernel
theorem dX8_swapFor_35 : decode cX8_swapFor 35 = .ok (.istore 6, 2) := by decide +kernel
theorem dX8_swapFor_37 : decode cX8_swapFor 37 = .ok (.iload 6, 2) := by decide +kernel
theorem dX8_swapFor_39 : decode cX8_swapFor 39 = .ok (.aload_n 0, 1) := by decide +kernel
theorem dX8_swapFor_40 : decode cX8_swapFor 40 = .ok (.getfield 59, 3) := by decide +kernel
theorem dX8_swapFor_43 : decode cX8_swapFor 43 = .ok (.if_icmp .ge 82, 3) := by decide +kernel
theorem dX8_swapFor_46 : decode cX8_swapFor 46 = .ok (.aload_n 0, 1) := by decide +kernel
theorem dX8_swapFor_47 : decode cX8_swapFor 47 = .ok (.iload 6, 2) := by decide +kernel
theorem dX8_swapFor_49 : decode cX8_swapFor 49 = .ok (.invokevirtual 104, 3) := by decide +kernel
theorem dX8_swapFor_52 : decode cX8_swapFor 52 = .ok (.astore 7, 2) := by decide +kernel
theorem dX8_swapFor_54 : decode cX8_swapFor 54 = .ok (.aload 7, 2) := by decide +kernel
theorem dX8_swapFor_56 : decode cX8_swapFor 56 = .ok (.ifnull 63, 3) := by decide +kernel
theorem dX8_swapFor_59 : decode cX8_swapFor 59 = .ok (.aload 7, 2) := by decide +kernel
theorem dX8_swapFor_61 : decode cX8_swapFor 61 = .ok (.getfield 128, 3) := by decide +kernel
theorem dX8_swapFor_64 : decode cX8_swapFor 64 = .ok (.iload_n 2, 1) := by decide +kernel
theorem dX8_swapFor_65 : decode cX8_swapFor 65 = .ok (.invokestatic 154, 3) := by decide +kernel
theorem dX8_swapFor_68 : decode cX8_swapFor 68 = .ok (.aload_n 3, 1) := by decide +kernel
theorem dX8_swapFor_69 : decode cX8_swapFor 69 = .ok (.getfield 128, 3) := by decide +kernel
theorem dX8_swapFor_72 : decode cX8_swapFor 72 = .ok (.iload_n 2, 1) := by decide +kernel
theorem dX8_swapFor_73 : decode cX8_swapFor 73 = .ok (.invokestatic 154, 3) := by decide +kernel
theorem dX8_swapFor_76 : decode cX8_swapFor 76 = .ok (.if_icmp .ne 6, 3) := by decide +kernel
theorem dX8_swapFor_79 : decode cX8_swapFor 79 = .ok (.goto 40, 3) := by decide +kernel
theorem dX8_swapFor_82 : decode cX8_swapFor 82 = .ok (.aload 7, 2) := by decide +kernel
theorem dX8_swapFor_84 : decode cX8_swapFor 84 = .ok (.getfield 128, 3) := by decide +kernel
theorem dX8_swapFor_87 : decode cX8_swapFor 87 = .ok (.iconst 0, 1) := by decide +kernel
theorem dX8_swapFor_88 : decode cX8_swapFor 88 = .ok (.invokestatic 180, 3) := by decide +kernel
theorem dX8_swapFor_91 : decode cX8_swapFor 91 = .ok (.istore 8, 2) := by decide +kernel
theorem dX8_swapFor_93 : decode cX8_swapFor 93 = .ok (.iload 8, 2) := by decide +kernel
theorem dX8_swapFor_95 : decode cX8_swapFor 95 = .ok (.iload 5, 2) := by decide +kernel
theorem dX8_swapFor_97 : decode cX8_swapFor 97 = .ok (.if_icmp .ge 22, 3) := by decide +kernel
theorem dX8_swapFor_100 : decode cX8_swapFor 100 = .ok (.aload_n 0, 1) := by decide +kernel
theorem dX8_swapFor_101 : decode cX8_swapFor 101 = .ok (.aload_n 3, 1) := by decide +kernel
theorem dX8_swapFor_102 : decode cX8_swapFor 102 = .ok (.aload 7, 2) := by decide +kernel
theorem dX8_swapFor_104 : decode cX8_swapFor 104 = .ok (.iload_n 2, 1) := by decide +kernel
theorem dX8_swapFor_105 : decode cX8_swapFor 105 = .ok (.invokevirtual 159, 3) := by decide +kernel
theorem dX8_swapFor_108 : decode cX8_swapFor 108 = .ok (.ifCond .eq 11, 3) := by decide +kernel
theorem dX8_swapFor_111 : decode cX8_swapFor 111 = .ok (.iload 6, 2) := by decide +kernel
theorem dX8_swapFor_113 : decode cX8_swapFor 113 = .ok (.istore 4, 2) := by decide +kernel
theorem dX8_swapFor_115 : decode cX8_swapFor 115 = .ok (.iload 8, 2) := by decide +kernel
theorem dX8_swapFor_117 : decode cX8_swapFor 117 = .ok (.istore 5, 2) := by decide +kernel
theorem dX8_swapFor_119 : decode cX8_swapFor 119 = .ok (.iinc 6 1, 3) := by decide +kernel
theorem dX8_swapFor_122 : decode cX8_swapFor 122 = .ok (.goto (-85), 3) := by decide +kernel
theorem dX8_swapFor_125 : decode cX8_swapFor 125 = .ok (.iload 4, 2) := by decide +kernel
theorem dX8_swapFor_127 : decode cX8_swapFor 127 = .ok (.ireturn, 1) := by decide +kernel
set_option maxRecDepth 20000 in
theorem ggX8_bound_X8_leastGapsOf : GoodIn wsX8_bound wsX8_leastGapsOf := goodIn_r _ [5, 6, 7, 8, 9, 10, 11, 12, 13, 4, 14, 15, 16, 17, 18, 19, 20, 21, 22, 23, 24, 25, 26, 27, 28, 29, 30, 31, 32, 33, 34, 35, 36, 37, 38, 39] (by decide +kernel) (by decide +kernel)
set_option maxRecDepth 20000 in
theorem gX8_bound_X8_leastGapsOf : GoodIn wsX8_bound (wsV RX8 193 RX8 yX8_leastGapsOf wsX8_leastGapsOf) := goodIn_app (goodIn_of _ (by decide +kernel)) ggX8_bound_X8_leastGapsOf
theorem dX8_bound_0 : decode cX8_bound 0 = .ok (.iconst 0, 1) := by decide +kernel
theorem dX8_bound_1 : decode cX8_bound 1 = .ok (.istore_n 1, 1) := by decide +kernel
theorem dX8_bound_2 : decode cX8_bound 2 = .ok (.iconst 0, 1) := by decide +kernel
theorem dX8_bound_3 : decode cX8_bound 3 = .ok (.istore_n 2, 1) := by decide +kernel
theorem dX8_bound_4 : decode cX8_bound 4 = .ok (.iload_n 2, 1) := by decide +kernel
theorem dX8_bound_5 : decode cX8_bound 5 = .ok (.bipush 7, 2) := by decide +kernel
theorem dX8_bound_7 : decode cX8_bound 7 = .ok (.if_icmp .ge 17, 3) := by decide +kernel
theorem dX8_bound_10 : decode cX8_bound 10 = .ok (.iload_n 1, 1) := by decide +kernel
theorem dX8_bound_11 : decode cX8_bound 11 = .ok (.aload_n 0, 1) := by decide +kernel
theorem dX8_bound_12 : decode cX8_bound 12 = .ok (.iload_n 2, 1) := by decide +kernel
theorem dX8_bound_13 : decode cX8_bound 13 = .ok (.invokevirtual 193, 3) := by decide +kernel
theorem dX8_bound_16 : decode cX8_bound 16 = .ok (.iadd, 1) := by decide +kernel
theorem dX8_bound_17 : decode cX8_bound 17 = .ok (.istore_n 1, 1) := by decide +kernel
theorem dX8_bound_18 : decode cX8_bound 18 = .ok (.iinc 2 1, 3) := by decide +kernel
theorem dX8_bound_21 : decode cX8_bound 21 = .ok (.goto (-17), 3) := by decide +kernel
theorem dX8_bound_24 : decode cX8_bound 24 = .ok (.iload_n 1, 1) := by decide +kernel
theorem dX8_bound_25 : decode cX8_bound 25 = .ok (.ireturn, 1) := by decide +kernel
theorem dX8_isDay_0 : decode cX8_isDay 0 = .ok (.iload_n 0, 1) := by decide +kernel
theorem dX8_isDay_1 : decode cX8_isDay 1 = .ok (.ifCond .lt 13, 3) := by decide +kernel
theorem dX8_isDay_4 : decode cX8_isDay 4 = .ok (.iload_n 0, 1) := by decide +kernel
theorem dX8_isDay_5 : decode cX8_isDay 5 = .ok (.bipush 7, 2) := by decide +kernel
theorem dX8_isDay_7 : decode cX8_isDay 7 = .ok (.if_icmp .ge 7, 3) := by decide +kernel
theorem dX8_isDay_10 : decode cX8_isDay 10 = .ok (.iconst 1, 1) := by decide +kernel
theorem dX8_isDay_11 : decode cX8_isDay 11 = .ok (.goto 4, 3) := by decide +kernel
theorem dX8_isDay_14 : decode cX8_isDay 14 = .ok (.iconst 0, 1) := by decide +kernel
theorem dX8_isDay_15 : decode cX8_isDay 15 = .ok (.ireturn, 1) := by decide +kernel
theorem dX8_isEntry_0 : decode cX8_isEntry 0 = .ok (.iload_n 0, 1) := by decide +kernel
theorem dX8_isEntry_1 : decode cX8_isEntry 1 = .ok (.ifCond .lt 12, 3) := by decide +kernel
theorem dX8_isEntry_4 : decode cX8_isEntry 4 = .ok (.iload_n 0, 1) := by decide +kernel
theorem dX8_isEntry_5 : decode cX8_isEntry 5 = .ok (.iconst 3, 1) := by decide +kernel
theorem dX8_isEntry_6 : decode cX8_isEntry 6 = .ok (.if_icmp .gt 7, 3) := by decide +kernel
theorem dX8_isEntry_9 : decode cX8_isEntry 9 = .ok (.iconst 1, 1) := by decide +kernel
theorem dX8_isEntry_10 : decode cX8_isEntry 10 = .ok (.goto 4, 3) := by decide +kernel
theorem dX8_isEntry_13 : decode cX8_isEntry 13 = .ok (.iconst 0, 1) := by decide +kernel
theorem dX8_isEntry_14 : decode cX8_isEntry 14 = .ok (.ireturn, 1) := by decide +kernel
theorem dX8_isKind_0 : decode cX8_isKind 0 = .ok (.iload_n 0, 1) := by decide +kernel
theorem dX8_isKind_1 : decode cX8_isKind 1 = .ok (.iconst 1, 1) := by decide +kernel
theorem dX8_isKind_2 : decode cX8_isKind 2 = .ok (.if_icmp .lt 12, 3) := by decide +kernel
theorem dX8_isKind_5 : decode cX8_isKind 5 = .ok (.iload_n 0, 1) := by decide +kernel
theorem dX8_isKind_6 : decode cX8_isKind 6 = .ok (.iconst 3, 1) := by decide +kernel
theorem dX8_isKind_7 : decode cX8_isKind 7 = .ok (.if_icmp .gt 7, 3) := by decide +kernel
theorem dX8_isKind_10 : decode cX8_isKind 10 = .ok (.iconst 1, 1) := by decide +kernel
theorem dX8_isKind_11 : decode cX8_isKind 11 = .ok (.goto 4, 3) := by decide +kernel
theorem dX8_isKind_14 : decode cX8_isKind 14 = .ok (.iconst 0, 1) := by decide +kernel
theorem dX8_isKind_15 : decode cX8_isKind 15 = .ok (.ireturn, 1) := by decide +kernel
theorem dX8_personAt_0 : decode cX8_personAt 0 = .ok (.iload_n 1, 1) := by decide +kernel
theorem dX8_personAt_1 : decode cX8_personAt 1 = .ok (.ifCond .lt 12, 3) := by decide +kernel
theorem dX8_personAt_4 : decode cX8_personAt 4 = .ok (.iload_n 1, 1) := by decide +kernel
theorem dX8_personAt_5 : decode cX8_personAt 5 = .ok (.aload_n 0, 1) := by decide +kernel
theorem dX8_personAt_6 : decode cX8_personAt 6 = .ok (.getfield 11, 3) := by decide +kernel
theorem dX8_personAt_9 : decode cX8_personAt 9 = .ok (.arraylength, 1) := by decide +kernel
theorem dX8_personAt_10 : decode cX8_personAt 10 = .ok (.if_icmp .lt 7, 3) := by decide +kernel
theorem dX8_personAt_13 : decode cX8_personAt 13 = .ok (.aconst_null, 1) := by decide +kernel
theorem dX8_personAt_14 : decode cX8_personAt 14 = .ok (.goto 9, 3) := by decide +kernel
theorem dX8_personAt_17 : decode cX8_personAt 17 = .ok (.aload_n 0, 1) := by decide +kernel
theorem dX8_personAt_18 : decode cX8_personAt 18 = .ok (.getfield 11, 3) := by decide +kernel
theorem dX8_personAt_21 : decode cX8_personAt 21 = .ok (.iload_n 1, 1) := by decide +kernel
theorem dX8_personAt_22 : decode cX8_personAt 22 = .ok (.aaload, 1) := by decide +kernel
theorem dX8_personAt_23 : decode cX8_personAt 23 = .ok (.areturn, 1) := by decide +kernel
set_option maxRecDepth 20000 in
theorem ggX8_couldSwap_X7_at : GoodIn wsX8_couldSwap wsX7_at := goodIn_r _ [5, 6, 7, 4, 8] (by decide +kernel) (by decide +kernel)
set_option maxRecDepth 20000 in
theorem gX8_couldSwap_X7_at : GoodIn wsX8_couldSwap (va_wsS RX8 154 yX7_at wsX7_at) := goodIn_app (goodIn_of _ (by decide +kernel)) ggX8_couldSwap_X7_at
set_option maxRecDepth 20000 in
theorem ggX8_couldSwap_X7_with : GoodIn wsX8_couldSwap wsX7_with := goodIn_r _ [11, 6, 7, 4, 8] (by decide +kernel) (by decide +kernel)
set_option maxRecDepth 20000 in
theorem gX8_couldSwap_X7_with : GoodIn wsX8_couldSwap (va_wsS RX8 144 yX7_with wsX7_with) := goodIn_app (goodIn_of _ (by decide +kernel)) ggX8_couldSwap_X7_with
set_option maxRecDepth 20000 in
theorem ggX8_couldSwap_X4_canHave : GoodIn wsX8_couldSwap wsX4_canHave := goodIn_r _ [16, 17, 18, 19, 20, 3, 4, 5, 6, 7, 8, 21, 22, 23, 15, 24, 25, 26, 27, 28, 29, 30, 31, 32, 33, 34, 35, 36, 37, 38, 39, 40, 41, 42, 43, 44, 45, 46, 47, 48, 49, 50, 51, 52, 62, 63] (by decide +kernel) (by decide +kernel)
set_option maxRecDepth 20000 in
theorem gX8_couldSwap_X4_canHave : GoodIn wsX8_couldSwap (wsV RX8 148 RX4 yX4_canHave wsX4_canHave) := goodIn_app (goodIn_of _ (by decide +kernel)) ggX8_couldSwap_X4_canHave
theorem dX8_couldSwap_0 : decode cX8_couldSwap 0 = .ok (.aload_n 1, 1) := by decide +kernel
theorem dX8_couldSwap_1 : decode cX8_couldSwap 1 = .ok (.getfield 128, 3) := by decide +kernel
theorem dX8_couldSwap_4 : decode cX8_couldSwap 4 = .ok (.iload_n 3, 1) := by decide +kernel
theorem dX8_couldSwap_5 : decode cX8_couldSwap 5 = .ok (.aload_n 2, 1) := by decide +kernel
theorem dX8_couldSwap_6 : decode cX8_couldSwap 6 = .ok (.getfield 128, 3) := by decide +kernel
theorem dX8_couldSwap_9 : decode cX8_couldSwap 9 = .ok (.iload_n 3, 1) := by decide +kernel
theorem dX8_couldSwap_10 : decode cX8_couldSwap 10 = .ok (.invokestatic 154, 3) := by decide +kernel
theorem dX8_couldSwap_13 : decode cX8_couldSwap 13 = .ok (.invokestatic 144, 3) := by decide +kernel
theorem dX8_couldSwap_16 : decode cX8_couldSwap 16 = .ok (.istore 4, 2) := by decide +kernel
theorem dX8_couldSwap_18 : decode cX8_couldSwap 18 = .ok (.aload_n 2, 1) := by decide +kernel
theorem dX8_couldSwap_19 : decode cX8_couldSwap 19 = .ok (.getfield 128, 3) := by decide +kernel
theorem dX8_couldSwap_22 : decode cX8_couldSwap 22 = .ok (.iload_n 3, 1) := by decide +kernel
theorem dX8_couldSwap_23 : decode cX8_couldSwap 23 = .ok (.aload_n 1, 1) := by decide +kernel
theorem dX8_couldSwap_24 : decode cX8_couldSwap 24 = .ok (.getfield 128, 3) := by decide +kernel
theorem dX8_couldSwap_27 : decode cX8_couldSwap 27 = .ok (.iload_n 3, 1) := by decide +kernel
theorem dX8_couldSwap_28 : decode cX8_couldSwap 28 = .ok (.invokestatic 154, 3) := by decide +kernel
theorem dX8_couldSwap_31 : decode cX8_couldSwap 31 = .ok (.invokestatic 144, 3) := by decide +kernel
theorem dX8_couldSwap_34 : decode cX8_couldSwap 34 = .ok (.istore 5, 2) := by decide +kernel
theorem dX8_couldSwap_36 : decode cX8_couldSwap 36 = .ok (.aload_n 1, 1) := by decide +kernel
theorem dX8_couldSwap_37 : decode cX8_couldSwap 37 = .ok (.iload 4, 2) := by decide +kernel
theorem dX8_couldSwap_39 : decode cX8_couldSwap 39 = .ok (.aload_n 0, 1) := by decide +kernel
theorem dX8_couldSwap_40 : decode cX8_couldSwap 40 = .ok (.getfield 25, 3) := by decide +kernel
theorem dX8_couldSwap_43 : decode cX8_couldSwap 43 = .ok (.invokevirtual 148, 3) := by decide +kernel
theorem dX8_couldSwap_46 : decode cX8_couldSwap 46 = .ok (.ifCond .eq 20, 3) := by decide +kernel
theorem dX8_couldSwap_49 : decode cX8_couldSwap 49 = .ok (.aload_n 2, 1) := by decide +kernel
theorem dX8_couldSwap_50 : decode cX8_couldSwap 50 = .ok (.iload 5, 2) := by decide +kernel
theorem dX8_couldSwap_52 : decode cX8_couldSwap 52 = .ok (.aload_n 0, 1) := by decide +kernel
theorem dX8_couldSwap_53 : decode cX8_couldSwap 53 = .ok (.getfield 25, 3) := by decide +kernel
theorem dX8_couldSwap_56 : decode cX8_couldSwap 56 = .ok (.invokevirtual 148, 3) := by decide +kernel
theorem dX8_couldSwap_59 : decode cX8_couldSwap 59 = .ok (.ifCond .eq 7, 3) := by decide +kernel
theorem dX8_couldSwap_62 : decode cX8_couldSwap 62 = .ok (.iconst 1, 1) := by decide +kernel
theorem dX8_couldSwap_63 : decode cX8_couldSwap 63 = .ok (.goto 4, 3) := by decide +kernel
theorem dX8_couldSwap_66 : decode cX8_couldSwap 66 = .ok (.iconst 0, 1) := by decide +kernel
theorem dX8_couldSwap_67 : decode cX8_couldSwap 67 = .ok (.ireturn, 1) := by decide +kernel
set_option maxRecDepth 20000 in
theorem ggX8_allGaps_X8_gapWithout : GoodIn wsX8_allGaps wsX8_gapWithout := goodIn_r _ [5, 6, 7, 8, 9, 10, 11, 12, 13, 14, 15, 16, 17, 18, 19, 20, 21, 22, 23, 24, 25, 26, 27, 28, 29, 30, 31, 32, 33, 34, 35, 36, 37, 38, 39, 40, 41, 42] (by decide +kernel) (by decide +kernel)
set_option maxRecDepth 20000 in
theorem gX8_allGaps_X8_gapWithout : GoodIn wsX8_allGaps (wsV RX8 174 RX8 yX8_gapWithout wsX8_gapWithout) := goodIn_app (goodIn_of _ (by decide +kernel)) ggX8_allGaps_X8_gapWithout
theorem dX8_allGaps_0 : decode cX8_allGaps 0 = .ok (.iconst 0, 1) := by decide +kernel
theorem dX8_allGaps_1 : decode cX8_allGaps 1 = .ok (.istore_n 1, 1) := by decide +kernel
theorem dX8_allGaps_2 : decode cX8_allGaps 2 = .ok (.iconst 0, 1) := by decide +kernel
theorem dX8_allGaps_3 : decode cX8_allGaps 3 = .ok (.istore_n 2, 1) := by decide +kernel
theorem dX8_allGaps_4 : decode cX8_allGaps 4 = .ok (.iload_n 2, 1) := by decide +kernel
theorem dX8_allGaps_5 : decode cX8_allGaps 5 = .ok (.bipush 7, 2) := by decide +kernel
theorem dX8_allGaps_7 : decode cX8_allGaps 7 = .ok (.if_icmp .ge 32, 3) := by decide +kernel
theorem dX8_allGaps_10 : decode cX8_allGaps 10 = .ok (.iconst 1, 1) := by decide +kernel
theorem dX8_allGaps_11 : decode cX8_allGaps 11 = .ok (.istore_n 3, 1) := by decide +kernel
theorem dX8_allGaps_12 : decode cX8_allGaps 12 = .ok (.iload_n 3, 1) := by decide +kernel
theorem dX8_allGaps_13 : decode cX8_allGaps 13 = .ok (.iconst 3, 1) := by decide +kernel
theorem dX8_allGaps_14 : decode cX8_allGaps 14 = .ok (.if_icmp .gt 19, 3) := by decide +kernel
theorem dX8_allGaps_17 : decode cX8_allGaps 17 = .ok (.iload_n 1, 1) := by decide +kernel
theorem dX8_allGaps_18 : decode cX8_allGaps 18 = .ok (.aload_n 0, 1) := by decide +kernel
theorem dX8_allGaps_19 : decode cX8_allGaps 19 = .ok (.aconst_null, 1) := by decide +kernel
theorem dX8_allGaps_20 : decode cX8_allGaps 20 = .ok (.iload_n 2, 1) := by decide +kernel
theorem dX8_allGaps_21 : decode cX8_allGaps 21 = .ok (.iload_n 3, 1) := by decide +kernel
theorem dX8_allGaps_22 : decode cX8_allGaps 22 = .ok (.invokevirtual 174, 3) := by decide +kernel
theorem dX8_allGaps_25 : decode cX8_allGaps 25 = .ok (.iadd, 1) := by decide +kernel
theorem dX8_allGaps_26 : decode cX8_allGaps 26 = .ok (.istore_n 1, 1) := by decide +kernel
theorem dX8_allGaps_27 : decode cX8_allGaps 27 = .ok (.iinc 3 1, 3) := by decide +kernel
theorem dX8_allGaps_30 : decode cX8_allGaps 30 = .ok (.goto (-18), 3) := by decide +kernel
theorem dX8_allGaps_33 : decode cX8_allGaps 33 = .ok (.iinc 2 1, 3) := by decide +kernel
theorem dX8_allGaps_36 : decode cX8_allGaps 36 = .ok (.goto (-32), 3) := by decide +kernel
theorem dX8_allGaps_39 : decode cX8_allGaps 39 = .ok (.iload_n 1, 1) := by decide +kernel
theorem dX8_allGaps_40 : decode cX8_allGaps 40 = .ok (.ireturn, 1) := by decide +kernel
set_option maxRecDepth 20000 in
theorem ggX8_gapWithout_X3_of : GoodIn wsX8_gapWithout wsX3_of := goodIn_r _ [11, 12, 37] (by decide +kernel) (by decide +kernel)
set_option maxRecDepth 20000 in
theorem gX8_gapWithout_X3_of : GoodIn wsX8_gapWithout (wsV RX8 85 RX3 yX3_of wsX3_of) := goodIn_app (goodIn_of _ (by decide +kernel)) ggX8_gapWithout_X3_of
set_option maxRecDepth 20000 in
theorem ggX8_gapWithout_X7_at : GoodIn wsX8_gapWithout wsX7_at := goodIn_r _ [16, 17, 18, 15, 19] (by decide +kernel) (by decide +kernel)
set_option maxRecDepth 20000 in
theorem gX8_gapWithout_X7_at : GoodIn wsX8_gapWithout (va_wsS RX8 154 yX7_at wsX7_at) := goodIn_app (goodIn_of _ (by decide +kernel)) ggX8_gapWithout_X7_at
theorem dX8_gapWithout_0 : decode cX8_gapWithout 0 = .ok (.aload_n 0, 1) := by decide +kernel
theorem dX8_gapWithout_1 : decode cX8_gapWithout 1 = .ok (.getfield 18, 3) := by decide +kernel
theorem dX8_gapWithout_4 : decode cX8_gapWithout 4 = .ok (.iload_n 2, 1) := by decide +kernel
theorem dX8_gapWithout_5 : decode cX8_gapWithout 5 = .ok (.iload_n 3, 1) := by decide +kernel
theorem dX8_gapWithout_6 : decode cX8_gapWithout 6 = .ok (.invokevirtual 85, 3) := by decide +kernel
theorem dX8_gapWithout_9 : decode cX8_gapWithout 9 = .ok (.istore 4, 2) := by decide +kernel
theorem dX8_gapWithout_11 : decode cX8_gapWithout 11 = .ok (.aload_n 0, 1) := by decide +kernel
theorem dX8_gapWithout_12 : decode cX8_gapWithout 12 = .ok (.getfield 11, 3) := by decide +kernel
theorem dX8_gapWithout_15 : decode cX8_gapWithout 15 = .ok (.astore 5, 2) := by decide +kernel
theorem dX8_gapWithout_17 : decode cX8_gapWithout 17 = .ok (.aload 5, 2) := by decide +kernel
theorem dX8_gapWithout_19 : decode cX8_gapWithout 19 = .ok (.arraylength, 1) := by decide +kernel
theorem dX8_gapWithout_20 : decode cX8_gapWithout 20 = .ok (.istore 6, 2) := by decide +kernel
theorem dX8_gapWithout_22 : decode cX8_gapWithout 22 = .ok (.iconst 0, 1) := by decide +kernel
theorem dX8_gapWithout_23 : decode cX8_gapWithout 23 = .ok (.istore 7, 2) := by decide +kernel
theorem dX8_gapWithout_25 : decode cX8_gapWithout 25 = .ok (.iload 7, 2) := by decide +kernel
theorem dX8_gapWithout_27 : decode cX8_gapWithout 27 = .ok (.iload 6, 2) := by decide +kernel
theorem dX8_gapWithout_29 : decode cX8_gapWithout 29 = .ok (.if_icmp .ge 43, 3) := by decide +kernel
theorem dX8_gapWithout_32 : decode cX8_gapWithout 32 = .ok (.aload 5, 2) := by decide +kernel
theorem dX8_gapWithout_34 : decode cX8_gapWithout 34 = .ok (.iload 7, 2) := by decide +kernel
theorem dX8_gapWithout_36 : decode cX8_gapWithout 36 = .ok (.aaload, 1) := by decide +kernel
theorem dX8_gapWithout_37 : decode cX8_gapWithout 37 = .ok (.astore 8, 2) := by decide +kernel
theorem dX8_gapWithout_39 : decode cX8_gapWithout 39 = .ok (.aload 8, 2) := by decide +kernel
theorem dX8_gapWithout_41 : decode cX8_gapWithout 41 = .ok (.ifnull 25, 3) := by decide +kernel
theorem dX8_gapWithout_44 : decode cX8_gapWithout 44 = .ok (.aload 8, 2) := by decide +kernel
theorem dX8_gapWithout_46 : decode cX8_gapWithout 46 = .ok (.aload_n 1, 1) := by decide +kernel
theorem dX8_gapWithout_47 : decode cX8_gapWithout 47 = .ok (.if_acmp .eq 19, 3) := by decide +kernel
theorem dX8_gapWithout_50 : decode cX8_gapWithout 50 = .ok (.aload 8, 2) := by decide +kernel
theorem dX8_gapWithout_52 : decode cX8_gapWithout 52 = .ok (.getfield 128, 3) := by decide +kernel
theorem dX8_gapWithout_55 : decode cX8_gapWithout 55 = .ok (.iload_n 2, 1) := by decide +kernel
theorem dX8_gapWithout_56 : decode cX8_gapWithout 56 = .ok (.invokestatic 154, 3) := by decide +kernel
theorem dX8_gapWithout_59 : decode cX8_gapWithout 59 = .ok (.iload_n 3, 1) := by decide +kernel
theorem dX8_gapWithout_60 : decode cX8_gapWithout 60 = .ok (.if_icmp .ne 6, 3) := by decide +kernel
theorem dX8_gapWithout_63 : decode cX8_gapWithout 63 = .ok (.iinc 4 (-1), 3) := by decide +kernel
theorem dX8_gapWithout_66 : decode cX8_gapWithout 66 = .ok (.iinc 7 1, 3) := by decide +kernel
theorem dX8_gapWithout_69 : decode cX8_gapWithout 69 = .ok (.goto (-44), 3) := by decide +kernel
theorem dX8_gapWithout_72 : decode cX8_gapWithout 72 = .ok (.iconst 0, 1) := by decide +kernel
theorem dX8_gapWithout_73 : decode cX8_gapWithout 73 = .ok (.iload 4, 2) := by decide +kernel
theorem dX8_gapWithout_75 : decode cX8_gapWithout 75 = .ok (.invokestatic 196, 3) := by decide +kernel
theorem dX8_gapWithout_78 : decode cX8_gapWithout 78 = .ok (.ireturn, 1) := by decide +kernel
set_option maxRecDepth 20000 in
theorem ggX8_leastGapsOf_X8_peopleWithOneOf : GoodIn wsX8_leastGapsOf wsX8_peopleWithOneOf := goodIn_r _ [10, 11, 18, 19, 20, 21, 22, 23, 24, 25, 26, 27, 28, 29, 30, 31, 32, 33, 34] (by decide +kernel) (by decide +kernel)
set_option maxRecDepth 20000 in
theorem gX8_leastGapsOf_X8_peopleWithOneOf : GoodIn wsX8_leastGapsOf (wsV RX8 201 RX8 yX8_peopleWithOneOf wsX8_peopleWithOneOf) := goodIn_app (goodIn_of _ (by decide +kernel)) ggX8_leastGapsOf_X8_peopleWithOneOf
set_option maxRecDepth 20000 in
theorem ggX8_leastGapsOf_X3_of : GoodIn wsX8_leastGapsOf wsX3_of := goodIn_r _ [16, 17, 35] (by decide +kernel) (by decide +kernel)
set_option maxRecDepth 20000 in
theorem gX8_leastGapsOf_X3_of : GoodIn wsX8_leastGapsOf (wsV RX8 85 RX3 yX3_of wsX3_of) := goodIn_app (goodIn_of _ (by decide +kernel)) ggX8_leastGapsOf_X3_of
theorem dX8_leastGapsOf_0 : decode cX8_leastGapsOf 0 = .ok (.iconst 0, 1) := by decide +kernel
theorem dX8_leastGapsOf_1 : decode cX8_leastGapsOf 1 = .ok (.istore_n 2, 1) := by decide +kernel
theorem dX8_leastGapsOf_2 : decode cX8_leastGapsOf 2 = .ok (.iconst 0, 1) := by decide +kernel
theorem dX8_leastGapsOf_3 : decode cX8_leastGapsOf 3 = .ok (.istore_n 3, 1) := by decide +kernel
theorem dX8_leastGapsOf_4 : decode cX8_leastGapsOf 4 = .ok (.iload_n 3, 1) := by decide +kernel
theorem dX8_leastGapsOf_5 : decode cX8_leastGapsOf 5 = .ok (.bipush 14, 2) := by decide +kernel
theorem dX8_leastGapsOf_7 : decode cX8_leastGapsOf 7 = .ok (.if_icmp .gt 63, 3) := by decide +kernel
theorem dX8_leastGapsOf_10 : decode cX8_leastGapsOf 10 = .ok (.aload_n 0, 1) := by decide +kernel
theorem dX8_leastGapsOf_11 : decode cX8_leastGapsOf 11 = .ok (.iload_n 3, 1) := by decide +kernel
theorem dX8_leastGapsOf_12 : decode cX8_leastGapsOf 12 = .ok (.invokevirtual 201, 3) := by decide +kernel
theorem dX8_leastGapsOf_15 : decode cX8_leastGapsOf 15 = .ok (.ineg, 1) := by decide +kernel
theorem dX8_leastGapsOf_16 : decode cX8_leastGapsOf 16 = .ok (.istore 4, 2) := by decide +kernel
theorem dX8_leastGapsOf_18 : decode cX8_leastGapsOf 18 = .ok (.iconst 1, 1) := by decide +kernel
theorem dX8_leastGapsOf_19 : decode cX8_leastGapsOf 19 = .ok (.istore 5, 2) := by decide +kernel
theorem dX8_leastGapsOf_21 : decode cX8_leastGapsOf 21 = .ok (.iload 5, 2) := by decide +kernel
theorem dX8_leastGapsOf_23 : decode cX8_leastGapsOf 23 = .ok (.iconst 3, 1) := by decide +kernel
theorem dX8_leastGapsOf_24 : decode cX8_leastGapsOf 24 = .ok (.if_icmp .gt 33, 3) := by decide +kernel
theorem dX8_leastGapsOf_27 : decode cX8_leastGapsOf 27 = .ok (.iload_n 3, 1) := by decide +kernel
theorem dX8_leastGapsOf_28 : decode cX8_leastGapsOf 28 = .ok (.iconst 1, 1) := by decide +kernel
theorem dX8_leastGapsOf_29 : decode cX8_leastGapsOf 29 = .ok (.iload 5, 2) := by decide +kernel
theorem dX8_leastGapsOf_31 : decode cX8_leastGapsOf 31 = .ok (.ishl, 1) := by decide +kernel
theorem dX8_leastGapsOf_32 : decode cX8_leastGapsOf 32 = .ok (.iand, 1) := by decide +kernel
theorem dX8_leastGapsOf_33 : decode cX8_leastGapsOf 33 = .ok (.ifCond .eq 18, 3) := by decide +kernel
theorem dX8_leastGapsOf_36 : decode cX8_leastGapsOf 36 = .ok (.iload 4, 2) := by decide +kernel
theorem dX8_leastGapsOf_38 : decode cX8_leastGapsOf 38 = .ok (.aload_n 0, 1) := by decide +kernel
theorem dX8_leastGapsOf_39 : decode cX8_leastGapsOf 39 = .ok (.getfield 18, 3) := by decide +kernel
theorem dX8_leastGapsOf_42 : decode cX8_leastGapsOf 42 = .ok (.iload_n 1, 1) := by decide +kernel
theorem dX8_leastGapsOf_43 : decode cX8_leastGapsOf 43 = .ok (.iload 5, 2) := by decide +kernel
theorem dX8_leastGapsOf_45 : decode cX8_leastGapsOf 45 = .ok (.invokevirtual 85, 3) := by decide +kernel
theorem dX8_leastGapsOf_48 : decode cX8_leastGapsOf 48 = .ok (.iadd, 1) := by decide +kernel
theorem dX8_leastGapsOf_49 : decode cX8_leastGapsOf 49 = .ok (.istore 4, 2) := by decide +kernel
theorem dX8_leastGapsOf_51 : decode cX8_leastGapsOf 51 = .ok (.iinc 5 1, 3) := by decide +kernel
theorem dX8_leastGapsOf_54 : decode cX8_leastGapsOf 54 = .ok (.goto (-33), 3) := by decide +kernel
theorem dX8_leastGapsOf_57 : decode cX8_leastGapsOf 57 = .ok (.iload_n 2, 1) := by decide +kernel
theorem dX8_leastGapsOf_58 : decode cX8_leastGapsOf 58 = .ok (.iload 4, 2) := by decide +kernel
theorem dX8_leastGapsOf_60 : decode cX8_leastGapsOf 60 = .ok (.invokestatic 196, 3) := by decide +kernel
theorem dX8_leastGapsOf_63 : decode cX8_leastGapsOf 63 = .ok (.istore_n 2, 1) := by decide +kernel
theorem dX8_leastGapsOf_64 : decode cX8_leastGapsOf 64 = .ok (.iinc 3 2, 3) := by decide +kernel
theorem dX8_leastGapsOf_67 : decode cX8_leastGapsOf 67 = .ok (.goto (-63), 3) := by decide +kernel
theorem dX8_leastGapsOf_70 : decode cX8_leastGapsOf 70 = .ok (.iload_n 2, 1) := by decide +kernel
theorem dX8_leastGapsOf_71 : decode cX8_leastGapsOf 71 = .ok (.ireturn, 1) := by decide +kernel
theorem dX8_peopleWithOneOf_0 : decode cX8_peopleWithOneOf 0 = .ok (.iconst 0, 1) := by decide +kernel
theorem dX8_peopleWithOneOf_1 : decode cX8_peopleWithOneOf 1 = .ok (.istore_n 2, 1) := by decide +kernel
theorem dX8_peopleWithOneOf_2 : decode cX8_peopleWithOneOf 2 = .ok (.aload_n 0, 1) := by decide +kernel
theorem dX8_peopleWithOneOf_3 : decode cX8_peopleWithOneOf 3 = .ok (.getfield 11, 3) := by decide +kernel
theorem dX8_peopleWithOneOf_6 : decode cX8_peopleWithOneOf 6 = .ok (.astore_n 3, 1) := by decide +kernel
theorem dX8_peopleWithOneOf_7 : decode cX8_peopleWithOneOf 7 = .ok (.aload_n 3, 1) := by decide +kernel
theorem dX8_peopleWithOneOf_8 : decode cX8_peopleWithOneOf 8 = .ok (.arraylength, 1) := by decide +kernel
theorem dX8_peopleWithOneOf_9 : decode cX8_peopleWithOneOf 9 = .ok (.istore 4, 2) := by decide +kernel
theorem dX8_peopleWithOneOf_11 : decode cX8_peopleWithOneOf 11 = .ok (.iconst 0, 1) := by decide +kernel
theorem dX8_peopleWithOneOf_12 : decode cX8_peopleWithOneOf 12 = .ok (.istore 5, 2) := by decide +kernel
theorem dX8_peopleWithOneOf_14 : decode cX8_peopleWithOneOf 14 = .ok (.iload 5, 2) := by decide +kernel
theorem dX8_peopleWithOneOf_16 : decode cX8_peopleWithOneOf 16 = .ok (.iload 4, 2) := by decide +kernel
theorem dX8_peopleWithOneOf_18 : decode cX8_peopleWithOneOf 18 = .ok (.if_icmp .ge 33, 3) := by decide +kernel
theorem dX8_peopleWithOneOf_21 : decode cX8_peopleWithOneOf 21 = .ok (.aload_n 3, 1) := by decide +kernel
theorem dX8_peopleWithOneOf_22 : decode cX8_peopleWithOneOf 22 = .ok (.iload 5, 2) := by decide +kernel
theorem dX8_peopleWithOneOf_24 : decode cX8_peopleWithOneOf 24 = .ok (.aaload, 1) := by decide +kernel
theorem dX8_peopleWithOneOf_25 : decode cX8_peopleWithOneOf 25 = .ok (.astore 6, 2) := by decide +kernel
theorem dX8_peopleWithOneOf_27 : decode cX8_peopleWithOneOf 27 = .ok (.aload 6, 2) := by decide +kernel
theorem dX8_peopleWithOneOf_29 : decode cX8_peopleWithOneOf 29 = .ok (.ifnull 16, 3) := by decide +kernel
theorem dX8_peopleWithOneOf_32 : decode cX8_peopleWithOneOf 32 = .ok (.aload 6, 2) := by decide +kernel
theorem dX8_peopleWithOneOf_34 : decode cX8_peopleWithOneOf 34 = .ok (.getfield 204, 3) := by decide +kernel
theorem dX8_peopleWithOneOf_37 : decode cX8_peopleWithOneOf 37 = .ok (.iload_n 1, 1) := by decide +kernel
theorem dX8_peopleWithOneOf_38 : decode cX8_peopleWithOneOf 38 = .ok (.iand, 1) := by decide +kernel
theorem dX8_peopleWithOneOf_39 : decode cX8_peopleWithOneOf 39 = .ok (.ifCond .eq 6, 3) := by decide +kernel
theorem dX8_peopleWithOneOf_42 : decode cX8_peopleWithOneOf 42 = .ok (.iinc 2 1, 3) := by decide +kernel
theorem dX8_peopleWithOneOf_45 : decode cX8_peopleWithOneOf 45 = .ok (.iinc 5 1, 3) := by decide +kernel
theorem dX8_peopleWithOneOf_48 : decode cX8_peopleWithOneOf 48 = .ok (.goto (-34), 3) := by decide +kernel
theorem dX8_peopleWithOneOf_51 : decode cX8_peopleWithOneOf 51 = .ok (.iload_n 2, 1) := by decide +kernel
theorem dX8_peopleWithOneOf_52 : decode cX8_peopleWithOneOf 52 = .ok (.ireturn, 1) := by decide +kernel
set_option maxRecDepth 20000 in
theorem ggX8_planRound_X8_chosenWeek : GoodIn wsX8_planRound wsX8_chosenWeek := goodIn_r _ [6, 7, 8, 9, 10, 11, 12, 5, 13, 14, 1, 15, 16, 17, 18, 19, 20, 21, 22, 23, 24, 25, 26, 27, 28, 29, 30, 31, 32, 33, 34, 35, 36, 37, 38, 39, 40, 41, 42, 43, 44, 45, 46, 47, 48, 49, 50, 51, 52, 53, 54, 55, 56, 57, 58, 59, 60, 61, 62, 63, 64, 65, 66, 67, 68, 69, 70, 71, 72, 73, 74, 75, 76, 77, 78, 79, 80, 81, 82, 83, 84, 85, 86, 87, 88, 89, 90, 91, 92, 93, 94, 95, 96, 97, 98, 99, 100, 101, 102, 103, 104, 105, 106, 107, 108, 109, 110, 111, 112, 113, 114, 115, 116, 117, 118, 119, 120, 121, 122, 123, 124, 125, 126, 127, 128, 129, 130, 131, 132, 133, 134, 135, 136, 137, 138, 139, 140, 141, 142, 143, 144, 145, 146, 147, 148, 149, 150, 151, 152, 153, 154, 155, 156, 157, 158] (by decide +kernel) (by decide +kernel)
set_option maxRecDepth 20000 in
theorem gX8_planRound_X8_chosenWeek : GoodIn wsX8_planRound (wsV RX8 207 RX8 yX8_chosenWeek wsX8_chosenWeek) := goodIn_app (goodIn_of _ (by decide +kernel)) ggX8_planRound_X8_chosenWeek
theorem dX8_planRound_0 : decode cX8_planRound 0 = .ok (.iconst 0, 1) := by decide +kernel
theorem dX8_planRound_1 : decode cX8_planRound 1 = .ok (.istore_n 1, 1) := by decide +kernel
theorem dX8_planRound_2 : decode cX8_planRound 2 = .ok (.aload_n 0, 1) := by decide +kernel
theorem dX8_planRound_3 : decode cX8_planRound 3 = .ok (.getfield 11, 3) := by decide +kernel
theorem dX8_planRound_6 : decode cX8_planRound 6 = .ok (.astore_n 2, 1) := by decide +kernel
theorem dX8_planRound_7 : decode cX8_planRound 7 = .ok (.aload_n 2, 1) := by decide +kernel
theorem dX8_planRound_8 : decode cX8_planRound 8 = .ok (.arraylength, 1) := by decide +kernel
theorem dX8_planRound_9 : decode cX8_planRound 9 = .ok (.istore_n 3, 1) := by decide +kernel
theorem dX8_planRound_10 : decode cX8_planRound 10 = .ok (.iconst 0, 1) := by decide +kernel
theorem dX8_planRound_11 : decode cX8_planRound 11 = .ok (.istore 4, 2) := by decide +kernel
theorem dX8_planRound_13 : decode cX8_planRound 13 = .ok (.iload 4, 2) := by decide +kernel
theorem dX8_planRound_15 : decode cX8_planRound 15 = .ok (.iload_n 3, 1) := by decide +kernel
theorem dX8_planRound_16 : decode cX8_planRound 16 = .ok (.if_icmp .ge 56, 3) := by decide +kernel
theorem dX8_planRound_19 : decode cX8_planRound 19 = .ok (.aload_n 2, 1) := by decide +kernel
theorem dX8_planRound_20 : decode cX8_planRound 20 = .ok (.iload 4, 2) := by decide +kernel
theorem dX8_planRound_22 : decode cX8_planRound 22 = .ok (.aaload, 1) := by decide +kernel
theorem dX8_planRound_23 : decode cX8_planRound 23 = .ok (.astore 5, 2) := by decide +kernel
theorem dX8_planRound_25 : decode cX8_planRound 25 = .ok (.aload 5, 2) := by decide +kernel
theorem dX8_planRound_27 : decode cX8_planRound 27 = .ok (.ifnonnull 6, 3) := by decide +kernel
theorem dX8_planRound_30 : decode cX8_planRound 30 = .ok (.goto 36, 3) := by decide +kernel
theorem dX8_planRound_33 : decode cX8_planRound 33 = .ok (.aload_n 0, 1) := by decide +kernel
theorem dX8_planRound_34 : decode cX8_planRound 34 = .ok (.aload 5, 2) := by decide +kernel
theorem dX8_planRound_36 : decode cX8_planRound 36 = .ok (.invokevirtual 207, 3) := by decide +kernel
theorem dX8_planRound_39 : decode cX8_planRound 39 = .ok (.istore 6, 2) := by decide +kernel
theorem dX8_planRound_41 : decode cX8_planRound 41 = .ok (.iload_n 1, 1) := by decide +kernel
theorem dX8_planRound_42 : decode cX8_planRound 42 = .ok (.iload 6, 2) := by decide +kernel
theorem dX8_planRound_44 : decode cX8_planRound 44 = .ok (.aload 5, 2) := by decide +kernel
theorem dX8_planRound_46 : decode cX8_planRound 46 = .ok (.getfield 128, 3) := by decide +kernel
theorem dX8_planRound_49 : decode cX8_planRound 49 = .ok (.if_icmp .eq 7, 3) := by decide +kernel
theorem dX8_planRound_52 : decode cX8_planRound 52 = .ok (.iconst 1, 1) := by decide +kernel
theorem dX8_planRound_53 : decode cX8_planRound 53 = .ok (.goto 4, 3) := by decide +kernel
theorem dX8_planRound_56 : decode cX8_planRound 56 = .ok (.iconst 0, 1) := by decide +kernel
theorem dX8_planRound_57 : decode cX8_planRound 57 = .ok (.ior, 1) := by decide +kernel
theorem dX8_planRound_58 : decode cX8_planRound 58 = .ok (.istore_n 1, 1) := by decide +kernel
theorem dX8_planRound_59 : decode cX8_planRound 59 = .ok (.aload 5, 2) := by decide +kernel
theorem dX8_planRound_61 : decode cX8_planRound 61 = .ok (.iload 6, 2) := by decide +kernel
theorem dX8_planRound_63 : decode cX8_planRound 63 = .ok (.putfield 128, 3) := by decide +kernel
theorem dX8_planRound_66 : decode cX8_planRound 66 = .ok (.iinc 4 1, 3) := by decide +kernel
theorem dX8_planRound_69 : decode cX8_planRound 69 = .ok (.goto (-56), 3) := by decide +kernel
theorem dX8_planRound_72 : decode cX8_planRound 72 = .ok (.iload_n 1, 1) := by decide +kernel
theorem dX8_planRound_73 : decode cX8_planRound 73 = .ok (.ireturn, 1) := by decide +kernel
set_option maxRecDepth 20000 in
theorem ggX8_chosenWeek_X8_gapWithout : GoodIn wsX8_chosenWeek wsX8_gapWithout := goodIn_r _ [8, 9, 10, 11, 12, 13, 14, 15, 16, 17, 18, 19, 20, 21, 22, 23, 24, 25, 26, 27, 132, 133, 134, 135, 136, 137, 138, 139, 140, 141, 142, 143, 144, 145, 146, 147, 148, 149] (by decide +kernel) (by decide +kernel)
set_option maxRecDepth 20000 in
theorem gX8_chosenWeek_X8_gapWithout : GoodIn wsX8_chosenWeek (wsV RX8 174 RX8 yX8_gapWithout wsX8_gapWithout) := goodIn_app (goodIn_of _ (by decide +kernel)) ggX8_chosenWeek_X8_gapWithout
set_option maxRecDepth 20000 in
theorem ggX8_chosenWeek_X5_priceOf : GoodIn wsX8_chosenWeek wsX5_priceOf := goodIn_r _ [31, 32, 33, 34, 35, 36, 37, 23, 38, 25, 26, 27, 39, 40, 41, 42, 43, 44, 141, 142, 143, 144, 145, 146, 147, 148] (by decide +kernel) (by decide +kernel)
set_option maxRecDepth 20000 in
theorem gX8_chosenWeek_X5_priceOf : GoodIn wsX8_chosenWeek (va_wsS RX8 211 yX5_priceOf wsX5_priceOf) := goodIn_app (goodIn_of _ (by decide +kernel)) ggX8_chosenWeek_X5_priceOf
set_option maxRecDepth 20000 in
theorem ggX8_chosenWeek_X5_put : GoodIn wsX8_chosenWeek wsX5_put := goodIn_r _ [48, 49, 150] (by decide +kernel) (by decide +kernel)
set_option maxRecDepth 20000 in
theorem gX8_chosenWeek_X5_put : GoodIn wsX8_chosenWeek (wsV RX8 215 RX5 yX5_put wsX5_put) := goodIn_app (goodIn_of _ (by decide +kernel)) ggX8_chosenWeek_X5_put
set_option maxRecDepth 20000 in
theorem ggX8_chosenWeek_X1_through : GoodIn wsX8_chosenWeek wsX1_through := goodIn_r _ [54, 55, 56, 57, 13, 58, 59, 60, 61, 62, 63, 64, 65, 66, 30, 67, 68, 69, 70, 71, 72, 73, 74, 53, 75, 76, 77, 78, 79, 80, 81, 82, 83, 84, 85, 86, 87, 88, 89, 90, 91, 42, 92, 93, 94, 95, 96, 97, 98, 99, 100, 101, 102, 103, 104, 105, 106, 107, 108, 109, 110, 111, 112, 113, 114, 115, 116, 49, 117, 118, 119, 120, 121, 122, 123, 124, 125, 126, 127, 151, 152, 141, 142, 143, 144, 145, 146, 147, 148, 153, 154, 150] (by decide +kernel) (by decide +kernel)
set_option maxRecDepth 20000 in
theorem gX8_chosenWeek_X1_through : GoodIn wsX8_chosenWeek (wsV RX8 189 RX1 yX1_through wsX1_through) := goodIn_app (goodIn_of _ (by decide +kernel)) ggX8_chosenWeek_X1_through
set_option maxRecDepth 20000 in
theorem ggX8_chosenWeek_X5_weekOf : GoodIn wsX8_chosenWeek wsX5_weekOf := goodIn_r _ [130, 68, 131] (by decide +kernel) (by decide +kernel)
set_option maxRecDepth 20000 in
theorem gX8_chosenWeek_X5_weekOf : GoodIn wsX8_chosenWeek (va_wsS RX8 218 yX5_weekOf wsX5_weekOf) := goodIn_app (goodIn_of _ (by decide +kernel)) ggX8_chosenWeek_X5_weekOf
theorem dX8_chosenWeek_0 : decode cX8_chosenWeek 0 = .ok (.iconst 0, 1) := by decide +kernel
theorem dX8_chosenWeek_1 : decode cX8_chosenWeek 1 = .ok (.istore_n 2, 1) := by decide +kernel
theorem dX8_chosenWeek_2 : decode cX8_chosenWeek 2 = .ok (.iload_n 2, 1) := by decide +kernel
theorem dX8_chosenWeek_3 : decode cX8_chosenWeek 3 = .ok (.bipush 7, 2) := by decide +kernel
theorem dX8_chosenWeek_5 : decode cX8_chosenWeek 5 = .ok (.if_icmp .ge 60, 3) := by decide +kernel
theorem dX8_chosenWeek_8 : decode cX8_chosenWeek 8 = .ok (.iconst 0, 1) := by decide +kernel
theorem dX8_chosenWeek_9 : decode cX8_chosenWeek 9 = .ok (.istore_n 3, 1) := by decide +kernel
theorem dX8_chosenWeek_10 : decode cX8_chosenWeek 10 = .ok (.iload_n 3, 1) := by decide +kernel
theorem dX8_chosenWeek_11 : decode cX8_chosenWeek 11 = .ok (.iconst 3, 1) := by decide +kernel
theorem dX8_chosenWeek_12 : decode cX8_chosenWeek 12 = .ok (.if_icmp .gt 47, 3) := by decide +kernel
theorem dX8_chosenWeek_15 : decode cX8_chosenWeek 15 = .ok (.iload_n 3, 1) := by decide +kernel
theorem dX8_chosenWeek_16 : decode cX8_chosenWeek 16 = .ok (.ifCond .eq 17, 3) := by decide +kernel
theorem dX8_chosenWeek_19 : decode cX8_chosenWeek 19 = .ok (.aload_n 0, 1) := by decide +kernel
theorem dX8_chosenWeek_20 : decode cX8_chosenWeek 20 = .ok (.aload_n 1, 1) := by decide +kernel
theorem dX8_chosenWeek_21 : decode cX8_chosenWeek 21 = .ok (.iload_n 2, 1) := by decide +kernel
theorem dX8_chosenWeek_22 : decode cX8_chosenWeek 22 = .ok (.iload_n 3, 1) := by decide +kernel
theorem dX8_chosenWeek_23 : decode cX8_chosenWeek 23 = .ok (.invokevirtual 174, 3) := by decide +kernel
theorem dX8_chosenWeek_26 : decode cX8_chosenWeek 26 = .ok (.ifCond .le 7, 3) := by decide +kernel
theorem dX8_chosenWeek_29 : decode cX8_chosenWeek 29 = .ok (.iconst 1, 1) := by decide +kernel
theorem dX8_chosenWeek_30 : decode cX8_chosenWeek 30 = .ok (.goto 4, 3) := by decide +kernel
theorem dX8_chosenWeek_33 : decode cX8_chosenWeek 33 = .ok (.iconst 0, 1) := by decide +kernel
theorem dX8_chosenWeek_34 : decode cX8_chosenWeek 34 = .ok (.istore 4, 2) := by decide +kernel
theorem dX8_chosenWeek_36 : decode cX8_chosenWeek 36 = .ok (.aload_n 0, 1) := by decide +kernel
theorem dX8_chosenWeek_37 : decode cX8_chosenWeek 37 = .ok (.getfield 46, 3) := by decide +kernel
theorem dX8_chosenWeek_40 : decode cX8_chosenWeek 40 = .ok (.iload_n 2, 1) := by decide +kernel
theorem dX8_chosenWeek_41 : decode cX8_chosenWeek 41 = .ok (.iload_n 3, 1) := by decide +kernel
theorem dX8_chosenWeek_42 : decode cX8_chosenWeek 42 = .ok (.aload_n 1, 1) := by decide +kernel
theorem dX8_chosenWeek_43 : decode cX8_chosenWeek 43 = .ok (.iload_n 2, 1) := by decide +kernel
theorem dX8_chosenWeek_44 : decode cX8_chosenWeek 44 = .ok (.iload_n 3, 1) := by decide +kernel
theorem dX8_chosenWeek_45 : decode cX8_chosenWeek 45 = .ok (.iload 4, 2) := by decide +kernel
theorem dX8_chosenWeek_47 : decode cX8_chosenWeek 47 = .ok (.invokestatic 211, 3) := by decide +kernel
theorem dX8_chosenWeek_50 : decode cX8_chosenWeek 50 = .ok (.invokevirtual 215, 3) := by decide +kernel
theorem dX8_chosenWeek_53 : decode cX8_chosenWeek 53 = .ok (.iinc 3 1, 3) := by decide +kernel
theorem dX8_chosenWeek_56 : decode cX8_chosenWeek 56 = .ok (.goto (-46), 3) := by decide +kernel
theorem dX8_chosenWeek_59 : decode cX8_chosenWeek 59 = .ok (.iinc 2 1, 3) := by decide +kernel
theorem dX8_chosenWeek_62 : decode cX8_chosenWeek 62 = .ok (.goto (-60), 3) := by decide +kernel
theorem dX8_chosenWeek_65 : decode cX8_chosenWeek 65 = .ok (.aload_n 0, 1) := by decide +kernel
theorem dX8_chosenWeek_66 : decode cX8_chosenWeek 66 = .ok (.getfield 32, 3) := by decide +kernel
theorem dX8_chosenWeek_69 : decode cX8_chosenWeek 69 = .ok (.aload_n 1, 1) := by decide +kernel
theorem dX8_chosenWeek_70 : decode cX8_chosenWeek 70 = .ok (.aload_n 0, 1) := by decide +kernel
theorem dX8_chosenWeek_71 : decode cX8_chosenWeek 71 = .ok (.getfield 25, 3) := by decide +kernel
theorem dX8_chosenWeek_74 : decode cX8_chosenWeek 74 = .ok (.aload_n 0, 1) := by decide +kernel
theorem dX8_chosenWeek_75 : decode cX8_chosenWeek 75 = .ok (.getfield 46, 3) := by decide +kernel
theorem dX8_chosenWeek_78 : decode cX8_chosenWeek 78 = .ok (.invokevirtual 189, 3) := by decide +kernel
theorem dX8_chosenWeek_81 : decode cX8_chosenWeek 81 = .ok (.invokestatic 218, 3) := by decide +kernel
theorem dX8_chosenWeek_84 : decode cX8_chosenWeek 84 = .ok (.ireturn, 1) := by decide +kernel
theorem dJ9_max_7cf53_0 : decode cJ9_max_7cf53 0 = .ok (.iload_n 0, 1) := by decide +kernel
theorem dJ9_max_7cf53_1 : decode cJ9_max_7cf53 1 = .ok (.iload_n 1, 1) := by decide +kernel
theorem dJ9_max_7cf53_2 : decode cJ9_max_7cf53 2 = .ok (.if_icmp .lt 7, 3) := by decide +kernel
theorem dJ9_max_7cf53_5 : decode cJ9_max_7cf53 5 = .ok (.iload_n 0, 1) := by decide +kernel
theorem dJ9_max_7cf53_6 : decode cJ9_max_7cf53 6 = .ok (.goto 4, 3) := by decide +kernel
theorem dJ9_max_7cf53_9 : decode cJ9_max_7cf53 9 = .ok (.iload_n 1, 1) := by decide +kernel
theorem dJ9_max_7cf53_10 : decode cJ9_max_7cf53 10 = .ok (.ireturn, 1) := by decide +kernel
theorem dJ9_min_7cf53_0 : decode cJ9_min_7cf53 0 = .ok (.iload_n 0, 1) := by decide +kernel
theorem dJ9_min_7cf53_1 : decode cJ9_min_7cf53 1 = .ok (.iload_n 1, 1) := by decide +kernel
theorem dJ9_min_7cf53_2 : decode cJ9_min_7cf53 2 = .ok (.if_icmp .gt 7, 3) := by decide +kernel
theorem dJ9_min_7cf53_5 : decode cJ9_min_7cf53 5 = .ok (.iload_n 0, 1) := by decide +kernel
theorem dJ9_min_7cf53_6 : decode cJ9_min_7cf53 6 = .ok (.goto 4, 3) := by decide +kernel
theorem dJ9_min_7cf53_9 : decode cJ9_min_7cf53 9 = .ok (.iload_n 1, 1) := by decide +kernel
theorem dJ9_min_7cf53_10 : decode cJ9_min_7cf53 10 = .ok (.ireturn, 1) := by decide +kernel
theorem dJ9_min_f86c9_0 : decode cJ9_min_f86c9 0 = .ok (.lload_n 0, 1) := by decide +kernel
theorem dJ9_min_f86c9_1 : decode cJ9_min_f86c9 1 = .ok (.lload_n 2, 1) := by decide +kernel
theorem dJ9_min_f86c9_2 : decode cJ9_min_f86c9 2 = .ok (.lcmp, 1) := by decide +kernel
theorem dJ9_min_f86c9_3 : decode cJ9_min_f86c9 3 = .ok (.ifCond .gt 7, 3) := by decide +kernel
theorem dJ9_min_f86c9_6 : decode cJ9_min_f86c9 6 = .ok (.lload_n 0, 1) := by decide +kernel
theorem dJ9_min_f86c9_7 : decode cJ9_min_f86c9 7 = .ok (.goto 4, 3) := by decide +kernel
theorem dJ9_min_f86c9_10 : decode cJ9_min_f86c9 10 = .ok (.lload_n 2, 1) := by decide +kernel
theorem dJ9_min_f86c9_11 : decode cJ9_min_f86c9 11 = .ok (.lreturn, 1) := by decide +kernel
theorem dJ7_fill_d0a16_0 : decode cJ7_fill_d0a16 0 = .ok (.iconst 0, 1) := by decide +kernel
theorem dJ7_fill_d0a16_1 : decode cJ7_fill_d0a16 1 = .ok (.istore_n 3, 1) := by decide +kernel
theorem dJ7_fill_d0a16_2 : decode cJ7_fill_d0a16 2 = .ok (.aload_n 0, 1) := by decide +kernel
theorem dJ7_fill_d0a16_3 : decode cJ7_fill_d0a16 3 = .ok (.arraylength, 1) := by decide +kernel
theorem dJ7_fill_d0a16_4 : decode cJ7_fill_d0a16 4 = .ok (.istore 4, 2) := by decide +kernel
theorem dJ7_fill_d0a16_6 : decode cJ7_fill_d0a16 6 = .ok (.iload_n 3, 1) := by decide +kernel
theorem dJ7_fill_d0a16_7 : decode cJ7_fill_d0a16 7 = .ok (.iload 4, 2) := by decide +kernel
theorem dJ7_fill_d0a16_9 : decode cJ7_fill_d0a16 9 = .ok (.if_icmp .ge 13, 3) := by decide +kernel
theorem dJ7_fill_d0a16_12 : decode cJ7_fill_d0a16 12 = .ok (.aload_n 0, 1) := by decide +kernel
theorem dJ7_fill_d0a16_13 : decode cJ7_fill_d0a16 13 = .ok (.iload_n 3, 1) := by decide +kernel
theorem dJ7_fill_d0a16_14 : decode cJ7_fill_d0a16 14 = .ok (.lload_n 1, 1) := by decide +kernel
theorem dJ7_fill_d0a16_15 : decode cJ7_fill_d0a16 15 = .ok (.lastore, 1) := by decide +kernel
theorem dJ7_fill_d0a16_16 : decode cJ7_fill_d0a16 16 = .ok (.iinc 3 1, 3) := by decide +kernel
theorem dJ7_fill_d0a16_19 : decode cJ7_fill_d0a16 19 = .ok (.goto (-13), 3) := by decide +kernel
theorem dJ7_fill_d0a16_22 : decode cJ7_fill_d0a16 22 = .ok (.return_, 1) := by decide +kernel
