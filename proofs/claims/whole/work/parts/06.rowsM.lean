theorem dX9_init_0 : decode cX9_init 0 = .ok (.aload_n 0, 1) := by decide +kernel
theorem dX9_init_1 : decode cX9_init 1 = .ok (.invokespecial 1, 3) := by decide +kernel
theorem dX9_init_4 : decode cX9_init 4 = .ok (.aload_n 0, 1) := by decide +kernel
theorem dX9_init_5 : decode cX9_init 5 = .ok (.iconst 5, 1) := by decide +kernel
theorem dX9_init_6 : decode cX9_init 6 = .ok (.putfield 7, 3) := by decide +kernel
theorem dX9_init_9 : decode cX9_init 9 = .ok (.aload_n 0, 1) := by decide +kernel
theorem dX9_init_10 : decode cX9_init 10 = .ok (.bipush 8, 2) := by decide +kernel
theorem dX9_init_12 : decode cX9_init 12 = .ok (.newarray .int, 2) := by decide +kernel
theorem dX9_init_14 : decode cX9_init 14 = .ok (.putfield 13, 3) := by decide +kernel
theorem dX9_init_17 : decode cX9_init 17 = .ok (.aload_n 0, 1) := by decide +kernel
theorem dX9_init_18 : decode cX9_init 18 = .ok (.bipush 8, 2) := by decide +kernel
theorem dX9_init_20 : decode cX9_init 20 = .ok (.newarray .int, 2) := by decide +kernel
theorem dX9_init_22 : decode cX9_init 22 = .ok (.putfield 17, 3) := by decide +kernel
theorem dX9_init_25 : decode cX9_init 25 = .ok (.aload_n 0, 1) := by decide +kernel
theorem dX9_init_26 : decode cX9_init 26 = .ok (.bipush 28, 2) := by decide +kernel
theorem dX9_init_28 : decode cX9_init 28 = .ok (.newarray .int, 2) := by decide +kernel
theorem dX9_init_30 : decode cX9_init 30 = .ok (.putfield 20, 3) := by decide +kernel
theorem dX9_init_33 : decode cX9_init 33 = .ok (.aload_n 0, 1) := by decide +kernel
theorem dX9_init_34 : decode cX9_init 34 = .ok (.bipush 16, 2) := by decide +kernel
theorem dX9_init_36 : decode cX9_init 36 = .ok (.newarray .int, 2) := by decide +kernel
theorem dX9_init_38 : decode cX9_init 38 = .ok (.putfield 23, 3) := by decide +kernel
theorem dX9_init_41 : decode cX9_init 41 = .ok (.aload_n 0, 1) := by decide +kernel
theorem dX9_init_42 : decode cX9_init 42 = .ok (.bipush 56, 2) := by decide +kernel
theorem dX9_init_44 : decode cX9_init 44 = .ok (.newarray .int, 2) := by decide +kernel
theorem dX9_init_46 : decode cX9_init 46 = .ok (.putfield 26, 3) := by decide +kernel
theorem dX9_init_49 : decode cX9_init 49 = .ok (.aload_n 0, 1) := by decide +kernel
theorem dX9_init_50 : decode cX9_init 50 = .ok (.bipush 56, 2) := by decide +kernel
theorem dX9_init_52 : decode cX9_init 52 = .ok (.newarray .int, 2) := by decide +kernel
theorem dX9_init_54 : decode cX9_init 54 = .ok (.putfield 29, 3) := by decide +kernel
theorem dX9_init_57 : decode cX9_init 57 = .ok (.aload_n 0, 1) := by decide +kernel
theorem dX9_init_58 : decode cX9_init 58 = .ok (.bipush 8, 2) := by decide +kernel
theorem dX9_init_60 : decode cX9_init 60 = .ok (.newarray .int, 2) := by decide +kernel
theorem dX9_init_62 : decode cX9_init 62 = .ok (.putfield 32, 3) := by decide +kernel
theorem dX9_init_65 : decode cX9_init 65 = .ok (.aload_n 0, 1) := by decide +kernel
theorem dX9_init_66 : decode cX9_init 66 = .ok (.bipush 8, 2) := by decide +kernel
theorem dX9_init_68 : decode cX9_init 68 = .ok (.newarray .int, 2) := by decide +kernel
theorem dX9_init_70 : decode cX9_init 70 = .ok (.putfield 35, 3) := by decide +kernel
theorem dX9_init_73 : decode cX9_init 73 = .ok (.aload_n 0, 1) := by decide +kernel
theorem dX9_init_74 : decode cX9_init 74 = .ok (.bipush 8, 2) := by decide +kernel
theorem dX9_init_76 : decode cX9_init 76 = .ok (.newarray .int, 2) := by decide +kernel
theorem dX9_init_78 : decode cX9_init 78 = .ok (.putfield 38, 3) := by decide +kernel
theorem dX9_init_81 : decode cX9_init 81 = .ok (.aload_n 0, 1) := by decide +kernel
theorem dX9_init_82 : decode cX9_init 82 = .ok (.bipush 8, 2) := by decide +kernel
theorem dX9_init_84 : decode cX9_init 84 = .ok (.newarray .int, 2) := by decide +kernel
theorem dX9_init_86 : decode cX9_init 86 = .ok (.putfield 41, 3) := by decide +kernel
theorem dX9_init_89 : decode cX9_init 89 = .ok (.aload_n 0, 1) := by decide +kernel
theorem dX9_init_90 : decode cX9_init 90 = .ok (.getfield 23, 3) := by decide +kernel
theorem dX9_init_93 : decode cX9_init 93 = .ok (.bipush 9, 2) := by decide +kernel
theorem dX9_init_95 : decode cX9_init 95 = .ok (.iconst 1, 1) := by decide +kernel
theorem dX9_init_96 : decode cX9_init 96 = .ok (.iastore, 1) := by decide +kernel
theorem dX9_init_97 : decode cX9_init 97 = .ok (.aload_n 0, 1) := by decide +kernel
theorem dX9_init_98 : decode cX9_init 98 = .ok (.getfield 23, 3) := by decide +kernel
theorem dX9_init_101 : decode cX9_init 101 = .ok (.bipush 13, 2) := by decide +kernel
theorem dX9_init_103 : decode cX9_init 103 = .ok (.iconst 1, 1) := by decide +kernel
theorem dX9_init_104 : decode cX9_init 104 = .ok (.iastore, 1) := by decide +kernel
theorem dX9_init_105 : decode cX9_init 105 = .ok (.aload_n 0, 1) := by decide +kernel
theorem dX9_init_106 : decode cX9_init 106 = .ok (.getfield 23, 3) := by decide +kernel
theorem dX9_init_109 : decode cX9_init 109 = .ok (.bipush 14, 2) := by decide +kernel
theorem dX9_init_111 : decode cX9_init 111 = .ok (.iconst 1, 1) := by decide +kernel
theorem dX9_init_112 : decode cX9_init 112 = .ok (.iastore, 1) := by decide +kernel
theorem dX9_init_113 : decode cX9_init 113 = .ok (.return_, 1) := by decide +kernel
theorem dX9_thrown_0 : decode cX9_thrown 0 = .ok (.aload_n 0, 1) := by decide +kernel
theorem dX9_thrown_1 : decode cX9_thrown 1 = .ok (.getfield 44, 3) := by decide +kernel
theorem dX9_thrown_4 : decode cX9_thrown 4 = .ok (.ireturn, 1) := by decide +kernel
theorem dX9_fails_0 : decode cX9_fails 0 = .ok (.aload_n 0, 1) := by decide +kernel
theorem dX9_fails_1 : decode cX9_fails 1 = .ok (.iload_n 1, 1) := by decide +kernel
theorem dX9_fails_2 : decode cX9_fails 2 = .ok (.putfield 44, 3) := by decide +kernel
theorem dX9_fails_5 : decode cX9_fails 5 = .ok (.iconst 0, 1) := by decide +kernel
theorem dX9_fails_6 : decode cX9_fails 6 = .ok (.ireturn, 1) := by decide +kernel
theorem dX9_in_0 : decode cX9_in 0 = .ok (.iload_n 0, 1) := by decide +kernel
theorem dX9_in_1 : decode cX9_in 1 = .ok (.iload_n 1, 1) := by decide +kernel
theorem dX9_in_2 : decode cX9_in 2 = .ok (.if_icmp .lt 12, 3) := by decide +kernel
theorem dX9_in_5 : decode cX9_in 5 = .ok (.iload_n 0, 1) := by decide +kernel
theorem dX9_in_6 : decode cX9_in 6 = .ok (.iload_n 2, 1) := by decide +kernel
theorem dX9_in_7 : decode cX9_in 7 = .ok (.if_icmp .gt 7, 3) := by decide +kernel
theorem dX9_in_10 : decode cX9_in 10 = .ok (.iconst 1, 1) := by decide +kernel
theorem dX9_in_11 : decode cX9_in 11 = .ok (.goto 4, 3) := by decide +kernel
theorem dX9_in_14 : decode cX9_in 14 = .ok (.iconst 0, 1) := by decide +kernel
theorem dX9_in_15 : decode cX9_in 15 = .ok (.ireturn, 1) := by decide +kernel
set_option maxRecDepth 20000 in
theorem ggX9_isPerson_X9_in : GoodIn wsX9_isPerson wsX9_in := goodIn_r _ [5] (by decide +kernel) (by decide +kernel)
set_option maxRecDepth 20000 in
theorem gX9_isPerson_X9_in : GoodIn wsX9_isPerson (va_wsS RX9 50 yX9_in wsX9_in) := goodIn_app (goodIn_of _ (by decide +kernel)) ggX9_isPerson_X9_in
theorem dX9_isPerson_0 : decode cX9_isPerson 0 = .ok (.iload_n 1, 1) := by decide +kernel
theorem dX9_isPerson_1 : decode cX9_isPerson 1 = .ok (.iconst 0, 1) := by decide +kernel
theorem dX9_isPerson_2 : decode cX9_isPerson 2 = .ok (.aload_n 0, 1) := by decide +kernel
theorem dX9_isPerson_3 : decode cX9_isPerson 3 = .ok (.getfield 47, 3) := by decide +kernel
theorem dX9_isPerson_6 : decode cX9_isPerson 6 = .ok (.iconst 1, 1) := by decide +kernel
theorem dX9_isPerson_7 : decode cX9_isPerson 7 = .ok (.isub, 1) := by decide +kernel
theorem dX9_isPerson_8 : decode cX9_isPerson 8 = .ok (.invokestatic 50, 3) := by decide +kernel
theorem dX9_isPerson_11 : decode cX9_isPerson 11 = .ok (.ireturn, 1) := by decide +kernel
set_option maxRecDepth 20000 in
theorem ggX9_isDay_X9_in : GoodIn wsX9_isDay wsX9_in := goodIn_r _ [4] (by decide +kernel) (by decide +kernel)
set_option maxRecDepth 20000 in
theorem gX9_isDay_X9_in : GoodIn wsX9_isDay (va_wsS RX9 50 yX9_in wsX9_in) := goodIn_app (goodIn_of _ (by decide +kernel)) ggX9_isDay_X9_in
theorem dX9_isDay_0 : decode cX9_isDay 0 = .ok (.iload_n 0, 1) := by decide +kernel
theorem dX9_isDay_1 : decode cX9_isDay 1 = .ok (.iconst 0, 1) := by decide +kernel
theorem dX9_isDay_2 : decode cX9_isDay 2 = .ok (.bipush 6, 2) := by decide +kernel
theorem dX9_isDay_4 : decode cX9_isDay 4 = .ok (.invokestatic 50, 3) := by decide +kernel
theorem dX9_isDay_7 : decode cX9_isDay 7 = .ok (.ireturn, 1) := by decide +kernel
set_option maxRecDepth 20000 in
theorem ggX9_isKind_X9_in : GoodIn wsX9_isKind wsX9_in := goodIn_r _ [4] (by decide +kernel) (by decide +kernel)
set_option maxRecDepth 20000 in
theorem gX9_isKind_X9_in : GoodIn wsX9_isKind (va_wsS RX9 50 yX9_in wsX9_in) := goodIn_app (goodIn_of _ (by decide +kernel)) ggX9_isKind_X9_in
theorem dX9_isKind_0 : decode cX9_isKind 0 = .ok (.iload_n 0, 1) := by decide +kernel
theorem dX9_isKind_1 : decode cX9_isKind 1 = .ok (.iconst 1, 1) := by decide +kernel
theorem dX9_isKind_2 : decode cX9_isKind 2 = .ok (.iconst 3, 1) := by decide +kernel
theorem dX9_isKind_3 : decode cX9_isKind 3 = .ok (.invokestatic 50, 3) := by decide +kernel
theorem dX9_isKind_6 : decode cX9_isKind 6 = .ok (.ireturn, 1) := by decide +kernel
set_option maxRecDepth 20000 in
theorem ggX9_isAsked_X9_isPerson : GoodIn wsX9_isAsked wsX9_isPerson := goodIn_r _ [6, 7, 8, 9, 5, 10, 11, 12, 13, 14, 15, 16, 17, 18, 19, 20, 21, 22, 23, 24, 25] (by decide +kernel) (by decide +kernel)
set_option maxRecDepth 20000 in
theorem gX9_isAsked_X9_isPerson : GoodIn wsX9_isAsked (wsV RX9 54 RX9 yX9_isPerson wsX9_isPerson) := goodIn_app (goodIn_of _ (by decide +kernel)) ggX9_isAsked_X9_isPerson
theorem dX9_isAsked_0 : decode cX9_isAsked 0 = .ok (.aload_n 0, 1) := by decide +kernel
theorem dX9_isAsked_1 : decode cX9_isAsked 1 = .ok (.aload_n 0, 1) := by decide +kernel
theorem dX9_isAsked_2 : decode cX9_isAsked 2 = .ok (.iload_n 1, 1) := by decide +kernel
theorem dX9_isAsked_3 : decode cX9_isAsked 3 = .ok (.invokevirtual 54, 3) := by decide +kernel
theorem dX9_isAsked_6 : decode cX9_isAsked 6 = .ok (.ifCond .eq 7, 3) := by decide +kernel
theorem dX9_isAsked_9 : decode cX9_isAsked 9 = .ok (.iconst 0, 1) := by decide +kernel
theorem dX9_isAsked_10 : decode cX9_isAsked 10 = .ok (.goto 4, 3) := by decide +kernel
theorem dX9_isAsked_13 : decode cX9_isAsked 13 = .ok (.iconst 1, 1) := by decide +kernel
theorem dX9_isAsked_14 : decode cX9_isAsked 14 = .ok (.putfield 44, 3) := by decide +kernel
theorem dX9_isAsked_17 : decode cX9_isAsked 17 = .ok (.aload_n 0, 1) := by decide +kernel
theorem dX9_isAsked_18 : decode cX9_isAsked 18 = .ok (.getfield 44, 3) := by decide +kernel
theorem dX9_isAsked_21 : decode cX9_isAsked 21 = .ok (.ifCond .ne 7, 3) := by decide +kernel
theorem dX9_isAsked_24 : decode cX9_isAsked 24 = .ok (.iconst 1, 1) := by decide +kernel
theorem dX9_isAsked_25 : decode cX9_isAsked 25 = .ok (.goto 4, 3) := by decide +kernel
theorem dX9_isAsked_28 : decode cX9_isAsked 28 = .ok (.iconst 0, 1) := by decide +kernel
theorem dX9_isAsked_29 : decode cX9_isAsked 29 = .ok (.ireturn, 1) := by decide +kernel
theorem dX9_entryOf_0 : decode cX9_entryOf 0 = .ok (.iload_n 0, 1) := by decide +kernel
theorem dX9_entryOf_1 : decode cX9_entryOf 1 = .ok (.bipush 12, 2) := by decide +kernel
theorem dX9_entryOf_3 : decode cX9_entryOf 3 = .ok (.iconst 2, 1) := by decide +kernel
theorem dX9_entryOf_4 : decode cX9_entryOf 4 = .ok (.iload_n 1, 1) := by decide +kernel
theorem dX9_entryOf_5 : decode cX9_entryOf 5 = .ok (.imul, 1) := by decide +kernel
theorem dX9_entryOf_6 : decode cX9_entryOf 6 = .ok (.isub, 1) := by decide +kernel
theorem dX9_entryOf_7 : decode cX9_entryOf 7 = .ok (.ishr, 1) := by decide +kernel
theorem dX9_entryOf_8 : decode cX9_entryOf 8 = .ok (.iconst 3, 1) := by decide +kernel
theorem dX9_entryOf_9 : decode cX9_entryOf 9 = .ok (.iand, 1) := by decide +kernel
theorem dX9_entryOf_10 : decode cX9_entryOf 10 = .ok (.ireturn, 1) := by decide +kernel
set_option maxRecDepth 20000 in
theorem ggX9_with_X9_entryOf : GoodIn wsX9_with wsX9_entryOf := goodIn_r _ [4] (by decide +kernel) (by decide +kernel)
set_option maxRecDepth 20000 in
theorem gX9_with_X9_entryOf : GoodIn wsX9_with (va_wsS RX9 58 yX9_entryOf wsX9_entryOf) := goodIn_app (goodIn_of _ (by decide +kernel)) ggX9_with_X9_entryOf
theorem dX9_with_0 : decode cX9_with 0 = .ok (.iload_n 0, 1) := by decide +kernel
theorem dX9_with_1 : decode cX9_with 1 = .ok (.iload_n 0, 1) := by decide +kernel
theorem dX9_with_2 : decode cX9_with 2 = .ok (.iload_n 1, 1) := by decide +kernel
theorem dX9_with_3 : decode cX9_with 3 = .ok (.invokestatic 58, 3) := by decide +kernel
theorem dX9_with_6 : decode cX9_with 6 = .ok (.bipush 12, 2) := by decide +kernel
theorem dX9_with_8 : decode cX9_with 8 = .ok (.iconst 2, 1) := by decide +kernel
theorem dX9_with_9 : decode cX9_with 9 = .ok (.iload_n 1, 1) := by decide +kernel
theorem dX9_with_10 : decode cX9_with 10 = .ok (.imul, 1) := by decide +kernel
theorem dX9_with_11 : decode cX9_with 11 = .ok (.isub, 1) := by decide +kernel
theorem dX9_with_12 : decode cX9_with 12 = .ok (.ishl, 1) := by decide +kernel
theorem dX9_with_13 : decode cX9_with 13 = .ok (.isub, 1) := by decide +kernel
theorem dX9_with_14 : decode cX9_with 14 = .ok (.iload_n 2, 1) := by decide +kernel
theorem dX9_with_15 : decode cX9_with 15 = .ok (.bipush 12, 2) := by decide +kernel
theorem dX9_with_17 : decode cX9_with 17 = .ok (.iconst 2, 1) := by decide +kernel
theorem dX9_with_18 : decode cX9_with 18 = .ok (.iload_n 1, 1) := by decide +kernel
theorem dX9_with_19 : decode cX9_with 19 = .ok (.imul, 1) := by decide +kernel
theorem dX9_with_20 : decode cX9_with 20 = .ok (.isub, 1) := by decide +kernel
theorem dX9_with_21 : decode cX9_with 21 = .ok (.ishl, 1) := by decide +kernel
theorem dX9_with_22 : decode cX9_with 22 = .ok (.iadd, 1) := by decide +kernel
theorem dX9_with_23 : decode cX9_with 23 = .ok (.ireturn, 1) := by decide +kernel
theorem dX9_weekOf_0 : decode cX9_weekOf 0 = .ok (.iconst 0, 1) := by decide +kernel
theorem dX9_weekOf_1 : decode cX9_weekOf 1 = .ok (.istore_n 2, 1) := by decide +kernel
theorem dX9_weekOf_2 : decode cX9_weekOf 2 = .ok (.iconst 0, 1) := by decide +kernel
theorem dX9_weekOf_3 : decode cX9_weekOf 3 = .ok (.istore_n 3, 1) := by decide +kernel
theorem dX9_weekOf_4 : decode cX9_weekOf 4 = .ok (.iload_n 3, 1) := by decide +kernel
theorem dX9_weekOf_5 : decode cX9_weekOf 5 = .ok (.bipush 7, 2) := by decide +kernel
theorem dX9_weekOf_7 : decode cX9_weekOf 7 = .ok (.if_icmp .ge 25, 3) := by decide +kernel
theorem dX9_weekOf_10 : decode cX9_weekOf 10 = .ok (.iconst 4, 1) := by decide +kernel
theorem dX9_weekOf_11 : decode cX9_weekOf 11 = .ok (.iload_n 2, 1) := by decide +kernel
theorem dX9_weekOf_12 : decode cX9_weekOf 12 = .ok (.imul, 1) := by decide +kernel
theorem dX9_weekOf_13 : decode cX9_weekOf 13 = .ok (.aload_n 0, 1) := by decide +kernel
theorem dX9_weekOf_14 : decode cX9_weekOf 14 = .ok (.getfield 26, 3) := by decide +kernel
theorem dX9_weekOf_17 : decode cX9_weekOf 17 = .ok (.bipush 7, 2) := by decide +kernel
theorem dX9_weekOf_19 : decode cX9_weekOf 19 = .ok (.iload_n 1, 1) := by decide +kernel
theorem dX9_weekOf_20 : decode cX9_weekOf 20 = .ok (.imul, 1) := by decide +kernel
theorem dX9_weekOf_21 : decode cX9_weekOf 21 = .ok (.iload_n 3, 1) := by decide +kernel
theorem dX9_weekOf_22 : decode cX9_weekOf 22 = .ok (.iadd, 1) := by decide +kernel
theorem dX9_weekOf_23 : decode cX9_weekOf 23 = .ok (.iaload, 1) := by decide +kernel
theorem dX9_weekOf_24 : decode cX9_weekOf 24 = .ok (.iadd, 1) := by decide +kernel
theorem dX9_weekOf_25 : decode cX9_weekOf 25 = .ok (.istore_n 2, 1) := by decide +kernel
theorem dX9_weekOf_26 : decode cX9_weekOf 26 = .ok (.iinc 3 1, 3) := by decide +kernel
theorem dX9_weekOf_29 : decode cX9_weekOf 29 = .ok (.goto (-25), 3) := by decide +kernel
theorem dX9_weekOf_32 : decode cX9_weekOf 32 = .ok (.iload_n 2, 1) := by decide +kernel
theorem dX9_weekOf_33 : decode cX9_weekOf 33 = .ok (.ireturn, 1) := by decide +kernel
set_option maxRecDepth 20000 in
theorem ggX9_enter_X9_entryOf : GoodIn wsX9_enter wsX9_entryOf := goodIn_r _ [5] (by decide +kernel) (by decide +kernel)
set_option maxRecDepth 20000 in
theorem gX9_enter_X9_entryOf : GoodIn wsX9_enter (va_wsS RX9 58 yX9_entryOf wsX9_entryOf) := goodIn_app (goodIn_of _ (by decide +kernel)) ggX9_enter_X9_entryOf
theorem dX9_enter_0 : decode cX9_enter 0 = .ok (.iconst 0, 1) := by decide +kernel
theorem dX9_enter_1 : decode cX9_enter 1 = .ok (.istore_n 3, 1) := by decide +kernel
theorem dX9_enter_2 : decode cX9_enter 2 = .ok (.iload_n 3, 1) := by decide +kernel
theorem dX9_enter_3 : decode cX9_enter 3 = .ok (.bipush 7, 2) := by decide +kernel
theorem dX9_enter_5 : decode cX9_enter 5 = .ok (.if_icmp .ge 25, 3) := by decide +kernel
theorem dX9_enter_8 : decode cX9_enter 8 = .ok (.aload_n 0, 1) := by decide +kernel
theorem dX9_enter_9 : decode cX9_enter 9 = .ok (.getfield 26, 3) := by decide +kernel
theorem dX9_enter_12 : decode cX9_enter 12 = .ok (.bipush 7, 2) := by decide +kernel
theorem dX9_enter_14 : decode cX9_enter 14 = .ok (.iload_n 1, 1) := by decide +kernel
theorem dX9_enter_15 : decode cX9_enter 15 = .ok (.imul, 1) := by decide +kernel
theorem dX9_enter_16 : decode cX9_enter 16 = .ok (.iload_n 3, 1) := by decide +kernel
theorem dX9_enter_17 : decode cX9_enter 17 = .ok (.iadd, 1) := by decide +kernel
theorem dX9_enter_18 : decode cX9_enter 18 = .ok (.iload_n 2, 1) := by decide +kernel
theorem dX9_enter_19 : decode cX9_enter 19 = .ok (.iload_n 3, 1) := by decide +kernel
theorem dX9_enter_20 : decode cX9_enter 20 = .ok (.invokestatic 58, 3) := by decide +kernel
theorem dX9_enter_23 : decode cX9_enter 23 = .ok (.iastore, 1) := by decide +kernel
theorem dX9_enter_24 : decode cX9_enter 24 = .ok (.iinc 3 1, 3) := by decide +kernel
theorem dX9_enter_27 : decode cX9_enter 27 = .ok (.goto (-25), 3) := by decide +kernel
theorem dX9_enter_30 : decode cX9_enter 30 = .ok (.return_, 1) := by decide +kernel
set_option maxRecDepth 20000 in
theorem ggX9_countShifts_X9_entryOf : GoodIn wsX9_countShifts wsX9_entryOf := goodIn_r _ [4] (by decide +kernel) (by decide +kernel)
set_option maxRecDepth 20000 in
theorem gX9_countShifts_X9_entryOf : GoodIn wsX9_countShifts (va_wsS RX9 58 yX9_entryOf wsX9_entryOf) := goodIn_app (goodIn_of _ (by decide +kernel)) ggX9_countShifts_X9_entryOf
theorem dX9_countShifts_0 : decode cX9_countShifts 0 = .ok (.iconst 0, 1) := by decide +kernel
theorem dX9_countShifts_1 : decode cX9_countShifts 1 = .ok (.istore_n 1, 1) := by decide +kernel
theorem dX9_countShifts_2 : decode cX9_countShifts 2 = .ok (.iconst 0, 1) := by decide +kernel
theorem dX9_countShifts_3 : decode cX9_countShifts 3 = .ok (.istore_n 2, 1) := by decide +kernel
theorem dX9_countShifts_4 : decode cX9_countShifts 4 = .ok (.iload_n 2, 1) := by decide +kernel
theorem dX9_countShifts_5 : decode cX9_countShifts 5 = .ok (.bipush 7, 2) := by decide +kernel
theorem dX9_countShifts_7 : decode cX9_countShifts 7 = .ok (.if_icmp .ge 25, 3) := by decide +kernel
theorem dX9_countShifts_10 : decode cX9_countShifts 10 = .ok (.iload_n 1, 1) := by decide +kernel
theorem dX9_countShifts_11 : decode cX9_countShifts 11 = .ok (.iload_n 0, 1) := by decide +kernel
theorem dX9_countShifts_12 : decode cX9_countShifts 12 = .ok (.iload_n 2, 1) := by decide +kernel
theorem dX9_countShifts_13 : decode cX9_countShifts 13 = .ok (.invokestatic 58, 3) := by decide +kernel
theorem dX9_countShifts_16 : decode cX9_countShifts 16 = .ok (.ifCond .le 7, 3) := by decide +kernel
theorem dX9_countShifts_19 : decode cX9_countShifts 19 = .ok (.iconst 1, 1) := by decide +kernel
theorem dX9_countShifts_20 : decode cX9_countShifts 20 = .ok (.goto 4, 3) := by decide +kernel
theorem dX9_countShifts_23 : decode cX9_countShifts 23 = .ok (.iconst 0, 1) := by decide +kernel
theorem dX9_countShifts_24 : decode cX9_countShifts 24 = .ok (.iadd, 1) := by decide +kernel
theorem dX9_countShifts_25 : decode cX9_countShifts 25 = .ok (.istore_n 1, 1) := by decide +kernel
theorem dX9_countShifts_26 : decode cX9_countShifts 26 = .ok (.iinc 2 1, 3) := by decide +kernel
theorem dX9_countShifts_29 : decode cX9_countShifts 29 = .ok (.goto (-25), 3) := by decide +kernel
theorem dX9_countShifts_32 : decode cX9_countShifts 32 = .ok (.iload_n 1, 1) := by decide +kernel
theorem dX9_countShifts_33 : decode cX9_countShifts 33 = .ok (.ireturn, 1) := by decide +kernel
set_option maxRecDepth 20000 in
theorem ggX9_isPossible_X9_countShifts : GoodIn wsX9_isPossible wsX9_countShifts := goodIn_r _ [11, 12, 13, 10, 14] (by decide +kernel) (by decide +kernel)
set_option maxRecDepth 20000 in
theorem gX9_isPossible_X9_countShifts : GoodIn wsX9_isPossible (va_wsS RX9 62 yX9_countShifts wsX9_countShifts) := goodIn_app (goodIn_of _ (by decide +kernel)) ggX9_isPossible_X9_countShifts
set_option maxRecDepth 20000 in
theorem ggX9_isPossible_X9_entryOf : GoodIn wsX9_isPossible wsX9_entryOf := goodIn_r _ [14] (by decide +kernel) (by decide +kernel)
set_option maxRecDepth 20000 in
theorem gX9_isPossible_X9_entryOf : GoodIn wsX9_isPossible (va_wsS RX9 58 yX9_entryOf wsX9_entryOf) := goodIn_app (goodIn_of _ (by decide +kernel)) ggX9_isPossible_X9_entryOf
theorem dX9_isPossible_0 : decode cX9_isPossible 0 = .ok (.iload_n 2, 1) := by decide +kernel
theorem dX9_isPossible_1 : decode cX9_isPossible 1 = .ok (.invokestatic 62, 3) := by decide +kernel
theorem dX9_isPossible_4 : decode cX9_isPossible 4 = .ok (.aload_n 0, 1) := by decide +kernel
theorem dX9_isPossible_5 : decode cX9_isPossible 5 = .ok (.getfield 17, 3) := by decide +kernel
theorem dX9_isPossible_8 : decode cX9_isPossible 8 = .ok (.iload_n 1, 1) := by decide +kernel
theorem dX9_isPossible_9 : decode cX9_isPossible 9 = .ok (.iaload, 1) := by decide +kernel
theorem dX9_isPossible_10 : decode cX9_isPossible 10 = .ok (.if_icmp .gt 7, 3) := by decide +kernel
theorem dX9_isPossible_13 : decode cX9_isPossible 13 = .ok (.iconst 1, 1) := by decide +kernel
theorem dX9_isPossible_14 : decode cX9_isPossible 14 = .ok (.goto 4, 3) := by decide +kernel
theorem dX9_isPossible_17 : decode cX9_isPossible 17 = .ok (.iconst 0, 1) := by decide +kernel
theorem dX9_isPossible_18 : decode cX9_isPossible 18 = .ok (.istore_n 3, 1) := by decide +kernel
theorem dX9_isPossible_19 : decode cX9_isPossible 19 = .ok (.aload_n 0, 1) := by decide +kernel
theorem dX9_isPossible_20 : decode cX9_isPossible 20 = .ok (.getfield 35, 3) := by decide +kernel
theorem dX9_isPossible_23 : decode cX9_isPossible 23 = .ok (.iload_n 1, 1) := by decide +kernel
theorem dX9_isPossible_24 : decode cX9_isPossible 24 = .ok (.iaload, 1) := by decide +kernel
theorem dX9_isPossible_25 : decode cX9_isPossible 25 = .ok (.istore 4, 2) := by decide +kernel
theorem dX9_isPossible_27 : decode cX9_isPossible 27 = .ok (.aload_n 0, 1) := by decide +kernel
theorem dX9_isPossible_28 : decode cX9_isPossible 28 = .ok (.getfield 38, 3) := by decide +kernel
theorem dX9_isPossible_31 : decode cX9_isPossible 31 = .ok (.iload_n 1, 1) := by decide +kernel
theorem dX9_isPossible_32 : decode cX9_isPossible 32 = .ok (.iaload, 1) := by decide +kernel
theorem dX9_isPossible_33 : decode cX9_isPossible 33 = .ok (.istore 5, 2) := by decide +kernel
theorem dX9_isPossible_35 : decode cX9_isPossible 35 = .ok (.iconst 0, 1) := by decide +kernel
theorem dX9_isPossible_36 : decode cX9_isPossible 36 = .ok (.istore 6, 2) := by decide +kernel
theorem dX9_isPossible_38 : decode cX9_isPossible 38 = .ok (.iload 6, 2) := by decide +kernel
theorem dX9_isPossible_40 : decode cX9_isPossible 40 = .ok (.bipush 7, 2) := by decide +kernel
theorem dX9_isPossible_42 : decode cX9_isPossible 42 = .ok (.if_icmp .ge 117, 3) := by decide +kernel
theorem dX9_isPossible_45 : decode cX9_isPossible 45 = .ok (.iload_n 3, 1) := by decide +kernel
theorem dX9_isPossible_46 : decode cX9_isPossible 46 = .ok (.ifCond .eq 113, 3) := by decide +kernel
theorem dX9_isPossible_49 : decode cX9_isPossible 49 = .ok (.iload_n 2, 1) := by decide +kernel
theorem dX9_isPossible_50 : decode cX9_isPossible 50 = .ok (.iload 6, 2) := by decide +kernel
theorem dX9_isPossible_52 : decode cX9_isPossible 52 = .ok (.invokestatic 58, 3) := by decide +kernel
theorem dX9_isPossible_55 : decode cX9_isPossible 55 = .ok (.istore 7, 2) := by decide +kernel
theorem dX9_isPossible_57 : decode cX9_isPossible 57 = .ok (.aload_n 0, 1) := by decide +kernel
theorem dX9_isPossible_58 : decode cX9_isPossible 58 = .ok (.getfield 29, 3) := by decide +kernel
theorem dX9_isPossible_61 : decode cX9_isPossible 61 = .ok (.bipush 7, 2) := by decide +kernel
theorem dX9_isPossible_63 : decode cX9_isPossible 63 = .ok (.iload_n 1, 1) := by decide +kernel
theorem dX9_isPossible_64 : decode cX9_isPossible 64 = .ok (.imul, 1) := by decide +kernel
theorem dX9_isPossible_65 : decode cX9_isPossible 65 = .ok (.iload 6, 2) := by decide +kernel
theorem dX9_isPossible_67 : decode cX9_isPossible 67 = .ok (.iadd, 1) := by decide +kernel
theorem dX9_isPossible_68 : decode cX9_isPossible 68 = .ok (.iaload, 1) := by decide +kernel
theorem dX9_isPossible_69 : decode cX9_isPossible 69 = .ok (.istore 8, 2) := by decide +kernel
theorem dX9_isPossible_71 : decode cX9_isPossible 71 = .ok (.iload 7, 2) := by decide +kernel
theorem dX9_isPossible_73 : decode cX9_isPossible 73 = .ok (.ifCond .le 10, 3) := by decide +kernel
theorem dX9_isPossible_76 : decode cX9_isPossible 76 = .ok (.iload 5, 2) := by decide +kernel
theorem dX9_isPossible_78 : decode cX9_isPossible 78 = .ok (.iconst 1, 1) := by decide +kernel
theorem dX9_isPossible_79 : decode cX9_isPossible 79 = .ok (.iadd, 1) := by decide +kernel
theorem dX9_isPossible_80 : decode cX9_isPossible 80 = .ok (.goto 4, 3) := by decide +kernel
theorem dX9_isPossible_83 : decode cX9_isPossible 83 = .ok (.iconst 0, 1) := by decide +kernel
theorem dX9_isPossible_84 : decode cX9_isPossible 84 = .ok (.istore 5, 2) := by decide +kernel
theorem dX9_isPossible_86 : decode cX9_isPossible 86 = .ok (.iload 7, 2) := by decide +kernel
theorem dX9_isPossible_88 : decode cX9_isPossible 88 = .ok (.ifCond .eq 18, 3) := by decide +kernel
theorem dX9_isPossible_91 : decode cX9_isPossible 91 = .ok (.aload_n 0, 1) := by decide +kernel
theorem dX9_isPossible_92 : decode cX9_isPossible 92 = .ok (.getfield 13, 3) := by decide +kernel
theorem dX9_isPossible_95 : decode cX9_isPossible 95 = .ok (.iload_n 1, 1) := by decide +kernel
theorem dX9_isPossible_96 : decode cX9_isPossible 96 = .ok (.iaload, 1) := by decide +kernel
theorem dX9_isPossible_97 : decode cX9_isPossible 97 = .ok (.iload 7, 2) := by decide +kernel
theorem dX9_isPossible_99 : decode cX9_isPossible 99 = .ok (.ishr, 1) := by decide +kernel
theorem dX9_isPossible_100 : decode cX9_isPossible 100 = .ok (.iconst 1, 1) := by decide +kernel
theorem dX9_isPossible_101 : decode cX9_isPossible 101 = .ok (.iand, 1) := by decide +kernel
theorem dX9_isPossible_102 : decode cX9_isPossible 102 = .ok (.iconst 1, 1) := by decide +kernel
theorem dX9_isPossible_103 : decode cX9_isPossible 103 = .ok (.if_icmp .ne 44, 3) := by decide +kernel
theorem dX9_isPossible_106 : decode cX9_isPossible 106 = .ok (.iload 8, 2) := by decide +kernel
theorem dX9_isPossible_108 : decode cX9_isPossible 108 = .ok (.iconst (-1), 1) := by decide +kernel
theorem dX9_isPossible_109 : decode cX9_isPossible 109 = .ok (.if_icmp .eq 10, 3) := by decide +kernel
theorem dX9_isPossible_112 : decode cX9_isPossible 112 = .ok (.iload 8, 2) := by decide +kernel
theorem dX9_isPossible_114 : decode cX9_isPossible 114 = .ok (.iload 7, 2) := by decide +kernel
theorem dX9_isPossible_116 : decode cX9_isPossible 116 = .ok (.if_icmp .ne 31, 3) := by decide +kernel
theorem dX9_isPossible_119 : decode cX9_isPossible 119 = .ok (.aload_n 0, 1) := by decide +kernel
theorem dX9_isPossible_120 : decode cX9_isPossible 120 = .ok (.getfield 23, 3) := by decide +kernel
theorem dX9_isPossible_123 : decode cX9_isPossible 123 = .ok (.iconst 4, 1) := by decide +kernel
theorem dX9_isPossible_124 : decode cX9_isPossible 124 = .ok (.iload 4, 2) := by decide +kernel
theorem dX9_isPossible_126 : decode cX9_isPossible 126 = .ok (.imul, 1) := by decide +kernel
theorem dX9_isPossible_127 : decode cX9_isPossible 127 = .ok (.iload 7, 2) := by decide +kernel
theorem dX9_isPossible_129 : decode cX9_isPossible 129 = .ok (.iadd, 1) := by decide +kernel
theorem dX9_isPossible_130 : decode cX9_isPossible 130 = .ok (.iaload, 1) := by decide +kernel
theorem dX9_isPossible_131 : decode cX9_isPossible 131 = .ok (.ifCond .ne 16, 3) := by decide +kernel
theorem dX9_isPossible_134 : decode cX9_isPossible 134 = .ok (.iload 5, 2) := by decide +kernel
theorem dX9_isPossible_136 : decode cX9_isPossible 136 = .ok (.aload_n 0, 1) := by decide +kernel
theorem dX9_isPossible_137 : decode cX9_isPossible 137 = .ok (.getfield 7, 3) := by decide +kernel
theorem dX9_isPossible_140 : decode cX9_isPossible 140 = .ok (.if_icmp .gt 7, 3) := by decide +kernel
theorem dX9_isPossible_143 : decode cX9_isPossible 143 = .ok (.iconst 1, 1) := by decide +kernel
theorem dX9_isPossible_144 : decode cX9_isPossible 144 = .ok (.goto 4, 3) := by decide +kernel
theorem dX9_isPossible_147 : decode cX9_isPossible 147 = .ok (.iconst 0, 1) := by decide +kernel
theorem dX9_isPossible_148 : decode cX9_isPossible 148 = .ok (.istore_n 3, 1) := by decide +kernel
theorem dX9_isPossible_149 : decode cX9_isPossible 149 = .ok (.iload 7, 2) := by decide +kernel
theorem dX9_isPossible_151 : decode cX9_isPossible 151 = .ok (.istore 4, 2) := by decide +kernel
theorem dX9_isPossible_153 : decode cX9_isPossible 153 = .ok (.iinc 6 1, 3) := by decide +kernel
theorem dX9_isPossible_156 : decode cX9_isPossible 156 = .ok (.goto (-118), 3) := by decide +kernel
theorem dX9_isPossible_159 : decode cX9_isPossible 159 = .ok (.iload_n 3, 1) := by decide +kernel
theorem dX9_isPossible_160 : decode cX9_isPossible 160 = .ok (.ireturn, 1) := by decide +kernel
set_option maxRecDepth 20000 in
theorem ggX9_brokenBy_X9_entryOf : GoodIn wsX9_brokenBy wsX9_entryOf := goodIn_r _ [5] (by decide +kernel) (by decide +kernel)
set_option maxRecDepth 20000 in
theorem gX9_brokenBy_X9_entryOf : GoodIn wsX9_brokenBy (va_wsS RX9 58 yX9_entryOf wsX9_entryOf) := goodIn_app (goodIn_of _ (by decide +kernel)) ggX9_brokenBy_X9_entryOf
theorem dX9_brokenBy_0 : decode cX9_brokenBy 0 = .ok (.iconst 0, 1) := by decide +kernel
theorem dX9_brokenBy_1 : decode cX9_brokenBy 1 = .ok (.istore_n 3, 1) := by decide +kernel
theorem dX9_brokenBy_2 : decode cX9_brokenBy 2 = .ok (.iconst 0, 1) := by decide +kernel
theorem dX9_brokenBy_3 : decode cX9_brokenBy 3 = .ok (.istore 4, 2) := by decide +kernel
theorem dX9_brokenBy_5 : decode cX9_brokenBy 5 = .ok (.iload 4, 2) := by decide +kernel
theorem dX9_brokenBy_7 : decode cX9_brokenBy 7 = .ok (.bipush 7, 2) := by decide +kernel
theorem dX9_brokenBy_9 : decode cX9_brokenBy 9 = .ok (.if_icmp .ge 41, 3) := by decide +kernel
theorem dX9_brokenBy_12 : decode cX9_brokenBy 12 = .ok (.iload_n 3, 1) := by decide +kernel
theorem dX9_brokenBy_13 : decode cX9_brokenBy 13 = .ok (.iload_n 2, 1) := by decide +kernel
theorem dX9_brokenBy_14 : decode cX9_brokenBy 14 = .ok (.iload 4, 2) := by decide +kernel
theorem dX9_brokenBy_16 : decode cX9_brokenBy 16 = .ok (.invokestatic 58, 3) := by decide +kernel
theorem dX9_brokenBy_19 : decode cX9_brokenBy 19 = .ok (.ifCond .le 22, 3) := by decide +kernel
theorem dX9_brokenBy_22 : decode cX9_brokenBy 22 = .ok (.aload_n 0, 1) := by decide +kernel
theorem dX9_brokenBy_23 : decode cX9_brokenBy 23 = .ok (.getfield 32, 3) := by decide +kernel
theorem dX9_brokenBy_26 : decode cX9_brokenBy 26 = .ok (.iload_n 1, 1) := by decide +kernel
theorem dX9_brokenBy_27 : decode cX9_brokenBy 27 = .ok (.iaload, 1) := by decide +kernel
theorem dX9_brokenBy_28 : decode cX9_brokenBy 28 = .ok (.iload 4, 2) := by decide +kernel
theorem dX9_brokenBy_30 : decode cX9_brokenBy 30 = .ok (.ishr, 1) := by decide +kernel
theorem dX9_brokenBy_31 : decode cX9_brokenBy 31 = .ok (.iconst 1, 1) := by decide +kernel
theorem dX9_brokenBy_32 : decode cX9_brokenBy 32 = .ok (.iand, 1) := by decide +kernel
theorem dX9_brokenBy_33 : decode cX9_brokenBy 33 = .ok (.iconst 1, 1) := by decide +kernel
theorem dX9_brokenBy_34 : decode cX9_brokenBy 34 = .ok (.if_icmp .ne 7, 3) := by decide +kernel
theorem dX9_brokenBy_37 : decode cX9_brokenBy 37 = .ok (.iconst 1, 1) := by decide +kernel
theorem dX9_brokenBy_38 : decode cX9_brokenBy 38 = .ok (.goto 4, 3) := by decide +kernel
theorem dX9_brokenBy_41 : decode cX9_brokenBy 41 = .ok (.iconst 0, 1) := by decide +kernel
theorem dX9_brokenBy_42 : decode cX9_brokenBy 42 = .ok (.iadd, 1) := by decide +kernel
theorem dX9_brokenBy_43 : decode cX9_brokenBy 43 = .ok (.istore_n 3, 1) := by decide +kernel
theorem dX9_brokenBy_44 : decode cX9_brokenBy 44 = .ok (.iinc 4 1, 3) := by decide +kernel
theorem dX9_brokenBy_47 : decode cX9_brokenBy 47 = .ok (.goto (-42), 3) := by decide +kernel
theorem dX9_brokenBy_50 : decode cX9_brokenBy 50 = .ok (.iload_n 3, 1) := by decide +kernel
theorem dX9_brokenBy_51 : decode cX9_brokenBy 51 = .ok (.ireturn, 1) := by decide +kernel
set_option maxRecDepth 20000 in
theorem ggX9_weekendOf_X9_entryOf : GoodIn wsX9_weekendOf wsX9_entryOf := goodIn_r _ [4] (by decide +kernel) (by decide +kernel)
set_option maxRecDepth 20000 in
theorem gX9_weekendOf_X9_entryOf : GoodIn wsX9_weekendOf (va_wsS RX9 58 yX9_entryOf wsX9_entryOf) := goodIn_app (goodIn_of _ (by decide +kernel)) ggX9_weekendOf_X9_entryOf
theorem dX9_weekendOf_0 : decode cX9_weekendOf 0 = .ok (.iload_n 0, 1) := by decide +kernel
theorem dX9_weekendOf_1 : decode cX9_weekendOf 1 = .ok (.iconst 5, 1) := by decide +kernel
theorem dX9_weekendOf_2 : decode cX9_weekendOf 2 = .ok (.invokestatic 58, 3) := by decide +kernel
theorem dX9_weekendOf_5 : decode cX9_weekendOf 5 = .ok (.ifCond .le 7, 3) := by decide +kernel
theorem dX9_weekendOf_8 : decode cX9_weekendOf 8 = .ok (.iconst 1, 1) := by decide +kernel
theorem dX9_weekendOf_9 : decode cX9_weekendOf 9 = .ok (.goto 4, 3) := by decide +kernel
theorem dX9_weekendOf_12 : decode cX9_weekendOf 12 = .ok (.iconst 0, 1) := by decide +kernel
theorem dX9_weekendOf_13 : decode cX9_weekendOf 13 = .ok (.iload_n 0, 1) := by decide +kernel
theorem dX9_weekendOf_14 : decode cX9_weekendOf 14 = .ok (.bipush 6, 2) := by decide +kernel
theorem dX9_weekendOf_16 : decode cX9_weekendOf 16 = .ok (.invokestatic 58, 3) := by decide +kernel
theorem dX9_weekendOf_19 : decode cX9_weekendOf 19 = .ok (.ifCond .le 7, 3) := by decide +kernel
theorem dX9_weekendOf_22 : decode cX9_weekendOf 22 = .ok (.iconst 1, 1) := by decide +kernel
theorem dX9_weekendOf_23 : decode cX9_weekendOf 23 = .ok (.goto 4, 3) := by decide +kernel
theorem dX9_weekendOf_26 : decode cX9_weekendOf 26 = .ok (.iconst 0, 1) := by decide +kernel
theorem dX9_weekendOf_27 : decode cX9_weekendOf 27 = .ok (.iadd, 1) := by decide +kernel
theorem dX9_weekendOf_28 : decode cX9_weekendOf 28 = .ok (.ireturn, 1) := by decide +kernel
set_option maxRecDepth 20000 in
theorem ggX9_addPerson_X9_in : GoodIn wsX9_addPerson wsX9_in := goodIn_r _ [9] (by decide +kernel) (by decide +kernel)
set_option maxRecDepth 20000 in
theorem gX9_addPerson_X9_in : GoodIn wsX9_addPerson (va_wsS RX9 50 yX9_in wsX9_in) := goodIn_app (goodIn_of _ (by decide +kernel)) ggX9_addPerson_X9_in
set_option maxRecDepth 20000 in
theorem ggX9_addPerson_X9_fails : GoodIn wsX9_addPerson wsX9_fails := goodIn_r _ [13, 1, 14, 15, 16, 17, 18, 19, 20, 21, 22, 23, 24, 25, 26, 27, 28] (by decide +kernel) (by decide +kernel)
set_option maxRecDepth 20000 in
theorem gX9_addPerson_X9_fails : GoodIn wsX9_addPerson (wsV RX9 66 RX9 yX9_fails wsX9_fails) := goodIn_app (goodIn_of _ (by decide +kernel)) ggX9_addPerson_X9_fails
theorem dX9_addPerson_0 : decode cX9_addPerson 0 = .ok (.aload_n 0, 1) := by decide +kernel
theorem dX9_addPerson_1 : decode cX9_addPerson 1 = .ok (.iconst 0, 1) := by decide +kernel
theorem dX9_addPerson_2 : decode cX9_addPerson 2 = .ok (.putfield 44, 3) := by decide +kernel
theorem dX9_addPerson_5 : decode cX9_addPerson 5 = .ok (.iload_n 1, 1) := by decide +kernel
theorem dX9_addPerson_6 : decode cX9_addPerson 6 = .ok (.iconst 2, 1) := by decide +kernel
theorem dX9_addPerson_7 : decode cX9_addPerson 7 = .ok (.bipush 14, 2) := by decide +kernel
theorem dX9_addPerson_9 : decode cX9_addPerson 9 = .ok (.invokestatic 50, 3) := by decide +kernel
theorem dX9_addPerson_12 : decode cX9_addPerson 12 = .ok (.ifCond .eq 20, 3) := by decide +kernel
theorem dX9_addPerson_15 : decode cX9_addPerson 15 = .ok (.iload_n 1, 1) := by decide +kernel
theorem dX9_addPerson_16 : decode cX9_addPerson 16 = .ok (.iconst 2, 1) := by decide +kernel
theorem dX9_addPerson_17 : decode cX9_addPerson 17 = .ok (.irem, 1) := by decide +kernel
theorem dX9_addPerson_18 : decode cX9_addPerson 18 = .ok (.iconst 1, 1) := by decide +kernel
theorem dX9_addPerson_19 : decode cX9_addPerson 19 = .ok (.if_icmp .eq 13, 3) := by decide +kernel
theorem dX9_addPerson_22 : decode cX9_addPerson 22 = .ok (.iload_n 2, 1) := by decide +kernel
theorem dX9_addPerson_23 : decode cX9_addPerson 23 = .ok (.iconst 0, 1) := by decide +kernel
theorem dX9_addPerson_24 : decode cX9_addPerson 24 = .ok (.bipush 7, 2) := by decide +kernel
theorem dX9_addPerson_26 : decode cX9_addPerson 26 = .ok (.invokestatic 50, 3) := by decide +kernel
theorem dX9_addPerson_29 : decode cX9_addPerson 29 = .ok (.ifCond .ne 9, 3) := by decide +kernel
theorem dX9_addPerson_32 : decode cX9_addPerson 32 = .ok (.aload_n 0, 1) := by decide +kernel
theorem dX9_addPerson_33 : decode cX9_addPerson 33 = .ok (.iconst 1, 1) := by decide +kernel
theorem dX9_addPerson_34 : decode cX9_addPerson 34 = .ok (.invokevirtual 66, 3) := by decide +kernel
theorem dX9_addPerson_37 : decode cX9_addPerson 37 = .ok (.ireturn, 1) := by decide +kernel
theorem dX9_addPerson_38 : decode cX9_addPerson 38 = .ok (.aload_n 0, 1) := by decide +kernel
theorem dX9_addPerson_39 : decode cX9_addPerson 39 = .ok (.getfield 47, 3) := by decide +kernel
theorem dX9_addPerson_42 : decode cX9_addPerson 42 = .ok (.bipush 8, 2) := by decide +kernel
theorem dX9_addPerson_44 : decode cX9_addPerson 44 = .ok (.if_icmp .ne 9, 3) := by decide +kernel
theorem dX9_addPerson_47 : decode cX9_addPerson 47 = .ok (.aload_n 0, 1) := by decide +kernel
theorem dX9_addPerson_48 : decode cX9_addPerson 48 = .ok (.iconst 2, 1) := by decide +kernel
theorem dX9_addPerson_49 : decode cX9_addPerson 49 = .ok (.invokevirtual 66, 3) := by decide +kernel
theorem dX9_addPerson_52 : decode cX9_addPerson 52 = .ok (.ireturn, 1) := by decide +kernel
theorem dX9_addPerson_53 : decode cX9_addPerson 53 = .ok (.aload_n 0, 1) := by decide +kernel
theorem dX9_addPerson_54 : decode cX9_addPerson 54 = .ok (.getfield 13, 3) := by decide +kernel
theorem dX9_addPerson_57 : decode cX9_addPerson 57 = .ok (.aload_n 0, 1) := by decide +kernel
theorem dX9_addPerson_58 : decode cX9_addPerson 58 = .ok (.getfield 47, 3) := by decide +kernel
theorem dX9_addPerson_61 : decode cX9_addPerson 61 = .ok (.iload_n 1, 1) := by decide +kernel
theorem dX9_addPerson_62 : decode cX9_addPerson 62 = .ok (.iastore, 1) := by decide +kernel
theorem dX9_addPerson_63 : decode cX9_addPerson 63 = .ok (.aload_n 0, 1) := by decide +kernel
theorem dX9_addPerson_64 : decode cX9_addPerson 64 = .ok (.getfield 17, 3) := by decide +kernel
theorem dX9_addPerson_67 : decode cX9_addPerson 67 = .ok (.aload_n 0, 1) := by decide +kernel
theorem dX9_addPerson_68 : decode cX9_addPerson 68 = .ok (.getfield 47, 3) := by decide +kernel
theorem dX9_addPerson_71 : decode cX9_addPerson 71 = .ok (.iload_n 2, 1) := by decide +kernel
theorem dX9_addPerson_72 : decode cX9_addPerson 72 = .ok (.iastore, 1) := by decide +kernel
theorem dX9_addPerson_73 : decode cX9_addPerson 73 = .ok (.iconst 0, 1) := by decide +kernel
theorem dX9_addPerson_74 : decode cX9_addPerson 74 = .ok (.istore_n 3, 1) := by decide +kernel
theorem dX9_addPerson_75 : decode cX9_addPerson 75 = .ok (.iload_n 3, 1) := by decide +kernel
theorem dX9_addPerson_76 : decode cX9_addPerson 76 = .ok (.bipush 7, 2) := by decide +kernel
theorem dX9_addPerson_78 : decode cX9_addPerson 78 = .ok (.if_icmp .ge 24, 3) := by decide +kernel
theorem dX9_addPerson_81 : decode cX9_addPerson 81 = .ok (.aload_n 0, 1) := by decide +kernel
theorem dX9_addPerson_82 : decode cX9_addPerson 82 = .ok (.getfield 29, 3) := by decide +kernel
theorem dX9_addPerson_85 : decode cX9_addPerson 85 = .ok (.bipush 7, 2) := by decide +kernel
theorem dX9_addPerson_87 : decode cX9_addPerson 87 = .ok (.aload_n 0, 1) := by decide +kernel
theorem dX9_addPerson_88 : decode cX9_addPerson 88 = .ok (.getfield 47, 3) := by decide +kernel
theorem dX9_addPerson_91 : decode cX9_addPerson 91 = .ok (.imul, 1) := by decide +kernel
theorem dX9_addPerson_92 : decode cX9_addPerson 92 = .ok (.iload_n 3, 1) := by decide +kernel
theorem dX9_addPerson_93 : decode cX9_addPerson 93 = .ok (.iadd, 1) := by decide +kernel
theorem dX9_addPerson_94 : decode cX9_addPerson 94 = .ok (.iconst (-1), 1) := by decide +kernel
theorem dX9_addPerson_95 : decode cX9_addPerson 95 = .ok (.iastore, 1) := by decide +kernel
theorem dX9_addPerson_96 : decode cX9_addPerson 96 = .ok (.iinc 3 1, 3) := by decide +kernel
theorem dX9_addPerson_99 : decode cX9_addPerson 99 = .ok (.goto (-24), 3) := by decide +kernel
theorem dX9_addPerson_102 : decode cX9_addPerson 102 = .ok (.aload_n 0, 1) := by decide +kernel
theorem dX9_addPerson_103 : decode cX9_addPerson 103 = .ok (.dup, 1) := by decide +kernel
theorem dX9_addPerson_104 : decode cX9_addPerson 104 = .ok (.getfield 47, 3) := by decide +kernel
theorem dX9_addPerson_107 : decode cX9_addPerson 107 = .ok (.iconst 1, 1) := by decide +kernel
theorem dX9_addPerson_108 : decode cX9_addPerson 108 = .ok (.iadd, 1) := by decide +kernel
theorem dX9_addPerson_109 : decode cX9_addPerson 109 = .ok (.putfield 47, 3) := by decide +kernel
theorem dX9_addPerson_112 : decode cX9_addPerson 112 = .ok (.aload_n 0, 1) := by decide +kernel
theorem dX9_addPerson_113 : decode cX9_addPerson 113 = .ok (.getfield 47, 3) := by decide +kernel
theorem dX9_addPerson_116 : decode cX9_addPerson 116 = .ok (.iconst 1, 1) := by decide +kernel
theorem dX9_addPerson_117 : decode cX9_addPerson 117 = .ok (.isub, 1) := by decide +kernel
theorem dX9_addPerson_118 : decode cX9_addPerson 118 = .ok (.ireturn, 1) := by decide +kernel
set_option maxRecDepth 20000 in
theorem ggX9_setNeed_X9_isDay : GoodIn wsX9_setNeed wsX9_isDay := goodIn_r _ [6, 7, 8, 5, 9] (by decide +kernel) (by decide +kernel)
set_option maxRecDepth 20000 in
theorem gX9_setNeed_X9_isDay : GoodIn wsX9_setNeed (va_wsS RX9 69 yX9_isDay wsX9_isDay) := goodIn_app (goodIn_of _ (by decide +kernel)) ggX9_setNeed_X9_isDay
set_option maxRecDepth 20000 in
theorem ggX9_setNeed_X9_isKind : GoodIn wsX9_setNeed wsX9_isKind := goodIn_r _ [12, 7, 8, 5, 9] (by decide +kernel) (by decide +kernel)
set_option maxRecDepth 20000 in
theorem gX9_setNeed_X9_isKind : GoodIn wsX9_setNeed (va_wsS RX9 72 yX9_isKind wsX9_isKind) := goodIn_app (goodIn_of _ (by decide +kernel)) ggX9_setNeed_X9_isKind
set_option maxRecDepth 20000 in
theorem ggX9_setNeed_X9_fails : GoodIn wsX9_setNeed wsX9_fails := goodIn_r _ [16, 1, 17, 18, 19, 20, 21, 22, 23, 24, 25, 26, 27, 28, 29, 30, 31] (by decide +kernel) (by decide +kernel)
set_option maxRecDepth 20000 in
theorem gX9_setNeed_X9_fails : GoodIn wsX9_setNeed (wsV RX9 66 RX9 yX9_fails wsX9_fails) := goodIn_app (goodIn_of _ (by decide +kernel)) ggX9_setNeed_X9_fails
set_option maxRecDepth 20000 in
theorem ggX9_setNeed_X9_in : GoodIn wsX9_setNeed wsX9_in := goodIn_r _ [9] (by decide +kernel) (by decide +kernel)
set_option maxRecDepth 20000 in
theorem gX9_setNeed_X9_in : GoodIn wsX9_setNeed (va_wsS RX9 50 yX9_in wsX9_in) := goodIn_app (goodIn_of _ (by decide +kernel)) ggX9_setNeed_X9_in
theorem dX9_setNeed_0 : decode cX9_setNeed 0 = .ok (.aload_n 0, 1) := by decide +kernel
theorem dX9_setNeed_1 : decode cX9_setNeed 1 = .ok (.iconst 0, 1) := by decide +kernel
theorem dX9_setNeed_2 : decode cX9_setNeed 2 = .ok (.putfield 44, 3) := by decide +kernel
theorem dX9_setNeed_5 : decode cX9_setNeed 5 = .ok (.iload_n 1, 1) := by decide +kernel
theorem dX9_setNeed_6 : decode cX9_setNeed 6 = .ok (.invokestatic 69, 3) := by decide +kernel
theorem dX9_setNeed_9 : decode cX9_setNeed 9 = .ok (.ifCond .eq 10, 3) := by decide +kernel
theorem dX9_setNeed_12 : decode cX9_setNeed 12 = .ok (.iload_n 2, 1) := by decide +kernel
theorem dX9_setNeed_13 : decode cX9_setNeed 13 = .ok (.invokestatic 72, 3) := by decide +kernel
theorem dX9_setNeed_16 : decode cX9_setNeed 16 = .ok (.ifCond .ne 9, 3) := by decide +kernel
theorem dX9_setNeed_19 : decode cX9_setNeed 19 = .ok (.aload_n 0, 1) := by decide +kernel
theorem dX9_setNeed_20 : decode cX9_setNeed 20 = .ok (.iconst 1, 1) := by decide +kernel
theorem dX9_setNeed_21 : decode cX9_setNeed 21 = .ok (.invokevirtual 66, 3) := by decide +kernel
theorem dX9_setNeed_24 : decode cX9_setNeed 24 = .ok (.ireturn, 1) := by decide +kernel
theorem dX9_setNeed_25 : decode cX9_setNeed 25 = .ok (.iload_n 3, 1) := by decide +kernel
theorem dX9_setNeed_26 : decode cX9_setNeed 26 = .ok (.iconst 0, 1) := by decide +kernel
theorem dX9_setNeed_27 : decode cX9_setNeed 27 = .ok (.iconst 5, 1) := by decide +kernel
theorem dX9_setNeed_28 : decode cX9_setNeed 28 = .ok (.invokestatic 50, 3) := by decide +kernel
theorem dX9_setNeed_31 : decode cX9_setNeed 31 = .ok (.ifCond .ne 9, 3) := by decide +kernel
theorem dX9_setNeed_34 : decode cX9_setNeed 34 = .ok (.aload_n 0, 1) := by decide +kernel
theorem dX9_setNeed_35 : decode cX9_setNeed 35 = .ok (.iconst 2, 1) := by decide +kernel
theorem dX9_setNeed_36 : decode cX9_setNeed 36 = .ok (.invokevirtual 66, 3) := by decide +kernel
theorem dX9_setNeed_39 : decode cX9_setNeed 39 = .ok (.ireturn, 1) := by decide +kernel
theorem dX9_setNeed_40 : decode cX9_setNeed 40 = .ok (.aload_n 0, 1) := by decide +kernel
theorem dX9_setNeed_41 : decode cX9_setNeed 41 = .ok (.getfield 20, 3) := by decide +kernel
theorem dX9_setNeed_44 : decode cX9_setNeed 44 = .ok (.iconst 4, 1) := by decide +kernel
theorem dX9_setNeed_45 : decode cX9_setNeed 45 = .ok (.iload_n 1, 1) := by decide +kernel
theorem dX9_setNeed_46 : decode cX9_setNeed 46 = .ok (.imul, 1) := by decide +kernel
theorem dX9_setNeed_47 : decode cX9_setNeed 47 = .ok (.iload_n 2, 1) := by decide +kernel
theorem dX9_setNeed_48 : decode cX9_setNeed 48 = .ok (.iadd, 1) := by decide +kernel
theorem dX9_setNeed_49 : decode cX9_setNeed 49 = .ok (.iaload, 1) := by decide +kernel
theorem dX9_setNeed_50 : decode cX9_setNeed 50 = .ok (.istore 4, 2) := by decide +kernel
theorem dX9_setNeed_52 : decode cX9_setNeed 52 = .ok (.aload_n 0, 1) := by decide +kernel
theorem dX9_setNeed_53 : decode cX9_setNeed 53 = .ok (.getfield 20, 3) := by decide +kernel
theorem dX9_setNeed_56 : decode cX9_setNeed 56 = .ok (.iconst 4, 1) := by decide +kernel
theorem dX9_setNeed_57 : decode cX9_setNeed 57 = .ok (.iload_n 1, 1) := by decide +kernel
theorem dX9_setNeed_58 : decode cX9_setNeed 58 = .ok (.imul, 1) := by decide +kernel
theorem dX9_setNeed_59 : decode cX9_setNeed 59 = .ok (.iload_n 2, 1) := by decide +kernel
theorem dX9_setNeed_60 : decode cX9_setNeed 60 = .ok (.iadd, 1) := by decide +kernel
theorem dX9_setNeed_61 : decode cX9_setNeed 61 = .ok (.iload_n 3, 1) := by decide +kernel
theorem dX9_setNeed_62 : decode cX9_setNeed 62 = .ok (.iastore, 1) := by decide +kernel
theorem dX9_setNeed_63 : decode cX9_setNeed 63 = .ok (.iload 4, 2) := by decide +kernel
theorem dX9_setNeed_65 : decode cX9_setNeed 65 = .ok (.ireturn, 1) := by decide +kernel
set_option maxRecDepth 20000 in
theorem ggX9_forbid_X9_isKind : GoodIn wsX9_forbid wsX9_isKind := goodIn_r _ [6, 7, 8, 5, 9] (by decide +kernel) (by decide +kernel)
set_option maxRecDepth 20000 in
theorem gX9_forbid_X9_isKind : GoodIn wsX9_forbid (va_wsS RX9 72 yX9_isKind wsX9_isKind) := goodIn_app (goodIn_of _ (by decide +kernel)) ggX9_forbid_X9_isKind
theorem dX9_forbid_0 : decode cX9_forbid 0 = .ok (.aload_n 0, 1) := by decide +kernel
theorem dX9_forbid_1 : decode cX9_forbid 1 = .ok (.iload_n 1, 1) := by decide +kernel
theorem dX9_forbid_2 : decode cX9_forbid 2 = .ok (.invokestatic 72, 3) := by decide +kernel
theorem dX9_forbid_5 : decode cX9_forbid 5 = .ok (.ifCond .eq 14, 3) := by decide +kernel
theorem dX9_forbid_8 : decode cX9_forbid 8 = .ok (.iload_n 2, 1) := by decide +kernel
theorem dX9_forbid_9 : decode cX9_forbid 9 = .ok (.invokestatic 72, 3) := by decide +kernel
theorem dX9_forbid_12 : decode cX9_forbid 12 = .ok (.ifCond .eq 7, 3) := by decide +kernel
theorem dX9_forbid_15 : decode cX9_forbid 15 = .ok (.iconst 0, 1) := by decide +kernel
theorem dX9_forbid_16 : decode cX9_forbid 16 = .ok (.goto 4, 3) := by decide +kernel
theorem dX9_forbid_19 : decode cX9_forbid 19 = .ok (.iconst 1, 1) := by decide +kernel
theorem dX9_forbid_20 : decode cX9_forbid 20 = .ok (.putfield 44, 3) := by decide +kernel
theorem dX9_forbid_23 : decode cX9_forbid 23 = .ok (.iload_n 3, 1) := by decide +kernel
theorem dX9_forbid_24 : decode cX9_forbid 24 = .ok (.ifCond .eq 7, 3) := by decide +kernel
theorem dX9_forbid_27 : decode cX9_forbid 27 = .ok (.iconst 1, 1) := by decide +kernel
theorem dX9_forbid_28 : decode cX9_forbid 28 = .ok (.goto 4, 3) := by decide +kernel
theorem dX9_forbid_31 : decode cX9_forbid 31 = .ok (.iconst 0, 1) := by decide +kernel
theorem dX9_forbid_32 : decode cX9_forbid 32 = .ok (.istore 4, 2) := by decide +kernel
theorem dX9_forbid_34 : decode cX9_forbid 34 = .ok (.aload_n 0, 1) := by decide +kernel
theorem dX9_forbid_35 : decode cX9_forbid 35 = .ok (.getfield 44, 3) := by decide +kernel
theorem dX9_forbid_38 : decode cX9_forbid 38 = .ok (.ifCond .ne 22, 3) := by decide +kernel
theorem dX9_forbid_41 : decode cX9_forbid 41 = .ok (.aload_n 0, 1) := by decide +kernel
theorem dX9_forbid_42 : decode cX9_forbid 42 = .ok (.getfield 23, 3) := by decide +kernel
theorem dX9_forbid_45 : decode cX9_forbid 45 = .ok (.iconst 4, 1) := by decide +kernel
theorem dX9_forbid_46 : decode cX9_forbid 46 = .ok (.iload_n 1, 1) := by decide +kernel
theorem dX9_forbid_47 : decode cX9_forbid 47 = .ok (.imul, 1) := by decide +kernel
theorem dX9_forbid_48 : decode cX9_forbid 48 = .ok (.iload_n 2, 1) := by decide +kernel
theorem dX9_forbid_49 : decode cX9_forbid 49 = .ok (.iadd, 1) := by decide +kernel
theorem dX9_forbid_50 : decode cX9_forbid 50 = .ok (.iaload, 1) := by decide +kernel
theorem dX9_forbid_51 : decode cX9_forbid 51 = .ok (.iload 4, 2) := by decide +kernel
theorem dX9_forbid_53 : decode cX9_forbid 53 = .ok (.if_icmp .eq 7, 3) := by decide +kernel
theorem dX9_forbid_56 : decode cX9_forbid 56 = .ok (.iconst 1, 1) := by decide +kernel
theorem dX9_forbid_57 : decode cX9_forbid 57 = .ok (.goto 4, 3) := by decide +kernel
theorem dX9_forbid_60 : decode cX9_forbid 60 = .ok (.iconst 0, 1) := by decide +kernel
theorem dX9_forbid_61 : decode cX9_forbid 61 = .ok (.istore 5, 2) := by decide +kernel
theorem dX9_forbid_63 : decode cX9_forbid 63 = .ok (.iload 5, 2) := by decide +kernel
theorem dX9_forbid_65 : decode cX9_forbid 65 = .ok (.ifCond .eq 15, 3) := by decide +kernel
theorem dX9_forbid_68 : decode cX9_forbid 68 = .ok (.aload_n 0, 1) := by decide +kernel
theorem dX9_forbid_69 : decode cX9_forbid 69 = .ok (.getfield 23, 3) := by decide +kernel
theorem dX9_forbid_72 : decode cX9_forbid 72 = .ok (.iconst 4, 1) := by decide +kernel
theorem dX9_forbid_73 : decode cX9_forbid 73 = .ok (.iload_n 1, 1) := by decide +kernel
theorem dX9_forbid_74 : decode cX9_forbid 74 = .ok (.imul, 1) := by decide +kernel
theorem dX9_forbid_75 : decode cX9_forbid 75 = .ok (.iload_n 2, 1) := by decide +kernel
theorem dX9_forbid_76 : decode cX9_forbid 76 = .ok (.iadd, 1) := by decide +kernel
theorem dX9_forbid_77 : decode cX9_forbid 77 = .ok (.iload 4, 2) := by decide +kernel
theorem dX9_forbid_79 : decode cX9_forbid 79 = .ok (.iastore, 1) := by decide +kernel
theorem dX9_forbid_80 : decode cX9_forbid 80 = .ok (.iload 5, 2) := by decide +kernel
theorem dX9_forbid_82 : decode cX9_forbid 82 = .ok (.ireturn, 1) := by decide +kernel
set_option maxRecDepth 20000 in
theorem ggX9_setRun_X9_in : GoodIn wsX9_setRun wsX9_in := goodIn_r _ [6] (by decide +kernel) (by decide +kernel)
set_option maxRecDepth 20000 in
theorem gX9_setRun_X9_in : GoodIn wsX9_setRun (va_wsS RX9 50 yX9_in wsX9_in) := goodIn_app (goodIn_of _ (by decide +kernel)) ggX9_setRun_X9_in
set_option maxRecDepth 20000 in
theorem ggX9_setRun_X9_fails : GoodIn wsX9_setRun wsX9_fails := goodIn_r _ [10, 1, 11, 12, 13, 14, 15, 16, 17, 18, 19, 20, 21, 22, 23, 24, 25] (by decide +kernel) (by decide +kernel)
set_option maxRecDepth 20000 in
theorem gX9_setRun_X9_fails : GoodIn wsX9_setRun (wsV RX9 66 RX9 yX9_fails wsX9_fails) := goodIn_app (goodIn_of _ (by decide +kernel)) ggX9_setRun_X9_fails
theorem dX9_setRun_0 : decode cX9_setRun 0 = .ok (.aload_n 0, 1) := by decide +kernel
theorem dX9_setRun_1 : decode cX9_setRun 1 = .ok (.iconst 0, 1) := by decide +kernel
theorem dX9_setRun_2 : decode cX9_setRun 2 = .ok (.putfield 44, 3) := by decide +kernel
theorem dX9_setRun_5 : decode cX9_setRun 5 = .ok (.iload_n 1, 1) := by decide +kernel
theorem dX9_setRun_6 : decode cX9_setRun 6 = .ok (.iconst 1, 1) := by decide +kernel
theorem dX9_setRun_7 : decode cX9_setRun 7 = .ok (.bipush 14, 2) := by decide +kernel
theorem dX9_setRun_9 : decode cX9_setRun 9 = .ok (.invokestatic 50, 3) := by decide +kernel
theorem dX9_setRun_12 : decode cX9_setRun 12 = .ok (.ifCond .ne 9, 3) := by decide +kernel
theorem dX9_setRun_15 : decode cX9_setRun 15 = .ok (.aload_n 0, 1) := by decide +kernel
theorem dX9_setRun_16 : decode cX9_setRun 16 = .ok (.iconst 1, 1) := by decide +kernel
theorem dX9_setRun_17 : decode cX9_setRun 17 = .ok (.invokevirtual 66, 3) := by decide +kernel
theorem dX9_setRun_20 : decode cX9_setRun 20 = .ok (.ireturn, 1) := by decide +kernel
theorem dX9_setRun_21 : decode cX9_setRun 21 = .ok (.aload_n 0, 1) := by decide +kernel
theorem dX9_setRun_22 : decode cX9_setRun 22 = .ok (.getfield 7, 3) := by decide +kernel
theorem dX9_setRun_25 : decode cX9_setRun 25 = .ok (.istore_n 2, 1) := by decide +kernel
theorem dX9_setRun_26 : decode cX9_setRun 26 = .ok (.aload_n 0, 1) := by decide +kernel
theorem dX9_setRun_27 : decode cX9_setRun 27 = .ok (.iload_n 1, 1) := by decide +kernel
theorem dX9_setRun_28 : decode cX9_setRun 28 = .ok (.putfield 7, 3) := by decide +kernel
theorem dX9_setRun_31 : decode cX9_setRun 31 = .ok (.iload_n 2, 1) := by decide +kernel
theorem dX9_setRun_32 : decode cX9_setRun 32 = .ok (.ireturn, 1) := by decide +kernel
set_option maxRecDepth 20000 in
theorem ggX9_wish_X9_isPerson : GoodIn wsX9_wish wsX9_isPerson := goodIn_r _ [7, 8, 9, 10, 6, 11, 15, 16, 17, 18, 19, 20, 21, 22, 23, 24, 25, 26, 27, 28, 29] (by decide +kernel) (by decide +kernel)
set_option maxRecDepth 20000 in
theorem gX9_wish_X9_isPerson : GoodIn wsX9_wish (wsV RX9 54 RX9 yX9_isPerson wsX9_isPerson) := goodIn_app (goodIn_of _ (by decide +kernel)) ggX9_wish_X9_isPerson
set_option maxRecDepth 20000 in
theorem ggX9_wish_X9_isDay : GoodIn wsX9_wish wsX9_isDay := goodIn_r _ [14, 9, 10, 6, 11] (by decide +kernel) (by decide +kernel)
set_option maxRecDepth 20000 in
theorem gX9_wish_X9_isDay : GoodIn wsX9_wish (va_wsS RX9 69 yX9_isDay wsX9_isDay) := goodIn_app (goodIn_of _ (by decide +kernel)) ggX9_wish_X9_isDay
theorem dX9_wish_0 : decode cX9_wish 0 = .ok (.aload_n 0, 1) := by decide +kernel
theorem dX9_wish_1 : decode cX9_wish 1 = .ok (.aload_n 0, 1) := by decide +kernel
theorem dX9_wish_2 : decode cX9_wish 2 = .ok (.iload_n 1, 1) := by decide +kernel
theorem dX9_wish_3 : decode cX9_wish 3 = .ok (.invokevirtual 54, 3) := by decide +kernel
theorem dX9_wish_6 : decode cX9_wish 6 = .ok (.ifCond .eq 14, 3) := by decide +kernel
theorem dX9_wish_9 : decode cX9_wish 9 = .ok (.iload_n 2, 1) := by decide +kernel
theorem dX9_wish_10 : decode cX9_wish 10 = .ok (.invokestatic 69, 3) := by decide +kernel
theorem dX9_wish_13 : decode cX9_wish 13 = .ok (.ifCond .eq 7, 3) := by decide +kernel
theorem dX9_wish_16 : decode cX9_wish 16 = .ok (.iconst 0, 1) := by decide +kernel
theorem dX9_wish_17 : decode cX9_wish 17 = .ok (.goto 4, 3) := by decide +kernel
theorem dX9_wish_20 : decode cX9_wish 20 = .ok (.iconst 1, 1) := by decide +kernel
theorem dX9_wish_21 : decode cX9_wish 21 = .ok (.putfield 44, 3) := by decide +kernel
theorem dX9_wish_24 : decode cX9_wish 24 = .ok (.aload_n 0, 1) := by decide +kernel
theorem dX9_wish_25 : decode cX9_wish 25 = .ok (.getfield 44, 3) := by decide +kernel
theorem dX9_wish_28 : decode cX9_wish 28 = .ok (.ifCond .ne 29, 3) := by decide +kernel
theorem dX9_wish_31 : decode cX9_wish 31 = .ok (.aload_n 0, 1) := by decide +kernel
theorem dX9_wish_32 : decode cX9_wish 32 = .ok (.getfield 32, 3) := by decide +kernel
theorem dX9_wish_35 : decode cX9_wish 35 = .ok (.iload_n 1, 1) := by decide +kernel
theorem dX9_wish_36 : decode cX9_wish 36 = .ok (.iaload, 1) := by decide +kernel
theorem dX9_wish_37 : decode cX9_wish 37 = .ok (.iload_n 2, 1) := by decide +kernel
theorem dX9_wish_38 : decode cX9_wish 38 = .ok (.ishr, 1) := by decide +kernel
theorem dX9_wish_39 : decode cX9_wish 39 = .ok (.iconst 1, 1) := by decide +kernel
theorem dX9_wish_40 : decode cX9_wish 40 = .ok (.iand, 1) := by decide +kernel
theorem dX9_wish_41 : decode cX9_wish 41 = .ok (.iload_n 3, 1) := by decide +kernel
theorem dX9_wish_42 : decode cX9_wish 42 = .ok (.ifCond .eq 7, 3) := by decide +kernel
theorem dX9_wish_45 : decode cX9_wish 45 = .ok (.iconst 1, 1) := by decide +kernel
theorem dX9_wish_46 : decode cX9_wish 46 = .ok (.goto 4, 3) := by decide +kernel
theorem dX9_wish_49 : decode cX9_wish 49 = .ok (.iconst 0, 1) := by decide +kernel
theorem dX9_wish_50 : decode cX9_wish 50 = .ok (.if_icmp .eq 7, 3) := by decide +kernel
theorem dX9_wish_53 : decode cX9_wish 53 = .ok (.iconst 1, 1) := by decide +kernel
theorem dX9_wish_54 : decode cX9_wish 54 = .ok (.goto 4, 3) := by decide +kernel
theorem dX9_wish_57 : decode cX9_wish 57 = .ok (.iconst 0, 1) := by decide +kernel
theorem dX9_wish_58 : decode cX9_wish 58 = .ok (.istore 4, 2) := by decide +kernel
theorem dX9_wish_60 : decode cX9_wish 60 = .ok (.iload 4, 2) := by decide +kernel
theorem dX9_wish_62 : decode cX9_wish 62 = .ok (.ifCond .eq 15, 3) := by decide +kernel
theorem dX9_wish_65 : decode cX9_wish 65 = .ok (.aload_n 0, 1) := by decide +kernel
theorem dX9_wish_66 : decode cX9_wish 66 = .ok (.getfield 32, 3) := by decide +kernel
theorem dX9_wish_69 : decode cX9_wish 69 = .ok (.iload_n 1, 1) := by decide +kernel
theorem dX9_wish_70 : decode cX9_wish 70 = .ok (.dup2, 1) := by decide +kernel
theorem dX9_wish_71 : decode cX9_wish 71 = .ok (.iaload, 1) := by decide +kernel
theorem dX9_wish_72 : decode cX9_wish 72 = .ok (.iconst 1, 1) := by decide +kernel
theorem dX9_wish_73 : decode cX9_wish 73 = .ok (.iload_n 2, 1) := by decide +kernel
theorem dX9_wish_74 : decode cX9_wish 74 = .ok (.ishl, 1) := by decide +kernel
theorem dX9_wish_75 : decode cX9_wish 75 = .ok (.ixor, 1) := by decide +kernel
theorem dX9_wish_76 : decode cX9_wish 76 = .ok (.iastore, 1) := by decide +kernel
theorem dX9_wish_77 : decode cX9_wish 77 = .ok (.iload 4, 2) := by decide +kernel
theorem dX9_wish_79 : decode cX9_wish 79 = .ok (.ireturn, 1) := by decide +kernel
set_option maxRecDepth 20000 in
theorem ggX9_fix_X9_isPerson : GoodIn wsX9_fix wsX9_isPerson := goodIn_r _ [7, 8, 9, 10, 6, 11, 19, 20, 21, 22, 23, 24, 25, 26, 27, 28, 29, 30, 31, 32, 33] (by decide +kernel) (by decide +kernel)
set_option maxRecDepth 20000 in
theorem gX9_fix_X9_isPerson : GoodIn wsX9_fix (wsV RX9 54 RX9 yX9_isPerson wsX9_isPerson) := goodIn_app (goodIn_of _ (by decide +kernel)) ggX9_fix_X9_isPerson
set_option maxRecDepth 20000 in
theorem ggX9_fix_X9_isDay : GoodIn wsX9_fix wsX9_isDay := goodIn_r _ [14, 9, 10, 6, 11] (by decide +kernel) (by decide +kernel)
set_option maxRecDepth 20000 in
theorem gX9_fix_X9_isDay : GoodIn wsX9_fix (va_wsS RX9 69 yX9_isDay wsX9_isDay) := goodIn_app (goodIn_of _ (by decide +kernel)) ggX9_fix_X9_isDay
set_option maxRecDepth 20000 in
theorem ggX9_fix_X9_fails : GoodIn wsX9_fix wsX9_fails := goodIn_r _ [18, 1, 19, 20, 21, 22, 23, 24, 25, 26, 27, 28, 29, 30, 31, 32, 33] (by decide +kernel) (by decide +kernel)
set_option maxRecDepth 20000 in
theorem gX9_fix_X9_fails : GoodIn wsX9_fix (wsV RX9 66 RX9 yX9_fails wsX9_fails) := goodIn_app (goodIn_of _ (by decide +kernel)) ggX9_fix_X9_fails
set_option maxRecDepth 20000 in
theorem ggX9_fix_X9_in : GoodIn wsX9_fix wsX9_in := goodIn_r _ [11] (by decide +kernel) (by decide +kernel)
set_option maxRecDepth 20000 in
theorem gX9_fix_X9_in : GoodIn wsX9_fix (va_wsS RX9 50 yX9_in wsX9_in) := goodIn_app (goodIn_of _ (by decide +kernel)) ggX9_fix_X9_in
theorem dX9_fix_0 : decode cX9_fix 0 = .ok (.aload_n 0, 1) := by decide +kernel
theorem dX9_fix_1 : decode cX9_fix 1 = .ok (.iconst 0, 1) := by decide +kernel
theorem dX9_fix_2 : decode cX9_fix 2 = .ok (.putfield 44, 3) := by decide +kernel
theorem dX9_fix_5 : decode cX9_fix 5 = .ok (.aload_n 0, 1) := by decide +kernel
theorem dX9_fix_6 : decode cX9_fix 6 = .ok (.iload_n 1, 1) := by decide +kernel
theorem dX9_fix_7 : decode cX9_fix 7 = .ok (.invokevirtual 54, 3) := by decide +kernel
theorem dX9_fix_10 : decode cX9_fix 10 = .ok (.ifCond .eq 10, 3) := by decide +kernel
theorem dX9_fix_13 : decode cX9_fix 13 = .ok (.iload_n 2, 1) := by decide +kernel
theorem dX9_fix_14 : decode cX9_fix 14 = .ok (.invokestatic 69, 3) := by decide +kernel
theorem dX9_fix_17 : decode cX9_fix 17 = .ok (.ifCond .ne 9, 3) := by decide +kernel
theorem dX9_fix_20 : decode cX9_fix 20 = .ok (.aload_n 0, 1) := by decide +kernel
theorem dX9_fix_21 : decode cX9_fix 21 = .ok (.iconst 1, 1) := by decide +kernel
theorem dX9_fix_22 : decode cX9_fix 22 = .ok (.invokevirtual 66, 3) := by decide +kernel
theorem dX9_fix_25 : decode cX9_fix 25 = .ok (.ireturn, 1) := by decide +kernel
theorem dX9_fix_26 : decode cX9_fix 26 = .ok (.iload_n 3, 1) := by decide +kernel
theorem dX9_fix_27 : decode cX9_fix 27 = .ok (.iconst (-1), 1) := by decide +kernel
theorem dX9_fix_28 : decode cX9_fix 28 = .ok (.iconst 3, 1) := by decide +kernel
theorem dX9_fix_29 : decode cX9_fix 29 = .ok (.invokestatic 50, 3) := by decide +kernel
theorem dX9_fix_32 : decode cX9_fix 32 = .ok (.ifCond .ne 9, 3) := by decide +kernel
theorem dX9_fix_35 : decode cX9_fix 35 = .ok (.aload_n 0, 1) := by decide +kernel
theorem dX9_fix_36 : decode cX9_fix 36 = .ok (.iconst 2, 1) := by decide +kernel
theorem dX9_fix_37 : decode cX9_fix 37 = .ok (.invokevirtual 66, 3) := by decide +kernel
theorem dX9_fix_40 : decode cX9_fix 40 = .ok (.ireturn, 1) := by decide +kernel
theorem dX9_fix_41 : decode cX9_fix 41 = .ok (.aload_n 0, 1) := by decide +kernel
theorem dX9_fix_42 : decode cX9_fix 42 = .ok (.getfield 29, 3) := by decide +kernel
theorem dX9_fix_45 : decode cX9_fix 45 = .ok (.bipush 7, 2) := by decide +kernel
theorem dX9_fix_47 : decode cX9_fix 47 = .ok (.iload_n 1, 1) := by decide +kernel
theorem dX9_fix_48 : decode cX9_fix 48 = .ok (.imul, 1) := by decide +kernel
theorem dX9_fix_49 : decode cX9_fix 49 = .ok (.iload_n 2, 1) := by decide +kernel
theorem dX9_fix_50 : decode cX9_fix 50 = .ok (.iadd, 1) := by decide +kernel
theorem dX9_fix_51 : decode cX9_fix 51 = .ok (.iaload, 1) := by decide +kernel
theorem dX9_fix_52 : decode cX9_fix 52 = .ok (.istore 4, 2) := by decide +kernel
theorem dX9_fix_54 : decode cX9_fix 54 = .ok (.aload_n 0, 1) := by decide +kernel
theorem dX9_fix_55 : decode cX9_fix 55 = .ok (.getfield 29, 3) := by decide +kernel
theorem dX9_fix_58 : decode cX9_fix 58 = .ok (.bipush 7, 2) := by decide +kernel
theorem dX9_fix_60 : decode cX9_fix 60 = .ok (.iload_n 1, 1) := by decide +kernel
theorem dX9_fix_61 : decode cX9_fix 61 = .ok (.imul, 1) := by decide +kernel
theorem dX9_fix_62 : decode cX9_fix 62 = .ok (.iload_n 2, 1) := by decide +kernel
theorem dX9_fix_63 : decode cX9_fix 63 = .ok (.iadd, 1) := by decide +kernel
theorem dX9_fix_64 : decode cX9_fix 64 = .ok (.iload_n 3, 1) := by decide +kernel
theorem dX9_fix_65 : decode cX9_fix 65 = .ok (.iastore, 1) := by decide +kernel
theorem dX9_fix_66 : decode cX9_fix 66 = .ok (.iload 4, 2) := by decide +kernel
theorem dX9_fix_68 : decode cX9_fix 68 = .ok (.ireturn, 1) := by decide +kernel
theorem dX9_countEntries_0 : decode cX9_countEntries 0 = .ok (.iconst 0, 1) := by decide +kernel
theorem dX9_countEntries_1 : decode cX9_countEntries 1 = .ok (.istore 4, 2) := by decide +kernel
theorem dX9_countEntries_3 : decode cX9_countEntries 3 = .ok (.iconst 0, 1) := by decide +kernel
theorem dX9_countEntries_4 : decode cX9_countEntries 4 = .ok (.istore 5, 2) := by decide +kernel
theorem dX9_countEntries_6 : decode cX9_countEntries 6 = .ok (.iload 5, 2) := by decide +kernel
theorem dX9_countEntries_8 : decode cX9_countEntries 8 = .ok (.aload_n 0, 1) := by decide +kernel
theorem dX9_countEntries_9 : decode cX9_countEntries 9 = .ok (.getfield 47, 3) := by decide +kernel
theorem dX9_countEntries_12 : decode cX9_countEntries 12 = .ok (.if_icmp .ge 41, 3) := by decide +kernel
theorem dX9_countEntries_15 : decode cX9_countEntries 15 = .ok (.iload 4, 2) := by decide +kernel
theorem dX9_countEntries_17 : decode cX9_countEntries 17 = .ok (.iload 5, 2) := by decide +kernel
theorem dX9_countEntries_19 : decode cX9_countEntries 19 = .ok (.iload_n 3, 1) := by decide +kernel
theorem dX9_countEntries_20 : decode cX9_countEntries 20 = .ok (.if_icmp .eq 23, 3) := by decide +kernel
theorem dX9_countEntries_23 : decode cX9_countEntries 23 = .ok (.aload_n 0, 1) := by decide +kernel
theorem dX9_countEntries_24 : decode cX9_countEntries 24 = .ok (.getfield 26, 3) := by decide +kernel
theorem dX9_countEntries_27 : decode cX9_countEntries 27 = .ok (.bipush 7, 2) := by decide +kernel
theorem dX9_countEntries_29 : decode cX9_countEntries 29 = .ok (.iload 5, 2) := by decide +kernel
theorem dX9_countEntries_31 : decode cX9_countEntries 31 = .ok (.imul, 1) := by decide +kernel
theorem dX9_countEntries_32 : decode cX9_countEntries 32 = .ok (.iload_n 1, 1) := by decide +kernel
theorem dX9_countEntries_33 : decode cX9_countEntries 33 = .ok (.iadd, 1) := by decide +kernel
theorem dX9_countEntries_34 : decode cX9_countEntries 34 = .ok (.iaload, 1) := by decide +kernel
theorem dX9_countEntries_35 : decode cX9_countEntries 35 = .ok (.iload_n 2, 1) := by decide +kernel
theorem dX9_countEntries_36 : decode cX9_countEntries 36 = .ok (.if_icmp .ne 7, 3) := by decide +kernel
theorem dX9_countEntries_39 : decode cX9_countEntries 39 = .ok (.iconst 1, 1) := by decide +kernel
theorem dX9_countEntries_40 : decode cX9_countEntries 40 = .ok (.goto 4, 3) := by decide +kernel
theorem dX9_countEntries_43 : decode cX9_countEntries 43 = .ok (.iconst 0, 1) := by decide +kernel
theorem dX9_countEntries_44 : decode cX9_countEntries 44 = .ok (.iadd, 1) := by decide +kernel
theorem dX9_countEntries_45 : decode cX9_countEntries 45 = .ok (.istore 4, 2) := by decide +kernel
theorem dX9_countEntries_47 : decode cX9_countEntries 47 = .ok (.iinc 5 1, 3) := by decide +kernel
theorem dX9_countEntries_50 : decode cX9_countEntries 50 = .ok (.goto (-44), 3) := by decide +kernel
theorem dX9_countEntries_53 : decode cX9_countEntries 53 = .ok (.iload 4, 2) := by decide +kernel
theorem dX9_countEntries_55 : decode cX9_countEntries 55 = .ok (.ireturn, 1) := by decide +kernel
set_option maxRecDepth 20000 in
theorem ggX9_gapOf_X9_countEntries : GoodIn wsX9_gapOf wsX9_countEntries := goodIn_r _ [6, 7, 8, 9, 10, 11, 12, 13, 14, 15, 16, 17, 18, 19, 20, 21, 22, 23] (by decide +kernel) (by decide +kernel)
set_option maxRecDepth 20000 in
theorem gX9_gapOf_X9_countEntries : GoodIn wsX9_gapOf (wsV RX9 75 RX9 yX9_countEntries wsX9_countEntries) := goodIn_app (goodIn_of _ (by decide +kernel)) ggX9_gapOf_X9_countEntries
theorem dX9_gapOf_0 : decode cX9_gapOf 0 = .ok (.aload_n 0, 1) := by decide +kernel
theorem dX9_gapOf_1 : decode cX9_gapOf 1 = .ok (.getfield 20, 3) := by decide +kernel
theorem dX9_gapOf_4 : decode cX9_gapOf 4 = .ok (.iconst 4, 1) := by decide +kernel
theorem dX9_gapOf_5 : decode cX9_gapOf 5 = .ok (.iload_n 1, 1) := by decide +kernel
theorem dX9_gapOf_6 : decode cX9_gapOf 6 = .ok (.imul, 1) := by decide +kernel
theorem dX9_gapOf_7 : decode cX9_gapOf 7 = .ok (.iload_n 2, 1) := by decide +kernel
theorem dX9_gapOf_8 : decode cX9_gapOf 8 = .ok (.iadd, 1) := by decide +kernel
theorem dX9_gapOf_9 : decode cX9_gapOf 9 = .ok (.iaload, 1) := by decide +kernel
theorem dX9_gapOf_10 : decode cX9_gapOf 10 = .ok (.aload_n 0, 1) := by decide +kernel
theorem dX9_gapOf_11 : decode cX9_gapOf 11 = .ok (.iload_n 1, 1) := by decide +kernel
theorem dX9_gapOf_12 : decode cX9_gapOf 12 = .ok (.iload_n 2, 1) := by decide +kernel
theorem dX9_gapOf_13 : decode cX9_gapOf 13 = .ok (.iload_n 3, 1) := by decide +kernel
theorem dX9_gapOf_14 : decode cX9_gapOf 14 = .ok (.invokevirtual 75, 3) := by decide +kernel
theorem dX9_gapOf_17 : decode cX9_gapOf 17 = .ok (.isub, 1) := by decide +kernel
theorem dX9_gapOf_18 : decode cX9_gapOf 18 = .ok (.istore 4, 2) := by decide +kernel
theorem dX9_gapOf_20 : decode cX9_gapOf 20 = .ok (.iload 4, 2) := by decide +kernel
theorem dX9_gapOf_22 : decode cX9_gapOf 22 = .ok (.ifCond .le 8, 3) := by decide +kernel
theorem dX9_gapOf_25 : decode cX9_gapOf 25 = .ok (.iload 4, 2) := by decide +kernel
theorem dX9_gapOf_27 : decode cX9_gapOf 27 = .ok (.goto 4, 3) := by decide +kernel
theorem dX9_gapOf_30 : decode cX9_gapOf 30 = .ok (.iconst 0, 1) := by decide +kernel
theorem dX9_gapOf_31 : decode cX9_gapOf 31 = .ok (.ireturn, 1) := by decide +kernel
set_option maxRecDepth 20000 in
theorem ggX9_allGaps_X9_gapOf : GoodIn wsX9_allGaps wsX9_gapOf := goodIn_r _ [5, 6, 7, 8, 9, 4, 10, 11, 12, 13, 14, 15, 16, 17, 18, 19, 20, 21, 22, 23, 24, 25, 26, 27] (by decide +kernel) (by decide +kernel)
set_option maxRecDepth 20000 in
theorem gX9_allGaps_X9_gapOf : GoodIn wsX9_allGaps (wsV RX9 79 RX9 yX9_gapOf wsX9_gapOf) := goodIn_app (goodIn_of _ (by decide +kernel)) ggX9_allGaps_X9_gapOf
theorem dX9_allGaps_0 : decode cX9_allGaps 0 = .ok (.iconst 0, 1) := by decide +kernel
theorem dX9_allGaps_1 : decode cX9_allGaps 1 = .ok (.istore_n 1, 1) := by decide +kernel
theorem dX9_allGaps_2 : decode cX9_allGaps 2 = .ok (.iconst 0, 1) := by decide +kernel
theorem dX9_allGaps_3 : decode cX9_allGaps 3 = .ok (.istore_n 2, 1) := by decide +kernel
theorem dX9_allGaps_4 : decode cX9_allGaps 4 = .ok (.iload_n 2, 1) := by decide +kernel
theorem dX9_allGaps_5 : decode cX9_allGaps 5 = .ok (.bipush 7, 2) := by decide +kernel
theorem dX9_allGaps_7 : decode cX9_allGaps 7 = .ok (.if_icmp .ge 32, 3) := by decide +kernel
theorem dX9_allGaps_10 : decode cX9_allGaps 10 = .ok (.iconst 1, 1) := by decide +kernel
theorem dX9_allGaps_11 : decode cX9_allGaps 11 = .ok (.istore_n 3, 1) := by decide +kernel
theorem dX9_allGaps_12 : decode cX9_allGaps 12 = .ok (.iload_n 3, 1) := by decide +kernel
theorem dX9_allGaps_13 : decode cX9_allGaps 13 = .ok (.iconst 3, 1) := by decide +kernel
theorem dX9_allGaps_14 : decode cX9_allGaps 14 = .ok (.if_icmp .gt 19, 3) := by decide +kernel
theorem dX9_allGaps_17 : decode cX9_allGaps 17 = .ok (.iload_n 1, 1) := by decide +kernel
theorem dX9_allGaps_18 : decode cX9_allGaps 18 = .ok (.aload_n 0, 1) := by decide +kernel
theorem dX9_allGaps_19 : decode cX9_allGaps 19 = .ok (.iload_n 2, 1) := by decide +kernel
theorem dX9_allGaps_20 : decode cX9_allGaps 20 = .ok (.iload_n 3, 1) := by decide +kernel
theorem dX9_allGaps_21 : decode cX9_allGaps 21 = .ok (.iconst (-1), 1) := by decide +kernel
theorem dX9_allGaps_22 : decode cX9_allGaps 22 = .ok (.invokevirtual 79, 3) := by decide +kernel
theorem dX9_allGaps_25 : decode cX9_allGaps 25 = .ok (.iadd, 1) := by decide +kernel
theorem dX9_allGaps_26 : decode cX9_allGaps 26 = .ok (.istore_n 1, 1) := by decide +kernel
theorem dX9_allGaps_27 : decode cX9_allGaps 27 = .ok (.iinc 3 1, 3) := by decide +kernel
theorem dX9_allGaps_30 : decode cX9_allGaps 30 = .ok (.goto (-18), 3) := by decide +kernel
theorem dX9_allGaps_33 : decode cX9_allGaps 33 = .ok (.iinc 2 1, 3) := by decide +kernel
theorem dX9_allGaps_36 : decode cX9_allGaps 36 = .ok (.goto (-32), 3) := by decide +kernel
theorem dX9_allGaps_39 : decode cX9_allGaps 39 = .ok (.iload_n 1, 1) := by decide +kernel
theorem dX9_allGaps_40 : decode cX9_allGaps 40 = .ok (.ireturn, 1) := by decide +kernel
set_option maxRecDepth 20000 in
theorem ggX9_fills_X9_gapOf : GoodIn wsX9_fills wsX9_gapOf := goodIn_r _ [5, 6, 7, 8, 9, 4, 10, 11, 12, 13, 14, 15, 16, 17, 18, 19, 20, 21, 22, 23, 24, 25, 26, 27] (by decide +kernel) (by decide +kernel)
set_option maxRecDepth 20000 in
theorem gX9_fills_X9_gapOf : GoodIn wsX9_fills (wsV RX9 79 RX9 yX9_gapOf wsX9_gapOf) := goodIn_app (goodIn_of _ (by decide +kernel)) ggX9_fills_X9_gapOf
theorem dX9_fills_0 : decode cX9_fills 0 = .ok (.iconst 0, 1) := by decide +kernel
theorem dX9_fills_1 : decode cX9_fills 1 = .ok (.istore_n 2, 1) := by decide +kernel
theorem dX9_fills_2 : decode cX9_fills 2 = .ok (.iconst 0, 1) := by decide +kernel
theorem dX9_fills_3 : decode cX9_fills 3 = .ok (.istore_n 3, 1) := by decide +kernel
theorem dX9_fills_4 : decode cX9_fills 4 = .ok (.iload_n 3, 1) := by decide +kernel
theorem dX9_fills_5 : decode cX9_fills 5 = .ok (.bipush 7, 2) := by decide +kernel
theorem dX9_fills_7 : decode cX9_fills 7 = .ok (.if_icmp .ge 50, 3) := by decide +kernel
theorem dX9_fills_10 : decode cX9_fills 10 = .ok (.iconst 1, 1) := by decide +kernel
theorem dX9_fills_11 : decode cX9_fills 11 = .ok (.istore 4, 2) := by decide +kernel
theorem dX9_fills_13 : decode cX9_fills 13 = .ok (.iload 4, 2) := by decide +kernel
theorem dX9_fills_15 : decode cX9_fills 15 = .ok (.iconst 3, 1) := by decide +kernel
theorem dX9_fills_16 : decode cX9_fills 16 = .ok (.if_icmp .gt 35, 3) := by decide +kernel
theorem dX9_fills_19 : decode cX9_fills 19 = .ok (.iload_n 2, 1) := by decide +kernel
theorem dX9_fills_20 : decode cX9_fills 20 = .ok (.aload_n 0, 1) := by decide +kernel
theorem dX9_fills_21 : decode cX9_fills 21 = .ok (.iload_n 3, 1) := by decide +kernel
theorem dX9_fills_22 : decode cX9_fills 22 = .ok (.iload 4, 2) := by decide +kernel
theorem dX9_fills_24 : decode cX9_fills 24 = .ok (.iload_n 1, 1) := by decide +kernel
theorem dX9_fills_25 : decode cX9_fills 25 = .ok (.invokevirtual 79, 3) := by decide +kernel
theorem dX9_fills_28 : decode cX9_fills 28 = .ok (.ifCond .le 14, 3) := by decide +kernel
theorem dX9_fills_31 : decode cX9_fills 31 = .ok (.iconst 1, 1) := by decide +kernel
theorem dX9_fills_32 : decode cX9_fills 32 = .ok (.iconst 4, 1) := by decide +kernel
theorem dX9_fills_33 : decode cX9_fills 33 = .ok (.iload_n 3, 1) := by decide +kernel
theorem dX9_fills_34 : decode cX9_fills 34 = .ok (.imul, 1) := by decide +kernel
theorem dX9_fills_35 : decode cX9_fills 35 = .ok (.iload 4, 2) := by decide +kernel
theorem dX9_fills_37 : decode cX9_fills 37 = .ok (.iadd, 1) := by decide +kernel
theorem dX9_fills_38 : decode cX9_fills 38 = .ok (.ishl, 1) := by decide +kernel
theorem dX9_fills_39 : decode cX9_fills 39 = .ok (.goto 4, 3) := by decide +kernel
theorem dX9_fills_42 : decode cX9_fills 42 = .ok (.iconst 0, 1) := by decide +kernel
theorem dX9_fills_43 : decode cX9_fills 43 = .ok (.ior, 1) := by decide +kernel
theorem dX9_fills_44 : decode cX9_fills 44 = .ok (.istore_n 2, 1) := by decide +kernel
theorem dX9_fills_45 : decode cX9_fills 45 = .ok (.iinc 4 1, 3) := by decide +kernel
theorem dX9_fills_48 : decode cX9_fills 48 = .ok (.goto (-35), 3) := by decide +kernel
theorem dX9_fills_51 : decode cX9_fills 51 = .ok (.iinc 3 1, 3) := by decide +kernel
theorem dX9_fills_54 : decode cX9_fills 54 = .ok (.goto (-50), 3) := by decide +kernel
theorem dX9_fills_57 : decode cX9_fills 57 = .ok (.iload_n 2, 1) := by decide +kernel
theorem dX9_fills_58 : decode cX9_fills 58 = .ok (.ireturn, 1) := by decide +kernel
set_option maxRecDepth 20000 in
theorem ggX9_price_X9_entryOf : GoodIn wsX9_price wsX9_entryOf := goodIn_r _ [6] (by decide +kernel) (by decide +kernel)
set_option maxRecDepth 20000 in
theorem gX9_price_X9_entryOf : GoodIn wsX9_price (va_wsS RX9 58 yX9_entryOf wsX9_entryOf) := goodIn_app (goodIn_of _ (by decide +kernel)) ggX9_price_X9_entryOf
set_option maxRecDepth 20000 in
theorem ggX9_price_X9_weekendOf : GoodIn wsX9_price wsX9_weekendOf := goodIn_r _ [9, 3, 4, 5, 6] (by decide +kernel) (by decide +kernel)
set_option maxRecDepth 20000 in
theorem gX9_price_X9_weekendOf : GoodIn wsX9_price (va_wsS RX9 82 yX9_weekendOf wsX9_weekendOf) := goodIn_app (goodIn_of _ (by decide +kernel)) ggX9_price_X9_weekendOf
set_option maxRecDepth 20000 in
theorem ggX9_price_X9_countShifts : GoodIn wsX9_price wsX9_countShifts := goodIn_r _ [12, 3, 4, 5, 6] (by decide +kernel) (by decide +kernel)
set_option maxRecDepth 20000 in
theorem gX9_price_X9_countShifts : GoodIn wsX9_price (va_wsS RX9 62 yX9_countShifts wsX9_countShifts) := goodIn_app (goodIn_of _ (by decide +kernel)) ggX9_price_X9_countShifts
set_option maxRecDepth 20000 in
theorem ggX9_price_X9_brokenBy : GoodIn wsX9_price wsX9_brokenBy := goodIn_r _ [16, 17, 3, 4, 5, 6, 18, 19, 20, 21, 22, 23, 24, 25, 26, 27, 28, 29, 30, 31, 32] (by decide +kernel) (by decide +kernel)
set_option maxRecDepth 20000 in
theorem gX9_price_X9_brokenBy : GoodIn wsX9_price (wsV RX9 86 RX9 yX9_brokenBy wsX9_brokenBy) := goodIn_app (goodIn_of _ (by decide +kernel)) ggX9_price_X9_brokenBy
theorem dX9_price_0 : decode cX9_price 0 = .ok (.bipush 7, 2) := by decide +kernel
theorem dX9_price_2 : decode cX9_price 2 = .ok (.istore 4, 2) := by decide +kernel
theorem dX9_price_4 : decode cX9_price 4 = .ok (.iconst 0, 1) := by decide +kernel
theorem dX9_price_5 : decode cX9_price 5 = .ok (.istore 5, 2) := by decide +kernel
theorem dX9_price_7 : decode cX9_price 7 = .ok (.iload 5, 2) := by decide +kernel
theorem dX9_price_9 : decode cX9_price 9 = .ok (.bipush 7, 2) := by decide +kernel
theorem dX9_price_11 : decode cX9_price 11 = .ok (.if_icmp .ge 47, 3) := by decide +kernel
theorem dX9_price_14 : decode cX9_price 14 = .ok (.iload_n 2, 1) := by decide +kernel
theorem dX9_price_15 : decode cX9_price 15 = .ok (.iload 5, 2) := by decide +kernel
theorem dX9_price_17 : decode cX9_price 17 = .ok (.invokestatic 58, 3) := by decide +kernel
theorem dX9_price_20 : decode cX9_price 20 = .ok (.istore 6, 2) := by decide +kernel
theorem dX9_price_22 : decode cX9_price 22 = .ok (.iload 4, 2) := by decide +kernel
theorem dX9_price_24 : decode cX9_price 24 = .ok (.iload 6, 2) := by decide +kernel
theorem dX9_price_26 : decode cX9_price 26 = .ok (.ifCond .le 22, 3) := by decide +kernel
theorem dX9_price_29 : decode cX9_price 29 = .ok (.iload_n 3, 1) := by decide +kernel
theorem dX9_price_30 : decode cX9_price 30 = .ok (.iconst 4, 1) := by decide +kernel
theorem dX9_price_31 : decode cX9_price 31 = .ok (.iload 5, 2) := by decide +kernel
theorem dX9_price_33 : decode cX9_price 33 = .ok (.imul, 1) := by decide +kernel
theorem dX9_price_34 : decode cX9_price 34 = .ok (.iload 6, 2) := by decide +kernel
theorem dX9_price_36 : decode cX9_price 36 = .ok (.iadd, 1) := by decide +kernel
theorem dX9_price_37 : decode cX9_price 37 = .ok (.ishr, 1) := by decide +kernel
theorem dX9_price_38 : decode cX9_price 38 = .ok (.iconst 1, 1) := by decide +kernel
theorem dX9_price_39 : decode cX9_price 39 = .ok (.iand, 1) := by decide +kernel
theorem dX9_price_40 : decode cX9_price 40 = .ok (.iconst 1, 1) := by decide +kernel
theorem dX9_price_41 : decode cX9_price 41 = .ok (.if_icmp .ne 7, 3) := by decide +kernel
theorem dX9_price_44 : decode cX9_price 44 = .ok (.iconst 1, 1) := by decide +kernel
theorem dX9_price_45 : decode cX9_price 45 = .ok (.goto 4, 3) := by decide +kernel
theorem dX9_price_48 : decode cX9_price 48 = .ok (.iconst 0, 1) := by decide +kernel
theorem dX9_price_49 : decode cX9_price 49 = .ok (.isub, 1) := by decide +kernel
theorem dX9_price_50 : decode cX9_price 50 = .ok (.istore 4, 2) := by decide +kernel
theorem dX9_price_52 : decode cX9_price 52 = .ok (.iinc 5 1, 3) := by decide +kernel
theorem dX9_price_55 : decode cX9_price 55 = .ok (.goto (-48), 3) := by decide +kernel
theorem dX9_price_58 : decode cX9_price 58 = .ok (.iload_n 2, 1) := by decide +kernel
theorem dX9_price_59 : decode cX9_price 59 = .ok (.invokestatic 82, 3) := by decide +kernel
theorem dX9_price_62 : decode cX9_price 62 = .ok (.aload_n 0, 1) := by decide +kernel
theorem dX9_price_63 : decode cX9_price 63 = .ok (.getfield 41, 3) := by decide +kernel
theorem dX9_price_66 : decode cX9_price 66 = .ok (.iload_n 1, 1) := by decide +kernel
theorem dX9_price_67 : decode cX9_price 67 = .ok (.iaload, 1) := by decide +kernel
theorem dX9_price_68 : decode cX9_price 68 = .ok (.imul, 1) := by decide +kernel
theorem dX9_price_69 : decode cX9_price 69 = .ok (.istore 5, 2) := by decide +kernel
theorem dX9_price_71 : decode cX9_price 71 = .ok (.iload 4, 2) := by decide +kernel
theorem dX9_price_73 : decode cX9_price 73 = .ok (.bipush 8, 2) := by decide +kernel
theorem dX9_price_75 : decode cX9_price 75 = .ok (.imul, 1) := by decide +kernel
theorem dX9_price_76 : decode cX9_price 76 = .ok (.iload_n 2, 1) := by decide +kernel
theorem dX9_price_77 : decode cX9_price 77 = .ok (.invokestatic 62, 3) := by decide +kernel
theorem dX9_price_80 : decode cX9_price 80 = .ok (.iadd, 1) := by decide +kernel
theorem dX9_price_81 : decode cX9_price 81 = .ok (.ldc 85, 2) := by decide +kernel
theorem dX9_price_83 : decode cX9_price 83 = .ok (.imul, 1) := by decide +kernel
theorem dX9_price_84 : decode cX9_price 84 = .ok (.iload 5, 2) := by decide +kernel
theorem dX9_price_86 : decode cX9_price 86 = .ok (.iadd, 1) := by decide +kernel
theorem dX9_price_87 : decode cX9_price 87 = .ok (.bipush 8, 2) := by decide +kernel
theorem dX9_price_89 : decode cX9_price 89 = .ok (.imul, 1) := by decide +kernel
theorem dX9_price_90 : decode cX9_price 90 = .ok (.aload_n 0, 1) := by decide +kernel
theorem dX9_price_91 : decode cX9_price 91 = .ok (.iload_n 1, 1) := by decide +kernel
theorem dX9_price_92 : decode cX9_price 92 = .ok (.iload_n 2, 1) := by decide +kernel
theorem dX9_price_93 : decode cX9_price 93 = .ok (.invokevirtual 86, 3) := by decide +kernel
theorem dX9_price_96 : decode cX9_price 96 = .ok (.iadd, 1) := by decide +kernel
theorem dX9_price_97 : decode cX9_price 97 = .ok (.ireturn, 1) := by decide +kernel
set_option maxRecDepth 20000 in
theorem ggX9_choice_X9_fills : GoodIn wsX9_choice wsX9_fills := goodIn_r _ [5, 6, 7, 8, 4, 9, 10, 11, 12, 13, 14, 15, 16, 48, 49, 50, 51, 52, 53, 54, 55, 56, 57, 58, 59, 60, 61, 62] (by decide +kernel) (by decide +kernel)
set_option maxRecDepth 20000 in
theorem gX9_choice_X9_fills : GoodIn wsX9_choice (wsV RX9 89 RX9 yX9_fills wsX9_fills) := goodIn_app (goodIn_of _ (by decide +kernel)) ggX9_choice_X9_fills
set_option maxRecDepth 20000 in
theorem ggX9_choice_X9_isPossible : GoodIn wsX9_choice wsX9_isPossible := goodIn_r _ [20, 21, 22, 23, 24, 25, 26, 27, 28, 29, 4, 30, 31, 32, 33, 48, 49, 50, 51, 52, 53, 54, 55, 56, 57, 58, 59, 60, 61, 62] (by decide +kernel) (by decide +kernel)
set_option maxRecDepth 20000 in
theorem gX9_choice_X9_isPossible : GoodIn wsX9_choice (wsV RX9 92 RX9 yX9_isPossible wsX9_isPossible) := goodIn_app (goodIn_of _ (by decide +kernel)) ggX9_choice_X9_isPossible
set_option maxRecDepth 20000 in
theorem ggX9_choice_X9_price : GoodIn wsX9_choice wsX9_price := goodIn_r _ [37, 38, 39, 31, 32, 4, 33, 40, 41, 42, 28, 29, 30, 43, 44, 45, 46, 47, 48, 49, 50, 51, 52, 53, 54, 55, 56, 57, 58, 59, 60, 61, 62] (by decide +kernel) (by decide +kernel)
set_option maxRecDepth 20000 in
theorem gX9_choice_X9_price : GoodIn wsX9_choice (wsV RX9 96 RX9 yX9_price wsX9_price) := goodIn_app (goodIn_of _ (by decide +kernel)) ggX9_choice_X9_price
theorem dX9_choice_0 : decode cX9_choice 0 = .ok (.aload_n 0, 1) := by decide +kernel
theorem dX9_choice_1 : decode cX9_choice 1 = .ok (.iload_n 1, 1) := by decide +kernel
theorem dX9_choice_2 : decode cX9_choice 2 = .ok (.invokevirtual 89, 3) := by decide +kernel
theorem dX9_choice_5 : decode cX9_choice 5 = .ok (.istore_n 2, 1) := by decide +kernel
theorem dX9_choice_6 : decode cX9_choice 6 = .ok (.iconst 0, 1) := by decide +kernel
theorem dX9_choice_7 : decode cX9_choice 7 = .ok (.istore_n 3, 1) := by decide +kernel
theorem dX9_choice_8 : decode cX9_choice 8 = .ok (.iconst (-1), 1) := by decide +kernel
theorem dX9_choice_9 : decode cX9_choice 9 = .ok (.istore 4, 2) := by decide +kernel
theorem dX9_choice_11 : decode cX9_choice 11 = .ok (.iconst 0, 1) := by decide +kernel
theorem dX9_choice_12 : decode cX9_choice 12 = .ok (.istore 5, 2) := by decide +kernel
theorem dX9_choice_14 : decode cX9_choice 14 = .ok (.iload 5, 2) := by decide +kernel
theorem dX9_choice_16 : decode cX9_choice 16 = .ok (.sipush 16384, 3) := by decide +kernel
theorem dX9_choice_19 : decode cX9_choice 19 = .ok (.if_icmp .ge 71, 3) := by decide +kernel
theorem dX9_choice_22 : decode cX9_choice 22 = .ok (.aload_n 0, 1) := by decide +kernel
theorem dX9_choice_23 : decode cX9_choice 23 = .ok (.iload_n 1, 1) := by decide +kernel
theorem dX9_choice_24 : decode cX9_choice 24 = .ok (.iload 5, 2) := by decide +kernel
theorem dX9_choice_26 : decode cX9_choice 26 = .ok (.invokevirtual 92, 3) := by decide +kernel
theorem dX9_choice_29 : decode cX9_choice 29 = .ok (.ifCond .eq 55, 3) := by decide +kernel
theorem dX9_choice_32 : decode cX9_choice 32 = .ok (.aload_n 0, 1) := by decide +kernel
theorem dX9_choice_33 : decode cX9_choice 33 = .ok (.iload_n 1, 1) := by decide +kernel
theorem dX9_choice_34 : decode cX9_choice 34 = .ok (.iload 5, 2) := by decide +kernel
theorem dX9_choice_36 : decode cX9_choice 36 = .ok (.iload_n 2, 1) := by decide +kernel
theorem dX9_choice_37 : decode cX9_choice 37 = .ok (.invokevirtual 96, 3) := by decide +kernel
theorem dX9_choice_40 : decode cX9_choice 40 = .ok (.istore 6, 2) := by decide +kernel
theorem dX9_choice_42 : decode cX9_choice 42 = .ok (.iload 4, 2) := by decide +kernel
theorem dX9_choice_44 : decode cX9_choice 44 = .ok (.iconst (-1), 1) := by decide +kernel
theorem dX9_choice_45 : decode cX9_choice 45 = .ok (.if_icmp .eq 10, 3) := by decide +kernel
theorem dX9_choice_48 : decode cX9_choice 48 = .ok (.iload 6, 2) := by decide +kernel
theorem dX9_choice_50 : decode cX9_choice 50 = .ok (.iload 4, 2) := by decide +kernel
theorem dX9_choice_52 : decode cX9_choice 52 = .ok (.if_icmp .ge 8, 3) := by decide +kernel
theorem dX9_choice_55 : decode cX9_choice 55 = .ok (.iload 5, 2) := by decide +kernel
theorem dX9_choice_57 : decode cX9_choice 57 = .ok (.goto 4, 3) := by decide +kernel
theorem dX9_choice_60 : decode cX9_choice 60 = .ok (.iload_n 3, 1) := by decide +kernel
theorem dX9_choice_61 : decode cX9_choice 61 = .ok (.istore_n 3, 1) := by decide +kernel
theorem dX9_choice_62 : decode cX9_choice 62 = .ok (.iload 4, 2) := by decide +kernel
theorem dX9_choice_64 : decode cX9_choice 64 = .ok (.iconst (-1), 1) := by decide +kernel
theorem dX9_choice_65 : decode cX9_choice 65 = .ok (.if_icmp .eq 10, 3) := by decide +kernel
theorem dX9_choice_68 : decode cX9_choice 68 = .ok (.iload 6, 2) := by decide +kernel
theorem dX9_choice_70 : decode cX9_choice 70 = .ok (.iload 4, 2) := by decide +kernel
theorem dX9_choice_72 : decode cX9_choice 72 = .ok (.if_icmp .ge 8, 3) := by decide +kernel
theorem dX9_choice_75 : decode cX9_choice 75 = .ok (.iload 6, 2) := by decide +kernel
theorem dX9_choice_77 : decode cX9_choice 77 = .ok (.goto 5, 3) := by decide +kernel
theorem dX9_choice_80 : decode cX9_choice 80 = .ok (.iload 4, 2) := by decide +kernel
theorem dX9_choice_82 : decode cX9_choice 82 = .ok (.istore 4, 2) := by decide +kernel
theorem dX9_choice_84 : decode cX9_choice 84 = .ok (.iinc 5 1, 3) := by decide +kernel
theorem dX9_choice_87 : decode cX9_choice 87 = .ok (.goto (-73), 3) := by decide +kernel
theorem dX9_choice_90 : decode cX9_choice 90 = .ok (.iload_n 3, 1) := by decide +kernel
theorem dX9_choice_91 : decode cX9_choice 91 = .ok (.ireturn, 1) := by decide +kernel
set_option maxRecDepth 20000 in
theorem ggX9_plan_X9_choice : GoodIn wsX9_plan wsX9_choice := goodIn_r _ [9, 10, 11, 12, 8, 13, 14, 15, 16, 17, 18, 19, 20, 21, 22, 4, 2, 23, 24, 25, 26, 27, 28, 29, 30, 31, 32, 33, 34, 35, 36, 37, 38, 39, 40, 41, 42, 43, 44, 45, 46, 47, 48, 49, 50, 51, 52, 53, 66, 67, 68, 69, 70, 71, 72, 73, 74, 75, 76, 77, 78, 79, 80] (by decide +kernel) (by decide +kernel)
set_option maxRecDepth 20000 in
theorem gX9_plan_X9_choice : GoodIn wsX9_plan (wsV RX9 102 RX9 yX9_choice wsX9_choice) := goodIn_app (goodIn_of _ (by decide +kernel)) ggX9_plan_X9_choice
set_option maxRecDepth 20000 in
theorem ggX9_plan_X9_weekOf : GoodIn wsX9_plan wsX9_weekOf := goodIn_r _ [57, 2, 66, 67, 68, 69, 70, 71, 72, 73, 74, 75, 76, 77, 78, 79, 80] (by decide +kernel) (by decide +kernel)
set_option maxRecDepth 20000 in
theorem gX9_plan_X9_weekOf : GoodIn wsX9_plan (wsV RX9 105 RX9 yX9_weekOf wsX9_weekOf) := goodIn_app (goodIn_of _ (by decide +kernel)) ggX9_plan_X9_weekOf
set_option maxRecDepth 20000 in
theorem ggX9_plan_X9_enter : GoodIn wsX9_plan wsX9_enter := goodIn_r _ [61, 2, 37, 38, 8, 39, 66, 67, 68, 69, 70, 71, 72, 73, 74, 75, 76, 77, 78, 79, 80] (by decide +kernel) (by decide +kernel)
set_option maxRecDepth 20000 in
theorem gX9_plan_X9_enter : GoodIn wsX9_plan (wsV RX9 108 RX9 yX9_enter wsX9_enter) := goodIn_app (goodIn_of _ (by decide +kernel)) ggX9_plan_X9_enter
set_option maxRecDepth 20000 in
theorem ggX9_plan_X9_allGaps : GoodIn wsX9_plan wsX9_allGaps := goodIn_r _ [65, 14, 15, 16, 8, 17, 18, 19, 20, 21, 22, 4, 2, 66, 67, 68, 69, 70, 71, 72, 73, 74, 75, 76, 77, 78, 79, 80] (by decide +kernel) (by decide +kernel)
set_option maxRecDepth 20000 in
theorem gX9_plan_X9_allGaps : GoodIn wsX9_plan (wsV RX9 112 RX9 yX9_allGaps wsX9_allGaps) := goodIn_app (goodIn_of _ (by decide +kernel)) ggX9_plan_X9_allGaps
theorem dX9_plan_0 : decode cX9_plan 0 = .ok (.aload_n 0, 1) := by decide +kernel
theorem dX9_plan_1 : decode cX9_plan 1 = .ok (.iconst 0, 1) := by decide +kernel
theorem dX9_plan_2 : decode cX9_plan 2 = .ok (.putfield 44, 3) := by decide +kernel
theorem dX9_plan_5 : decode cX9_plan 5 = .ok (.iconst 0, 1) := by decide +kernel
theorem dX9_plan_6 : decode cX9_plan 6 = .ok (.istore_n 1, 1) := by decide +kernel
theorem dX9_plan_7 : decode cX9_plan 7 = .ok (.iload_n 1, 1) := by decide +kernel
theorem dX9_plan_8 : decode cX9_plan 8 = .ok (.bipush 56, 2) := by decide +kernel
theorem dX9_plan_10 : decode cX9_plan 10 = .ok (.if_icmp .ge 16, 3) := by decide +kernel
theorem dX9_plan_13 : decode cX9_plan 13 = .ok (.aload_n 0, 1) := by decide +kernel
theorem dX9_plan_14 : decode cX9_plan 14 = .ok (.getfield 26, 3) := by decide +kernel
theorem dX9_plan_17 : decode cX9_plan 17 = .ok (.iload_n 1, 1) := by decide +kernel
theorem dX9_plan_18 : decode cX9_plan 18 = .ok (.iconst 0, 1) := by decide +kernel
theorem dX9_plan_19 : decode cX9_plan 19 = .ok (.iastore, 1) := by decide +kernel
theorem dX9_plan_20 : decode cX9_plan 20 = .ok (.iinc 1 1, 3) := by decide +kernel
theorem dX9_plan_23 : decode cX9_plan 23 = .ok (.goto (-16), 3) := by decide +kernel
theorem dX9_plan_26 : decode cX9_plan 26 = .ok (.aload_n 0, 1) := by decide +kernel
theorem dX9_plan_27 : decode cX9_plan 27 = .ok (.iconst 0, 1) := by decide +kernel
theorem dX9_plan_28 : decode cX9_plan 28 = .ok (.putfield 99, 3) := by decide +kernel
theorem dX9_plan_31 : decode cX9_plan 31 = .ok (.iconst 1, 1) := by decide +kernel
theorem dX9_plan_32 : decode cX9_plan 32 = .ok (.istore_n 1, 1) := by decide +kernel
theorem dX9_plan_33 : decode cX9_plan 33 = .ok (.iload_n 1, 1) := by decide +kernel
theorem dX9_plan_34 : decode cX9_plan 34 = .ok (.ifCond .eq 74, 3) := by decide +kernel
theorem dX9_plan_37 : decode cX9_plan 37 = .ok (.aload_n 0, 1) := by decide +kernel
theorem dX9_plan_38 : decode cX9_plan 38 = .ok (.getfield 99, 3) := by decide +kernel
theorem dX9_plan_41 : decode cX9_plan 41 = .ok (.bipush 10, 2) := by decide +kernel
theorem dX9_plan_43 : decode cX9_plan 43 = .ok (.if_icmp .ge 65, 3) := by decide +kernel
theorem dX9_plan_46 : decode cX9_plan 46 = .ok (.iconst 0, 1) := by decide +kernel
theorem dX9_plan_47 : decode cX9_plan 47 = .ok (.istore_n 1, 1) := by decide +kernel
theorem dX9_plan_48 : decode cX9_plan 48 = .ok (.iconst 0, 1) := by decide +kernel
theorem dX9_plan_49 : decode cX9_plan 49 = .ok (.istore_n 2, 1) := by decide +kernel
theorem dX9_plan_50 : decode cX9_plan 50 = .ok (.iload_n 2, 1) := by decide +kernel
theorem dX9_plan_51 : decode cX9_plan 51 = .ok (.aload_n 0, 1) := by decide +kernel
theorem dX9_plan_52 : decode cX9_plan 52 = .ok (.getfield 47, 3) := by decide +kernel
theorem dX9_plan_55 : decode cX9_plan 55 = .ok (.if_icmp .ge 40, 3) := by decide +kernel
theorem dX9_plan_58 : decode cX9_plan 58 = .ok (.aload_n 0, 1) := by decide +kernel
theorem dX9_plan_59 : decode cX9_plan 59 = .ok (.iload_n 2, 1) := by decide +kernel
theorem dX9_plan_60 : decode cX9_plan 60 = .ok (.invokevirtual 102, 3) := by decide +kernel
theorem dX9_plan_63 : decode cX9_plan 63 = .ok (.istore_n 3, 1) := by decide +kernel
theorem dX9_plan_64 : decode cX9_plan 64 = .ok (.iload_n 1, 1) := by decide +kernel
theorem dX9_plan_65 : decode cX9_plan 65 = .ok (.ifCond .ne 12, 3) := by decide +kernel
theorem dX9_plan_68 : decode cX9_plan 68 = .ok (.iload_n 3, 1) := by decide +kernel
theorem dX9_plan_69 : decode cX9_plan 69 = .ok (.aload_n 0, 1) := by decide +kernel
theorem dX9_plan_70 : decode cX9_plan 70 = .ok (.iload_n 2, 1) := by decide +kernel
theorem dX9_plan_71 : decode cX9_plan 71 = .ok (.invokevirtual 105, 3) := by decide +kernel
theorem dX9_plan_74 : decode cX9_plan 74 = .ok (.if_icmp .eq 7, 3) := by decide +kernel
theorem dX9_plan_77 : decode cX9_plan 77 = .ok (.iconst 1, 1) := by decide +kernel
theorem dX9_plan_78 : decode cX9_plan 78 = .ok (.goto 4, 3) := by decide +kernel
theorem dX9_plan_81 : decode cX9_plan 81 = .ok (.iconst 0, 1) := by decide +kernel
theorem dX9_plan_82 : decode cX9_plan 82 = .ok (.istore_n 1, 1) := by decide +kernel
theorem dX9_plan_83 : decode cX9_plan 83 = .ok (.aload_n 0, 1) := by decide +kernel
theorem dX9_plan_84 : decode cX9_plan 84 = .ok (.iload_n 2, 1) := by decide +kernel
theorem dX9_plan_85 : decode cX9_plan 85 = .ok (.iload_n 3, 1) := by decide +kernel
theorem dX9_plan_86 : decode cX9_plan 86 = .ok (.invokevirtual 108, 3) := by decide +kernel
theorem dX9_plan_89 : decode cX9_plan 89 = .ok (.iinc 2 1, 3) := by decide +kernel
theorem dX9_plan_92 : decode cX9_plan 92 = .ok (.goto (-42), 3) := by decide +kernel
theorem dX9_plan_95 : decode cX9_plan 95 = .ok (.aload_n 0, 1) := by decide +kernel
theorem dX9_plan_96 : decode cX9_plan 96 = .ok (.dup, 1) := by decide +kernel
theorem dX9_plan_97 : decode cX9_plan 97 = .ok (.getfield 99, 3) := by decide +kernel
theorem dX9_plan_100 : decode cX9_plan 100 = .ok (.iconst 1, 1) := by decide +kernel
theorem dX9_plan_101 : decode cX9_plan 101 = .ok (.iadd, 1) := by decide +kernel
theorem dX9_plan_102 : decode cX9_plan 102 = .ok (.putfield 99, 3) := by decide +kernel
theorem dX9_plan_105 : decode cX9_plan 105 = .ok (.goto (-72), 3) := by decide +kernel
theorem dX9_plan_108 : decode cX9_plan 108 = .ok (.aload_n 0, 1) := by decide +kernel
theorem dX9_plan_109 : decode cX9_plan 109 = .ok (.invokevirtual 112, 3) := by decide +kernel
theorem dX9_plan_112 : decode cX9_plan 112 = .ok (.ireturn, 1) := by decide +kernel
theorem dX9_rounds_0 : decode cX9_rounds 0 = .ok (.aload_n 0, 1) := by decide +kernel
theorem dX9_rounds_1 : decode cX9_rounds 1 = .ok (.iconst 0, 1) := by decide +kernel
theorem dX9_rounds_2 : decode cX9_rounds 2 = .ok (.putfield 44, 3) := by decide +kernel
theorem dX9_rounds_5 : decode cX9_rounds 5 = .ok (.aload_n 0, 1) := by decide +kernel
theorem dX9_rounds_6 : decode cX9_rounds 6 = .ok (.getfield 99, 3) := by decide +kernel
theorem dX9_rounds_9 : decode cX9_rounds 9 = .ok (.ireturn, 1) := by decide +kernel
set_option maxRecDepth 20000 in
theorem ggX9_set_X9_isPerson : GoodIn wsX9_set wsX9_isPerson := goodIn_r _ [7, 8, 9, 10, 6, 11, 43, 44, 45, 46, 47, 48, 49, 50, 51, 52, 53, 54, 55, 56, 57] (by decide +kernel) (by decide +kernel)
set_option maxRecDepth 20000 in
theorem gX9_set_X9_isPerson : GoodIn wsX9_set (wsV RX9 54 RX9 yX9_isPerson wsX9_isPerson) := goodIn_app (goodIn_of _ (by decide +kernel)) ggX9_set_X9_isPerson
set_option maxRecDepth 20000 in
theorem ggX9_set_X9_isDay : GoodIn wsX9_set wsX9_isDay := goodIn_r _ [14, 9, 10, 6, 11] (by decide +kernel) (by decide +kernel)
set_option maxRecDepth 20000 in
theorem gX9_set_X9_isDay : GoodIn wsX9_set (va_wsS RX9 69 yX9_isDay wsX9_isDay) := goodIn_app (goodIn_of _ (by decide +kernel)) ggX9_set_X9_isDay
set_option maxRecDepth 20000 in
theorem ggX9_set_X9_fails : GoodIn wsX9_set wsX9_fails := goodIn_r _ [18, 1, 43, 44, 45, 46, 47, 48, 49, 50, 51, 52, 53, 54, 55, 56, 57] (by decide +kernel) (by decide +kernel)
set_option maxRecDepth 20000 in
theorem gX9_set_X9_fails : GoodIn wsX9_set (wsV RX9 66 RX9 yX9_fails wsX9_fails) := goodIn_app (goodIn_of _ (by decide +kernel)) ggX9_set_X9_fails
set_option maxRecDepth 20000 in
theorem ggX9_set_X9_in : GoodIn wsX9_set wsX9_in := goodIn_r _ [11] (by decide +kernel) (by decide +kernel)
set_option maxRecDepth 20000 in
theorem gX9_set_X9_in : GoodIn wsX9_set (va_wsS RX9 50 yX9_in wsX9_in) := goodIn_app (goodIn_of _ (by decide +kernel)) ggX9_set_X9_in
set_option maxRecDepth 20000 in
theorem ggX9_set_X9_weekOf : GoodIn wsX9_set wsX9_weekOf := goodIn_r _ [22, 2, 43, 44, 45, 46, 47, 48, 49, 50, 51, 52, 53, 54, 55, 56, 57] (by decide +kernel) (by decide +kernel)
set_option maxRecDepth 20000 in
theorem gX9_set_X9_weekOf : GoodIn wsX9_set (wsV RX9 105 RX9 yX9_weekOf wsX9_weekOf) := goodIn_app (goodIn_of _ (by decide +kernel)) ggX9_set_X9_weekOf
set_option maxRecDepth 20000 in
theorem ggX9_set_X9_with : GoodIn wsX9_set wsX9_with := goodIn_r _ [25, 26, 27, 6, 28] (by decide +kernel) (by decide +kernel)
set_option maxRecDepth 20000 in
theorem gX9_set_X9_with : GoodIn wsX9_set (va_wsS RX9 116 yX9_with wsX9_with) := goodIn_app (goodIn_of _ (by decide +kernel)) ggX9_set_X9_with
set_option maxRecDepth 20000 in
theorem ggX9_set_X9_isPossible : GoodIn wsX9_set wsX9_isPossible := goodIn_r _ [32, 33, 34, 35, 36, 37, 38, 39, 40, 41, 6, 42, 26, 27, 28, 43, 44, 45, 46, 47, 48, 49, 50, 51, 52, 53, 54, 55, 56, 57] (by decide +kernel) (by decide +kernel)
set_option maxRecDepth 20000 in
theorem gX9_set_X9_isPossible : GoodIn wsX9_set (wsV RX9 92 RX9 yX9_isPossible wsX9_isPossible) := goodIn_app (goodIn_of _ (by decide +kernel)) ggX9_set_X9_isPossible
theorem dX9_set_0 : decode cX9_set 0 = .ok (.aload_n 0, 1) := by decide +kernel
theorem dX9_set_1 : decode cX9_set 1 = .ok (.iconst 0, 1) := by decide +kernel
theorem dX9_set_2 : decode cX9_set 2 = .ok (.putfield 44, 3) := by decide +kernel
theorem dX9_set_5 : decode cX9_set 5 = .ok (.aload_n 0, 1) := by decide +kernel
theorem dX9_set_6 : decode cX9_set 6 = .ok (.iload_n 1, 1) := by decide +kernel
theorem dX9_set_7 : decode cX9_set 7 = .ok (.invokevirtual 54, 3) := by decide +kernel
theorem dX9_set_10 : decode cX9_set 10 = .ok (.ifCond .eq 10, 3) := by decide +kernel
theorem dX9_set_13 : decode cX9_set 13 = .ok (.iload_n 2, 1) := by decide +kernel
theorem dX9_set_14 : decode cX9_set 14 = .ok (.invokestatic 69, 3) := by decide +kernel
theorem dX9_set_17 : decode cX9_set 17 = .ok (.ifCond .ne 9, 3) := by decide +kernel
theorem dX9_set_20 : decode cX9_set 20 = .ok (.aload_n 0, 1) := by decide +kernel
theorem dX9_set_21 : decode cX9_set 21 = .ok (.iconst 1, 1) := by decide +kernel
theorem dX9_set_22 : decode cX9_set 22 = .ok (.invokevirtual 66, 3) := by decide +kernel
theorem dX9_set_25 : decode cX9_set 25 = .ok (.ireturn, 1) := by decide +kernel
theorem dX9_set_26 : decode cX9_set 26 = .ok (.iload_n 3, 1) := by decide +kernel
theorem dX9_set_27 : decode cX9_set 27 = .ok (.iconst 0, 1) := by decide +kernel
theorem dX9_set_28 : decode cX9_set 28 = .ok (.iconst 3, 1) := by decide +kernel
theorem dX9_set_29 : decode cX9_set 29 = .ok (.invokestatic 50, 3) := by decide +kernel
theorem dX9_set_32 : decode cX9_set 32 = .ok (.ifCond .ne 9, 3) := by decide +kernel
theorem dX9_set_35 : decode cX9_set 35 = .ok (.aload_n 0, 1) := by decide +kernel
theorem dX9_set_36 : decode cX9_set 36 = .ok (.iconst 2, 1) := by decide +kernel
theorem dX9_set_37 : decode cX9_set 37 = .ok (.invokevirtual 66, 3) := by decide +kernel
theorem dX9_set_40 : decode cX9_set 40 = .ok (.ireturn, 1) := by decide +kernel
theorem dX9_set_41 : decode cX9_set 41 = .ok (.aload_n 0, 1) := by decide +kernel
theorem dX9_set_42 : decode cX9_set 42 = .ok (.iload_n 1, 1) := by decide +kernel
theorem dX9_set_43 : decode cX9_set 43 = .ok (.aload_n 0, 1) := by decide +kernel
theorem dX9_set_44 : decode cX9_set 44 = .ok (.iload_n 1, 1) := by decide +kernel
theorem dX9_set_45 : decode cX9_set 45 = .ok (.invokevirtual 105, 3) := by decide +kernel
theorem dX9_set_48 : decode cX9_set 48 = .ok (.iload_n 2, 1) := by decide +kernel
theorem dX9_set_49 : decode cX9_set 49 = .ok (.iload_n 3, 1) := by decide +kernel
theorem dX9_set_50 : decode cX9_set 50 = .ok (.invokestatic 116, 3) := by decide +kernel
theorem dX9_set_53 : decode cX9_set 53 = .ok (.invokevirtual 92, 3) := by decide +kernel
theorem dX9_set_56 : decode cX9_set 56 = .ok (.ifCond .ne 9, 3) := by decide +kernel
theorem dX9_set_59 : decode cX9_set 59 = .ok (.aload_n 0, 1) := by decide +kernel
theorem dX9_set_60 : decode cX9_set 60 = .ok (.iconst 3, 1) := by decide +kernel
theorem dX9_set_61 : decode cX9_set 61 = .ok (.invokevirtual 66, 3) := by decide +kernel
theorem dX9_set_64 : decode cX9_set 64 = .ok (.ireturn, 1) := by decide +kernel
theorem dX9_set_65 : decode cX9_set 65 = .ok (.aload_n 0, 1) := by decide +kernel
theorem dX9_set_66 : decode cX9_set 66 = .ok (.getfield 26, 3) := by decide +kernel
theorem dX9_set_69 : decode cX9_set 69 = .ok (.bipush 7, 2) := by decide +kernel
theorem dX9_set_71 : decode cX9_set 71 = .ok (.iload_n 1, 1) := by decide +kernel
theorem dX9_set_72 : decode cX9_set 72 = .ok (.imul, 1) := by decide +kernel
theorem dX9_set_73 : decode cX9_set 73 = .ok (.iload_n 2, 1) := by decide +kernel
theorem dX9_set_74 : decode cX9_set 74 = .ok (.iadd, 1) := by decide +kernel
theorem dX9_set_75 : decode cX9_set 75 = .ok (.iaload, 1) := by decide +kernel
theorem dX9_set_76 : decode cX9_set 76 = .ok (.istore 4, 2) := by decide +kernel
theorem dX9_set_78 : decode cX9_set 78 = .ok (.aload_n 0, 1) := by decide +kernel
theorem dX9_set_79 : decode cX9_set 79 = .ok (.getfield 26, 3) := by decide +kernel
theorem dX9_set_82 : decode cX9_set 82 = .ok (.bipush 7, 2) := by decide +kernel
theorem dX9_set_84 : decode cX9_set 84 = .ok (.iload_n 1, 1) := by decide +kernel
theorem dX9_set_85 : decode cX9_set 85 = .ok (.imul, 1) := by decide +kernel
theorem dX9_set_86 : decode cX9_set 86 = .ok (.iload_n 2, 1) := by decide +kernel
theorem dX9_set_87 : decode cX9_set 87 = .ok (.iadd, 1) := by decide +kernel
theorem dX9_set_88 : decode cX9_set 88 = .ok (.iload_n 3, 1) := by decide +kernel
theorem dX9_set_89 : decode cX9_set 89 = .ok (.iastore, 1) := by decide +kernel
theorem dX9_set_90 : decode cX9_set 90 = .ok (.iload 4, 2) := by decide +kernel
theorem dX9_set_92 : decode cX9_set 92 = .ok (.ireturn, 1) := by decide +kernel
set_option maxRecDepth 20000 in
theorem ggX9_canSwap_X9_weekOf : GoodIn wsX9_canSwap wsX9_weekOf := goodIn_r _ [6, 1, 27, 28, 29, 30, 31, 32, 33, 34, 35, 36, 37, 38, 39, 40, 41] (by decide +kernel) (by decide +kernel)
set_option maxRecDepth 20000 in
theorem gX9_canSwap_X9_weekOf : GoodIn wsX9_canSwap (wsV RX9 105 RX9 yX9_weekOf wsX9_weekOf) := goodIn_app (goodIn_of _ (by decide +kernel)) ggX9_canSwap_X9_weekOf
set_option maxRecDepth 20000 in
theorem ggX9_canSwap_X9_with : GoodIn wsX9_canSwap wsX9_with := goodIn_r _ [9, 10, 11, 5, 12] (by decide +kernel) (by decide +kernel)
set_option maxRecDepth 20000 in
theorem gX9_canSwap_X9_with : GoodIn wsX9_canSwap (va_wsS RX9 116 yX9_with wsX9_with) := goodIn_app (goodIn_of _ (by decide +kernel)) ggX9_canSwap_X9_with
set_option maxRecDepth 20000 in
theorem ggX9_canSwap_X9_isPossible : GoodIn wsX9_canSwap wsX9_isPossible := goodIn_r _ [16, 17, 18, 19, 20, 21, 22, 23, 24, 25, 5, 26, 10, 11, 12, 27, 28, 29, 30, 31, 32, 33, 34, 35, 36, 37, 38, 39, 40, 41] (by decide +kernel) (by decide +kernel)
set_option maxRecDepth 20000 in
theorem gX9_canSwap_X9_isPossible : GoodIn wsX9_canSwap (wsV RX9 92 RX9 yX9_isPossible wsX9_isPossible) := goodIn_app (goodIn_of _ (by decide +kernel)) ggX9_canSwap_X9_isPossible
theorem dX9_canSwap_0 : decode cX9_canSwap 0 = .ok (.aload_n 0, 1) := by decide +kernel
theorem dX9_canSwap_1 : decode cX9_canSwap 1 = .ok (.getfield 26, 3) := by decide +kernel
theorem dX9_canSwap_4 : decode cX9_canSwap 4 = .ok (.bipush 7, 2) := by decide +kernel
theorem dX9_canSwap_6 : decode cX9_canSwap 6 = .ok (.iload_n 1, 1) := by decide +kernel
theorem dX9_canSwap_7 : decode cX9_canSwap 7 = .ok (.imul, 1) := by decide +kernel
theorem dX9_canSwap_8 : decode cX9_canSwap 8 = .ok (.iload_n 3, 1) := by decide +kernel
theorem dX9_canSwap_9 : decode cX9_canSwap 9 = .ok (.iadd, 1) := by decide +kernel
theorem dX9_canSwap_10 : decode cX9_canSwap 10 = .ok (.iaload, 1) := by decide +kernel
theorem dX9_canSwap_11 : decode cX9_canSwap 11 = .ok (.istore 4, 2) := by decide +kernel
theorem dX9_canSwap_13 : decode cX9_canSwap 13 = .ok (.aload_n 0, 1) := by decide +kernel
theorem dX9_canSwap_14 : decode cX9_canSwap 14 = .ok (.getfield 26, 3) := by decide +kernel
theorem dX9_canSwap_17 : decode cX9_canSwap 17 = .ok (.bipush 7, 2) := by decide +kernel
theorem dX9_canSwap_19 : decode cX9_canSwap 19 = .ok (.iload_n 2, 1) := by decide +kernel
theorem dX9_canSwap_20 : decode cX9_canSwap 20 = .ok (.imul, 1) := by decide +kernel
theorem dX9_canSwap_21 : decode cX9_canSwap 21 = .ok (.iload_n 3, 1) := by decide +kernel
theorem dX9_canSwap_22 : decode cX9_canSwap 22 = .ok (.iadd, 1) := by decide +kernel
theorem dX9_canSwap_23 : decode cX9_canSwap 23 = .ok (.iaload, 1) := by decide +kernel
theorem dX9_canSwap_24 : decode cX9_canSwap 24 = .ok (.istore 5, 2) := by decide +kernel
theorem dX9_canSwap_26 : decode cX9_canSwap 26 = .ok (.iload_n 1, 1) := by decide +kernel
theorem dX9_canSwap_27 : decode cX9_canSwap 27 = .ok (.iload_n 2, 1) := by decide +kernel
theorem dX9_canSwap_28 : decode cX9_canSwap 28 = .ok (.if_icmp .eq 45, 3) := by decide +kernel
theorem dX9_canSwap_31 : decode cX9_canSwap 31 = .ok (.aload_n 0, 1) := by decide +kernel
theorem dX9_canSwap_32 : decode cX9_canSwap 32 = .ok (.iload_n 1, 1) := by decide +kernel
theorem dX9_canSwap_33 : decode cX9_canSwap 33 = .ok (.aload_n 0, 1) := by decide +kernel
theorem dX9_canSwap_34 : decode cX9_canSwap 34 = .ok (.iload_n 1, 1) := by decide +kernel
theorem dX9_canSwap_35 : decode cX9_canSwap 35 = .ok (.invokevirtual 105, 3) := by decide +kernel
theorem dX9_canSwap_38 : decode cX9_canSwap 38 = .ok (.iload_n 3, 1) := by decide +kernel
theorem dX9_canSwap_39 : decode cX9_canSwap 39 = .ok (.iload 5, 2) := by decide +kernel
theorem dX9_canSwap_41 : decode cX9_canSwap 41 = .ok (.invokestatic 116, 3) := by decide +kernel
theorem dX9_canSwap_44 : decode cX9_canSwap 44 = .ok (.invokevirtual 92, 3) := by decide +kernel
theorem dX9_canSwap_47 : decode cX9_canSwap 47 = .ok (.ifCond .eq 26, 3) := by decide +kernel
theorem dX9_canSwap_50 : decode cX9_canSwap 50 = .ok (.aload_n 0, 1) := by decide +kernel
theorem dX9_canSwap_51 : decode cX9_canSwap 51 = .ok (.iload_n 2, 1) := by decide +kernel
theorem dX9_canSwap_52 : decode cX9_canSwap 52 = .ok (.aload_n 0, 1) := by decide +kernel
theorem dX9_canSwap_53 : decode cX9_canSwap 53 = .ok (.iload_n 2, 1) := by decide +kernel
theorem dX9_canSwap_54 : decode cX9_canSwap 54 = .ok (.invokevirtual 105, 3) := by decide +kernel
theorem dX9_canSwap_57 : decode cX9_canSwap 57 = .ok (.iload_n 3, 1) := by decide +kernel
theorem dX9_canSwap_58 : decode cX9_canSwap 58 = .ok (.iload 4, 2) := by decide +kernel
theorem dX9_canSwap_60 : decode cX9_canSwap 60 = .ok (.invokestatic 116, 3) := by decide +kernel
theorem dX9_canSwap_63 : decode cX9_canSwap 63 = .ok (.invokevirtual 92, 3) := by decide +kernel
theorem dX9_canSwap_66 : decode cX9_canSwap 66 = .ok (.ifCond .eq 7, 3) := by decide +kernel
theorem dX9_canSwap_69 : decode cX9_canSwap 69 = .ok (.iconst 1, 1) := by decide +kernel
theorem dX9_canSwap_70 : decode cX9_canSwap 70 = .ok (.goto 4, 3) := by decide +kernel
theorem dX9_canSwap_73 : decode cX9_canSwap 73 = .ok (.iconst 0, 1) := by decide +kernel
theorem dX9_canSwap_74 : decode cX9_canSwap 74 = .ok (.ireturn, 1) := by decide +kernel
set_option maxRecDepth 20000 in
theorem ggX9_swap_X9_isPerson : GoodIn wsX9_swap wsX9_isPerson := goodIn_r _ [7, 8, 9, 10, 6, 11, 52, 53, 54, 55, 56, 57, 58, 59, 60, 61, 62, 63, 64, 65, 66] (by decide +kernel) (by decide +kernel)
set_option maxRecDepth 20000 in
theorem gX9_swap_X9_isPerson : GoodIn wsX9_swap (wsV RX9 54 RX9 yX9_isPerson wsX9_isPerson) := goodIn_app (goodIn_of _ (by decide +kernel)) ggX9_swap_X9_isPerson
set_option maxRecDepth 20000 in
theorem ggX9_swap_X9_isDay : GoodIn wsX9_swap wsX9_isDay := goodIn_r _ [14, 9, 10, 6, 11] (by decide +kernel) (by decide +kernel)
set_option maxRecDepth 20000 in
theorem gX9_swap_X9_isDay : GoodIn wsX9_swap (va_wsS RX9 69 yX9_isDay wsX9_isDay) := goodIn_app (goodIn_of _ (by decide +kernel)) ggX9_swap_X9_isDay
set_option maxRecDepth 20000 in
theorem ggX9_swap_X9_fails : GoodIn wsX9_swap wsX9_fails := goodIn_r _ [18, 1, 52, 53, 54, 55, 56, 57, 58, 59, 60, 61, 62, 63, 64, 65, 66] (by decide +kernel) (by decide +kernel)
set_option maxRecDepth 20000 in
theorem gX9_swap_X9_fails : GoodIn wsX9_swap (wsV RX9 66 RX9 yX9_fails wsX9_fails) := goodIn_app (goodIn_of _ (by decide +kernel)) ggX9_swap_X9_fails
set_option maxRecDepth 20000 in
theorem ggX9_swap_X9_canSwap : GoodIn wsX9_swap wsX9_canSwap := goodIn_r _ [22, 2, 23, 24, 25, 6, 26, 27, 28, 29, 30, 31, 32, 33, 34, 35, 36, 37, 38, 39, 40, 41, 42, 43, 44, 45, 46, 52, 53, 54, 55, 56, 57, 58, 59, 60, 61, 62, 63, 64, 65, 66] (by decide +kernel) (by decide +kernel)
set_option maxRecDepth 20000 in
theorem gX9_swap_X9_canSwap : GoodIn wsX9_swap (wsV RX9 119 RX9 yX9_canSwap wsX9_canSwap) := goodIn_app (goodIn_of _ (by decide +kernel)) ggX9_swap_X9_canSwap
set_option maxRecDepth 20000 in
theorem ggX9_swap_X9_weekOf : GoodIn wsX9_swap wsX9_weekOf := goodIn_r _ [26, 2, 52, 53, 54, 55, 56, 57, 58, 59, 60, 61, 62, 63, 64, 65, 66] (by decide +kernel) (by decide +kernel)
set_option maxRecDepth 20000 in
theorem gX9_swap_X9_weekOf : GoodIn wsX9_swap (wsV RX9 105 RX9 yX9_weekOf wsX9_weekOf) := goodIn_app (goodIn_of _ (by decide +kernel)) ggX9_swap_X9_weekOf
set_option maxRecDepth 20000 in
theorem ggX9_swap_X9_brokenBy : GoodIn wsX9_swap wsX9_brokenBy := goodIn_r _ [50, 51, 30, 31, 6, 32, 52, 53, 54, 55, 56, 57, 58, 59, 60, 61, 62, 63, 64, 65, 66] (by decide +kernel) (by decide +kernel)
set_option maxRecDepth 20000 in
theorem gX9_swap_X9_brokenBy : GoodIn wsX9_swap (wsV RX9 86 RX9 yX9_brokenBy wsX9_brokenBy) := goodIn_app (goodIn_of _ (by decide +kernel)) ggX9_swap_X9_brokenBy
theorem dX9_swap_0 : decode cX9_swap 0 = .ok (.aload_n 0, 1) := by decide +kernel
theorem dX9_swap_1 : decode cX9_swap 1 = .ok (.iconst 0, 1) := by decide +kernel
theorem dX9_swap_2 : decode cX9_swap 2 = .ok (.putfield 44, 3) := by decide +kernel
theorem dX9_swap_5 : decode cX9_swap 5 = .ok (.aload_n 0, 1) := by decide +kernel
theorem dX9_swap_6 : decode cX9_swap 6 = .ok (.iload_n 1, 1) := by decide +kernel
theorem dX9_swap_7 : decode cX9_swap 7 = .ok (.invokevirtual 54, 3) := by decide +kernel
theorem dX9_swap_10 : decode cX9_swap 10 = .ok (.ifCond .eq 18, 3) := by decide +kernel
theorem dX9_swap_13 : decode cX9_swap 13 = .ok (.aload_n 0, 1) := by decide +kernel
theorem dX9_swap_14 : decode cX9_swap 14 = .ok (.iload_n 2, 1) := by decide +kernel
theorem dX9_swap_15 : decode cX9_swap 15 = .ok (.invokevirtual 54, 3) := by decide +kernel
theorem dX9_swap_18 : decode cX9_swap 18 = .ok (.ifCond .eq 10, 3) := by decide +kernel
theorem dX9_swap_21 : decode cX9_swap 21 = .ok (.iload_n 3, 1) := by decide +kernel
theorem dX9_swap_22 : decode cX9_swap 22 = .ok (.invokestatic 69, 3) := by decide +kernel
theorem dX9_swap_25 : decode cX9_swap 25 = .ok (.ifCond .ne 9, 3) := by decide +kernel
theorem dX9_swap_28 : decode cX9_swap 28 = .ok (.aload_n 0, 1) := by decide +kernel
theorem dX9_swap_29 : decode cX9_swap 29 = .ok (.iconst 1, 1) := by decide +kernel
theorem dX9_swap_30 : decode cX9_swap 30 = .ok (.invokevirtual 66, 3) := by decide +kernel
theorem dX9_swap_33 : decode cX9_swap 33 = .ok (.ireturn, 1) := by decide +kernel
theorem dX9_swap_34 : decode cX9_swap 34 = .ok (.aload_n 0, 1) := by decide +kernel
theorem dX9_swap_35 : decode cX9_swap 35 = .ok (.iload_n 1, 1) := by decide +kernel
theorem dX9_swap_36 : decode cX9_swap 36 = .ok (.iload_n 2, 1) := by decide +kernel
theorem dX9_swap_37 : decode cX9_swap 37 = .ok (.iload_n 3, 1) := by decide +kernel
theorem dX9_swap_38 : decode cX9_swap 38 = .ok (.invokevirtual 119, 3) := by decide +kernel
theorem dX9_swap_41 : decode cX9_swap 41 = .ok (.ifCond .ne 9, 3) := by decide +kernel
theorem dX9_swap_44 : decode cX9_swap 44 = .ok (.aload_n 0, 1) := by decide +kernel
theorem dX9_swap_45 : decode cX9_swap 45 = .ok (.iconst 2, 1) := by decide +kernel
theorem dX9_swap_46 : decode cX9_swap 46 = .ok (.invokevirtual 66, 3) := by decide +kernel
theorem dX9_swap_49 : decode cX9_swap 49 = .ok (.ireturn, 1) := by decide +kernel
theorem dX9_swap_50 : decode cX9_swap 50 = .ok (.aload_n 0, 1) := by decide +kernel
theorem dX9_swap_51 : decode cX9_swap 51 = .ok (.getfield 26, 3) := by decide +kernel
theorem dX9_swap_54 : decode cX9_swap 54 = .ok (.bipush 7, 2) := by decide +kernel
theorem dX9_swap_56 : decode cX9_swap 56 = .ok (.iload_n 1, 1) := by decide +kernel
theorem dX9_swap_57 : decode cX9_swap 57 = .ok (.imul, 1) := by decide +kernel
theorem dX9_swap_58 : decode cX9_swap 58 = .ok (.iload_n 3, 1) := by decide +kernel
theorem dX9_swap_59 : decode cX9_swap 59 = .ok (.iadd, 1) := by decide +kernel
theorem dX9_swap_60 : decode cX9_swap 60 = .ok (.iaload, 1) := by decide +kernel
theorem dX9_swap_61 : decode cX9_swap 61 = .ok (.istore 4, 2) := by decide +kernel
theorem dX9_swap_63 : decode cX9_swap 63 = .ok (.aload_n 0, 1) := by decide +kernel
theorem dX9_swap_64 : decode cX9_swap 64 = .ok (.getfield 26, 3) := by decide +kernel
theorem dX9_swap_67 : decode cX9_swap 67 = .ok (.bipush 7, 2) := by decide +kernel
theorem dX9_swap_69 : decode cX9_swap 69 = .ok (.iload_n 1, 1) := by decide +kernel
theorem dX9_swap_70 : decode cX9_swap 70 = .ok (.imul, 1) := by decide +kernel
theorem dX9_swap_71 : decode cX9_swap 71 = .ok (.iload_n 3, 1) := by decide +kernel
theorem dX9_swap_72 : decode cX9_swap 72 = .ok (.iadd, 1) := by decide +kernel
theorem dX9_swap_73 : decode cX9_swap 73 = .ok (.aload_n 0, 1) := by decide +kernel
theorem dX9_swap_74 : decode cX9_swap 74 = .ok (.getfield 26, 3) := by decide +kernel
theorem dX9_swap_77 : decode cX9_swap 77 = .ok (.bipush 7, 2) := by decide +kernel
theorem dX9_swap_79 : decode cX9_swap 79 = .ok (.iload_n 2, 1) := by decide +kernel
theorem dX9_swap_80 : decode cX9_swap 80 = .ok (.imul, 1) := by decide +kernel
theorem dX9_swap_81 : decode cX9_swap 81 = .ok (.iload_n 3, 1) := by decide +kernel
theorem dX9_swap_82 : decode cX9_swap 82 = .ok (.iadd, 1) := by decide +kernel
theorem dX9_swap_83 : decode cX9_swap 83 = .ok (.iaload, 1) := by decide +kernel
theorem dX9_swap_84 : decode cX9_swap 84 = .ok (.iastore, 1) := by decide +kernel
theorem dX9_swap_85 : decode cX9_swap 85 = .ok (.aload_n 0, 1) := by decide +kernel
theorem dX9_swap_86 : decode cX9_swap 86 = .ok (.getfield 26, 3) := by decide +kernel
theorem dX9_swap_89 : decode cX9_swap 89 = .ok (.bipush 7, 2) := by decide +kernel
theorem dX9_swap_91 : decode cX9_swap 91 = .ok (.iload_n 2, 1) := by decide +kernel
theorem dX9_swap_92 : decode cX9_swap 92 = .ok (.imul, 1) := by decide +kernel
theorem dX9_swap_93 : decode cX9_swap 93 = .ok (.iload_n 3, 1) := by decide +kernel
theorem dX9_swap_94 : decode cX9_swap 94 = .ok (.iadd, 1) := by decide +kernel
theorem dX9_swap_95 : decode cX9_swap 95 = .ok (.iload 4, 2) := by decide +kernel
theorem dX9_swap_97 : decode cX9_swap 97 = .ok (.iastore, 1) := by decide +kernel
theorem dX9_swap_98 : decode cX9_swap 98 = .ok (.aload_n 0, 1) := by decide +kernel
theorem dX9_swap_99 : decode cX9_swap 99 = .ok (.iload_n 1, 1) := by decide +kernel
theorem dX9_swap_100 : decode cX9_swap 100 = .ok (.aload_n 0, 1) := by decide +kernel
theorem dX9_swap_101 : decode cX9_swap 101 = .ok (.iload_n 1, 1) := by decide +kernel
theorem dX9_swap_102 : decode cX9_swap 102 = .ok (.invokevirtual 105, 3) := by decide +kernel
theorem dX9_swap_105 : decode cX9_swap 105 = .ok (.invokevirtual 86, 3) := by decide +kernel
theorem dX9_swap_108 : decode cX9_swap 108 = .ok (.aload_n 0, 1) := by decide +kernel
theorem dX9_swap_109 : decode cX9_swap 109 = .ok (.iload_n 2, 1) := by decide +kernel
theorem dX9_swap_110 : decode cX9_swap 110 = .ok (.aload_n 0, 1) := by decide +kernel
theorem dX9_swap_111 : decode cX9_swap 111 = .ok (.iload_n 2, 1) := by decide +kernel
theorem dX9_swap_112 : decode cX9_swap 112 = .ok (.invokevirtual 105, 3) := by decide +kernel
theorem dX9_swap_115 : decode cX9_swap 115 = .ok (.invokevirtual 86, 3) := by decide +kernel
theorem dX9_swap_118 : decode cX9_swap 118 = .ok (.iadd, 1) := by decide +kernel
theorem dX9_swap_119 : decode cX9_swap 119 = .ok (.ireturn, 1) := by decide +kernel
set_option maxRecDepth 20000 in
theorem ggX9_closeWeek_X9_weekOf : GoodIn wsX9_closeWeek wsX9_weekOf := goodIn_r _ [13, 14, 25, 26, 27, 28, 29, 30, 31, 32, 33, 34, 35, 36, 37, 38, 39] (by decide +kernel) (by decide +kernel)
set_option maxRecDepth 20000 in
theorem gX9_closeWeek_X9_weekOf : GoodIn wsX9_closeWeek (wsV RX9 105 RX9 yX9_weekOf wsX9_weekOf) := goodIn_app (goodIn_of _ (by decide +kernel)) ggX9_closeWeek_X9_weekOf
set_option maxRecDepth 20000 in
theorem ggX9_closeWeek_X9_entryOf : GoodIn wsX9_closeWeek wsX9_entryOf := goodIn_r _ [17] (by decide +kernel) (by decide +kernel)
set_option maxRecDepth 20000 in
theorem gX9_closeWeek_X9_entryOf : GoodIn wsX9_closeWeek (va_wsS RX9 58 yX9_entryOf wsX9_entryOf) := goodIn_app (goodIn_of _ (by decide +kernel)) ggX9_closeWeek_X9_entryOf
set_option maxRecDepth 20000 in
theorem ggX9_closeWeek_X9_weekendOf : GoodIn wsX9_closeWeek wsX9_weekendOf := goodIn_r _ [20, 15, 16, 12, 17] (by decide +kernel) (by decide +kernel)
set_option maxRecDepth 20000 in
theorem gX9_closeWeek_X9_weekendOf : GoodIn wsX9_closeWeek (va_wsS RX9 82 yX9_weekendOf wsX9_weekendOf) := goodIn_app (goodIn_of _ (by decide +kernel)) ggX9_closeWeek_X9_weekendOf
set_option maxRecDepth 20000 in
theorem ggX9_closeWeek_X9_enter : GoodIn wsX9_closeWeek wsX9_enter := goodIn_r _ [24, 14, 15, 16, 12, 17, 25, 26, 27, 28, 29, 30, 31, 32, 33, 34, 35, 36, 37, 38, 39] (by decide +kernel) (by decide +kernel)
set_option maxRecDepth 20000 in
theorem gX9_closeWeek_X9_enter : GoodIn wsX9_closeWeek (wsV RX9 108 RX9 yX9_enter wsX9_enter) := goodIn_app (goodIn_of _ (by decide +kernel)) ggX9_closeWeek_X9_enter
theorem dX9_closeWeek_0 : decode cX9_closeWeek 0 = .ok (.aload_n 0, 1) := by decide +kernel
theorem dX9_closeWeek_1 : decode cX9_closeWeek 1 = .ok (.iconst 0, 1) := by decide +kernel
theorem dX9_closeWeek_2 : decode cX9_closeWeek 2 = .ok (.putfield 44, 3) := by decide +kernel
theorem dX9_closeWeek_5 : decode cX9_closeWeek 5 = .ok (.iconst 0, 1) := by decide +kernel
theorem dX9_closeWeek_6 : decode cX9_closeWeek 6 = .ok (.istore_n 1, 1) := by decide +kernel
theorem dX9_closeWeek_7 : decode cX9_closeWeek 7 = .ok (.iload_n 1, 1) := by decide +kernel
theorem dX9_closeWeek_8 : decode cX9_closeWeek 8 = .ok (.aload_n 0, 1) := by decide +kernel
theorem dX9_closeWeek_9 : decode cX9_closeWeek 9 = .ok (.getfield 47, 3) := by decide +kernel
theorem dX9_closeWeek_12 : decode cX9_closeWeek 12 = .ok (.if_icmp .ge 105, 3) := by decide +kernel
theorem dX9_closeWeek_15 : decode cX9_closeWeek 15 = .ok (.aload_n 0, 1) := by decide +kernel
theorem dX9_closeWeek_16 : decode cX9_closeWeek 16 = .ok (.iload_n 1, 1) := by decide +kernel
theorem dX9_closeWeek_17 : decode cX9_closeWeek 17 = .ok (.invokevirtual 105, 3) := by decide +kernel
theorem dX9_closeWeek_20 : decode cX9_closeWeek 20 = .ok (.istore_n 2, 1) := by decide +kernel
theorem dX9_closeWeek_21 : decode cX9_closeWeek 21 = .ok (.iconst 0, 1) := by decide +kernel
theorem dX9_closeWeek_22 : decode cX9_closeWeek 22 = .ok (.istore_n 3, 1) := by decide +kernel
theorem dX9_closeWeek_23 : decode cX9_closeWeek 23 = .ok (.iload_n 3, 1) := by decide +kernel
theorem dX9_closeWeek_24 : decode cX9_closeWeek 24 = .ok (.bipush 7, 2) := by decide +kernel
theorem dX9_closeWeek_26 : decode cX9_closeWeek 26 = .ok (.if_icmp .ge 47, 3) := by decide +kernel
theorem dX9_closeWeek_29 : decode cX9_closeWeek 29 = .ok (.aload_n 0, 1) := by decide +kernel
theorem dX9_closeWeek_30 : decode cX9_closeWeek 30 = .ok (.getfield 38, 3) := by decide +kernel
theorem dX9_closeWeek_33 : decode cX9_closeWeek 33 = .ok (.iload_n 1, 1) := by decide +kernel
theorem dX9_closeWeek_34 : decode cX9_closeWeek 34 = .ok (.iload_n 2, 1) := by decide +kernel
theorem dX9_closeWeek_35 : decode cX9_closeWeek 35 = .ok (.iload_n 3, 1) := by decide +kernel
theorem dX9_closeWeek_36 : decode cX9_closeWeek 36 = .ok (.invokestatic 58, 3) := by decide +kernel
theorem dX9_closeWeek_39 : decode cX9_closeWeek 39 = .ok (.ifCond .le 14, 3) := by decide +kernel
theorem dX9_closeWeek_42 : decode cX9_closeWeek 42 = .ok (.aload_n 0, 1) := by decide +kernel
theorem dX9_closeWeek_43 : decode cX9_closeWeek 43 = .ok (.getfield 38, 3) := by decide +kernel
theorem dX9_closeWeek_46 : decode cX9_closeWeek 46 = .ok (.iload_n 1, 1) := by decide +kernel
theorem dX9_closeWeek_47 : decode cX9_closeWeek 47 = .ok (.iaload, 1) := by decide +kernel
theorem dX9_closeWeek_48 : decode cX9_closeWeek 48 = .ok (.iconst 1, 1) := by decide +kernel
theorem dX9_closeWeek_49 : decode cX9_closeWeek 49 = .ok (.iadd, 1) := by decide +kernel
theorem dX9_closeWeek_50 : decode cX9_closeWeek 50 = .ok (.goto 4, 3) := by decide +kernel
theorem dX9_closeWeek_53 : decode cX9_closeWeek 53 = .ok (.iconst 0, 1) := by decide +kernel
theorem dX9_closeWeek_54 : decode cX9_closeWeek 54 = .ok (.iastore, 1) := by decide +kernel
theorem dX9_closeWeek_55 : decode cX9_closeWeek 55 = .ok (.aload_n 0, 1) := by decide +kernel
theorem dX9_closeWeek_56 : decode cX9_closeWeek 56 = .ok (.getfield 29, 3) := by decide +kernel
theorem dX9_closeWeek_59 : decode cX9_closeWeek 59 = .ok (.bipush 7, 2) := by decide +kernel
theorem dX9_closeWeek_61 : decode cX9_closeWeek 61 = .ok (.iload_n 1, 1) := by decide +kernel
theorem dX9_closeWeek_62 : decode cX9_closeWeek 62 = .ok (.imul, 1) := by decide +kernel
theorem dX9_closeWeek_63 : decode cX9_closeWeek 63 = .ok (.iload_n 3, 1) := by decide +kernel
theorem dX9_closeWeek_64 : decode cX9_closeWeek 64 = .ok (.iadd, 1) := by decide +kernel
theorem dX9_closeWeek_65 : decode cX9_closeWeek 65 = .ok (.iconst (-1), 1) := by decide +kernel
theorem dX9_closeWeek_66 : decode cX9_closeWeek 66 = .ok (.iastore, 1) := by decide +kernel
theorem dX9_closeWeek_67 : decode cX9_closeWeek 67 = .ok (.iinc 3 1, 3) := by decide +kernel
theorem dX9_closeWeek_70 : decode cX9_closeWeek 70 = .ok (.goto (-47), 3) := by decide +kernel
theorem dX9_closeWeek_73 : decode cX9_closeWeek 73 = .ok (.aload_n 0, 1) := by decide +kernel
theorem dX9_closeWeek_74 : decode cX9_closeWeek 74 = .ok (.getfield 35, 3) := by decide +kernel
theorem dX9_closeWeek_77 : decode cX9_closeWeek 77 = .ok (.iload_n 1, 1) := by decide +kernel
theorem dX9_closeWeek_78 : decode cX9_closeWeek 78 = .ok (.iload_n 2, 1) := by decide +kernel
theorem dX9_closeWeek_79 : decode cX9_closeWeek 79 = .ok (.bipush 6, 2) := by decide +kernel
theorem dX9_closeWeek_81 : decode cX9_closeWeek 81 = .ok (.invokestatic 58, 3) := by decide +kernel
theorem dX9_closeWeek_84 : decode cX9_closeWeek 84 = .ok (.iastore, 1) := by decide +kernel
theorem dX9_closeWeek_85 : decode cX9_closeWeek 85 = .ok (.aload_n 0, 1) := by decide +kernel
theorem dX9_closeWeek_86 : decode cX9_closeWeek 86 = .ok (.getfield 41, 3) := by decide +kernel
theorem dX9_closeWeek_89 : decode cX9_closeWeek 89 = .ok (.iload_n 1, 1) := by decide +kernel
theorem dX9_closeWeek_90 : decode cX9_closeWeek 90 = .ok (.dup2, 1) := by decide +kernel
theorem dX9_closeWeek_91 : decode cX9_closeWeek 91 = .ok (.iaload, 1) := by decide +kernel
theorem dX9_closeWeek_92 : decode cX9_closeWeek 92 = .ok (.iload_n 2, 1) := by decide +kernel
theorem dX9_closeWeek_93 : decode cX9_closeWeek 93 = .ok (.invokestatic 82, 3) := by decide +kernel
theorem dX9_closeWeek_96 : decode cX9_closeWeek 96 = .ok (.iadd, 1) := by decide +kernel
theorem dX9_closeWeek_97 : decode cX9_closeWeek 97 = .ok (.iastore, 1) := by decide +kernel
theorem dX9_closeWeek_98 : decode cX9_closeWeek 98 = .ok (.aload_n 0, 1) := by decide +kernel
theorem dX9_closeWeek_99 : decode cX9_closeWeek 99 = .ok (.getfield 32, 3) := by decide +kernel
theorem dX9_closeWeek_102 : decode cX9_closeWeek 102 = .ok (.iload_n 1, 1) := by decide +kernel
theorem dX9_closeWeek_103 : decode cX9_closeWeek 103 = .ok (.iconst 0, 1) := by decide +kernel
theorem dX9_closeWeek_104 : decode cX9_closeWeek 104 = .ok (.iastore, 1) := by decide +kernel
theorem dX9_closeWeek_105 : decode cX9_closeWeek 105 = .ok (.aload_n 0, 1) := by decide +kernel
theorem dX9_closeWeek_106 : decode cX9_closeWeek 106 = .ok (.iload_n 1, 1) := by decide +kernel
theorem dX9_closeWeek_107 : decode cX9_closeWeek 107 = .ok (.iconst 0, 1) := by decide +kernel
theorem dX9_closeWeek_108 : decode cX9_closeWeek 108 = .ok (.invokevirtual 108, 3) := by decide +kernel
theorem dX9_closeWeek_111 : decode cX9_closeWeek 111 = .ok (.iinc 1 1, 3) := by decide +kernel
theorem dX9_closeWeek_114 : decode cX9_closeWeek 114 = .ok (.goto (-107), 3) := by decide +kernel
theorem dX9_closeWeek_117 : decode cX9_closeWeek 117 = .ok (.aload_n 0, 1) := by decide +kernel
theorem dX9_closeWeek_118 : decode cX9_closeWeek 118 = .ok (.dup, 1) := by decide +kernel
theorem dX9_closeWeek_119 : decode cX9_closeWeek 119 = .ok (.getfield 122, 3) := by decide +kernel
theorem dX9_closeWeek_122 : decode cX9_closeWeek 122 = .ok (.iconst 1, 1) := by decide +kernel
theorem dX9_closeWeek_123 : decode cX9_closeWeek 123 = .ok (.iadd, 1) := by decide +kernel
theorem dX9_closeWeek_124 : decode cX9_closeWeek 124 = .ok (.putfield 122, 3) := by decide +kernel
theorem dX9_closeWeek_127 : decode cX9_closeWeek 127 = .ok (.aload_n 0, 1) := by decide +kernel
theorem dX9_closeWeek_128 : decode cX9_closeWeek 128 = .ok (.getfield 122, 3) := by decide +kernel
theorem dX9_closeWeek_131 : decode cX9_closeWeek 131 = .ok (.ireturn, 1) := by decide +kernel
theorem dX9_people_0 : decode cX9_people 0 = .ok (.aload_n 0, 1) := by decide +kernel
theorem dX9_people_1 : decode cX9_people 1 = .ok (.iconst 0, 1) := by decide +kernel
theorem dX9_people_2 : decode cX9_people 2 = .ok (.putfield 44, 3) := by decide +kernel
theorem dX9_people_5 : decode cX9_people 5 = .ok (.aload_n 0, 1) := by decide +kernel
theorem dX9_people_6 : decode cX9_people 6 = .ok (.getfield 47, 3) := by decide +kernel
theorem dX9_people_9 : decode cX9_people 9 = .ok (.ireturn, 1) := by decide +kernel
set_option maxRecDepth 20000 in
theorem ggX9_entry_X9_isPerson : GoodIn wsX9_entry wsX9_isPerson := goodIn_r _ [7, 8, 9, 10, 6, 11, 19, 20, 21, 22, 23, 24, 25, 26, 27, 28, 29, 30, 31, 32, 33] (by decide +kernel) (by decide +kernel)
set_option maxRecDepth 20000 in
theorem gX9_entry_X9_isPerson : GoodIn wsX9_entry (wsV RX9 54 RX9 yX9_isPerson wsX9_isPerson) := goodIn_app (goodIn_of _ (by decide +kernel)) ggX9_entry_X9_isPerson
set_option maxRecDepth 20000 in
theorem ggX9_entry_X9_isDay : GoodIn wsX9_entry wsX9_isDay := goodIn_r _ [14, 9, 10, 6, 11] (by decide +kernel) (by decide +kernel)
set_option maxRecDepth 20000 in
theorem gX9_entry_X9_isDay : GoodIn wsX9_entry (va_wsS RX9 69 yX9_isDay wsX9_isDay) := goodIn_app (goodIn_of _ (by decide +kernel)) ggX9_entry_X9_isDay
set_option maxRecDepth 20000 in
theorem ggX9_entry_X9_fails : GoodIn wsX9_entry wsX9_fails := goodIn_r _ [18, 1, 19, 20, 21, 22, 23, 24, 25, 26, 27, 28, 29, 30, 31, 32, 33] (by decide +kernel) (by decide +kernel)
set_option maxRecDepth 20000 in
theorem gX9_entry_X9_fails : GoodIn wsX9_entry (wsV RX9 66 RX9 yX9_fails wsX9_fails) := goodIn_app (goodIn_of _ (by decide +kernel)) ggX9_entry_X9_fails
theorem dX9_entry_0 : decode cX9_entry 0 = .ok (.aload_n 0, 1) := by decide +kernel
theorem dX9_entry_1 : decode cX9_entry 1 = .ok (.iconst 0, 1) := by decide +kernel
theorem dX9_entry_2 : decode cX9_entry 2 = .ok (.putfield 44, 3) := by decide +kernel
theorem dX9_entry_5 : decode cX9_entry 5 = .ok (.aload_n 0, 1) := by decide +kernel
theorem dX9_entry_6 : decode cX9_entry 6 = .ok (.iload_n 1, 1) := by decide +kernel
theorem dX9_entry_7 : decode cX9_entry 7 = .ok (.invokevirtual 54, 3) := by decide +kernel
theorem dX9_entry_10 : decode cX9_entry 10 = .ok (.ifCond .eq 24, 3) := by decide +kernel
theorem dX9_entry_13 : decode cX9_entry 13 = .ok (.iload_n 2, 1) := by decide +kernel
theorem dX9_entry_14 : decode cX9_entry 14 = .ok (.invokestatic 69, 3) := by decide +kernel
theorem dX9_entry_17 : decode cX9_entry 17 = .ok (.ifCond .eq 17, 3) := by decide +kernel
theorem dX9_entry_20 : decode cX9_entry 20 = .ok (.aload_n 0, 1) := by decide +kernel
theorem dX9_entry_21 : decode cX9_entry 21 = .ok (.getfield 26, 3) := by decide +kernel
theorem dX9_entry_24 : decode cX9_entry 24 = .ok (.bipush 7, 2) := by decide +kernel
theorem dX9_entry_26 : decode cX9_entry 26 = .ok (.iload_n 1, 1) := by decide +kernel
theorem dX9_entry_27 : decode cX9_entry 27 = .ok (.imul, 1) := by decide +kernel
theorem dX9_entry_28 : decode cX9_entry 28 = .ok (.iload_n 2, 1) := by decide +kernel
theorem dX9_entry_29 : decode cX9_entry 29 = .ok (.iadd, 1) := by decide +kernel
theorem dX9_entry_30 : decode cX9_entry 30 = .ok (.iaload, 1) := by decide +kernel
theorem dX9_entry_31 : decode cX9_entry 31 = .ok (.goto 8, 3) := by decide +kernel
theorem dX9_entry_34 : decode cX9_entry 34 = .ok (.aload_n 0, 1) := by decide +kernel
theorem dX9_entry_35 : decode cX9_entry 35 = .ok (.iconst 1, 1) := by decide +kernel
theorem dX9_entry_36 : decode cX9_entry 36 = .ok (.invokevirtual 66, 3) := by decide +kernel
theorem dX9_entry_39 : decode cX9_entry 39 = .ok (.ireturn, 1) := by decide +kernel
set_option maxRecDepth 20000 in
theorem ggX9_gaps_X9_allGaps : GoodIn wsX9_gaps wsX9_allGaps := goodIn_r _ [6, 7, 8, 9, 5, 10, 11, 12, 13, 14, 15, 16, 17, 18, 19, 20, 21, 22, 23, 24, 25, 26, 27, 28, 29, 30, 31, 32] (by decide +kernel) (by decide +kernel)
set_option maxRecDepth 20000 in
theorem gX9_gaps_X9_allGaps : GoodIn wsX9_gaps (wsV RX9 112 RX9 yX9_allGaps wsX9_allGaps) := goodIn_app (goodIn_of _ (by decide +kernel)) ggX9_gaps_X9_allGaps
theorem dX9_gaps_0 : decode cX9_gaps 0 = .ok (.aload_n 0, 1) := by decide +kernel
theorem dX9_gaps_1 : decode cX9_gaps 1 = .ok (.iconst 0, 1) := by decide +kernel
theorem dX9_gaps_2 : decode cX9_gaps 2 = .ok (.putfield 44, 3) := by decide +kernel
theorem dX9_gaps_5 : decode cX9_gaps 5 = .ok (.aload_n 0, 1) := by decide +kernel
theorem dX9_gaps_6 : decode cX9_gaps 6 = .ok (.invokevirtual 112, 3) := by decide +kernel
theorem dX9_gaps_9 : decode cX9_gaps 9 = .ok (.ireturn, 1) := by decide +kernel
set_option maxRecDepth 20000 in
theorem ggX9_gap_X9_isDay : GoodIn wsX9_gap wsX9_isDay := goodIn_r _ [5, 6, 7, 4, 8] (by decide +kernel) (by decide +kernel)
set_option maxRecDepth 20000 in
theorem gX9_gap_X9_isDay : GoodIn wsX9_gap (va_wsS RX9 69 yX9_isDay wsX9_isDay) := goodIn_app (goodIn_of _ (by decide +kernel)) ggX9_gap_X9_isDay
set_option maxRecDepth 20000 in
theorem ggX9_gap_X9_isKind : GoodIn wsX9_gap wsX9_isKind := goodIn_r _ [11, 6, 7, 4, 8] (by decide +kernel) (by decide +kernel)
set_option maxRecDepth 20000 in
theorem gX9_gap_X9_isKind : GoodIn wsX9_gap (va_wsS RX9 72 yX9_isKind wsX9_isKind) := goodIn_app (goodIn_of _ (by decide +kernel)) ggX9_gap_X9_isKind
set_option maxRecDepth 20000 in
theorem ggX9_gap_X9_gapOf : GoodIn wsX9_gap wsX9_gapOf := goodIn_r _ [15, 16, 17, 18, 19, 4, 20, 21, 22, 27, 28, 29, 30, 31, 32, 33, 34, 35, 36, 37, 38, 39, 40, 41] (by decide +kernel) (by decide +kernel)
set_option maxRecDepth 20000 in
theorem gX9_gap_X9_gapOf : GoodIn wsX9_gap (wsV RX9 79 RX9 yX9_gapOf wsX9_gapOf) := goodIn_app (goodIn_of _ (by decide +kernel)) ggX9_gap_X9_gapOf
set_option maxRecDepth 20000 in
theorem ggX9_gap_X9_fails : GoodIn wsX9_gap wsX9_fails := goodIn_r _ [26, 1, 27, 28, 29, 30, 31, 32, 33, 34, 35, 36, 37, 38, 39, 40, 41] (by decide +kernel) (by decide +kernel)
set_option maxRecDepth 20000 in
theorem gX9_gap_X9_fails : GoodIn wsX9_gap (wsV RX9 66 RX9 yX9_fails wsX9_fails) := goodIn_app (goodIn_of _ (by decide +kernel)) ggX9_gap_X9_fails
theorem dX9_gap_0 : decode cX9_gap 0 = .ok (.aload_n 0, 1) := by decide +kernel
theorem dX9_gap_1 : decode cX9_gap 1 = .ok (.iconst 0, 1) := by decide +kernel
theorem dX9_gap_2 : decode cX9_gap 2 = .ok (.putfield 44, 3) := by decide +kernel
theorem dX9_gap_5 : decode cX9_gap 5 = .ok (.iload_n 1, 1) := by decide +kernel
theorem dX9_gap_6 : decode cX9_gap 6 = .ok (.invokestatic 69, 3) := by decide +kernel
theorem dX9_gap_9 : decode cX9_gap 9 = .ok (.ifCond .eq 20, 3) := by decide +kernel
theorem dX9_gap_12 : decode cX9_gap 12 = .ok (.iload_n 2, 1) := by decide +kernel
theorem dX9_gap_13 : decode cX9_gap 13 = .ok (.invokestatic 72, 3) := by decide +kernel
theorem dX9_gap_16 : decode cX9_gap 16 = .ok (.ifCond .eq 13, 3) := by decide +kernel
theorem dX9_gap_19 : decode cX9_gap 19 = .ok (.aload_n 0, 1) := by decide +kernel
theorem dX9_gap_20 : decode cX9_gap 20 = .ok (.iload_n 1, 1) := by decide +kernel
theorem dX9_gap_21 : decode cX9_gap 21 = .ok (.iload_n 2, 1) := by decide +kernel
theorem dX9_gap_22 : decode cX9_gap 22 = .ok (.iconst (-1), 1) := by decide +kernel
theorem dX9_gap_23 : decode cX9_gap 23 = .ok (.invokevirtual 79, 3) := by decide +kernel
theorem dX9_gap_26 : decode cX9_gap 26 = .ok (.goto 8, 3) := by decide +kernel
theorem dX9_gap_29 : decode cX9_gap 29 = .ok (.aload_n 0, 1) := by decide +kernel
theorem dX9_gap_30 : decode cX9_gap 30 = .ok (.iconst 1, 1) := by decide +kernel
theorem dX9_gap_31 : decode cX9_gap 31 = .ok (.invokevirtual 66, 3) := by decide +kernel
theorem dX9_gap_34 : decode cX9_gap 34 = .ok (.ireturn, 1) := by decide +kernel
set_option maxRecDepth 20000 in
theorem ggX9_shifts_X9_isAsked : GoodIn wsX9_shifts wsX9_isAsked := goodIn_r _ [5, 6, 7, 8, 9, 4, 10, 11, 12, 13, 14, 26, 27, 28, 29, 30, 31, 32, 33, 34, 35, 36, 37, 38, 39, 40] (by decide +kernel) (by decide +kernel)
set_option maxRecDepth 20000 in
theorem gX9_shifts_X9_isAsked : GoodIn wsX9_shifts (wsV RX9 125 RX9 yX9_isAsked wsX9_isAsked) := goodIn_app (goodIn_of _ (by decide +kernel)) ggX9_shifts_X9_isAsked
set_option maxRecDepth 20000 in
theorem ggX9_shifts_X9_weekOf : GoodIn wsX9_shifts wsX9_weekOf := goodIn_r _ [18, 19, 26, 27, 28, 29, 30, 31, 32, 33, 34, 35, 36, 37, 38, 39, 40] (by decide +kernel) (by decide +kernel)
set_option maxRecDepth 20000 in
theorem gX9_shifts_X9_weekOf : GoodIn wsX9_shifts (wsV RX9 105 RX9 yX9_weekOf wsX9_weekOf) := goodIn_app (goodIn_of _ (by decide +kernel)) ggX9_shifts_X9_weekOf
set_option maxRecDepth 20000 in
theorem ggX9_shifts_X9_countShifts : GoodIn wsX9_shifts wsX9_countShifts := goodIn_r _ [22, 23, 24, 4, 25] (by decide +kernel) (by decide +kernel)
set_option maxRecDepth 20000 in
theorem gX9_shifts_X9_countShifts : GoodIn wsX9_shifts (va_wsS RX9 62 yX9_countShifts wsX9_countShifts) := goodIn_app (goodIn_of _ (by decide +kernel)) ggX9_shifts_X9_countShifts
theorem dX9_shifts_0 : decode cX9_shifts 0 = .ok (.aload_n 0, 1) := by decide +kernel
theorem dX9_shifts_1 : decode cX9_shifts 1 = .ok (.iload_n 1, 1) := by decide +kernel
theorem dX9_shifts_2 : decode cX9_shifts 2 = .ok (.invokevirtual 125, 3) := by decide +kernel
theorem dX9_shifts_5 : decode cX9_shifts 5 = .ok (.ifCond .eq 14, 3) := by decide +kernel
theorem dX9_shifts_8 : decode cX9_shifts 8 = .ok (.aload_n 0, 1) := by decide +kernel
theorem dX9_shifts_9 : decode cX9_shifts 9 = .ok (.iload_n 1, 1) := by decide +kernel
theorem dX9_shifts_10 : decode cX9_shifts 10 = .ok (.invokevirtual 105, 3) := by decide +kernel
theorem dX9_shifts_13 : decode cX9_shifts 13 = .ok (.invokestatic 62, 3) := by decide +kernel
theorem dX9_shifts_16 : decode cX9_shifts 16 = .ok (.goto 4, 3) := by decide +kernel
theorem dX9_shifts_19 : decode cX9_shifts 19 = .ok (.iconst 0, 1) := by decide +kernel
theorem dX9_shifts_20 : decode cX9_shifts 20 = .ok (.ireturn, 1) := by decide +kernel
set_option maxRecDepth 20000 in
theorem ggX9_weekends_X9_isAsked : GoodIn wsX9_weekends wsX9_isAsked := goodIn_r _ [6, 7, 8, 9, 10, 5, 11, 12, 13, 14, 15, 16, 17, 18, 19, 20, 21, 22, 23, 24, 25, 26, 27, 28, 29, 30] (by decide +kernel) (by decide +kernel)
set_option maxRecDepth 20000 in
theorem gX9_weekends_X9_isAsked : GoodIn wsX9_weekends (wsV RX9 125 RX9 yX9_isAsked wsX9_isAsked) := goodIn_app (goodIn_of _ (by decide +kernel)) ggX9_weekends_X9_isAsked
theorem dX9_weekends_0 : decode cX9_weekends 0 = .ok (.aload_n 0, 1) := by decide +kernel
theorem dX9_weekends_1 : decode cX9_weekends 1 = .ok (.iload_n 1, 1) := by decide +kernel
theorem dX9_weekends_2 : decode cX9_weekends 2 = .ok (.invokevirtual 125, 3) := by decide +kernel
theorem dX9_weekends_5 : decode cX9_weekends 5 = .ok (.ifCond .eq 12, 3) := by decide +kernel
theorem dX9_weekends_8 : decode cX9_weekends 8 = .ok (.aload_n 0, 1) := by decide +kernel
theorem dX9_weekends_9 : decode cX9_weekends 9 = .ok (.getfield 41, 3) := by decide +kernel
theorem dX9_weekends_12 : decode cX9_weekends 12 = .ok (.iload_n 1, 1) := by decide +kernel
theorem dX9_weekends_13 : decode cX9_weekends 13 = .ok (.iaload, 1) := by decide +kernel
theorem dX9_weekends_14 : decode cX9_weekends 14 = .ok (.goto 4, 3) := by decide +kernel
theorem dX9_weekends_17 : decode cX9_weekends 17 = .ok (.iconst 0, 1) := by decide +kernel
theorem dX9_weekends_18 : decode cX9_weekends 18 = .ok (.ireturn, 1) := by decide +kernel
set_option maxRecDepth 20000 in
theorem ggX9_broken_X9_isAsked : GoodIn wsX9_broken wsX9_isAsked := goodIn_r _ [5, 6, 7, 8, 9, 4, 10, 11, 12, 13, 14, 28, 29, 30, 31, 32, 33, 34, 35, 36, 37, 38, 39, 40, 41, 42] (by decide +kernel) (by decide +kernel)
set_option maxRecDepth 20000 in
theorem gX9_broken_X9_isAsked : GoodIn wsX9_broken (wsV RX9 125 RX9 yX9_isAsked wsX9_isAsked) := goodIn_app (goodIn_of _ (by decide +kernel)) ggX9_broken_X9_isAsked
set_option maxRecDepth 20000 in
theorem ggX9_broken_X9_weekOf : GoodIn wsX9_broken wsX9_weekOf := goodIn_r _ [18, 19, 28, 29, 30, 31, 32, 33, 34, 35, 36, 37, 38, 39, 40, 41, 42] (by decide +kernel) (by decide +kernel)
set_option maxRecDepth 20000 in
theorem gX9_broken_X9_weekOf : GoodIn wsX9_broken (wsV RX9 105 RX9 yX9_weekOf wsX9_weekOf) := goodIn_app (goodIn_of _ (by decide +kernel)) ggX9_broken_X9_weekOf
set_option maxRecDepth 20000 in
theorem ggX9_broken_X9_brokenBy : GoodIn wsX9_broken wsX9_brokenBy := goodIn_r _ [23, 24, 25, 26, 4, 27, 28, 29, 30, 31, 32, 33, 34, 35, 36, 37, 38, 39, 40, 41, 42] (by decide +kernel) (by decide +kernel)
set_option maxRecDepth 20000 in
theorem gX9_broken_X9_brokenBy : GoodIn wsX9_broken (wsV RX9 86 RX9 yX9_brokenBy wsX9_brokenBy) := goodIn_app (goodIn_of _ (by decide +kernel)) ggX9_broken_X9_brokenBy
theorem dX9_broken_0 : decode cX9_broken 0 = .ok (.aload_n 0, 1) := by decide +kernel
theorem dX9_broken_1 : decode cX9_broken 1 = .ok (.iload_n 1, 1) := by decide +kernel
theorem dX9_broken_2 : decode cX9_broken 2 = .ok (.invokevirtual 125, 3) := by decide +kernel
theorem dX9_broken_5 : decode cX9_broken 5 = .ok (.ifCond .eq 16, 3) := by decide +kernel
theorem dX9_broken_8 : decode cX9_broken 8 = .ok (.aload_n 0, 1) := by decide +kernel
theorem dX9_broken_9 : decode cX9_broken 9 = .ok (.iload_n 1, 1) := by decide +kernel
theorem dX9_broken_10 : decode cX9_broken 10 = .ok (.aload_n 0, 1) := by decide +kernel
theorem dX9_broken_11 : decode cX9_broken 11 = .ok (.iload_n 1, 1) := by decide +kernel
theorem dX9_broken_12 : decode cX9_broken 12 = .ok (.invokevirtual 105, 3) := by decide +kernel
theorem dX9_broken_15 : decode cX9_broken 15 = .ok (.invokevirtual 86, 3) := by decide +kernel
theorem dX9_broken_18 : decode cX9_broken 18 = .ok (.goto 4, 3) := by decide +kernel
theorem dX9_broken_21 : decode cX9_broken 21 = .ok (.iconst 0, 1) := by decide +kernel
theorem dX9_broken_22 : decode cX9_broken 22 = .ok (.ireturn, 1) := by decide +kernel
set_option maxRecDepth 20000 in
theorem ggX9_runBefore_X9_isAsked : GoodIn wsX9_runBefore wsX9_isAsked := goodIn_r _ [6, 7, 8, 9, 10, 5, 11, 12, 13, 14, 15, 16, 17, 18, 19, 20, 21, 22, 23, 24, 25, 26, 27, 28, 29, 30] (by decide +kernel) (by decide +kernel)
set_option maxRecDepth 20000 in
theorem gX9_runBefore_X9_isAsked : GoodIn wsX9_runBefore (wsV RX9 125 RX9 yX9_isAsked wsX9_isAsked) := goodIn_app (goodIn_of _ (by decide +kernel)) ggX9_runBefore_X9_isAsked
theorem dX9_runBefore_0 : decode cX9_runBefore 0 = .ok (.aload_n 0, 1) := by decide +kernel
theorem dX9_runBefore_1 : decode cX9_runBefore 1 = .ok (.iload_n 1, 1) := by decide +kernel
theorem dX9_runBefore_2 : decode cX9_runBefore 2 = .ok (.invokevirtual 125, 3) := by decide +kernel
theorem dX9_runBefore_5 : decode cX9_runBefore 5 = .ok (.ifCond .eq 12, 3) := by decide +kernel
theorem dX9_runBefore_8 : decode cX9_runBefore 8 = .ok (.aload_n 0, 1) := by decide +kernel
theorem dX9_runBefore_9 : decode cX9_runBefore 9 = .ok (.getfield 38, 3) := by decide +kernel
theorem dX9_runBefore_12 : decode cX9_runBefore 12 = .ok (.iload_n 1, 1) := by decide +kernel
theorem dX9_runBefore_13 : decode cX9_runBefore 13 = .ok (.iaload, 1) := by decide +kernel
theorem dX9_runBefore_14 : decode cX9_runBefore 14 = .ok (.goto 4, 3) := by decide +kernel
theorem dX9_runBefore_17 : decode cX9_runBefore 17 = .ok (.iconst 0, 1) := by decide +kernel
theorem dX9_runBefore_18 : decode cX9_runBefore 18 = .ok (.ireturn, 1) := by decide +kernel
set_option maxRecDepth 20000 in
theorem ggX9_isFeasible_X9_isAsked : GoodIn wsX9_isFeasible wsX9_isAsked := goodIn_r _ [5, 6, 7, 8, 9, 4, 10, 11, 12, 13, 14, 37, 38, 39, 40, 41, 42, 43, 44, 45, 46, 47, 48, 49, 50, 51] (by decide +kernel) (by decide +kernel)
set_option maxRecDepth 20000 in
theorem gX9_isFeasible_X9_isAsked : GoodIn wsX9_isFeasible (wsV RX9 125 RX9 yX9_isAsked wsX9_isAsked) := goodIn_app (goodIn_of _ (by decide +kernel)) ggX9_isFeasible_X9_isAsked
set_option maxRecDepth 20000 in
theorem ggX9_isFeasible_X9_weekOf : GoodIn wsX9_isFeasible wsX9_weekOf := goodIn_r _ [18, 19, 37, 38, 39, 40, 41, 42, 43, 44, 45, 46, 47, 48, 49, 50, 51] (by decide +kernel) (by decide +kernel)
set_option maxRecDepth 20000 in
theorem gX9_isFeasible_X9_weekOf : GoodIn wsX9_isFeasible (wsV RX9 105 RX9 yX9_weekOf wsX9_weekOf) := goodIn_app (goodIn_of _ (by decide +kernel)) ggX9_isFeasible_X9_weekOf
set_option maxRecDepth 20000 in
theorem ggX9_isFeasible_X9_isPossible : GoodIn wsX9_isFeasible wsX9_isPossible := goodIn_r _ [23, 24, 25, 26, 27, 28, 29, 30, 31, 32, 4, 33, 34, 35, 36, 37, 38, 39, 40, 41, 42, 43, 44, 45, 46, 47, 48, 49, 50, 51] (by decide +kernel) (by decide +kernel)
set_option maxRecDepth 20000 in
theorem gX9_isFeasible_X9_isPossible : GoodIn wsX9_isFeasible (wsV RX9 92 RX9 yX9_isPossible wsX9_isPossible) := goodIn_app (goodIn_of _ (by decide +kernel)) ggX9_isFeasible_X9_isPossible
theorem dX9_isFeasible_0 : decode cX9_isFeasible 0 = .ok (.aload_n 0, 1) := by decide +kernel
theorem dX9_isFeasible_1 : decode cX9_isFeasible 1 = .ok (.iload_n 1, 1) := by decide +kernel
theorem dX9_isFeasible_2 : decode cX9_isFeasible 2 = .ok (.invokevirtual 125, 3) := by decide +kernel
theorem dX9_isFeasible_5 : decode cX9_isFeasible 5 = .ok (.ifCond .eq 20, 3) := by decide +kernel
theorem dX9_isFeasible_8 : decode cX9_isFeasible 8 = .ok (.aload_n 0, 1) := by decide +kernel
theorem dX9_isFeasible_9 : decode cX9_isFeasible 9 = .ok (.iload_n 1, 1) := by decide +kernel
theorem dX9_isFeasible_10 : decode cX9_isFeasible 10 = .ok (.aload_n 0, 1) := by decide +kernel
theorem dX9_isFeasible_11 : decode cX9_isFeasible 11 = .ok (.iload_n 1, 1) := by decide +kernel
theorem dX9_isFeasible_12 : decode cX9_isFeasible 12 = .ok (.invokevirtual 105, 3) := by decide +kernel
theorem dX9_isFeasible_15 : decode cX9_isFeasible 15 = .ok (.invokevirtual 92, 3) := by decide +kernel
theorem dX9_isFeasible_18 : decode cX9_isFeasible 18 = .ok (.ifCond .eq 7, 3) := by decide +kernel
theorem dX9_isFeasible_21 : decode cX9_isFeasible 21 = .ok (.iconst 1, 1) := by decide +kernel
theorem dX9_isFeasible_22 : decode cX9_isFeasible 22 = .ok (.goto 4, 3) := by decide +kernel
theorem dX9_isFeasible_25 : decode cX9_isFeasible 25 = .ok (.iconst 0, 1) := by decide +kernel
theorem dX9_isFeasible_26 : decode cX9_isFeasible 26 = .ok (.ireturn, 1) := by decide +kernel
set_option maxRecDepth 20000 in
theorem ggX9_countWeeks_X9_isPossible : GoodIn wsX9_countWeeks wsX9_isPossible := goodIn_r _ [5, 6, 7, 8, 9, 10, 11, 12, 13, 14, 4, 15, 16, 17, 18, 19, 20, 21, 22, 23, 24, 25, 26, 27, 28, 29, 30, 31, 32, 33] (by decide +kernel) (by decide +kernel)
set_option maxRecDepth 20000 in
theorem gX9_countWeeks_X9_isPossible : GoodIn wsX9_countWeeks (wsV RX9 92 RX9 yX9_isPossible wsX9_isPossible) := goodIn_app (goodIn_of _ (by decide +kernel)) ggX9_countWeeks_X9_isPossible
theorem dX9_countWeeks_0 : decode cX9_countWeeks 0 = .ok (.iconst 0, 1) := by decide +kernel
theorem dX9_countWeeks_1 : decode cX9_countWeeks 1 = .ok (.istore_n 2, 1) := by decide +kernel
theorem dX9_countWeeks_2 : decode cX9_countWeeks 2 = .ok (.iconst 0, 1) := by decide +kernel
theorem dX9_countWeeks_3 : decode cX9_countWeeks 3 = .ok (.istore_n 3, 1) := by decide +kernel
theorem dX9_countWeeks_4 : decode cX9_countWeeks 4 = .ok (.iload_n 3, 1) := by decide +kernel
theorem dX9_countWeeks_5 : decode cX9_countWeeks 5 = .ok (.sipush 16384, 3) := by decide +kernel
theorem dX9_countWeeks_8 : decode cX9_countWeeks 8 = .ok (.if_icmp .ge 26, 3) := by decide +kernel
theorem dX9_countWeeks_11 : decode cX9_countWeeks 11 = .ok (.iload_n 2, 1) := by decide +kernel
theorem dX9_countWeeks_12 : decode cX9_countWeeks 12 = .ok (.aload_n 0, 1) := by decide +kernel
theorem dX9_countWeeks_13 : decode cX9_countWeeks 13 = .ok (.iload_n 1, 1) := by decide +kernel
theorem dX9_countWeeks_14 : decode cX9_countWeeks 14 = .ok (.iload_n 3, 1) := by decide +kernel
theorem dX9_countWeeks_15 : decode cX9_countWeeks 15 = .ok (.invokevirtual 92, 3) := by decide +kernel
theorem dX9_countWeeks_18 : decode cX9_countWeeks 18 = .ok (.ifCond .eq 7, 3) := by decide +kernel
theorem dX9_countWeeks_21 : decode cX9_countWeeks 21 = .ok (.iconst 1, 1) := by decide +kernel
theorem dX9_countWeeks_22 : decode cX9_countWeeks 22 = .ok (.goto 4, 3) := by decide +kernel
theorem dX9_countWeeks_25 : decode cX9_countWeeks 25 = .ok (.iconst 0, 1) := by decide +kernel
theorem dX9_countWeeks_26 : decode cX9_countWeeks 26 = .ok (.iadd, 1) := by decide +kernel
theorem dX9_countWeeks_27 : decode cX9_countWeeks 27 = .ok (.istore_n 2, 1) := by decide +kernel
theorem dX9_countWeeks_28 : decode cX9_countWeeks 28 = .ok (.iinc 3 1, 3) := by decide +kernel
theorem dX9_countWeeks_31 : decode cX9_countWeeks 31 = .ok (.goto (-27), 3) := by decide +kernel
theorem dX9_countWeeks_34 : decode cX9_countWeeks 34 = .ok (.iload_n 2, 1) := by decide +kernel
theorem dX9_countWeeks_35 : decode cX9_countWeeks 35 = .ok (.ireturn, 1) := by decide +kernel
set_option maxRecDepth 20000 in
theorem ggX9_weeks_X9_isAsked : GoodIn wsX9_weeks wsX9_isAsked := goodIn_r _ [5, 6, 7, 8, 9, 4, 10, 11, 12, 13, 14, 36, 37, 38, 39, 40, 41, 42, 43, 44, 45, 46, 47, 48, 49, 50] (by decide +kernel) (by decide +kernel)
set_option maxRecDepth 20000 in
theorem gX9_weeks_X9_isAsked : GoodIn wsX9_weeks (wsV RX9 125 RX9 yX9_isAsked wsX9_isAsked) := goodIn_app (goodIn_of _ (by decide +kernel)) ggX9_weeks_X9_isAsked
set_option maxRecDepth 20000 in
theorem ggX9_weeks_X9_countWeeks : GoodIn wsX9_weeks wsX9_countWeeks := goodIn_r _ [18, 19, 20, 21, 4, 22, 23, 24, 25, 26, 27, 28, 29, 30, 31, 32, 33, 34, 35, 36, 37, 38, 39, 40, 41, 42, 43, 44, 45, 46, 47, 48, 49, 50] (by decide +kernel) (by decide +kernel)
set_option maxRecDepth 20000 in
theorem gX9_weeks_X9_countWeeks : GoodIn wsX9_weeks (wsV RX9 128 RX9 yX9_countWeeks wsX9_countWeeks) := goodIn_app (goodIn_of _ (by decide +kernel)) ggX9_weeks_X9_countWeeks
theorem dX9_weeks_0 : decode cX9_weeks 0 = .ok (.aload_n 0, 1) := by decide +kernel
theorem dX9_weeks_1 : decode cX9_weeks 1 = .ok (.iload_n 1, 1) := by decide +kernel
theorem dX9_weeks_2 : decode cX9_weeks 2 = .ok (.invokevirtual 125, 3) := by decide +kernel
theorem dX9_weeks_5 : decode cX9_weeks 5 = .ok (.ifCond .eq 11, 3) := by decide +kernel
theorem dX9_weeks_8 : decode cX9_weeks 8 = .ok (.aload_n 0, 1) := by decide +kernel
theorem dX9_weeks_9 : decode cX9_weeks 9 = .ok (.iload_n 1, 1) := by decide +kernel
theorem dX9_weeks_10 : decode cX9_weeks 10 = .ok (.invokevirtual 128, 3) := by decide +kernel
theorem dX9_weeks_13 : decode cX9_weeks 13 = .ok (.goto 4, 3) := by decide +kernel
theorem dX9_weeks_16 : decode cX9_weeks 16 = .ok (.iconst 0, 1) := by decide +kernel
theorem dX9_weeks_17 : decode cX9_weeks 17 = .ok (.ireturn, 1) := by decide +kernel
set_option maxRecDepth 20000 in
theorem ggX9_weeksByDays_X9_isAsked : GoodIn wsX9_weeksByDays wsX9_isAsked := goodIn_r _ [5, 6, 7, 8, 9, 4, 10, 11, 12, 13, 14, 36, 37, 38, 39, 40, 41, 42, 43, 44, 45, 46, 47, 48, 49, 50] (by decide +kernel) (by decide +kernel)
set_option maxRecDepth 20000 in
theorem gX9_weeksByDays_X9_isAsked : GoodIn wsX9_weeksByDays (wsV RX9 125 RX9 yX9_isAsked wsX9_isAsked) := goodIn_app (goodIn_of _ (by decide +kernel)) ggX9_weeksByDays_X9_isAsked
set_option maxRecDepth 20000 in
theorem ggX9_weeksByDays_X9_countWeeks : GoodIn wsX9_weeksByDays wsX9_countWeeks := goodIn_r _ [18, 19, 20, 21, 4, 22, 23, 24, 25, 26, 27, 28, 29, 30, 31, 32, 33, 34, 35, 36, 37, 38, 39, 40, 41, 42, 43, 44, 45, 46, 47, 48, 49, 50] (by decide +kernel) (by decide +kernel)
set_option maxRecDepth 20000 in
theorem gX9_weeksByDays_X9_countWeeks : GoodIn wsX9_weeksByDays (wsV RX9 128 RX9 yX9_countWeeks wsX9_countWeeks) := goodIn_app (goodIn_of _ (by decide +kernel)) ggX9_weeksByDays_X9_countWeeks
theorem dX9_weeksByDays_0 : decode cX9_weeksByDays 0 = .ok (.aload_n 0, 1) := by decide +kernel
theorem dX9_weeksByDays_1 : decode cX9_weeksByDays 1 = .ok (.iload_n 1, 1) := by decide +kernel
theorem dX9_weeksByDays_2 : decode cX9_weeksByDays 2 = .ok (.invokevirtual 125, 3) := by decide +kernel
theorem dX9_weeksByDays_5 : decode cX9_weeksByDays 5 = .ok (.ifCond .eq 11, 3) := by decide +kernel
theorem dX9_weeksByDays_8 : decode cX9_weeksByDays 8 = .ok (.aload_n 0, 1) := by decide +kernel
theorem dX9_weeksByDays_9 : decode cX9_weeksByDays 9 = .ok (.iload_n 1, 1) := by decide +kernel
theorem dX9_weeksByDays_10 : decode cX9_weeksByDays 10 = .ok (.invokevirtual 128, 3) := by decide +kernel
theorem dX9_weeksByDays_13 : decode cX9_weeksByDays 13 = .ok (.goto 4, 3) := by decide +kernel
theorem dX9_weeksByDays_16 : decode cX9_weeksByDays 16 = .ok (.iconst 0, 1) := by decide +kernel
theorem dX9_weeksByDays_17 : decode cX9_weeksByDays 17 = .ok (.ireturn, 1) := by decide +kernel
set_option maxRecDepth 20000 in
theorem ggX9_couldTake_X9_isDay : GoodIn wsX9_couldTake wsX9_isDay := goodIn_r _ [7, 8, 9, 6, 10] (by decide +kernel) (by decide +kernel)
set_option maxRecDepth 20000 in
theorem gX9_couldTake_X9_isDay : GoodIn wsX9_couldTake (va_wsS RX9 69 yX9_isDay wsX9_isDay) := goodIn_app (goodIn_of _ (by decide +kernel)) ggX9_couldTake_X9_isDay
set_option maxRecDepth 20000 in
theorem ggX9_couldTake_X9_isKind : GoodIn wsX9_couldTake wsX9_isKind := goodIn_r _ [13, 8, 9, 6, 10] (by decide +kernel) (by decide +kernel)
set_option maxRecDepth 20000 in
theorem gX9_couldTake_X9_isKind : GoodIn wsX9_couldTake (va_wsS RX9 72 yX9_isKind wsX9_isKind) := goodIn_app (goodIn_of _ (by decide +kernel)) ggX9_couldTake_X9_isKind
set_option maxRecDepth 20000 in
theorem ggX9_couldTake_X9_fails : GoodIn wsX9_couldTake wsX9_fails := goodIn_r _ [17, 1, 42, 43, 44, 45, 46, 47, 48, 49, 50, 51, 52, 53, 54, 55, 56] (by decide +kernel) (by decide +kernel)
set_option maxRecDepth 20000 in
theorem gX9_couldTake_X9_fails : GoodIn wsX9_couldTake (wsV RX9 66 RX9 yX9_fails wsX9_fails) := goodIn_app (goodIn_of _ (by decide +kernel)) ggX9_couldTake_X9_fails
set_option maxRecDepth 20000 in
theorem ggX9_couldTake_X9_weekOf : GoodIn wsX9_couldTake wsX9_weekOf := goodIn_r _ [21, 3, 42, 43, 44, 45, 46, 47, 48, 49, 50, 51, 52, 53, 54, 55, 56] (by decide +kernel) (by decide +kernel)
set_option maxRecDepth 20000 in
theorem gX9_couldTake_X9_weekOf : GoodIn wsX9_couldTake (wsV RX9 105 RX9 yX9_weekOf wsX9_weekOf) := goodIn_app (goodIn_of _ (by decide +kernel)) ggX9_couldTake_X9_weekOf
set_option maxRecDepth 20000 in
theorem ggX9_couldTake_X9_with : GoodIn wsX9_couldTake wsX9_with := goodIn_r _ [24, 25, 26, 6, 27] (by decide +kernel) (by decide +kernel)
set_option maxRecDepth 20000 in
theorem gX9_couldTake_X9_with : GoodIn wsX9_couldTake (va_wsS RX9 116 yX9_with wsX9_with) := goodIn_app (goodIn_of _ (by decide +kernel)) ggX9_couldTake_X9_with
set_option maxRecDepth 20000 in
theorem ggX9_couldTake_X9_isPossible : GoodIn wsX9_couldTake wsX9_isPossible := goodIn_r _ [31, 32, 33, 34, 35, 36, 37, 38, 39, 40, 6, 41, 25, 26, 27, 42, 43, 44, 45, 46, 47, 48, 49, 50, 51, 52, 53, 54, 55, 56] (by decide +kernel) (by decide +kernel)
set_option maxRecDepth 20000 in
theorem gX9_couldTake_X9_isPossible : GoodIn wsX9_couldTake (wsV RX9 92 RX9 yX9_isPossible wsX9_isPossible) := goodIn_app (goodIn_of _ (by decide +kernel)) ggX9_couldTake_X9_isPossible
theorem dX9_couldTake_0 : decode cX9_couldTake 0 = .ok (.aload_n 0, 1) := by decide +kernel
theorem dX9_couldTake_1 : decode cX9_couldTake 1 = .ok (.iconst 0, 1) := by decide +kernel
theorem dX9_couldTake_2 : decode cX9_couldTake 2 = .ok (.putfield 44, 3) := by decide +kernel
theorem dX9_couldTake_5 : decode cX9_couldTake 5 = .ok (.iload_n 1, 1) := by decide +kernel
theorem dX9_couldTake_6 : decode cX9_couldTake 6 = .ok (.invokestatic 69, 3) := by decide +kernel
theorem dX9_couldTake_9 : decode cX9_couldTake 9 = .ok (.ifCond .eq 10, 3) := by decide +kernel
theorem dX9_couldTake_12 : decode cX9_couldTake 12 = .ok (.iload_n 2, 1) := by decide +kernel
theorem dX9_couldTake_13 : decode cX9_couldTake 13 = .ok (.invokestatic 72, 3) := by decide +kernel
theorem dX9_couldTake_16 : decode cX9_couldTake 16 = .ok (.ifCond .ne 9, 3) := by decide +kernel
theorem dX9_couldTake_19 : decode cX9_couldTake 19 = .ok (.aload_n 0, 1) := by decide +kernel
theorem dX9_couldTake_20 : decode cX9_couldTake 20 = .ok (.iconst 1, 1) := by decide +kernel
theorem dX9_couldTake_21 : decode cX9_couldTake 21 = .ok (.invokevirtual 66, 3) := by decide +kernel
theorem dX9_couldTake_24 : decode cX9_couldTake 24 = .ok (.ireturn, 1) := by decide +kernel
theorem dX9_couldTake_25 : decode cX9_couldTake 25 = .ok (.iconst 0, 1) := by decide +kernel
theorem dX9_couldTake_26 : decode cX9_couldTake 26 = .ok (.istore_n 3, 1) := by decide +kernel
theorem dX9_couldTake_27 : decode cX9_couldTake 27 = .ok (.iconst 0, 1) := by decide +kernel
theorem dX9_couldTake_28 : decode cX9_couldTake 28 = .ok (.istore 4, 2) := by decide +kernel
theorem dX9_couldTake_30 : decode cX9_couldTake 30 = .ok (.iload 4, 2) := by decide +kernel
theorem dX9_couldTake_32 : decode cX9_couldTake 32 = .ok (.aload_n 0, 1) := by decide +kernel
theorem dX9_couldTake_33 : decode cX9_couldTake 33 = .ok (.getfield 47, 3) := by decide +kernel
theorem dX9_couldTake_36 : decode cX9_couldTake 36 = .ok (.if_icmp .ge 67, 3) := by decide +kernel
theorem dX9_couldTake_39 : decode cX9_couldTake 39 = .ok (.aload_n 0, 1) := by decide +kernel
theorem dX9_couldTake_40 : decode cX9_couldTake 40 = .ok (.getfield 26, 3) := by decide +kernel
theorem dX9_couldTake_43 : decode cX9_couldTake 43 = .ok (.bipush 7, 2) := by decide +kernel
theorem dX9_couldTake_45 : decode cX9_couldTake 45 = .ok (.iload 4, 2) := by decide +kernel
theorem dX9_couldTake_47 : decode cX9_couldTake 47 = .ok (.imul, 1) := by decide +kernel
theorem dX9_couldTake_48 : decode cX9_couldTake 48 = .ok (.iload_n 1, 1) := by decide +kernel
theorem dX9_couldTake_49 : decode cX9_couldTake 49 = .ok (.iadd, 1) := by decide +kernel
theorem dX9_couldTake_50 : decode cX9_couldTake 50 = .ok (.iaload, 1) := by decide +kernel
theorem dX9_couldTake_51 : decode cX9_couldTake 51 = .ok (.ifCond .ne 27, 3) := by decide +kernel
theorem dX9_couldTake_54 : decode cX9_couldTake 54 = .ok (.aload_n 0, 1) := by decide +kernel
theorem dX9_couldTake_55 : decode cX9_couldTake 55 = .ok (.iload 4, 2) := by decide +kernel
theorem dX9_couldTake_57 : decode cX9_couldTake 57 = .ok (.aload_n 0, 1) := by decide +kernel
theorem dX9_couldTake_58 : decode cX9_couldTake 58 = .ok (.iload 4, 2) := by decide +kernel
theorem dX9_couldTake_60 : decode cX9_couldTake 60 = .ok (.invokevirtual 105, 3) := by decide +kernel
theorem dX9_couldTake_63 : decode cX9_couldTake 63 = .ok (.iload_n 1, 1) := by decide +kernel
theorem dX9_couldTake_64 : decode cX9_couldTake 64 = .ok (.iload_n 2, 1) := by decide +kernel
theorem dX9_couldTake_65 : decode cX9_couldTake 65 = .ok (.invokestatic 116, 3) := by decide +kernel
theorem dX9_couldTake_68 : decode cX9_couldTake 68 = .ok (.invokevirtual 92, 3) := by decide +kernel
theorem dX9_couldTake_71 : decode cX9_couldTake 71 = .ok (.ifCond .eq 7, 3) := by decide +kernel
theorem dX9_couldTake_74 : decode cX9_couldTake 74 = .ok (.iconst 1, 1) := by decide +kernel
theorem dX9_couldTake_75 : decode cX9_couldTake 75 = .ok (.goto 4, 3) := by decide +kernel
theorem dX9_couldTake_78 : decode cX9_couldTake 78 = .ok (.iconst 0, 1) := by decide +kernel
theorem dX9_couldTake_79 : decode cX9_couldTake 79 = .ok (.istore 5, 2) := by decide +kernel
theorem dX9_couldTake_81 : decode cX9_couldTake 81 = .ok (.iload_n 3, 1) := by decide +kernel
theorem dX9_couldTake_82 : decode cX9_couldTake 82 = .ok (.iload 5, 2) := by decide +kernel
theorem dX9_couldTake_84 : decode cX9_couldTake 84 = .ok (.ifCond .eq 10, 3) := by decide +kernel
theorem dX9_couldTake_87 : decode cX9_couldTake 87 = .ok (.iconst 1, 1) := by decide +kernel
theorem dX9_couldTake_88 : decode cX9_couldTake 88 = .ok (.iload 4, 2) := by decide +kernel
theorem dX9_couldTake_90 : decode cX9_couldTake 90 = .ok (.ishl, 1) := by decide +kernel
theorem dX9_couldTake_91 : decode cX9_couldTake 91 = .ok (.goto 4, 3) := by decide +kernel
theorem dX9_couldTake_94 : decode cX9_couldTake 94 = .ok (.iconst 0, 1) := by decide +kernel
theorem dX9_couldTake_95 : decode cX9_couldTake 95 = .ok (.ior, 1) := by decide +kernel
theorem dX9_couldTake_96 : decode cX9_couldTake 96 = .ok (.istore_n 3, 1) := by decide +kernel
theorem dX9_couldTake_97 : decode cX9_couldTake 97 = .ok (.iinc 4 1, 3) := by decide +kernel
theorem dX9_couldTake_100 : decode cX9_couldTake 100 = .ok (.goto (-70), 3) := by decide +kernel
theorem dX9_couldTake_103 : decode cX9_couldTake 103 = .ok (.iload_n 3, 1) := by decide +kernel
theorem dX9_couldTake_104 : decode cX9_couldTake 104 = .ok (.ireturn, 1) := by decide +kernel
set_option maxRecDepth 20000 in
theorem ggX9_swapFor_X9_isPerson : GoodIn wsX9_swapFor wsX9_isPerson := goodIn_r _ [8, 2, 9, 10, 7, 11, 47, 48, 49, 50, 51, 52, 53, 54, 55, 56, 57, 58, 59, 60, 61] (by decide +kernel) (by decide +kernel)
set_option maxRecDepth 20000 in
theorem gX9_swapFor_X9_isPerson : GoodIn wsX9_swapFor (wsV RX9 54 RX9 yX9_isPerson wsX9_isPerson) := goodIn_app (goodIn_of _ (by decide +kernel)) ggX9_swapFor_X9_isPerson
set_option maxRecDepth 20000 in
theorem ggX9_swapFor_X9_isDay : GoodIn wsX9_swapFor wsX9_isDay := goodIn_r _ [14, 9, 10, 7, 11] (by decide +kernel) (by decide +kernel)
set_option maxRecDepth 20000 in
theorem gX9_swapFor_X9_isDay : GoodIn wsX9_swapFor (va_wsS RX9 69 yX9_isDay wsX9_isDay) := goodIn_app (goodIn_of _ (by decide +kernel)) ggX9_swapFor_X9_isDay
set_option maxRecDepth 20000 in
theorem ggX9_swapFor_X9_fails : GoodIn wsX9_swapFor wsX9_fails := goodIn_r _ [18, 1, 47, 48, 49, 50, 51, 52, 53, 54, 55, 56, 57, 58, 59, 60, 61] (by decide +kernel) (by decide +kernel)
set_option maxRecDepth 20000 in
theorem gX9_swapFor_X9_fails : GoodIn wsX9_swapFor (wsV RX9 66 RX9 yX9_fails wsX9_fails) := goodIn_app (goodIn_of _ (by decide +kernel)) ggX9_swapFor_X9_fails
set_option maxRecDepth 20000 in
theorem ggX9_swapFor_X9_canSwap : GoodIn wsX9_swapFor wsX9_canSwap := goodIn_r _ [22, 3, 23, 24, 25, 7, 26, 27, 28, 29, 30, 31, 32, 33, 34, 35, 36, 37, 38, 39, 40, 41, 42, 43, 44, 45, 46, 47, 48, 49, 50, 51, 52, 53, 54, 55, 56, 57, 58, 59, 60, 61] (by decide +kernel) (by decide +kernel)
set_option maxRecDepth 20000 in
theorem gX9_swapFor_X9_canSwap : GoodIn wsX9_swapFor (wsV RX9 119 RX9 yX9_canSwap wsX9_canSwap) := goodIn_app (goodIn_of _ (by decide +kernel)) ggX9_swapFor_X9_canSwap
set_option maxRecDepth 20000 in
theorem ggX9_swapFor_X9_weekOf : GoodIn wsX9_swapFor wsX9_weekOf := goodIn_r _ [26, 3, 47, 48, 49, 50, 51, 52, 53, 54, 55, 56, 57, 58, 59, 60, 61] (by decide +kernel) (by decide +kernel)
set_option maxRecDepth 20000 in
theorem gX9_swapFor_X9_weekOf : GoodIn wsX9_swapFor (wsV RX9 105 RX9 yX9_weekOf wsX9_weekOf) := goodIn_app (goodIn_of _ (by decide +kernel)) ggX9_swapFor_X9_weekOf
set_option maxRecDepth 20000 in
theorem ggX9_swapFor_X9_countShifts : GoodIn wsX9_swapFor wsX9_countShifts := goodIn_r _ [46, 30, 31, 7, 32] (by decide +kernel) (by decide +kernel)
set_option maxRecDepth 20000 in
theorem gX9_swapFor_X9_countShifts : GoodIn wsX9_swapFor (va_wsS RX9 62 yX9_countShifts wsX9_countShifts) := goodIn_app (goodIn_of _ (by decide +kernel)) ggX9_swapFor_X9_countShifts
theorem dX9_swapFor_0 : decode cX9_swapFor 0 = .ok (.aload_n 0, 1) := by decide +kernel
theorem dX9_swapFor_1 : decode cX9_swapFor 1 = .ok (.iconst 0, 1) := by decide +kernel
theorem dX9_swapFor_2 : decode cX9_swapFor 2 = .ok (.putfield 44, 3) := by decide +kernel
theorem dX9_swapFor_5 : decode cX9_swapFor 5 = .ok (.aload_n 0, 1) := by decide +kernel
theorem dX9_swapFor_6 : decode cX9_swapFor 6 = .ok (.iload_n 1, 1) := by decide +kernel
theorem dX9_swapFor_7 : decode cX9_swapFor 7 = .ok (.invokevirtual 54, 3) := by decide +kernel
theorem dX9_swapFor_10 : decode cX9_swapFor 10 = .ok (.ifCond .eq 10, 3) := by decide +kernel
theorem dX9_swapFor_13 : decode cX9_swapFor 13 = .ok (.iload_n 2, 1) := by decide +kernel
theorem dX9_swapFor_14 : decode cX9_swapFor 14 = .ok (.invokestatic 69, 3) := by decide +kernel
theorem dX9_swapFor_17 : decode cX9_swapFor 17 = .ok (.ifCond .ne 9, 3) := by decide +kernel
theorem dX9_swapFor_20 : decode cX9_swapFor 20 = .ok (.aload_n 0, 1) := by decide +kernel
theorem dX9_swapFor_21 : decode cX9_swapFor 21 = .ok (.iconst 1, 1) := by decide +kernel
theorem dX9_swapFor_22 : decode cX9_swapFor 22 = .ok (.invokevirtual 66, 3) := by decide +kernel
theorem dX9_swapFor_25 : decode cX9_swapFor 25 = .ok (.ireturn, 1) := by decide +kernel
theorem dX9_swapFor_26 : decode cX9_swapFor 26 = .ok (.iconst (-1), 1) := by decide +kernel
theorem dX9_swapFor_27 : decode cX9_swapFor 27 = .ok (.istore_n 3, 1) := by decide +kernel
theorem dX9_swapFor_28 : decode cX9_swapFor 28 = .ok (.bipush 8, 2) := by decide +kernel
theorem dX9_swapFor_30 : decode cX9_swapFor 30 = .ok (.istore 4, 2) := by decide +kernel
theorem dX9_swapFor_32 : decode cX9_swapFor 32 = .ok (.iconst 0, 1) := by decide +kernel
theorem dX9_swapFor_33 : decode cX9_swapFor 33 = .ok (.istore 5, 2) := by decide +kernel
theorem dX9_swapFor_35 : decode cX9_swapFor 35 = .ok (.iload 5, 2) := by decide +kernel
theorem dX9_swapFor_37 : decode cX9_swapFor 37 = .ok (.aload_n 0, 1) := by decide +kernel
theorem dX9_swapFor_38 : decode cX9_swapFor 38 = .ok (.getfield 47, 3) := by decide +kernel
theorem dX9_swapFor_41 : decode cX9_swapFor 41 = .ok (.if_icmp .ge 104, 3) := by decide +kernel
theorem dX9_swapFor_44 : decode cX9_swapFor 44 = .ok (.aload_n 0, 1) := by decide +kernel
theorem dX9_swapFor_45 : decode cX9_swapFor 45 = .ok (.getfield 26, 3) := by decide +kernel
theorem dX9_swapFor_48 : decode cX9_swapFor 48 = .ok (.bipush 7, 2) := by decide +kernel
theorem dX9_swapFor_50 : decode cX9_swapFor 50 = .ok (.iload_n 1, 1) := by decide +kernel
theorem dX9_swapFor_51 : decode cX9_swapFor 51 = .ok (.imul, 1) := by decide +kernel
theorem dX9_swapFor_52 : decode cX9_swapFor 52 = .ok (.iload_n 2, 1) := by decide +kernel
theorem dX9_swapFor_53 : decode cX9_swapFor 53 = .ok (.iadd, 1) := by decide +kernel
theorem dX9_swapFor_54 : decode cX9_swapFor 54 = .ok (.iaload, 1) := by decide +kernel
theorem dX9_swapFor_55 : decode cX9_swapFor 55 = .ok (.aload_n 0, 1) := by decide +kernel
theorem dX9_swapFor_56 : decode cX9_swapFor 56 = .ok (.getfield 26, 3) := by decide +kernel
theorem dX9_swapFor_59 : decode cX9_swapFor 59 = .ok (.bipush 7, 2) := by decide +kernel
theorem dX9_swapFor_61 : decode cX9_swapFor 61 = .ok (.iload 5, 2) := by decide +kernel
theorem dX9_swapFor_63 : decode cX9_swapFor 63 = .ok (.imul, 1) := by decide +kernel
theorem dX9_swapFor_64 : decode cX9_swapFor 64 = .ok (.iload_n 2, 1) := by decide +kernel
theorem dX9_swapFor_65 : decode cX9_swapFor 65 = .ok (.iadd, 1) := by decide +kernel
theorem dX9_swapFor_66 : decode cX9_swapFor 66 = .ok (.iaload, 1) := by decide +kernel
theorem dX9_swapFor_67 : decode cX9_swapFor 67 = .ok (.if_icmp .eq 18, 3) := by decide +kernel
theorem dX9_swapFor_70 : decode cX9_swapFor 70 = .ok (.aload_n 0, 1) := by decide +kernel
theorem dX9_swapFor_71 : decode cX9_swapFor 71 = .ok (.iload_n 1, 1) := by decide +kernel
theorem dX9_swapFor_72 : decode cX9_swapFor 72 = .ok (.iload 5, 2) := by decide +kernel
theorem dX9_swapFor_74 : decode cX9_swapFor 74 = .ok (.iload_n 2, 1) := by decide +kernel
theorem dX9_swapFor_75 : decode cX9_swapFor 75 = .ok (.invokevirtual 119, 3) := by decide +kernel
theorem dX9_swapFor_78 : decode cX9_swapFor 78 = .ok (.ifCond .eq 7, 3) := by decide +kernel
theorem dX9_swapFor_81 : decode cX9_swapFor 81 = .ok (.iconst 1, 1) := by decide +kernel
theorem dX9_swapFor_82 : decode cX9_swapFor 82 = .ok (.goto 4, 3) := by decide +kernel
theorem dX9_swapFor_85 : decode cX9_swapFor 85 = .ok (.iconst 0, 1) := by decide +kernel
theorem dX9_swapFor_86 : decode cX9_swapFor 86 = .ok (.istore 6, 2) := by decide +kernel
theorem dX9_swapFor_88 : decode cX9_swapFor 88 = .ok (.aload_n 0, 1) := by decide +kernel
theorem dX9_swapFor_89 : decode cX9_swapFor 89 = .ok (.iload 5, 2) := by decide +kernel
theorem dX9_swapFor_91 : decode cX9_swapFor 91 = .ok (.invokevirtual 105, 3) := by decide +kernel
theorem dX9_swapFor_94 : decode cX9_swapFor 94 = .ok (.invokestatic 62, 3) := by decide +kernel
theorem dX9_swapFor_97 : decode cX9_swapFor 97 = .ok (.istore 7, 2) := by decide +kernel
theorem dX9_swapFor_99 : decode cX9_swapFor 99 = .ok (.iload 6, 2) := by decide +kernel
theorem dX9_swapFor_101 : decode cX9_swapFor 101 = .ok (.ifCond .eq 15, 3) := by decide +kernel
theorem dX9_swapFor_104 : decode cX9_swapFor 104 = .ok (.iload 7, 2) := by decide +kernel
theorem dX9_swapFor_106 : decode cX9_swapFor 106 = .ok (.iload 4, 2) := by decide +kernel
theorem dX9_swapFor_108 : decode cX9_swapFor 108 = .ok (.if_icmp .ge 8, 3) := by decide +kernel
theorem dX9_swapFor_111 : decode cX9_swapFor 111 = .ok (.iload 5, 2) := by decide +kernel
theorem dX9_swapFor_113 : decode cX9_swapFor 113 = .ok (.goto 4, 3) := by decide +kernel
theorem dX9_swapFor_116 : decode cX9_swapFor 116 = .ok (.iload_n 3, 1) := by decide +kernel
theorem dX9_swapFor_117 : decode cX9_swapFor 117 = .ok (.istore_n 3, 1) := by decide +kernel
theorem dX9_swapFor_118 : decode cX9_swapFor 118 = .ok (.iload 6, 2) := by decide +kernel
theorem dX9_swapFor_120 : decode cX9_swapFor 120 = .ok (.ifCond .eq 15, 3) := by decide +kernel
theorem dX9_swapFor_123 : decode cX9_swapFor 123 = .ok (.iload 7, 2) := by decide +kernel
theorem dX9_swapFor_125 : decode cX9_swapFor 125 = .ok (.iload 4, 2) := by decide +kernel
theorem dX9_swapFor_127 : decode cX9_swapFor 127 = .ok (.if_icmp .ge 8, 3) := by decide +kernel
theorem dX9_swapFor_130 : decode cX9_swapFor 130 = .ok (.iload 7, 2) := by decide +kernel
theorem dX9_swapFor_132 : decode cX9_swapFor 132 = .ok (.goto 5, 3) := by decide +kernel
theorem dX9_swapFor_135 : decode cX9_swapFor 135 = .ok (.iload 4, 2) := by decide +kernel
theorem dX9_swapFor_137 : decode cX9_swapFor 137 = .ok (.istore 4, 2) := by decide +kernel
theorem dX9_swapFor_139 : decode cX9_swapFor 139 = .ok (.iinc 5 1, 3) := by decide +kernel
theorem dX9_swapFor_142 : decode cX9_swapFor 142 = .ok (.goto (-107), 3) := by decide +kernel
theorem dX9_swapFor_145 : decode cX9_swapFor 145 = .ok (.iload_n 3, 1) := by decide +kernel
theorem dX9_swapFor_146 : decode cX9_swapFor 146 = .ok (.ireturn, 1) := by decide +kernel
theorem dX9_lacking_0 : decode cX9_lacking 0 = .ok (.iconst 0, 1) := by decide +kernel
theorem dX9_lacking_1 : decode cX9_lacking 1 = .ok (.istore_n 2, 1) := by decide +kernel
theorem dX9_lacking_2 : decode cX9_lacking 2 = .ok (.iconst 0, 1) := by decide +kernel
theorem dX9_lacking_3 : decode cX9_lacking 3 = .ok (.istore_n 3, 1) := by decide +kernel
theorem dX9_lacking_4 : decode cX9_lacking 4 = .ok (.iload_n 3, 1) := by decide +kernel
theorem dX9_lacking_5 : decode cX9_lacking 5 = .ok (.bipush 16, 2) := by decide +kernel
theorem dX9_lacking_7 : decode cX9_lacking 7 = .ok (.if_icmp .ge 103, 3) := by decide +kernel
theorem dX9_lacking_10 : decode cX9_lacking 10 = .ok (.iconst 0, 1) := by decide +kernel
theorem dX9_lacking_11 : decode cX9_lacking 11 = .ok (.istore 4, 2) := by decide +kernel
theorem dX9_lacking_13 : decode cX9_lacking 13 = .ok (.iconst 1, 1) := by decide +kernel
theorem dX9_lacking_14 : decode cX9_lacking 14 = .ok (.istore 5, 2) := by decide +kernel
theorem dX9_lacking_16 : decode cX9_lacking 16 = .ok (.iload 5, 2) := by decide +kernel
theorem dX9_lacking_18 : decode cX9_lacking 18 = .ok (.iconst 3, 1) := by decide +kernel
theorem dX9_lacking_19 : decode cX9_lacking 19 = .ok (.if_icmp .gt 32, 3) := by decide +kernel
theorem dX9_lacking_22 : decode cX9_lacking 22 = .ok (.iload 4, 2) := by decide +kernel
theorem dX9_lacking_24 : decode cX9_lacking 24 = .ok (.iload_n 3, 1) := by decide +kernel
theorem dX9_lacking_25 : decode cX9_lacking 25 = .ok (.iload 5, 2) := by decide +kernel
theorem dX9_lacking_27 : decode cX9_lacking 27 = .ok (.ishr, 1) := by decide +kernel
theorem dX9_lacking_28 : decode cX9_lacking 28 = .ok (.iconst 1, 1) := by decide +kernel
theorem dX9_lacking_29 : decode cX9_lacking 29 = .ok (.iand, 1) := by decide +kernel
theorem dX9_lacking_30 : decode cX9_lacking 30 = .ok (.aload_n 0, 1) := by decide +kernel
theorem dX9_lacking_31 : decode cX9_lacking 31 = .ok (.getfield 20, 3) := by decide +kernel
theorem dX9_lacking_34 : decode cX9_lacking 34 = .ok (.iconst 4, 1) := by decide +kernel
theorem dX9_lacking_35 : decode cX9_lacking 35 = .ok (.iload_n 1, 1) := by decide +kernel
theorem dX9_lacking_36 : decode cX9_lacking 36 = .ok (.imul, 1) := by decide +kernel
theorem dX9_lacking_37 : decode cX9_lacking 37 = .ok (.iload 5, 2) := by decide +kernel
theorem dX9_lacking_39 : decode cX9_lacking 39 = .ok (.iadd, 1) := by decide +kernel
theorem dX9_lacking_40 : decode cX9_lacking 40 = .ok (.iaload, 1) := by decide +kernel
theorem dX9_lacking_41 : decode cX9_lacking 41 = .ok (.imul, 1) := by decide +kernel
theorem dX9_lacking_42 : decode cX9_lacking 42 = .ok (.iadd, 1) := by decide +kernel
theorem dX9_lacking_43 : decode cX9_lacking 43 = .ok (.istore 4, 2) := by decide +kernel
theorem dX9_lacking_45 : decode cX9_lacking 45 = .ok (.iinc 5 1, 3) := by decide +kernel
theorem dX9_lacking_48 : decode cX9_lacking 48 = .ok (.goto (-32), 3) := by decide +kernel
theorem dX9_lacking_51 : decode cX9_lacking 51 = .ok (.iconst 0, 1) := by decide +kernel
theorem dX9_lacking_52 : decode cX9_lacking 52 = .ok (.istore 5, 2) := by decide +kernel
theorem dX9_lacking_54 : decode cX9_lacking 54 = .ok (.iload 5, 2) := by decide +kernel
theorem dX9_lacking_56 : decode cX9_lacking 56 = .ok (.aload_n 0, 1) := by decide +kernel
theorem dX9_lacking_57 : decode cX9_lacking 57 = .ok (.getfield 47, 3) := by decide +kernel
theorem dX9_lacking_60 : decode cX9_lacking 60 = .ok (.if_icmp .ge 31, 3) := by decide +kernel
theorem dX9_lacking_63 : decode cX9_lacking 63 = .ok (.iload 4, 2) := by decide +kernel
theorem dX9_lacking_65 : decode cX9_lacking 65 = .ok (.aload_n 0, 1) := by decide +kernel
theorem dX9_lacking_66 : decode cX9_lacking 66 = .ok (.getfield 13, 3) := by decide +kernel
theorem dX9_lacking_69 : decode cX9_lacking 69 = .ok (.iload 5, 2) := by decide +kernel
theorem dX9_lacking_71 : decode cX9_lacking 71 = .ok (.iaload, 1) := by decide +kernel
theorem dX9_lacking_72 : decode cX9_lacking 72 = .ok (.iload_n 3, 1) := by decide +kernel
theorem dX9_lacking_73 : decode cX9_lacking 73 = .ok (.iand, 1) := by decide +kernel
theorem dX9_lacking_74 : decode cX9_lacking 74 = .ok (.ifCond .eq 7, 3) := by decide +kernel
theorem dX9_lacking_77 : decode cX9_lacking 77 = .ok (.iconst 1, 1) := by decide +kernel
theorem dX9_lacking_78 : decode cX9_lacking 78 = .ok (.goto 4, 3) := by decide +kernel
theorem dX9_lacking_81 : decode cX9_lacking 81 = .ok (.iconst 0, 1) := by decide +kernel
theorem dX9_lacking_82 : decode cX9_lacking 82 = .ok (.isub, 1) := by decide +kernel
theorem dX9_lacking_83 : decode cX9_lacking 83 = .ok (.istore 4, 2) := by decide +kernel
theorem dX9_lacking_85 : decode cX9_lacking 85 = .ok (.iinc 5 1, 3) := by decide +kernel
theorem dX9_lacking_88 : decode cX9_lacking 88 = .ok (.goto (-34), 3) := by decide +kernel
theorem dX9_lacking_91 : decode cX9_lacking 91 = .ok (.iload 4, 2) := by decide +kernel
theorem dX9_lacking_93 : decode cX9_lacking 93 = .ok (.iload_n 2, 1) := by decide +kernel
theorem dX9_lacking_94 : decode cX9_lacking 94 = .ok (.if_icmp .le 8, 3) := by decide +kernel
theorem dX9_lacking_97 : decode cX9_lacking 97 = .ok (.iload 4, 2) := by decide +kernel
theorem dX9_lacking_99 : decode cX9_lacking 99 = .ok (.goto 4, 3) := by decide +kernel
theorem dX9_lacking_102 : decode cX9_lacking 102 = .ok (.iload_n 2, 1) := by decide +kernel
theorem dX9_lacking_103 : decode cX9_lacking 103 = .ok (.istore_n 2, 1) := by decide +kernel
theorem dX9_lacking_104 : decode cX9_lacking 104 = .ok (.iinc 3 2, 3) := by decide +kernel
theorem dX9_lacking_107 : decode cX9_lacking 107 = .ok (.goto (-103), 3) := by decide +kernel
theorem dX9_lacking_110 : decode cX9_lacking 110 = .ok (.iload_n 2, 1) := by decide +kernel
theorem dX9_lacking_111 : decode cX9_lacking 111 = .ok (.ireturn, 1) := by decide +kernel
set_option maxRecDepth 20000 in
theorem ggX9_bound_X9_lacking : GoodIn wsX9_bound wsX9_lacking := goodIn_r _ [6, 7, 8, 9, 10, 11, 12, 13, 14, 15, 16, 17, 18, 19, 20, 21, 22, 23, 24] (by decide +kernel) (by decide +kernel)
set_option maxRecDepth 20000 in
theorem gX9_bound_X9_lacking : GoodIn wsX9_bound (wsV RX9 131 RX9 yX9_lacking wsX9_lacking) := goodIn_app (goodIn_of _ (by decide +kernel)) ggX9_bound_X9_lacking
theorem dX9_bound_0 : decode cX9_bound 0 = .ok (.aload_n 0, 1) := by decide +kernel
theorem dX9_bound_1 : decode cX9_bound 1 = .ok (.iconst 0, 1) := by decide +kernel
theorem dX9_bound_2 : decode cX9_bound 2 = .ok (.putfield 44, 3) := by decide +kernel
theorem dX9_bound_5 : decode cX9_bound 5 = .ok (.iconst 0, 1) := by decide +kernel
theorem dX9_bound_6 : decode cX9_bound 6 = .ok (.istore_n 1, 1) := by decide +kernel
theorem dX9_bound_7 : decode cX9_bound 7 = .ok (.iconst 0, 1) := by decide +kernel
theorem dX9_bound_8 : decode cX9_bound 8 = .ok (.istore_n 2, 1) := by decide +kernel
theorem dX9_bound_9 : decode cX9_bound 9 = .ok (.iload_n 2, 1) := by decide +kernel
theorem dX9_bound_10 : decode cX9_bound 10 = .ok (.bipush 7, 2) := by decide +kernel
theorem dX9_bound_12 : decode cX9_bound 12 = .ok (.if_icmp .ge 17, 3) := by decide +kernel
theorem dX9_bound_15 : decode cX9_bound 15 = .ok (.iload_n 1, 1) := by decide +kernel
theorem dX9_bound_16 : decode cX9_bound 16 = .ok (.aload_n 0, 1) := by decide +kernel
theorem dX9_bound_17 : decode cX9_bound 17 = .ok (.iload_n 2, 1) := by decide +kernel
theorem dX9_bound_18 : decode cX9_bound 18 = .ok (.invokevirtual 131, 3) := by decide +kernel
theorem dX9_bound_21 : decode cX9_bound 21 = .ok (.iadd, 1) := by decide +kernel
theorem dX9_bound_22 : decode cX9_bound 22 = .ok (.istore_n 1, 1) := by decide +kernel
theorem dX9_bound_23 : decode cX9_bound 23 = .ok (.iinc 2 1, 3) := by decide +kernel
theorem dX9_bound_26 : decode cX9_bound 26 = .ok (.goto (-17), 3) := by decide +kernel
theorem dX9_bound_29 : decode cX9_bound 29 = .ok (.iload_n 1, 1) := by decide +kernel
theorem dX9_bound_30 : decode cX9_bound 30 = .ok (.ireturn, 1) := by decide +kernel
theorem dJ9_max_7cf53_0 : decode cJ9_max_7cf53 0 = .ok (.iload_n 0, 1) := by decide +kernel
theorem dJ9_max_7cf53_1 : decode cJ9_max_7cf53 1 = .ok (.iload_n 1, 1) := by decide +kernel
theorem dJ9_max_7cf53_2 : decode cJ9_max_7cf53 2 = .ok (.if_icmp .lt 7, 3) := by decide +kernel
theorem dJ9_max_7cf53_5 : decode cJ9_max_7cf53 5 = .ok (.iload_n 0, 1) := by decide +kernel
theorem dJ9_max_7cf53_6 : decode cJ9_max_7cf53 6 = .ok (.goto 4, 3) := by decide +kernel
theorem dJ9_max_7cf53_9 : decode cJ9_max_7cf53 9 = .ok (.iload_n 1, 1) := by decide +kernel
theorem dJ9_max_7cf53_10 : decode cJ9_max_7cf53 10 = .ok (.ireturn, 1) := by decide +kernel
theorem dJ9_min_7cf53_0 : decode cJ9_min_7cf53 0 = .ok (.iload_n 0, 1) := by decide +kernel
theorem dJ9_min_7cf53_1 : decode cJ9_min_7cf53 1 = .ok (.iload_n 1, 1) := by decide +kernel
theorem dJ9_min_7cf53_2 : decode cJ9_min_7cf53 2 = .ok (.if_icmp .gt 7, 3) := by decide +kernel
theorem dJ9_min_7cf53_5 : decode cJ9_min_7cf53 5 = .ok (.iload_n 0, 1) := by decide +kernel
theorem dJ9_min_7cf53_6 : decode cJ9_min_7cf53 6 = .ok (.goto 4, 3) := by decide +kernel
theorem dJ9_min_7cf53_9 : decode cJ9_min_7cf53 9 = .ok (.iload_n 1, 1) := by decide +kernel
theorem dJ9_min_7cf53_10 : decode cJ9_min_7cf53 10 = .ok (.ireturn, 1) := by decide +kernel
theorem dJ9_min_f86c9_0 : decode cJ9_min_f86c9 0 = .ok (.lload_n 0, 1) := by decide +kernel
theorem dJ9_min_f86c9_1 : decode cJ9_min_f86c9 1 = .ok (.lload_n 2, 1) := by decide +kernel
theorem dJ9_min_f86c9_2 : decode cJ9_min_f86c9 2 = .ok (.lcmp, 1) := by decide +kernel
theorem dJ9_min_f86c9_3 : decode cJ9_min_f86c9 3 = .ok (.ifCond .gt 7, 3) := by decide +kernel
theorem dJ9_min_f86c9_6 : decode cJ9_min_f86c9 6 = .ok (.lload_n 0, 1) := by decide +kernel
theorem dJ9_min_f86c9_7 : decode cJ9_min_f86c9 7 = .ok (.goto 4, 3) := by decide +kernel
theorem dJ9_min_f86c9_10 : decode cJ9_min_f86c9 10 = .ok (.lload_n 2, 1) := by decide +kernel
theorem dJ9_min_f86c9_11 : decode cJ9_min_f86c9 11 = .ok (.lreturn, 1) := by decide +kernel
theorem dJ7_fill_d0a16_0 : decode cJ7_fill_d0a16 0 = .ok (.iconst 0, 1) := by decide +kernel
theorem dJ7_fill_d0a16_1 : decode cJ7_fill_d0a16 1 = .ok (.istore_n 3, 1) := by decide +kernel
theorem dJ7_fill_d0a16_2 : decode cJ7_fill_d0a16 2 = .ok (.aload_n 0, 1) := by decide +kernel
theorem dJ7_fill_d0a16_3 : decode cJ7_fill_d0a16 3 = .ok (.arraylength, 1) := by decide +kernel
theorem dJ7_fill_d0a16_4 : decode cJ7_fill_d0a16 4 = .ok (.istore 4, 2) := by decide +kernel
theorem dJ7_fill_d0a16_6 : decode cJ7_fill_d0a16 6 = .ok (.iload_n 3, 1) := by decide +kernel
theorem dJ7_fill_d0a16_7 : decode cJ7_fill_d0a16 7 = .ok (.iload 4, 2) := by decide +kernel
theorem dJ7_fill_d0a16_9 : decode cJ7_fill_d0a16 9 = .ok (.if_icmp .ge 13, 3) := by decide +kernel
theorem dJ7_fill_d0a16_12 : decode cJ7_fill_d0a16 12 = .ok (.aload_n 0, 1) := by decide +kernel
theorem dJ7_fill_d0a16_13 : decode cJ7_fill_d0a16 13 = .ok (.iload_n 3, 1) := by decide +kernel
theorem dJ7_fill_d0a16_14 : decode cJ7_fill_d0a16 14 = .ok (.lload_n 1, 1) := by decide +kernel
theorem dJ7_fill_d0a16_15 : decode cJ7_fill_d0a16 15 = .ok (.lastore, 1) := by decide +kernel
theorem dJ7_fill_d0a16_16 : decode cJ7_fill_d0a16 16 = .ok (.iinc 3 1, 3) := by decide +kernel
theorem dJ7_fill_d0a16_19 : decode cJ7_fill_d0a16 19 = .ok (.goto (-13), 3) := by decide +kernel
theorem dJ7_fill_d0a16_22 : decode cJ7_fill_d0a16 22 = .ok (.return_, 1) := by decide +kernel
