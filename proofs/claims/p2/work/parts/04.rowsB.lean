set_option maxRecDepth 20000 in
theorem ggX6_init_X2_init : GoodIn wsX6_init wsX2_init := goodIn_r _ [36, 37, 2, 3, 28, 38, 39, 40, 103, 104, 105] (by decide +kernel) (by decide +kernel)
set_option maxRecDepth 20000 in
theorem gX6_init_X2_init : GoodIn wsX6_init (wsX2_init) := ggX6_init_X2_init
set_option maxRecDepth 20000 in
theorem ggX6_init_X1_init : GoodIn wsX6_init wsX1_init := goodIn_r _ [43, 44, 2, 3, 45, 46, 117, 118] (by decide +kernel) (by decide +kernel)
set_option maxRecDepth 20000 in
theorem gX6_init_X1_init : GoodIn wsX6_init (wsX1_init) := ggX6_init_X1_init
set_option maxRecDepth 20000 in
theorem ggX6_init_X5_init : GoodIn wsX6_init wsX5_init := goodIn_r _ [49, 50, 2, 3, 51, 52, 28, 53, 54, 55, 56, 57, 58, 59, 119, 120, 121, 122, 123, 124, 125, 126, 127] (by decide +kernel) (by decide +kernel)
set_option maxRecDepth 20000 in
theorem gX6_init_X5_init : GoodIn wsX6_init (wsX5_init) := ggX6_init_X5_init
set_option maxRecDepth 20000 in
theorem ggX6_init_X0_init : GoodIn wsX6_init wsX0_init := goodIn_r _ [62, 63, 2, 3, 64, 65, 66, 67, 68, 69, 70, 71, 72, 73, 74, 75, 76, 77, 78, 79, 80, 128, 129, 130, 131, 132, 133, 134, 135, 136, 137, 138, 139, 140, 141, 142] (by decide +kernel) (by decide +kernel)
set_option maxRecDepth 20000 in
theorem gX6_init_X0_init : GoodIn wsX6_init (wsX0_init) := ggX6_init_X0_init
set_option maxRecDepth 20000 in
theorem ggX6_init_X3_init : GoodIn wsX6_init wsX3_init := goodIn_r _ [83, 84, 2, 3, 85, 86, 87, 88, 89, 90, 91, 143, 144, 145, 146, 147, 148, 149] (by decide +kernel) (by decide +kernel)
set_option maxRecDepth 20000 in
theorem gX6_init_X3_init : GoodIn wsX6_init (wsX3_init) := ggX6_init_X3_init
set_option maxRecDepth 20000 in
theorem ggX6_init_X4_init : GoodIn wsX6_init wsX4_init := goodIn_r _ [94, 95, 2, 3, 96, 97, 98, 99, 100, 101, 102, 150, 151, 152, 153, 154] (by decide +kernel) (by decide +kernel)
set_option maxRecDepth 20000 in
theorem gX6_init_X4_init : GoodIn wsX6_init (wsX4_init) := ggX6_init_X4_init
theorem dX6_init_0 : decode cX6_init 0 = .ok (.aload_n 0, 1) := by decide +kernel
theorem dX6_init_1 : decode cX6_init 1 = .ok (.invokespecial 1, 3) := by decide +kernel
theorem dX6_init_4 : decode cX6_init 4 = .ok (.aload_n 0, 1) := by decide +kernel
theorem dX6_init_5 : decode cX6_init 5 = .ok (.new 7, 3) := by decide +kernel
theorem dX6_init_8 : decode cX6_init 8 = .ok (.dup, 1) := by decide +kernel
theorem dX6_init_9 : decode cX6_init 9 = .ok (.invokespecial 9, 3) := by decide +kernel
theorem dX6_init_12 : decode cX6_init 12 = .ok (.putfield 10, 3) := by decide +kernel
theorem dX6_init_15 : decode cX6_init 15 = .ok (.aload_n 0, 1) := by decide +kernel
theorem dX6_init_16 : decode cX6_init 16 = .ok (.new 16, 3) := by decide +kernel
theorem dX6_init_19 : decode cX6_init 19 = .ok (.dup, 1) := by decide +kernel
theorem dX6_init_20 : decode cX6_init 20 = .ok (.aload_n 0, 1) := by decide +kernel
theorem dX6_init_21 : decode cX6_init 21 = .ok (.getfield 10, 3) := by decide +kernel
theorem dX6_init_24 : decode cX6_init 24 = .ok (.invokespecial 18, 3) := by decide +kernel
theorem dX6_init_27 : decode cX6_init 27 = .ok (.putfield 21, 3) := by decide +kernel
theorem dX6_init_30 : decode cX6_init 30 = .ok (.aload_n 0, 1) := by decide +kernel
theorem dX6_init_31 : decode cX6_init 31 = .ok (.new 25, 3) := by decide +kernel
theorem dX6_init_34 : decode cX6_init 34 = .ok (.dup, 1) := by decide +kernel
theorem dX6_init_35 : decode cX6_init 35 = .ok (.aload_n 0, 1) := by decide +kernel
theorem dX6_init_36 : decode cX6_init 36 = .ok (.getfield 21, 3) := by decide +kernel
theorem dX6_init_39 : decode cX6_init 39 = .ok (.aload_n 0, 1) := by decide +kernel
theorem dX6_init_40 : decode cX6_init 40 = .ok (.getfield 10, 3) := by decide +kernel
theorem dX6_init_43 : decode cX6_init 43 = .ok (.invokespecial 27, 3) := by decide +kernel
theorem dX6_init_46 : decode cX6_init 46 = .ok (.putfield 30, 3) := by decide +kernel
theorem dX6_init_49 : decode cX6_init 49 = .ok (.aload_n 0, 1) := by decide +kernel
theorem dX6_init_50 : decode cX6_init 50 = .ok (.new 34, 3) := by decide +kernel
theorem dX6_init_53 : decode cX6_init 53 = .ok (.dup, 1) := by decide +kernel
theorem dX6_init_54 : decode cX6_init 54 = .ok (.aload_n 0, 1) := by decide +kernel
theorem dX6_init_55 : decode cX6_init 55 = .ok (.getfield 21, 3) := by decide +kernel
theorem dX6_init_58 : decode cX6_init 58 = .ok (.aload_n 0, 1) := by decide +kernel
theorem dX6_init_59 : decode cX6_init 59 = .ok (.getfield 10, 3) := by decide +kernel
theorem dX6_init_62 : decode cX6_init 62 = .ok (.invokespecial 36, 3) := by decide +kernel
theorem dX6_init_65 : decode cX6_init 65 = .ok (.putfield 37, 3) := by decide +kernel
theorem dX6_init_68 : decode cX6_init 68 = .ok (.aload_n 0, 1) := by decide +kernel
theorem dX6_init_69 : decode cX6_init 69 = .ok (.new 41, 3) := by decide +kernel
theorem dX6_init_72 : decode cX6_init 72 = .ok (.dup, 1) := by decide +kernel
theorem dX6_init_73 : decode cX6_init 73 = .ok (.aload_n 0, 1) := by decide +kernel
theorem dX6_init_74 : decode cX6_init 74 = .ok (.getfield 21, 3) := by decide +kernel
theorem dX6_init_77 : decode cX6_init 77 = .ok (.aload_n 0, 1) := by decide +kernel
theorem dX6_init_78 : decode cX6_init 78 = .ok (.getfield 10, 3) := by decide +kernel
theorem dX6_init_81 : decode cX6_init 81 = .ok (.invokespecial 43, 3) := by decide +kernel
theorem dX6_init_84 : decode cX6_init 84 = .ok (.putfield 44, 3) := by decide +kernel
theorem dX6_init_87 : decode cX6_init 87 = .ok (.aload_n 0, 1) := by decide +kernel
theorem dX6_init_88 : decode cX6_init 88 = .ok (.new 48, 3) := by decide +kernel
theorem dX6_init_91 : decode cX6_init 91 = .ok (.dup, 1) := by decide +kernel
theorem dX6_init_92 : decode cX6_init 92 = .ok (.invokespecial 50, 3) := by decide +kernel
theorem dX6_init_95 : decode cX6_init 95 = .ok (.putfield 51, 3) := by decide +kernel
theorem dX6_init_98 : decode cX6_init 98 = .ok (.aload_n 0, 1) := by decide +kernel
theorem dX6_init_99 : decode cX6_init 99 = .ok (.iconst 5, 1) := by decide +kernel
theorem dX6_init_100 : decode cX6_init 100 = .ok (.newarray .int, 2) := by decide +kernel
theorem dX6_init_102 : decode cX6_init 102 = .ok (.putfield 55, 3) := by decide +kernel
theorem dX6_init_105 : decode cX6_init 105 = .ok (.aload_n 0, 1) := by decide +kernel
theorem dX6_init_106 : decode cX6_init 106 = .ok (.iconst 0, 1) := by decide +kernel
theorem dX6_init_107 : decode cX6_init 107 = .ok (.putfield 59, 3) := by decide +kernel
theorem dX6_init_110 : decode cX6_init 110 = .ok (.aload_n 0, 1) := by decide +kernel
theorem dX6_init_111 : decode cX6_init 111 = .ok (.iconst 2, 1) := by decide +kernel
theorem dX6_init_112 : decode cX6_init 112 = .ok (.putfield 63, 3) := by decide +kernel
theorem dX6_init_115 : decode cX6_init 115 = .ok (.aload_n 0, 1) := by decide +kernel
theorem dX6_init_116 : decode cX6_init 116 = .ok (.iconst 0, 1) := by decide +kernel
theorem dX6_init_117 : decode cX6_init 117 = .ok (.putfield 66, 3) := by decide +kernel
theorem dX6_init_120 : decode cX6_init 120 = .ok (.aload_n 0, 1) := by decide +kernel
theorem dX6_init_121 : decode cX6_init 121 = .ok (.bipush 10, 2) := by decide +kernel
theorem dX6_init_123 : decode cX6_init 123 = .ok (.putfield 69, 3) := by decide +kernel
theorem dX6_init_126 : decode cX6_init 126 = .ok (.return_, 1) := by decide +kernel
set_option maxRecDepth 20000 in
theorem ggX6_breaker_X6_isWithin : GoodIn wsX6_breaker wsX6_isWithin := goodIn_r _ [5] (by decide +kernel) (by decide +kernel)
set_option maxRecDepth 20000 in
theorem gX6_breaker_X6_isWithin : GoodIn wsX6_breaker (va_wsS RX6 72 yX6_isWithin wsX6_isWithin) := goodIn_app (goodIn_of _ (by decide +kernel)) ggX6_breaker_X6_isWithin
set_option maxRecDepth 20000 in
theorem ggX6_breaker_X0_emptyWindow : GoodIn wsX6_breaker wsX0_emptyWindow := goodIn_r _ [10, 11, 12, 13, 25, 26, 27, 28, 29, 30, 31, 32, 33, 34, 35, 36, 37, 38, 39] (by decide +kernel) (by decide +kernel)
set_option maxRecDepth 20000 in
theorem gX6_breaker_X0_emptyWindow : GoodIn wsX6_breaker (wsV RX6 91 RX0 yX0_emptyWindow wsX0_emptyWindow) := goodIn_app (goodIn_of _ (by decide +kernel)) ggX6_breaker_X0_emptyWindow
theorem dX6_breaker_0 : decode cX6_breaker 0 = .ok (.iload_n 1, 1) := by decide +kernel
theorem dX6_breaker_1 : decode cX6_breaker 1 = .ok (.iconst 1, 1) := by decide +kernel
theorem dX6_breaker_2 : decode cX6_breaker 2 = .ok (.bipush 8, 2) := by decide +kernel
theorem dX6_breaker_4 : decode cX6_breaker 4 = .ok (.invokestatic 72, 3) := by decide +kernel
theorem dX6_breaker_7 : decode cX6_breaker 7 = .ok (.ifCond .eq 32, 3) := by decide +kernel
theorem dX6_breaker_10 : decode cX6_breaker 10 = .ok (.iload_n 2, 1) := by decide +kernel
theorem dX6_breaker_11 : decode cX6_breaker 11 = .ok (.iconst 1, 1) := by decide +kernel
theorem dX6_breaker_12 : decode cX6_breaker 12 = .ok (.iload_n 1, 1) := by decide +kernel
theorem dX6_breaker_13 : decode cX6_breaker 13 = .ok (.invokestatic 72, 3) := by decide +kernel
theorem dX6_breaker_16 : decode cX6_breaker 16 = .ok (.ifCond .eq 23, 3) := by decide +kernel
theorem dX6_breaker_19 : decode cX6_breaker 19 = .ok (.iload_n 3, 1) := by decide +kernel
theorem dX6_breaker_20 : decode cX6_breaker 20 = .ok (.iconst 0, 1) := by decide +kernel
theorem dX6_breaker_21 : decode cX6_breaker 21 = .ok (.bipush 100, 2) := by decide +kernel
theorem dX6_breaker_23 : decode cX6_breaker 23 = .ok (.invokestatic 72, 3) := by decide +kernel
theorem dX6_breaker_26 : decode cX6_breaker 26 = .ok (.ifCond .eq 13, 3) := by decide +kernel
theorem dX6_breaker_29 : decode cX6_breaker 29 = .ok (.iload 4, 2) := by decide +kernel
theorem dX6_breaker_31 : decode cX6_breaker 31 = .ok (.iconst 1, 1) := by decide +kernel
theorem dX6_breaker_32 : decode cX6_breaker 32 = .ok (.iconst 4, 1) := by decide +kernel
theorem dX6_breaker_33 : decode cX6_breaker 33 = .ok (.invokestatic 72, 3) := by decide +kernel
theorem dX6_breaker_36 : decode cX6_breaker 36 = .ok (.ifCond .ne 5, 3) := by decide +kernel
theorem dX6_breaker_39 : decode cX6_breaker 39 = .ok (.iconst 0, 1) := by decide +kernel
theorem dX6_breaker_40 : decode cX6_breaker 40 = .ok (.ireturn, 1) := by decide +kernel
theorem dX6_breaker_41 : decode cX6_breaker 41 = .ok (.aload_n 0, 1) := by decide +kernel
theorem dX6_breaker_42 : decode cX6_breaker 42 = .ok (.getfield 37, 3) := by decide +kernel
theorem dX6_breaker_45 : decode cX6_breaker 45 = .ok (.iload_n 1, 1) := by decide +kernel
theorem dX6_breaker_46 : decode cX6_breaker 46 = .ok (.putfield 76, 3) := by decide +kernel
theorem dX6_breaker_49 : decode cX6_breaker 49 = .ok (.aload_n 0, 1) := by decide +kernel
theorem dX6_breaker_50 : decode cX6_breaker 50 = .ok (.getfield 37, 3) := by decide +kernel
theorem dX6_breaker_53 : decode cX6_breaker 53 = .ok (.iload_n 2, 1) := by decide +kernel
theorem dX6_breaker_54 : decode cX6_breaker 54 = .ok (.putfield 79, 3) := by decide +kernel
theorem dX6_breaker_57 : decode cX6_breaker 57 = .ok (.aload_n 0, 1) := by decide +kernel
theorem dX6_breaker_58 : decode cX6_breaker 58 = .ok (.getfield 37, 3) := by decide +kernel
theorem dX6_breaker_61 : decode cX6_breaker 61 = .ok (.iload_n 3, 1) := by decide +kernel
theorem dX6_breaker_62 : decode cX6_breaker 62 = .ok (.putfield 82, 3) := by decide +kernel
theorem dX6_breaker_65 : decode cX6_breaker 65 = .ok (.aload_n 0, 1) := by decide +kernel
theorem dX6_breaker_66 : decode cX6_breaker 66 = .ok (.getfield 37, 3) := by decide +kernel
theorem dX6_breaker_69 : decode cX6_breaker 69 = .ok (.iload 4, 2) := by decide +kernel
theorem dX6_breaker_71 : decode cX6_breaker 71 = .ok (.putfield 85, 3) := by decide +kernel
theorem dX6_breaker_74 : decode cX6_breaker 74 = .ok (.aload_n 0, 1) := by decide +kernel
theorem dX6_breaker_75 : decode cX6_breaker 75 = .ok (.getfield 37, 3) := by decide +kernel
theorem dX6_breaker_78 : decode cX6_breaker 78 = .ok (.iconst 0, 1) := by decide +kernel
theorem dX6_breaker_79 : decode cX6_breaker 79 = .ok (.putfield 88, 3) := by decide +kernel
theorem dX6_breaker_82 : decode cX6_breaker 82 = .ok (.aload_n 0, 1) := by decide +kernel
theorem dX6_breaker_83 : decode cX6_breaker 83 = .ok (.getfield 37, 3) := by decide +kernel
theorem dX6_breaker_86 : decode cX6_breaker 86 = .ok (.invokevirtual 91, 3) := by decide +kernel
theorem dX6_breaker_89 : decode cX6_breaker 89 = .ok (.iconst 1, 1) := by decide +kernel
theorem dX6_breaker_90 : decode cX6_breaker 90 = .ok (.ireturn, 1) := by decide +kernel
set_option maxRecDepth 20000 in
theorem ggX6_trips_X6_isRate : GoodIn wsX6_trips wsX6_isRate := goodIn_r _ [5, 6] (by decide +kernel) (by decide +kernel)
set_option maxRecDepth 20000 in
theorem gX6_trips_X6_isRate : GoodIn wsX6_trips (va_wsS RX6 94 yX6_isRate wsX6_isRate) := goodIn_app (goodIn_of _ (by decide +kernel)) ggX6_trips_X6_isRate
set_option maxRecDepth 20000 in
theorem ggX6_trips_X6_isWithin : GoodIn wsX6_trips wsX6_isWithin := goodIn_r _ [9] (by decide +kernel) (by decide +kernel)
set_option maxRecDepth 20000 in
theorem gX6_trips_X6_isWithin : GoodIn wsX6_trips (va_wsS RX6 72 yX6_isWithin wsX6_isWithin) := goodIn_app (goodIn_of _ (by decide +kernel)) ggX6_trips_X6_isWithin
theorem dX6_trips_0 : decode cX6_trips 0 = .ok (.dload_n 1, 1) := by decide +kernel
theorem dX6_trips_1 : decode cX6_trips 1 = .ok (.invokestatic 94, 3) := by decide +kernel
theorem dX6_trips_4 : decode cX6_trips 4 = .ok (.ifCond .eq 21, 3) := by decide +kernel
theorem dX6_trips_7 : decode cX6_trips 7 = .ok (.dload_n 3, 1) := by decide +kernel
theorem dX6_trips_8 : decode cX6_trips 8 = .ok (.invokestatic 94, 3) := by decide +kernel
theorem dX6_trips_11 : decode cX6_trips 11 = .ok (.ifCond .eq 14, 3) := by decide +kernel
theorem dX6_trips_14 : decode cX6_trips 14 = .ok (.iload 5, 2) := by decide +kernel
theorem dX6_trips_16 : decode cX6_trips 16 = .ok (.iconst 0, 1) := by decide +kernel
theorem dX6_trips_17 : decode cX6_trips 17 = .ok (.bipush 100, 2) := by decide +kernel
theorem dX6_trips_19 : decode cX6_trips 19 = .ok (.invokestatic 72, 3) := by decide +kernel
theorem dX6_trips_22 : decode cX6_trips 22 = .ok (.ifCond .ne 5, 3) := by decide +kernel
theorem dX6_trips_25 : decode cX6_trips 25 = .ok (.iconst 0, 1) := by decide +kernel
theorem dX6_trips_26 : decode cX6_trips 26 = .ok (.ireturn, 1) := by decide +kernel
theorem dX6_trips_27 : decode cX6_trips 27 = .ok (.aload_n 0, 1) := by decide +kernel
theorem dX6_trips_28 : decode cX6_trips 28 = .ok (.getfield 37, 3) := by decide +kernel
theorem dX6_trips_31 : decode cX6_trips 31 = .ok (.dload_n 1, 1) := by decide +kernel
theorem dX6_trips_32 : decode cX6_trips 32 = .ok (.putfield 98, 3) := by decide +kernel
theorem dX6_trips_35 : decode cX6_trips 35 = .ok (.aload_n 0, 1) := by decide +kernel
theorem dX6_trips_36 : decode cX6_trips 36 = .ok (.getfield 37, 3) := by decide +kernel
theorem dX6_trips_39 : decode cX6_trips 39 = .ok (.dload_n 3, 1) := by decide +kernel
theorem dX6_trips_40 : decode cX6_trips 40 = .ok (.putfield 102, 3) := by decide +kernel
theorem dX6_trips_43 : decode cX6_trips 43 = .ok (.aload_n 0, 1) := by decide +kernel
theorem dX6_trips_44 : decode cX6_trips 44 = .ok (.getfield 37, 3) := by decide +kernel
theorem dX6_trips_47 : decode cX6_trips 47 = .ok (.iload 5, 2) := by decide +kernel
theorem dX6_trips_49 : decode cX6_trips 49 = .ok (.putfield 105, 3) := by decide +kernel
theorem dX6_trips_52 : decode cX6_trips 52 = .ok (.iconst 1, 1) := by decide +kernel
theorem dX6_trips_53 : decode cX6_trips 53 = .ok (.ireturn, 1) := by decide +kernel
set_option maxRecDepth 20000 in
theorem ggX6_bulkhead_X6_isWithin : GoodIn wsX6_bulkhead wsX6_isWithin := goodIn_r _ [5] (by decide +kernel) (by decide +kernel)
set_option maxRecDepth 20000 in
theorem gX6_bulkhead_X6_isWithin : GoodIn wsX6_bulkhead (va_wsS RX6 72 yX6_isWithin wsX6_isWithin) := goodIn_app (goodIn_of _ (by decide +kernel)) ggX6_bulkhead_X6_isWithin
theorem dX6_bulkhead_0 : decode cX6_bulkhead 0 = .ok (.iload_n 1, 1) := by decide +kernel
theorem dX6_bulkhead_1 : decode cX6_bulkhead 1 = .ok (.iconst 0, 1) := by decide +kernel
theorem dX6_bulkhead_2 : decode cX6_bulkhead 2 = .ok (.iconst 5, 1) := by decide +kernel
theorem dX6_bulkhead_3 : decode cX6_bulkhead 3 = .ok (.invokestatic 72, 3) := by decide +kernel
theorem dX6_bulkhead_6 : decode cX6_bulkhead 6 = .ok (.ifCond .ne 5, 3) := by decide +kernel
theorem dX6_bulkhead_9 : decode cX6_bulkhead 9 = .ok (.iconst 0, 1) := by decide +kernel
theorem dX6_bulkhead_10 : decode cX6_bulkhead 10 = .ok (.ireturn, 1) := by decide +kernel
theorem dX6_bulkhead_11 : decode cX6_bulkhead 11 = .ok (.aload_n 0, 1) := by decide +kernel
theorem dX6_bulkhead_12 : decode cX6_bulkhead 12 = .ok (.iload_n 1, 1) := by decide +kernel
theorem dX6_bulkhead_13 : decode cX6_bulkhead 13 = .ok (.putfield 63, 3) := by decide +kernel
theorem dX6_bulkhead_16 : decode cX6_bulkhead 16 = .ok (.iconst 1, 1) := by decide +kernel
theorem dX6_bulkhead_17 : decode cX6_bulkhead 17 = .ok (.ireturn, 1) := by decide +kernel
set_option maxRecDepth 20000 in
theorem ggX6_use_X6_isWithin : GoodIn wsX6_use wsX6_isWithin := goodIn_r _ [5] (by decide +kernel) (by decide +kernel)
set_option maxRecDepth 20000 in
theorem gX6_use_X6_isWithin : GoodIn wsX6_use (va_wsS RX6 72 yX6_isWithin wsX6_isWithin) := goodIn_app (goodIn_of _ (by decide +kernel)) ggX6_use_X6_isWithin
theorem dX6_use_0 : decode cX6_use 0 = .ok (.iload_n 1, 1) := by decide +kernel
theorem dX6_use_1 : decode cX6_use 1 = .ok (.aload_n 0, 1) := by decide +kernel
theorem dX6_use_2 : decode cX6_use 2 = .ok (.getfield 66, 3) := by decide +kernel
theorem dX6_use_5 : decode cX6_use 5 = .ok (.ineg, 1) := by decide +kernel
theorem dX6_use_6 : decode cX6_use 6 = .ok (.bipush 9, 2) := by decide +kernel
theorem dX6_use_8 : decode cX6_use 8 = .ok (.aload_n 0, 1) := by decide +kernel
theorem dX6_use_9 : decode cX6_use 9 = .ok (.getfield 66, 3) := by decide +kernel
theorem dX6_use_12 : decode cX6_use 12 = .ok (.isub, 1) := by decide +kernel
theorem dX6_use_13 : decode cX6_use 13 = .ok (.invokestatic 72, 3) := by decide +kernel
theorem dX6_use_16 : decode cX6_use 16 = .ok (.ifCond .ne 5, 3) := by decide +kernel
theorem dX6_use_19 : decode cX6_use 19 = .ok (.iconst 0, 1) := by decide +kernel
theorem dX6_use_20 : decode cX6_use 20 = .ok (.ireturn, 1) := by decide +kernel
theorem dX6_use_21 : decode cX6_use 21 = .ok (.aload_n 0, 1) := by decide +kernel
theorem dX6_use_22 : decode cX6_use 22 = .ok (.dup, 1) := by decide +kernel
theorem dX6_use_23 : decode cX6_use 23 = .ok (.getfield 66, 3) := by decide +kernel
theorem dX6_use_26 : decode cX6_use 26 = .ok (.iload_n 1, 1) := by decide +kernel
theorem dX6_use_27 : decode cX6_use 27 = .ok (.iadd, 1) := by decide +kernel
theorem dX6_use_28 : decode cX6_use 28 = .ok (.putfield 66, 3) := by decide +kernel
theorem dX6_use_31 : decode cX6_use 31 = .ok (.iconst 1, 1) := by decide +kernel
theorem dX6_use_32 : decode cX6_use 32 = .ok (.ireturn, 1) := by decide +kernel
set_option maxRecDepth 20000 in
theorem ggX6_limiter_X6_isWithin : GoodIn wsX6_limiter wsX6_isWithin := goodIn_r _ [5] (by decide +kernel) (by decide +kernel)
set_option maxRecDepth 20000 in
theorem gX6_limiter_X6_isWithin : GoodIn wsX6_limiter (va_wsS RX6 72 yX6_isWithin wsX6_isWithin) := goodIn_app (goodIn_of _ (by decide +kernel)) ggX6_limiter_X6_isWithin
set_option maxRecDepth 20000 in
theorem ggX6_limiter_X3_beginCycle : GoodIn wsX6_limiter wsX3_beginCycle := goodIn_r _ [10, 11, 12, 13, 14, 15, 16, 9, 17, 18, 19, 31, 32, 33, 34, 35, 36, 37, 38, 39] (by decide +kernel) (by decide +kernel)
set_option maxRecDepth 20000 in
theorem gX6_limiter_X3_beginCycle : GoodIn wsX6_limiter (wsV RX6 117 RX3 yX3_beginCycle wsX3_beginCycle) := goodIn_app (goodIn_of _ (by decide +kernel)) ggX6_limiter_X3_beginCycle
theorem dX6_limiter_0 : decode cX6_limiter 0 = .ok (.iload_n 1, 1) := by decide +kernel
theorem dX6_limiter_1 : decode cX6_limiter 1 = .ok (.iconst 1, 1) := by decide +kernel
theorem dX6_limiter_2 : decode cX6_limiter 2 = .ok (.bipush 50, 2) := by decide +kernel
theorem dX6_limiter_4 : decode cX6_limiter 4 = .ok (.invokestatic 72, 3) := by decide +kernel
theorem dX6_limiter_7 : decode cX6_limiter 7 = .ok (.ifCond .eq 22, 3) := by decide +kernel
theorem dX6_limiter_10 : decode cX6_limiter 10 = .ok (.iload_n 2, 1) := by decide +kernel
theorem dX6_limiter_11 : decode cX6_limiter 11 = .ok (.iconst 1, 1) := by decide +kernel
theorem dX6_limiter_12 : decode cX6_limiter 12 = .ok (.iconst 5, 1) := by decide +kernel
theorem dX6_limiter_13 : decode cX6_limiter 13 = .ok (.invokestatic 72, 3) := by decide +kernel
theorem dX6_limiter_16 : decode cX6_limiter 16 = .ok (.ifCond .eq 13, 3) := by decide +kernel
theorem dX6_limiter_19 : decode cX6_limiter 19 = .ok (.iload_n 3, 1) := by decide +kernel
theorem dX6_limiter_20 : decode cX6_limiter 20 = .ok (.iconst 0, 1) := by decide +kernel
theorem dX6_limiter_21 : decode cX6_limiter 21 = .ok (.bipush 100, 2) := by decide +kernel
theorem dX6_limiter_23 : decode cX6_limiter 23 = .ok (.invokestatic 72, 3) := by decide +kernel
theorem dX6_limiter_26 : decode cX6_limiter 26 = .ok (.ifCond .ne 5, 3) := by decide +kernel
theorem dX6_limiter_29 : decode cX6_limiter 29 = .ok (.iconst 0, 1) := by decide +kernel
theorem dX6_limiter_30 : decode cX6_limiter 30 = .ok (.ireturn, 1) := by decide +kernel
theorem dX6_limiter_31 : decode cX6_limiter 31 = .ok (.aload_n 0, 1) := by decide +kernel
theorem dX6_limiter_32 : decode cX6_limiter 32 = .ok (.getfield 44, 3) := by decide +kernel
theorem dX6_limiter_35 : decode cX6_limiter 35 = .ok (.iload_n 1, 1) := by decide +kernel
theorem dX6_limiter_36 : decode cX6_limiter 36 = .ok (.putfield 108, 3) := by decide +kernel
theorem dX6_limiter_39 : decode cX6_limiter 39 = .ok (.aload_n 0, 1) := by decide +kernel
theorem dX6_limiter_40 : decode cX6_limiter 40 = .ok (.getfield 44, 3) := by decide +kernel
theorem dX6_limiter_43 : decode cX6_limiter 43 = .ok (.iload_n 2, 1) := by decide +kernel
theorem dX6_limiter_44 : decode cX6_limiter 44 = .ok (.putfield 111, 3) := by decide +kernel
theorem dX6_limiter_47 : decode cX6_limiter 47 = .ok (.aload_n 0, 1) := by decide +kernel
theorem dX6_limiter_48 : decode cX6_limiter 48 = .ok (.getfield 44, 3) := by decide +kernel
theorem dX6_limiter_51 : decode cX6_limiter 51 = .ok (.iload_n 3, 1) := by decide +kernel
theorem dX6_limiter_52 : decode cX6_limiter 52 = .ok (.putfield 114, 3) := by decide +kernel
theorem dX6_limiter_55 : decode cX6_limiter 55 = .ok (.aload_n 0, 1) := by decide +kernel
theorem dX6_limiter_56 : decode cX6_limiter 56 = .ok (.getfield 44, 3) := by decide +kernel
theorem dX6_limiter_59 : decode cX6_limiter 59 = .ok (.invokevirtual 117, 3) := by decide +kernel
theorem dX6_limiter_62 : decode cX6_limiter 62 = .ok (.iconst 1, 1) := by decide +kernel
theorem dX6_limiter_63 : decode cX6_limiter 63 = .ok (.ireturn, 1) := by decide +kernel
set_option maxRecDepth 20000 in
theorem ggX6_retry_X6_isWithin : GoodIn wsX6_retry wsX6_isWithin := goodIn_r _ [5] (by decide +kernel) (by decide +kernel)
set_option maxRecDepth 20000 in
theorem gX6_retry_X6_isWithin : GoodIn wsX6_retry (va_wsS RX6 72 yX6_isWithin wsX6_isWithin) := goodIn_app (goodIn_of _ (by decide +kernel)) ggX6_retry_X6_isWithin
theorem dX6_retry_0 : decode cX6_retry 0 = .ok (.iload_n 1, 1) := by decide +kernel
theorem dX6_retry_1 : decode cX6_retry 1 = .ok (.iconst 1, 1) := by decide +kernel
theorem dX6_retry_2 : decode cX6_retry 2 = .ok (.iconst 5, 1) := by decide +kernel
theorem dX6_retry_3 : decode cX6_retry 3 = .ok (.invokestatic 72, 3) := by decide +kernel
theorem dX6_retry_6 : decode cX6_retry 6 = .ok (.ifCond .eq 13, 3) := by decide +kernel
theorem dX6_retry_9 : decode cX6_retry 9 = .ok (.iload_n 2, 1) := by decide +kernel
theorem dX6_retry_10 : decode cX6_retry 10 = .ok (.iconst 0, 1) := by decide +kernel
theorem dX6_retry_11 : decode cX6_retry 11 = .ok (.bipush 63, 2) := by decide +kernel
theorem dX6_retry_13 : decode cX6_retry 13 = .ok (.invokestatic 72, 3) := by decide +kernel
theorem dX6_retry_16 : decode cX6_retry 16 = .ok (.ifCond .ne 5, 3) := by decide +kernel
theorem dX6_retry_19 : decode cX6_retry 19 = .ok (.iconst 0, 1) := by decide +kernel
theorem dX6_retry_20 : decode cX6_retry 20 = .ok (.ireturn, 1) := by decide +kernel
theorem dX6_retry_21 : decode cX6_retry 21 = .ok (.aload_n 0, 1) := by decide +kernel
theorem dX6_retry_22 : decode cX6_retry 22 = .ok (.getfield 51, 3) := by decide +kernel
theorem dX6_retry_25 : decode cX6_retry 25 = .ok (.iload_n 1, 1) := by decide +kernel
theorem dX6_retry_26 : decode cX6_retry 26 = .ok (.putfield 120, 3) := by decide +kernel
theorem dX6_retry_29 : decode cX6_retry 29 = .ok (.aload_n 0, 1) := by decide +kernel
theorem dX6_retry_30 : decode cX6_retry 30 = .ok (.getfield 51, 3) := by decide +kernel
theorem dX6_retry_33 : decode cX6_retry 33 = .ok (.iload_n 2, 1) := by decide +kernel
theorem dX6_retry_34 : decode cX6_retry 34 = .ok (.putfield 123, 3) := by decide +kernel
theorem dX6_retry_37 : decode cX6_retry 37 = .ok (.iconst 1, 1) := by decide +kernel
theorem dX6_retry_38 : decode cX6_retry 38 = .ok (.ireturn, 1) := by decide +kernel
set_option maxRecDepth 20000 in
theorem ggX6_backoff_X6_isBetween : GoodIn wsX6_backoff wsX6_isBetween := goodIn_r _ [9] (by decide +kernel) (by decide +kernel)
set_option maxRecDepth 20000 in
theorem gX6_backoff_X6_isBetween : GoodIn wsX6_backoff (va_wsS RX6 128 yX6_isBetween wsX6_isBetween) := goodIn_app (goodIn_of _ (by decide +kernel)) ggX6_backoff_X6_isBetween
theorem dX6_backoff_0 : decode cX6_backoff 0 = .ok (.dload_n 1, 1) := by decide +kernel
theorem dX6_backoff_1 : decode cX6_backoff 1 = .ok (.dconst 0, 1) := by decide +kernel
theorem dX6_backoff_2 : decode cX6_backoff 2 = .ok (.ldc2_w 126, 3) := by decide +kernel
theorem dX6_backoff_5 : decode cX6_backoff 5 = .ok (.invokestatic 128, 3) := by decide +kernel
theorem dX6_backoff_8 : decode cX6_backoff 8 = .ok (.ifCond .eq 28, 3) := by decide +kernel
theorem dX6_backoff_11 : decode cX6_backoff 11 = .ok (.dload_n 3, 1) := by decide +kernel
theorem dX6_backoff_12 : decode cX6_backoff 12 = .ok (.ldc2_w 132, 3) := by decide +kernel
theorem dX6_backoff_15 : decode cX6_backoff 15 = .ok (.ldc2_w 134, 3) := by decide +kernel
theorem dX6_backoff_18 : decode cX6_backoff 18 = .ok (.invokestatic 128, 3) := by decide +kernel
theorem dX6_backoff_21 : decode cX6_backoff 21 = .ok (.ifCond .eq 15, 3) := by decide +kernel
theorem dX6_backoff_24 : decode cX6_backoff 24 = .ok (.dload 5, 2) := by decide +kernel
theorem dX6_backoff_26 : decode cX6_backoff 26 = .ok (.dconst 0, 1) := by decide +kernel
theorem dX6_backoff_27 : decode cX6_backoff 27 = .ok (.ldc2_w 136, 3) := by decide +kernel
theorem dX6_backoff_30 : decode cX6_backoff 30 = .ok (.invokestatic 128, 3) := by decide +kernel
theorem dX6_backoff_33 : decode cX6_backoff 33 = .ok (.ifCond .ne 5, 3) := by decide +kernel
theorem dX6_backoff_36 : decode cX6_backoff 36 = .ok (.iconst 0, 1) := by decide +kernel
theorem dX6_backoff_37 : decode cX6_backoff 37 = .ok (.ireturn, 1) := by decide +kernel
theorem dX6_backoff_38 : decode cX6_backoff 38 = .ok (.aload_n 0, 1) := by decide +kernel
theorem dX6_backoff_39 : decode cX6_backoff 39 = .ok (.getfield 51, 3) := by decide +kernel
theorem dX6_backoff_42 : decode cX6_backoff 42 = .ok (.dload_n 1, 1) := by decide +kernel
theorem dX6_backoff_43 : decode cX6_backoff 43 = .ok (.putfield 138, 3) := by decide +kernel
theorem dX6_backoff_46 : decode cX6_backoff 46 = .ok (.aload_n 0, 1) := by decide +kernel
theorem dX6_backoff_47 : decode cX6_backoff 47 = .ok (.getfield 51, 3) := by decide +kernel
theorem dX6_backoff_50 : decode cX6_backoff 50 = .ok (.dload_n 3, 1) := by decide +kernel
theorem dX6_backoff_51 : decode cX6_backoff 51 = .ok (.putfield 141, 3) := by decide +kernel
theorem dX6_backoff_54 : decode cX6_backoff 54 = .ok (.aload_n 0, 1) := by decide +kernel
theorem dX6_backoff_55 : decode cX6_backoff 55 = .ok (.getfield 51, 3) := by decide +kernel
theorem dX6_backoff_58 : decode cX6_backoff 58 = .ok (.dload 5, 2) := by decide +kernel
theorem dX6_backoff_60 : decode cX6_backoff 60 = .ok (.putfield 144, 3) := by decide +kernel
theorem dX6_backoff_63 : decode cX6_backoff 63 = .ok (.iconst 1, 1) := by decide +kernel
theorem dX6_backoff_64 : decode cX6_backoff 64 = .ok (.ireturn, 1) := by decide +kernel
set_option maxRecDepth 20000 in
theorem ggX6_timer_X6_isWithin : GoodIn wsX6_timer wsX6_isWithin := goodIn_r _ [5] (by decide +kernel) (by decide +kernel)
set_option maxRecDepth 20000 in
theorem gX6_timer_X6_isWithin : GoodIn wsX6_timer (va_wsS RX6 72 yX6_isWithin wsX6_isWithin) := goodIn_app (goodIn_of _ (by decide +kernel)) ggX6_timer_X6_isWithin
theorem dX6_timer_0 : decode cX6_timer 0 = .ok (.iload_n 1, 1) := by decide +kernel
theorem dX6_timer_1 : decode cX6_timer 1 = .ok (.iconst 0, 1) := by decide +kernel
theorem dX6_timer_2 : decode cX6_timer 2 = .ok (.bipush 100, 2) := by decide +kernel
theorem dX6_timer_4 : decode cX6_timer 4 = .ok (.invokestatic 72, 3) := by decide +kernel
theorem dX6_timer_7 : decode cX6_timer 7 = .ok (.ifCond .ne 5, 3) := by decide +kernel
theorem dX6_timer_10 : decode cX6_timer 10 = .ok (.iconst 0, 1) := by decide +kernel
theorem dX6_timer_11 : decode cX6_timer 11 = .ok (.ireturn, 1) := by decide +kernel
theorem dX6_timer_12 : decode cX6_timer 12 = .ok (.aload_n 0, 1) := by decide +kernel
theorem dX6_timer_13 : decode cX6_timer 13 = .ok (.iload_n 1, 1) := by decide +kernel
theorem dX6_timer_14 : decode cX6_timer 14 = .ok (.putfield 69, 3) := by decide +kernel
theorem dX6_timer_17 : decode cX6_timer 17 = .ok (.iconst 1, 1) := by decide +kernel
theorem dX6_timer_18 : decode cX6_timer 18 = .ok (.ireturn, 1) := by decide +kernel
set_option maxRecDepth 20000 in
theorem ggX6_lay_X6_isWithin : GoodIn wsX6_lay wsX6_isWithin := goodIn_r _ [6] (by decide +kernel) (by decide +kernel)
set_option maxRecDepth 20000 in
theorem gX6_lay_X6_isWithin : GoodIn wsX6_lay (va_wsS RX6 72 yX6_isWithin wsX6_isWithin) := goodIn_app (goodIn_of _ (by decide +kernel)) ggX6_lay_X6_isWithin
set_option maxRecDepth 20000 in
theorem ggX6_lay_X6_lies : GoodIn wsX6_lay wsX6_lies := goodIn_r _ [10, 1, 2, 11, 12, 13, 14, 15, 16, 17, 18, 19, 20, 21] (by decide +kernel) (by decide +kernel)
set_option maxRecDepth 20000 in
theorem gX6_lay_X6_lies : GoodIn wsX6_lay (wsV RX6 147 RX6 yX6_lies wsX6_lies) := goodIn_app (goodIn_of _ (by decide +kernel)) ggX6_lay_X6_lies
theorem dX6_lay_0 : decode cX6_lay 0 = .ok (.iload_n 1, 1) := by decide +kernel
theorem dX6_lay_1 : decode cX6_lay 1 = .ok (.iconst 0, 1) := by decide +kernel
theorem dX6_lay_2 : decode cX6_lay 2 = .ok (.iconst 4, 1) := by decide +kernel
theorem dX6_lay_3 : decode cX6_lay 3 = .ok (.invokestatic 72, 3) := by decide +kernel
theorem dX6_lay_6 : decode cX6_lay 6 = .ok (.ifCond .eq 19, 3) := by decide +kernel
theorem dX6_lay_9 : decode cX6_lay 9 = .ok (.aload_n 0, 1) := by decide +kernel
theorem dX6_lay_10 : decode cX6_lay 10 = .ok (.iload_n 1, 1) := by decide +kernel
theorem dX6_lay_11 : decode cX6_lay 11 = .ok (.invokevirtual 147, 3) := by decide +kernel
theorem dX6_lay_14 : decode cX6_lay 14 = .ok (.ifCond .ne 11, 3) := by decide +kernel
theorem dX6_lay_17 : decode cX6_lay 17 = .ok (.aload_n 0, 1) := by decide +kernel
theorem dX6_lay_18 : decode cX6_lay 18 = .ok (.getfield 59, 3) := by decide +kernel
theorem dX6_lay_21 : decode cX6_lay 21 = .ok (.iconst 5, 1) := by decide +kernel
theorem dX6_lay_22 : decode cX6_lay 22 = .ok (.if_icmp .lt 5, 3) := by decide +kernel
theorem dX6_lay_25 : decode cX6_lay 25 = .ok (.iconst (-1), 1) := by decide +kernel
theorem dX6_lay_26 : decode cX6_lay 26 = .ok (.ireturn, 1) := by decide +kernel
theorem dX6_lay_27 : decode cX6_lay 27 = .ok (.aload_n 0, 1) := by decide +kernel
theorem dX6_lay_28 : decode cX6_lay 28 = .ok (.getfield 55, 3) := by decide +kernel
theorem dX6_lay_31 : decode cX6_lay 31 = .ok (.aload_n 0, 1) := by decide +kernel
theorem dX6_lay_32 : decode cX6_lay 32 = .ok (.getfield 59, 3) := by decide +kernel
theorem dX6_lay_35 : decode cX6_lay 35 = .ok (.iload_n 1, 1) := by decide +kernel
theorem dX6_lay_36 : decode cX6_lay 36 = .ok (.iastore, 1) := by decide +kernel
theorem dX6_lay_37 : decode cX6_lay 37 = .ok (.aload_n 0, 1) := by decide +kernel
theorem dX6_lay_38 : decode cX6_lay 38 = .ok (.dup, 1) := by decide +kernel
theorem dX6_lay_39 : decode cX6_lay 39 = .ok (.getfield 59, 3) := by decide +kernel
theorem dX6_lay_42 : decode cX6_lay 42 = .ok (.iconst 1, 1) := by decide +kernel
theorem dX6_lay_43 : decode cX6_lay 43 = .ok (.iadd, 1) := by decide +kernel
theorem dX6_lay_44 : decode cX6_lay 44 = .ok (.putfield 59, 3) := by decide +kernel
theorem dX6_lay_47 : decode cX6_lay 47 = .ok (.aload_n 0, 1) := by decide +kernel
theorem dX6_lay_48 : decode cX6_lay 48 = .ok (.getfield 59, 3) := by decide +kernel
theorem dX6_lay_51 : decode cX6_lay 51 = .ok (.ireturn, 1) := by decide +kernel
theorem dX6_strip_0 : decode cX6_strip 0 = .ok (.aload_n 0, 1) := by decide +kernel
theorem dX6_strip_1 : decode cX6_strip 1 = .ok (.getfield 59, 3) := by decide +kernel
theorem dX6_strip_4 : decode cX6_strip 4 = .ok (.istore_n 1, 1) := by decide +kernel
theorem dX6_strip_5 : decode cX6_strip 5 = .ok (.aload_n 0, 1) := by decide +kernel
theorem dX6_strip_6 : decode cX6_strip 6 = .ok (.iconst 0, 1) := by decide +kernel
theorem dX6_strip_7 : decode cX6_strip 7 = .ok (.putfield 59, 3) := by decide +kernel
theorem dX6_strip_10 : decode cX6_strip 10 = .ok (.iload_n 1, 1) := by decide +kernel
theorem dX6_strip_11 : decode cX6_strip 11 = .ok (.ireturn, 1) := by decide +kernel
set_option maxRecDepth 20000 in
theorem ggX6_outcome_X6_isWithin : GoodIn wsX6_outcome wsX6_isWithin := goodIn_r _ [5] (by decide +kernel) (by decide +kernel)
set_option maxRecDepth 20000 in
theorem gX6_outcome_X6_isWithin : GoodIn wsX6_outcome (va_wsS RX6 72 yX6_isWithin wsX6_isWithin) := goodIn_app (goodIn_of _ (by decide +kernel)) ggX6_outcome_X6_isWithin
set_option maxRecDepth 20000 in
theorem ggX6_outcome_X5_append : GoodIn wsX6_outcome wsX5_append := goodIn_r _ [10, 11, 12, 13, 14, 15, 27, 28, 29, 30, 31, 32, 33, 34, 35] (by decide +kernel) (by decide +kernel)
set_option maxRecDepth 20000 in
theorem gX6_outcome_X5_append : GoodIn wsX6_outcome (wsV RX6 151 RX5 yX5_append wsX5_append) := goodIn_app (goodIn_of _ (by decide +kernel)) ggX6_outcome_X5_append
theorem dX6_outcome_0 : decode cX6_outcome 0 = .ok (.iload_n 1, 1) := by decide +kernel
theorem dX6_outcome_1 : decode cX6_outcome 1 = .ok (.iconst 0, 1) := by decide +kernel
theorem dX6_outcome_2 : decode cX6_outcome 2 = .ok (.iconst 2, 1) := by decide +kernel
theorem dX6_outcome_3 : decode cX6_outcome 3 = .ok (.invokestatic 72, 3) := by decide +kernel
theorem dX6_outcome_6 : decode cX6_outcome 6 = .ok (.ifCond .eq 13, 3) := by decide +kernel
theorem dX6_outcome_9 : decode cX6_outcome 9 = .ok (.iload_n 2, 1) := by decide +kernel
theorem dX6_outcome_10 : decode cX6_outcome 10 = .ok (.iconst 0, 1) := by decide +kernel
theorem dX6_outcome_11 : decode cX6_outcome 11 = .ok (.bipush 50, 2) := by decide +kernel
theorem dX6_outcome_13 : decode cX6_outcome 13 = .ok (.invokestatic 72, 3) := by decide +kernel
theorem dX6_outcome_16 : decode cX6_outcome 16 = .ok (.ifCond .ne 5, 3) := by decide +kernel
theorem dX6_outcome_19 : decode cX6_outcome 19 = .ok (.iconst 0, 1) := by decide +kernel
theorem dX6_outcome_20 : decode cX6_outcome 20 = .ok (.ireturn, 1) := by decide +kernel
theorem dX6_outcome_21 : decode cX6_outcome 21 = .ok (.aload_n 0, 1) := by decide +kernel
theorem dX6_outcome_22 : decode cX6_outcome 22 = .ok (.getfield 30, 3) := by decide +kernel
theorem dX6_outcome_25 : decode cX6_outcome 25 = .ok (.iload_n 1, 1) := by decide +kernel
theorem dX6_outcome_26 : decode cX6_outcome 26 = .ok (.iload_n 2, 1) := by decide +kernel
theorem dX6_outcome_27 : decode cX6_outcome 27 = .ok (.iload_n 3, 1) := by decide +kernel
theorem dX6_outcome_28 : decode cX6_outcome 28 = .ok (.invokevirtual 151, 3) := by decide +kernel
theorem dX6_outcome_31 : decode cX6_outcome 31 = .ok (.ireturn, 1) := by decide +kernel
set_option maxRecDepth 20000 in
theorem ggX6_pass_X6_isWithin : GoodIn wsX6_pass wsX6_isWithin := goodIn_r _ [6] (by decide +kernel) (by decide +kernel)
set_option maxRecDepth 20000 in
theorem gX6_pass_X6_isWithin : GoodIn wsX6_pass (va_wsS RX6 72 yX6_isWithin wsX6_isWithin) := goodIn_app (goodIn_of _ (by decide +kernel)) ggX6_pass_X6_isWithin
set_option maxRecDepth 20000 in
theorem ggX6_pass_X1_lapse : GoodIn wsX6_pass wsX1_lapse := goodIn_r _ [11, 12, 13, 14, 15, 16, 17, 18, 19, 20, 21, 33, 34, 35, 36, 37] (by decide +kernel) (by decide +kernel)
set_option maxRecDepth 20000 in
theorem gX6_pass_X1_lapse : GoodIn wsX6_pass (wsV RX6 155 RX1 yX1_lapse wsX1_lapse) := goodIn_app (goodIn_of _ (by decide +kernel)) ggX6_pass_X1_lapse
theorem dX6_pass_0 : decode cX6_pass 0 = .ok (.iload_n 1, 1) := by decide +kernel
theorem dX6_pass_1 : decode cX6_pass 1 = .ok (.iconst 0, 1) := by decide +kernel
theorem dX6_pass_2 : decode cX6_pass 2 = .ok (.bipush 100, 2) := by decide +kernel
theorem dX6_pass_4 : decode cX6_pass 4 = .ok (.invokestatic 72, 3) := by decide +kernel
theorem dX6_pass_7 : decode cX6_pass 7 = .ok (.ifCond .ne 5, 3) := by decide +kernel
theorem dX6_pass_10 : decode cX6_pass 10 = .ok (.iconst 0, 1) := by decide +kernel
theorem dX6_pass_11 : decode cX6_pass 11 = .ok (.ireturn, 1) := by decide +kernel
theorem dX6_pass_12 : decode cX6_pass 12 = .ok (.aload_n 0, 1) := by decide +kernel
theorem dX6_pass_13 : decode cX6_pass 13 = .ok (.getfield 21, 3) := by decide +kernel
theorem dX6_pass_16 : decode cX6_pass 16 = .ok (.iload_n 1, 1) := by decide +kernel
theorem dX6_pass_17 : decode cX6_pass 17 = .ok (.ldc 154, 2) := by decide +kernel
theorem dX6_pass_19 : decode cX6_pass 19 = .ok (.invokevirtual 155, 3) := by decide +kernel
theorem dX6_pass_22 : decode cX6_pass 22 = .ok (.ireturn, 1) := by decide +kernel
set_option maxRecDepth 20000 in
theorem ggX6_call_X6_goIn : GoodIn wsX6_call wsX6_goIn := goodIn_r _ [20, 15, 21, 22, 23, 24, 25, 26, 27, 28, 29, 30, 31, 32, 33, 34, 35, 36, 37, 38, 39, 40, 41, 42, 43, 44, 45, 46, 47, 48, 49, 50, 51, 52, 53, 54, 55, 56, 57, 58, 19, 59, 60, 61, 62, 63, 64, 65, 66, 67, 68, 69, 70, 71, 72, 73, 74, 75, 76, 77, 78, 79, 80, 81, 82, 83, 84, 85, 86, 87, 88, 89, 90, 91, 92, 93, 94, 95, 96, 97, 16, 17, 18, 98, 99, 100, 101, 102, 103, 104, 105, 106, 107, 108, 109, 110, 111, 112, 113, 114, 115, 116, 117, 118, 119, 120, 121, 122, 123, 124, 125, 126, 127, 128, 129, 130, 131, 132, 133, 134, 135, 136, 137, 138, 139, 140, 141, 142, 143, 144, 145, 146, 147, 148, 149, 150, 151, 152, 153, 154, 155, 156, 157, 158, 159, 160, 161, 162, 163, 164, 165, 166, 167, 168, 169, 170, 171, 172, 173, 174, 175, 176, 177, 178, 179, 180, 181, 182, 183, 184, 185, 186, 187, 188, 189, 190, 191, 192, 193, 194, 195, 196, 197, 198, 199, 200, 201, 202, 203, 204, 205, 206, 207, 208, 209, 210, 211, 212, 213, 214, 215, 216, 217, 218, 219, 220, 221, 222, 223, 224, 225, 226, 227, 228, 229, 230, 231, 232, 233, 234, 235, 236, 237, 238] (by decide +kernel) (by decide +kernel)
set_option maxRecDepth 20000 in
theorem gX6_call_X6_goIn : GoodIn wsX6_call (wsV RX6 159 RX6 yX6_goIn wsX6_goIn) := goodIn_app (goodIn_of _ (by decide +kernel)) ggX6_call_X6_goIn
theorem dX6_call_0 : decode cX6_call 0 = .ok (.aload_n 0, 1) := by decide +kernel
theorem dX6_call_1 : decode cX6_call 1 = .ok (.aload_n 0, 1) := by decide +kernel
theorem dX6_call_2 : decode cX6_call 2 = .ok (.getfield 59, 3) := by decide +kernel
theorem dX6_call_5 : decode cX6_call 5 = .ok (.ldc 154, 2) := by decide +kernel
theorem dX6_call_7 : decode cX6_call 7 = .ok (.invokevirtual 159, 3) := by decide +kernel
theorem dX6_call_10 : decode cX6_call 10 = .ok (.lookupswitch 118 #[(1, 58), (2, 68), (4, 78), (8, 88), (16, 98), (32, 108)], 58) := by decide +kernel
theorem dX6_call_68 : decode cX6_call 68 = .ok (.new 163, 3) := by decide +kernel
theorem dX6_call_71 : decode cX6_call 71 = .ok (.dup, 1) := by decide +kernel
theorem dX6_call_72 : decode cX6_call 72 = .ok (.ldc 165, 2) := by decide +kernel
theorem dX6_call_74 : decode cX6_call 74 = .ok (.invokespecial 167, 3) := by decide +kernel
theorem dX6_call_77 : decode cX6_call 77 = .ok (.athrow, 1) := by decide +kernel
theorem dX6_call_78 : decode cX6_call 78 = .ok (.new 170, 3) := by decide +kernel
theorem dX6_call_81 : decode cX6_call 81 = .ok (.dup, 1) := by decide +kernel
theorem dX6_call_82 : decode cX6_call 82 = .ok (.ldc 172, 2) := by decide +kernel
theorem dX6_call_84 : decode cX6_call 84 = .ok (.invokespecial 174, 3) := by decide +kernel
theorem dX6_call_87 : decode cX6_call 87 = .ok (.athrow, 1) := by decide +kernel
theorem dX6_call_88 : decode cX6_call 88 = .ok (.new 175, 3) := by decide +kernel
theorem dX6_call_91 : decode cX6_call 91 = .ok (.dup, 1) := by decide +kernel
theorem dX6_call_92 : decode cX6_call 92 = .ok (.ldc 177, 2) := by decide +kernel
theorem dX6_call_94 : decode cX6_call 94 = .ok (.invokespecial 179, 3) := by decide +kernel
theorem dX6_call_97 : decode cX6_call 97 = .ok (.athrow, 1) := by decide +kernel
theorem dX6_call_98 : decode cX6_call 98 = .ok (.new 180, 3) := by decide +kernel
theorem dX6_call_101 : decode cX6_call 101 = .ok (.dup, 1) := by decide +kernel
theorem dX6_call_102 : decode cX6_call 102 = .ok (.ldc 182, 2) := by decide +kernel
theorem dX6_call_104 : decode cX6_call 104 = .ok (.invokespecial 184, 3) := by decide +kernel
theorem dX6_call_107 : decode cX6_call 107 = .ok (.athrow, 1) := by decide +kernel
theorem dX6_call_108 : decode cX6_call 108 = .ok (.new 185, 3) := by decide +kernel
theorem dX6_call_111 : decode cX6_call 111 = .ok (.dup, 1) := by decide +kernel
theorem dX6_call_112 : decode cX6_call 112 = .ok (.ldc 187, 2) := by decide +kernel
theorem dX6_call_114 : decode cX6_call 114 = .ok (.invokespecial 189, 3) := by decide +kernel
theorem dX6_call_117 : decode cX6_call 117 = .ok (.athrow, 1) := by decide +kernel
theorem dX6_call_118 : decode cX6_call 118 = .ok (.new 190, 3) := by decide +kernel
theorem dX6_call_121 : decode cX6_call 121 = .ok (.dup, 1) := by decide +kernel
theorem dX6_call_122 : decode cX6_call 122 = .ok (.ldc 192, 2) := by decide +kernel
theorem dX6_call_124 : decode cX6_call 124 = .ok (.invokespecial 194, 3) := by decide +kernel
theorem dX6_call_127 : decode cX6_call 127 = .ok (.athrow, 1) := by decide +kernel
theorem dX6_call_128 : decode cX6_call 128 = .ok (.aload_n 0, 1) := by decide +kernel
theorem dX6_call_129 : decode cX6_call 129 = .ok (.getfield 30, 3) := by decide +kernel
theorem dX6_call_132 : decode cX6_call 132 = .ok (.getfield 195, 3) := by decide +kernel
theorem dX6_call_135 : decode cX6_call 135 = .ok (.ireturn, 1) := by decide +kernel
set_option maxRecDepth 20000 in
theorem ggX6_failing_X0_rate : GoodIn wsX6_failing wsX0_rate := goodIn_r _ [6, 7, 8, 9, 10, 11, 12, 13, 14, 15, 16, 28, 29, 30, 31, 32, 33, 34, 35, 36, 37, 38, 39, 40, 41, 42] (by decide +kernel) (by decide +kernel)
set_option maxRecDepth 20000 in
theorem gX6_failing_X0_rate : GoodIn wsX6_failing (wsV RX6 201 RX0 yX0_rate wsX0_rate) := goodIn_app (goodIn_of _ (by decide +kernel)) ggX6_failing_X0_rate
theorem dX6_failing_0 : decode cX6_failing 0 = .ok (.aload_n 0, 1) := by decide +kernel
theorem dX6_failing_1 : decode cX6_failing 1 = .ok (.getfield 37, 3) := by decide +kernel
theorem dX6_failing_4 : decode cX6_failing 4 = .ok (.aload_n 0, 1) := by decide +kernel
theorem dX6_failing_5 : decode cX6_failing 5 = .ok (.getfield 37, 3) := by decide +kernel
theorem dX6_failing_8 : decode cX6_failing 8 = .ok (.getfield 198, 3) := by decide +kernel
theorem dX6_failing_11 : decode cX6_failing 11 = .ok (.invokevirtual 201, 3) := by decide +kernel
theorem dX6_failing_14 : decode cX6_failing 14 = .ok (.dreturn, 1) := by decide +kernel
set_option maxRecDepth 20000 in
theorem ggX6_sluggish_X0_rate : GoodIn wsX6_sluggish wsX0_rate := goodIn_r _ [6, 7, 8, 9, 10, 11, 12, 13, 14, 15, 16, 28, 29, 30, 31, 32, 33, 34, 35, 36, 37, 38, 39, 40, 41, 42] (by decide +kernel) (by decide +kernel)
set_option maxRecDepth 20000 in
theorem gX6_sluggish_X0_rate : GoodIn wsX6_sluggish (wsV RX6 201 RX0 yX0_rate wsX0_rate) := goodIn_app (goodIn_of _ (by decide +kernel)) ggX6_sluggish_X0_rate
theorem dX6_sluggish_0 : decode cX6_sluggish 0 = .ok (.aload_n 0, 1) := by decide +kernel
theorem dX6_sluggish_1 : decode cX6_sluggish 1 = .ok (.getfield 37, 3) := by decide +kernel
theorem dX6_sluggish_4 : decode cX6_sluggish 4 = .ok (.aload_n 0, 1) := by decide +kernel
theorem dX6_sluggish_5 : decode cX6_sluggish 5 = .ok (.getfield 37, 3) := by decide +kernel
theorem dX6_sluggish_8 : decode cX6_sluggish 8 = .ok (.getfield 205, 3) := by decide +kernel
theorem dX6_sluggish_11 : decode cX6_sluggish 11 = .ok (.invokevirtual 201, 3) := by decide +kernel
theorem dX6_sluggish_14 : decode cX6_sluggish 14 = .ok (.dreturn, 1) := by decide +kernel
theorem dX6_tell_0 : decode cX6_tell 0 = .ok (.iload_n 1, 1) := by decide +kernel
theorem dX6_tell_1 : decode cX6_tell 1 = .ok (.tableswitch 123 0 7 #[47, 55, 63, 86, 91, 99, 107, 115], 47) := by decide +kernel
theorem dX6_tell_48 : decode cX6_tell 48 = .ok (.aload_n 0, 1) := by decide +kernel
theorem dX6_tell_49 : decode cX6_tell 49 = .ok (.getfield 37, 3) := by decide +kernel
theorem dX6_tell_52 : decode cX6_tell 52 = .ok (.getfield 88, 3) := by decide +kernel
theorem dX6_tell_55 : decode cX6_tell 55 = .ok (.ireturn, 1) := by decide +kernel
theorem dX6_tell_56 : decode cX6_tell 56 = .ok (.aload_n 0, 1) := by decide +kernel
theorem dX6_tell_57 : decode cX6_tell 57 = .ok (.getfield 37, 3) := by decide +kernel
theorem dX6_tell_60 : decode cX6_tell 60 = .ok (.getfield 208, 3) := by decide +kernel
theorem dX6_tell_63 : decode cX6_tell 63 = .ok (.ireturn, 1) := by decide +kernel
theorem dX6_tell_64 : decode cX6_tell 64 = .ok (.aload_n 0, 1) := by decide +kernel
theorem dX6_tell_65 : decode cX6_tell 65 = .ok (.getfield 37, 3) := by decide +kernel
theorem dX6_tell_68 : decode cX6_tell 68 = .ok (.getfield 88, 3) := by decide +kernel
theorem dX6_tell_71 : decode cX6_tell 71 = .ok (.iconst 2, 1) := by decide +kernel
theorem dX6_tell_72 : decode cX6_tell 72 = .ok (.if_icmp .ne 13, 3) := by decide +kernel
theorem dX6_tell_75 : decode cX6_tell 75 = .ok (.aload_n 0, 1) := by decide +kernel
theorem dX6_tell_76 : decode cX6_tell 76 = .ok (.getfield 37, 3) := by decide +kernel
theorem dX6_tell_79 : decode cX6_tell 79 = .ok (.getfield 211, 3) := by decide +kernel
theorem dX6_tell_82 : decode cX6_tell 82 = .ok (.goto 4, 3) := by decide +kernel
theorem dX6_tell_85 : decode cX6_tell 85 = .ok (.iconst 0, 1) := by decide +kernel
theorem dX6_tell_86 : decode cX6_tell 86 = .ok (.ireturn, 1) := by decide +kernel
theorem dX6_tell_87 : decode cX6_tell 87 = .ok (.aload_n 0, 1) := by decide +kernel
theorem dX6_tell_88 : decode cX6_tell 88 = .ok (.getfield 66, 3) := by decide +kernel
theorem dX6_tell_91 : decode cX6_tell 91 = .ok (.ireturn, 1) := by decide +kernel
theorem dX6_tell_92 : decode cX6_tell 92 = .ok (.aload_n 0, 1) := by decide +kernel
theorem dX6_tell_93 : decode cX6_tell 93 = .ok (.getfield 44, 3) := by decide +kernel
theorem dX6_tell_96 : decode cX6_tell 96 = .ok (.getfield 214, 3) := by decide +kernel
theorem dX6_tell_99 : decode cX6_tell 99 = .ok (.ireturn, 1) := by decide +kernel
theorem dX6_tell_100 : decode cX6_tell 100 = .ok (.aload_n 0, 1) := by decide +kernel
theorem dX6_tell_101 : decode cX6_tell 101 = .ok (.getfield 30, 3) := by decide +kernel
theorem dX6_tell_104 : decode cX6_tell 104 = .ok (.getfield 217, 3) := by decide +kernel
theorem dX6_tell_107 : decode cX6_tell 107 = .ok (.ireturn, 1) := by decide +kernel
theorem dX6_tell_108 : decode cX6_tell 108 = .ok (.aload_n 0, 1) := by decide +kernel
theorem dX6_tell_109 : decode cX6_tell 109 = .ok (.getfield 30, 3) := by decide +kernel
theorem dX6_tell_112 : decode cX6_tell 112 = .ok (.getfield 220, 3) := by decide +kernel
theorem dX6_tell_115 : decode cX6_tell 115 = .ok (.ireturn, 1) := by decide +kernel
theorem dX6_tell_116 : decode cX6_tell 116 = .ok (.aload_n 0, 1) := by decide +kernel
theorem dX6_tell_117 : decode cX6_tell 117 = .ok (.getfield 21, 3) := by decide +kernel
theorem dX6_tell_120 : decode cX6_tell 120 = .ok (.getfield 221, 3) := by decide +kernel
theorem dX6_tell_123 : decode cX6_tell 123 = .ok (.ireturn, 1) := by decide +kernel
theorem dX6_tell_124 : decode cX6_tell 124 = .ok (.iconst (-1), 1) := by decide +kernel
theorem dX6_tell_125 : decode cX6_tell 125 = .ok (.ireturn, 1) := by decide +kernel
set_option maxRecDepth 20000 in
theorem ggX6_event_X2_latest : GoodIn wsX6_event wsX2_latest := goodIn_r _ [6, 7, 8, 9, 21, 22, 23] (by decide +kernel) (by decide +kernel)
set_option maxRecDepth 20000 in
theorem gX6_event_X2_latest : GoodIn wsX6_event (wsV RX6 224 RX2 yX2_latest wsX2_latest) := goodIn_app (goodIn_of _ (by decide +kernel)) ggX6_event_X2_latest
theorem dX6_event_0 : decode cX6_event 0 = .ok (.aload_n 0, 1) := by decide +kernel
theorem dX6_event_1 : decode cX6_event 1 = .ok (.getfield 10, 3) := by decide +kernel
theorem dX6_event_4 : decode cX6_event 4 = .ok (.iload_n 1, 1) := by decide +kernel
theorem dX6_event_5 : decode cX6_event 5 = .ok (.invokevirtual 224, 3) := by decide +kernel
theorem dX6_event_8 : decode cX6_event 8 = .ok (.ireturn, 1) := by decide +kernel
theorem dX6_lies_0 : decode cX6_lies 0 = .ok (.iconst 0, 1) := by decide +kernel
theorem dX6_lies_1 : decode cX6_lies 1 = .ok (.istore_n 2, 1) := by decide +kernel
theorem dX6_lies_2 : decode cX6_lies 2 = .ok (.iload_n 2, 1) := by decide +kernel
theorem dX6_lies_3 : decode cX6_lies 3 = .ok (.aload_n 0, 1) := by decide +kernel
theorem dX6_lies_4 : decode cX6_lies 4 = .ok (.getfield 59, 3) := by decide +kernel
theorem dX6_lies_7 : decode cX6_lies 7 = .ok (.if_icmp .ge 26, 3) := by decide +kernel
theorem dX6_lies_10 : decode cX6_lies 10 = .ok (.iload_n 2, 1) := by decide +kernel
theorem dX6_lies_11 : decode cX6_lies 11 = .ok (.iconst 5, 1) := by decide +kernel
theorem dX6_lies_12 : decode cX6_lies 12 = .ok (.if_icmp .ge 21, 3) := by decide +kernel
theorem dX6_lies_15 : decode cX6_lies 15 = .ok (.aload_n 0, 1) := by decide +kernel
theorem dX6_lies_16 : decode cX6_lies 16 = .ok (.getfield 55, 3) := by decide +kernel
theorem dX6_lies_19 : decode cX6_lies 19 = .ok (.iload_n 2, 1) := by decide +kernel
theorem dX6_lies_20 : decode cX6_lies 20 = .ok (.iaload, 1) := by decide +kernel
theorem dX6_lies_21 : decode cX6_lies 21 = .ok (.iload_n 1, 1) := by decide +kernel
theorem dX6_lies_22 : decode cX6_lies 22 = .ok (.if_icmp .ne 5, 3) := by decide +kernel
theorem dX6_lies_25 : decode cX6_lies 25 = .ok (.iconst 1, 1) := by decide +kernel
theorem dX6_lies_26 : decode cX6_lies 26 = .ok (.ireturn, 1) := by decide +kernel
theorem dX6_lies_27 : decode cX6_lies 27 = .ok (.iinc 2 1, 3) := by decide +kernel
theorem dX6_lies_30 : decode cX6_lies 30 = .ok (.goto (-28), 3) := by decide +kernel
theorem dX6_lies_33 : decode cX6_lies 33 = .ok (.iconst 0, 1) := by decide +kernel
theorem dX6_lies_34 : decode cX6_lies 34 = .ok (.ireturn, 1) := by decide +kernel
set_option maxRecDepth 20000 in
theorem ggX6_goIn_X5_supply : GoodIn wsX6_goIn wsX5_supply := goodIn_r _ [7, 8, 9, 10, 11, 12, 13, 14, 15, 16, 17, 18, 6, 19, 20, 21, 22, 23, 24, 25, 26, 27, 28, 29, 30, 31, 32, 33, 34, 35, 36, 183, 184, 185, 186, 187, 188, 189, 190, 191, 192, 193, 194, 195, 196] (by decide +kernel) (by decide +kernel)
set_option maxRecDepth 20000 in
theorem gX6_goIn_X5_supply : GoodIn wsX6_goIn (wsV RX6 228 RX5 yX5_supply wsX5_supply) := goodIn_app (goodIn_of _ (by decide +kernel)) ggX6_goIn_X5_supply
set_option maxRecDepth 20000 in
theorem ggX6_goIn_X6_goThroughBreaker : GoodIn wsX6_goIn wsX6_goThroughBreaker := goodIn_r _ [53, 54, 55, 56, 57, 58, 59, 60, 61, 62, 63, 64, 65, 66, 67, 68, 69, 70, 71, 72, 73, 74, 75, 76, 77, 78, 79, 22, 23, 24, 25, 26, 27, 28, 80, 81, 82, 40, 83, 84, 85, 86, 87, 88, 89, 90, 91, 92, 93, 94, 95, 96, 97, 98, 99, 100, 101, 102, 103, 104, 105, 106, 107, 108, 109, 110, 111, 112, 113, 114, 115, 116, 117, 118, 119, 120, 121, 122, 123, 124, 0, 1, 2, 3, 4, 5, 6, 7, 8, 9, 10, 11, 12, 13, 14, 15, 16, 17, 18, 19, 20, 21, 29, 30, 31, 32, 33, 34, 35, 36, 37, 38, 39, 41, 42, 43, 44, 45, 46, 47, 48, 49, 50, 51, 52, 125, 126, 127, 128, 129, 130, 131, 132, 133, 134, 135, 136, 137, 138, 139, 140, 141, 142, 143, 144, 145, 146, 147, 148, 149, 150, 151, 152, 153, 154, 155, 156, 157, 158, 159, 160, 161, 162, 163, 164, 165, 166, 167, 168, 169, 170, 171, 172, 173, 174, 175, 176, 177, 178, 179, 180, 181, 182, 183, 184, 185, 186, 187, 188, 189, 190, 191, 192, 193, 194, 195, 196, 197, 198, 199, 200, 201, 202, 203, 204, 205, 206, 207, 208, 209, 210, 211, 212, 213, 214, 215, 216, 217, 218, 219, 220, 221, 222, 223] (by decide +kernel) (by decide +kernel)
set_option maxRecDepth 20000 in
theorem gX6_goIn_X6_goThroughBreaker : GoodIn wsX6_goIn (wsV RX6 231 RX6 yX6_goThroughBreaker wsX6_goThroughBreaker) := goodIn_app (goodIn_of _ (by decide +kernel)) ggX6_goIn_X6_goThroughBreaker
set_option maxRecDepth 20000 in
theorem ggX6_goIn_X6_goThroughBulkhead : GoodIn wsX6_goIn wsX6_goThroughBulkhead := goodIn_r _ [125, 126, 127, 128, 129, 22, 23, 24, 25, 26, 27, 28, 80, 81, 82, 40, 0, 1, 2, 3, 4, 5, 6, 7, 8, 9, 10, 11, 12, 13, 14, 15, 16, 17, 18, 19, 20, 21, 29, 30, 31, 32, 33, 34, 35, 36, 37, 38, 39, 41, 42, 43, 44, 45, 46, 47, 48, 49, 50, 51, 52, 53, 54, 55, 56, 57, 58, 59, 60, 61, 62, 63, 64, 65, 66, 67, 68, 69, 70, 71, 72, 73, 74, 75, 76, 77, 78, 79, 83, 84, 85, 86, 87, 88, 89, 90, 91, 92, 93, 94, 95, 96, 97, 98, 99, 100, 101, 102, 103, 104, 105, 106, 107, 108, 109, 110, 111, 112, 113, 114, 115, 116, 117, 118, 119, 120, 121, 122, 123, 124, 130, 131, 132, 133, 134, 135, 136, 137, 138, 139, 140, 141, 142, 143, 144, 145, 146, 147, 148, 149, 150, 151, 152, 153, 154, 155, 156, 157, 158, 159, 160, 161, 162, 163, 164, 165, 166, 167, 168, 169, 170, 171, 172, 173, 174, 175, 176, 177, 178, 179, 180, 181, 182, 183, 184, 185, 186, 187, 188, 189, 190, 191, 192, 193, 194, 195, 196, 197, 198, 199, 200, 201, 202, 203, 204, 205, 206, 207, 208, 209, 210, 211, 212, 213, 214, 215, 216, 217, 218, 219, 220, 221, 222, 223] (by decide +kernel) (by decide +kernel)
set_option maxRecDepth 20000 in
theorem gX6_goIn_X6_goThroughBulkhead : GoodIn wsX6_goIn (wsV RX6 234 RX6 yX6_goThroughBulkhead wsX6_goThroughBulkhead) := goodIn_app (goodIn_of _ (by decide +kernel)) ggX6_goIn_X6_goThroughBulkhead
set_option maxRecDepth 20000 in
theorem ggX6_goIn_X6_goThroughLimiter : GoodIn wsX6_goIn wsX6_goThroughLimiter := goodIn_r _ [130, 131, 132, 133, 134, 135, 136, 137, 138, 139, 140, 141, 142, 143, 144, 145, 146, 147, 148, 149, 150, 151, 152, 22, 23, 24, 25, 26, 27, 28, 153, 30, 31, 32, 33, 34, 35, 36, 80, 81, 82, 40, 0, 1, 2, 3, 4, 5, 6, 7, 8, 9, 10, 11, 12, 13, 14, 15, 16, 17, 18, 19, 20, 21, 29, 37, 38, 39, 41, 42, 43, 44, 45, 46, 47, 48, 49, 50, 51, 52, 53, 54, 55, 56, 57, 58, 59, 60, 61, 62, 63, 64, 65, 66, 67, 68, 69, 70, 71, 72, 73, 74, 75, 76, 77, 78, 79, 83, 84, 85, 86, 87, 88, 89, 90, 91, 92, 93, 94, 95, 96, 97, 98, 99, 100, 101, 102, 103, 104, 105, 106, 107, 108, 109, 110, 111, 112, 113, 114, 115, 116, 117, 118, 119, 120, 121, 122, 123, 124, 125, 126, 127, 128, 129, 154, 155, 156, 157, 158, 159, 160, 161, 162, 163, 164, 165, 166, 167, 168, 169, 170, 171, 172, 173, 174, 175, 176, 177, 178, 179, 180, 181, 182, 183, 184, 185, 186, 187, 188, 189, 190, 191, 192, 193, 194, 195, 196, 197, 198, 199, 200, 201, 202, 203, 204, 205, 206, 207, 208, 209, 210, 211, 212, 213, 214, 215, 216, 217, 218, 219, 220, 221, 222, 223] (by decide +kernel) (by decide +kernel)
set_option maxRecDepth 20000 in
theorem gX6_goIn_X6_goThroughLimiter : GoodIn wsX6_goIn (wsV RX6 237 RX6 yX6_goThroughLimiter wsX6_goThroughLimiter) := goodIn_app (goodIn_of _ (by decide +kernel)) ggX6_goIn_X6_goThroughLimiter
set_option maxRecDepth 20000 in
theorem ggX6_goIn_X6_goThroughRetry : GoodIn wsX6_goIn wsX6_goThroughRetry := goodIn_r _ [154, 155, 128, 55, 80, 81, 82, 40, 156, 157, 158, 159, 160, 161, 129, 22, 23, 24, 25, 26, 27, 28, 162, 163, 164, 165, 166, 167, 168, 169, 30, 31, 32, 33, 34, 35, 36, 0, 1, 2, 3, 4, 5, 6, 7, 8, 9, 10, 11, 12, 13, 14, 15, 16, 17, 18, 19, 20, 21, 29, 37, 38, 39, 41, 42, 43, 44, 45, 46, 47, 48, 49, 50, 51, 52, 53, 54, 56, 57, 58, 59, 60, 61, 62, 63, 64, 65, 66, 67, 68, 69, 70, 71, 72, 73, 74, 75, 76, 77, 78, 79, 83, 84, 85, 86, 87, 88, 89, 90, 91, 92, 93, 94, 95, 96, 97, 98, 99, 100, 101, 102, 103, 104, 105, 106, 107, 108, 109, 110, 111, 112, 113, 114, 115, 116, 117, 118, 119, 120, 121, 122, 123, 124, 125, 126, 127, 130, 131, 132, 133, 134, 135, 136, 137, 138, 139, 140, 141, 142, 143, 144, 145, 146, 147, 148, 149, 150, 151, 152, 153, 170, 171, 172, 173, 174, 175, 176, 177, 178, 179, 180, 181, 182, 183, 184, 185, 186, 187, 188, 189, 190, 191, 192, 193, 194, 195, 196, 197, 198, 199, 200, 201, 202, 203, 204, 205, 206, 207, 208, 209, 210, 211, 212, 213, 214, 215, 216, 217, 218, 219, 220, 221, 222, 223] (by decide +kernel) (by decide +kernel)
set_option maxRecDepth 20000 in
theorem gX6_goIn_X6_goThroughRetry : GoodIn wsX6_goIn (wsV RX6 240 RX6 yX6_goThroughRetry wsX6_goThroughRetry) := goodIn_app (goodIn_of _ (by decide +kernel)) ggX6_goIn_X6_goThroughRetry
set_option maxRecDepth 20000 in
theorem ggX6_goIn_X6_goThroughTimer : GoodIn wsX6_goIn wsX6_goThroughTimer := goodIn_r _ [170, 55, 171, 80, 81, 82, 40, 0, 1, 2, 3, 4, 5, 6, 7, 8, 9, 10, 11, 12, 13, 14, 15, 16, 17, 18, 19, 20, 21, 22, 23, 24, 25, 26, 27, 28, 29, 30, 31, 32, 33, 34, 35, 36, 37, 38, 39, 41, 42, 43, 44, 45, 46, 47, 48, 49, 50, 51, 52, 53, 54, 56, 57, 58, 59, 60, 61, 62, 63, 64, 65, 66, 67, 68, 69, 70, 71, 72, 73, 74, 75, 76, 77, 78, 79, 83, 84, 85, 86, 87, 88, 89, 90, 91, 92, 93, 94, 95, 96, 97, 98, 99, 100, 101, 102, 103, 104, 105, 106, 107, 108, 109, 110, 111, 112, 113, 114, 115, 116, 117, 118, 119, 120, 121, 122, 123, 124, 125, 126, 127, 128, 129, 130, 131, 132, 133, 134, 135, 136, 137, 138, 139, 140, 141, 142, 143, 144, 145, 146, 147, 148, 149, 150, 151, 152, 153, 154, 155, 156, 157, 158, 159, 160, 161, 162, 163, 164, 165, 166, 167, 168, 169, 172, 173, 174, 175, 176, 177, 178, 179, 180, 181, 182, 183, 184, 185, 186, 187, 188, 189, 190, 191, 192, 193, 194, 195, 196, 197, 198, 199, 200, 201, 202, 203, 204, 205, 206, 207, 208, 209, 210, 211, 212, 213, 214, 215, 216, 217, 218, 219, 220, 221, 222, 223] (by decide +kernel) (by decide +kernel)
set_option maxRecDepth 20000 in
theorem gX6_goIn_X6_goThroughTimer : GoodIn wsX6_goIn (wsV RX6 243 RX6 yX6_goThroughTimer wsX6_goThroughTimer) := goodIn_app (goodIn_of _ (by decide +kernel)) ggX6_goIn_X6_goThroughTimer
theorem dX6_goIn_0 : decode cX6_goIn 0 = .ok (.iload_n 1, 1) := by decide +kernel
theorem dX6_goIn_1 : decode cX6_goIn 1 = .ok (.iconst 1, 1) := by decide +kernel
theorem dX6_goIn_2 : decode cX6_goIn 2 = .ok (.if_icmp .lt 8, 3) := by decide +kernel
theorem dX6_goIn_5 : decode cX6_goIn 5 = .ok (.iload_n 1, 1) := by decide +kernel
theorem dX6_goIn_6 : decode cX6_goIn 6 = .ok (.iconst 5, 1) := by decide +kernel
theorem dX6_goIn_7 : decode cX6_goIn 7 = .ok (.if_icmp .le 12, 3) := by decide +kernel
theorem dX6_goIn_10 : decode cX6_goIn 10 = .ok (.aload_n 0, 1) := by decide +kernel
theorem dX6_goIn_11 : decode cX6_goIn 11 = .ok (.getfield 30, 3) := by decide +kernel
theorem dX6_goIn_14 : decode cX6_goIn 14 = .ok (.iload_n 2, 1) := by decide +kernel
theorem dX6_goIn_15 : decode cX6_goIn 15 = .ok (.invokevirtual 228, 3) := by decide +kernel
theorem dX6_goIn_18 : decode cX6_goIn 18 = .ok (.ireturn, 1) := by decide +kernel
theorem dX6_goIn_19 : decode cX6_goIn 19 = .ok (.aload_n 0, 1) := by decide +kernel
theorem dX6_goIn_20 : decode cX6_goIn 20 = .ok (.getfield 55, 3) := by decide +kernel
theorem dX6_goIn_23 : decode cX6_goIn 23 = .ok (.iload_n 1, 1) := by decide +kernel
theorem dX6_goIn_24 : decode cX6_goIn 24 = .ok (.iconst 1, 1) := by decide +kernel
theorem dX6_goIn_25 : decode cX6_goIn 25 = .ok (.isub, 1) := by decide +kernel
theorem dX6_goIn_26 : decode cX6_goIn 26 = .ok (.iaload, 1) := by decide +kernel
theorem dX6_goIn_27 : decode cX6_goIn 27 = .ok (.tableswitch 61 0 4 #[33, 40, 47, 54, 61], 33) := by decide +kernel
theorem dX6_goIn_60 : decode cX6_goIn 60 = .ok (.aload_n 0, 1) := by decide +kernel
theorem dX6_goIn_61 : decode cX6_goIn 61 = .ok (.iload_n 1, 1) := by decide +kernel
theorem dX6_goIn_62 : decode cX6_goIn 62 = .ok (.iload_n 2, 1) := by decide +kernel
theorem dX6_goIn_63 : decode cX6_goIn 63 = .ok (.invokevirtual 231, 3) := by decide +kernel
theorem dX6_goIn_66 : decode cX6_goIn 66 = .ok (.ireturn, 1) := by decide +kernel
theorem dX6_goIn_67 : decode cX6_goIn 67 = .ok (.aload_n 0, 1) := by decide +kernel
theorem dX6_goIn_68 : decode cX6_goIn 68 = .ok (.iload_n 1, 1) := by decide +kernel
theorem dX6_goIn_69 : decode cX6_goIn 69 = .ok (.iload_n 2, 1) := by decide +kernel
theorem dX6_goIn_70 : decode cX6_goIn 70 = .ok (.invokevirtual 234, 3) := by decide +kernel
theorem dX6_goIn_73 : decode cX6_goIn 73 = .ok (.ireturn, 1) := by decide +kernel
theorem dX6_goIn_74 : decode cX6_goIn 74 = .ok (.aload_n 0, 1) := by decide +kernel
theorem dX6_goIn_75 : decode cX6_goIn 75 = .ok (.iload_n 1, 1) := by decide +kernel
theorem dX6_goIn_76 : decode cX6_goIn 76 = .ok (.iload_n 2, 1) := by decide +kernel
theorem dX6_goIn_77 : decode cX6_goIn 77 = .ok (.invokevirtual 237, 3) := by decide +kernel
theorem dX6_goIn_80 : decode cX6_goIn 80 = .ok (.ireturn, 1) := by decide +kernel
theorem dX6_goIn_81 : decode cX6_goIn 81 = .ok (.aload_n 0, 1) := by decide +kernel
theorem dX6_goIn_82 : decode cX6_goIn 82 = .ok (.iload_n 1, 1) := by decide +kernel
theorem dX6_goIn_83 : decode cX6_goIn 83 = .ok (.iload_n 2, 1) := by decide +kernel
theorem dX6_goIn_84 : decode cX6_goIn 84 = .ok (.invokevirtual 240, 3) := by decide +kernel
theorem dX6_goIn_87 : decode cX6_goIn 87 = .ok (.ireturn, 1) := by decide +kernel
theorem dX6_goIn_88 : decode cX6_goIn 88 = .ok (.aload_n 0, 1) := by decide +kernel
theorem dX6_goIn_89 : decode cX6_goIn 89 = .ok (.iload_n 1, 1) := by decide +kernel
theorem dX6_goIn_90 : decode cX6_goIn 90 = .ok (.invokevirtual 243, 3) := by decide +kernel
theorem dX6_goIn_93 : decode cX6_goIn 93 = .ok (.ireturn, 1) := by decide +kernel
set_option maxRecDepth 20000 in
theorem ggX6_goThroughBreaker_X0_letsIn : GoodIn wsX6_goThroughBreaker wsX0_letsIn := goodIn_r _ [7, 8, 9, 10, 11, 12, 13, 14, 15, 16, 17, 6, 18, 19, 20, 21, 22, 23, 24, 25, 26, 27, 28, 29, 30, 31, 32, 33, 197, 198, 199, 200, 201, 202, 203, 204, 205, 206, 207, 208, 209, 210, 211, 195, 196, 192, 193, 194] (by decide +kernel) (by decide +kernel)
set_option maxRecDepth 20000 in
theorem gX6_goThroughBreaker_X0_letsIn : GoodIn wsX6_goThroughBreaker (wsV RX6 246 RX0 yX0_letsIn wsX0_letsIn) := goodIn_app (goodIn_of _ (by decide +kernel)) ggX6_goThroughBreaker_X0_letsIn
set_option maxRecDepth 20000 in
theorem ggX6_goThroughBreaker_X6_goIn : GoodIn wsX6_goThroughBreaker wsX6_goIn := goodIn_r _ [80, 81, 82, 83, 84, 85, 86, 87, 88, 89, 90, 91, 92, 93, 94, 95, 96, 97, 98, 99, 100, 101, 27, 28, 29, 30, 31, 32, 33, 102, 103, 104, 105, 106, 107, 108, 109, 110, 111, 112, 37, 113, 114, 115, 116, 117, 118, 119, 120, 121, 122, 123, 124, 0, 1, 2, 3, 4, 5, 6, 7, 8, 9, 10, 11, 12, 13, 14, 15, 16, 17, 18, 19, 20, 21, 22, 23, 24, 25, 26, 34, 35, 36, 38, 39, 40, 41, 42, 43, 44, 45, 46, 47, 48, 49, 50, 51, 52, 53, 54, 55, 56, 57, 58, 59, 60, 61, 62, 63, 64, 65, 66, 67, 68, 69, 70, 71, 72, 73, 74, 75, 76, 77, 78, 79, 125, 126, 127, 128, 129, 130, 131, 132, 133, 134, 135, 136, 137, 138, 139, 140, 141, 142, 143, 144, 145, 146, 147, 148, 149, 150, 151, 152, 153, 154, 155, 156, 157, 158, 159, 160, 161, 162, 163, 164, 165, 166, 167, 168, 169, 170, 171, 172, 173, 174, 175, 176, 177, 178, 179, 180, 181, 182, 183, 184, 185, 186, 187, 188, 189, 190, 191, 192, 193, 194, 195, 196, 197, 198, 199, 200, 201, 202, 203, 204, 205, 206, 207, 208, 209, 210, 211, 212, 213, 214, 215, 216, 217, 218, 219, 220, 221, 222, 223] (by decide +kernel) (by decide +kernel)
set_option maxRecDepth 20000 in
theorem gX6_goThroughBreaker_X6_goIn : GoodIn wsX6_goThroughBreaker (wsV RX6 159 RX6 yX6_goIn wsX6_goIn) := goodIn_app (goodIn_of _ (by decide +kernel)) ggX6_goThroughBreaker_X6_goIn
set_option maxRecDepth 20000 in
theorem ggX6_goThroughBreaker_X0_learn : GoodIn wsX6_goThroughBreaker wsX0_learn := goodIn_r _ [41, 42, 8, 23, 43, 44, 45, 46, 6, 47, 48, 24, 25, 49, 50, 51, 52, 13, 53, 54, 55, 56, 57, 58, 59, 60, 61, 62, 63, 64, 65, 66, 67, 68, 69, 70, 71, 72, 73, 74, 75, 9, 10, 14, 19, 20, 21, 22, 26, 27, 28, 29, 30, 31, 32, 33, 76, 77, 78, 79, 197, 198, 199, 200, 201, 202, 203, 204, 205, 206, 207, 208, 209, 210, 211, 195, 196, 192, 193, 194] (by decide +kernel) (by decide +kernel)
set_option maxRecDepth 20000 in
theorem gX6_goThroughBreaker_X0_learn : GoodIn wsX6_goThroughBreaker (wsV RX6 250 RX0 yX0_learn wsX0_learn) := goodIn_app (goodIn_of _ (by decide +kernel)) ggX6_goThroughBreaker_X0_learn
theorem dX6_goThroughBreaker_0 : decode cX6_goThroughBreaker 0 = .ok (.aload_n 0, 1) := by decide +kernel
theorem dX6_goThroughBreaker_1 : decode cX6_goThroughBreaker 1 = .ok (.getfield 37, 3) := by decide +kernel
theorem dX6_goThroughBreaker_4 : decode cX6_goThroughBreaker 4 = .ok (.invokevirtual 246, 3) := by decide +kernel
theorem dX6_goThroughBreaker_7 : decode cX6_goThroughBreaker 7 = .ok (.ifCond .ne 5, 3) := by decide +kernel
theorem dX6_goThroughBreaker_10 : decode cX6_goThroughBreaker 10 = .ok (.iconst 1, 1) := by decide +kernel
theorem dX6_goThroughBreaker_11 : decode cX6_goThroughBreaker 11 = .ok (.ireturn, 1) := by decide +kernel
theorem dX6_goThroughBreaker_12 : decode cX6_goThroughBreaker 12 = .ok (.aload_n 0, 1) := by decide +kernel
theorem dX6_goThroughBreaker_13 : decode cX6_goThroughBreaker 13 = .ok (.getfield 21, 3) := by decide +kernel
theorem dX6_goThroughBreaker_16 : decode cX6_goThroughBreaker 16 = .ok (.getfield 221, 3) := by decide +kernel
theorem dX6_goThroughBreaker_19 : decode cX6_goThroughBreaker 19 = .ok (.istore_n 3, 1) := by decide +kernel
theorem dX6_goThroughBreaker_20 : decode cX6_goThroughBreaker 20 = .ok (.aload_n 0, 1) := by decide +kernel
theorem dX6_goThroughBreaker_21 : decode cX6_goThroughBreaker 21 = .ok (.iload_n 1, 1) := by decide +kernel
theorem dX6_goThroughBreaker_22 : decode cX6_goThroughBreaker 22 = .ok (.iconst 1, 1) := by decide +kernel
theorem dX6_goThroughBreaker_23 : decode cX6_goThroughBreaker 23 = .ok (.isub, 1) := by decide +kernel
theorem dX6_goThroughBreaker_24 : decode cX6_goThroughBreaker 24 = .ok (.iload_n 2, 1) := by decide +kernel
theorem dX6_goThroughBreaker_25 : decode cX6_goThroughBreaker 25 = .ok (.invokevirtual 159, 3) := by decide +kernel
theorem dX6_goThroughBreaker_28 : decode cX6_goThroughBreaker 28 = .ok (.istore 4, 2) := by decide +kernel
theorem dX6_goThroughBreaker_30 : decode cX6_goThroughBreaker 30 = .ok (.aload_n 0, 1) := by decide +kernel
theorem dX6_goThroughBreaker_31 : decode cX6_goThroughBreaker 31 = .ok (.getfield 37, 3) := by decide +kernel
theorem dX6_goThroughBreaker_34 : decode cX6_goThroughBreaker 34 = .ok (.iload 4, 2) := by decide +kernel
theorem dX6_goThroughBreaker_36 : decode cX6_goThroughBreaker 36 = .ok (.ifCond .eq 7, 3) := by decide +kernel
theorem dX6_goThroughBreaker_39 : decode cX6_goThroughBreaker 39 = .ok (.iconst 1, 1) := by decide +kernel
theorem dX6_goThroughBreaker_40 : decode cX6_goThroughBreaker 40 = .ok (.goto 4, 3) := by decide +kernel
theorem dX6_goThroughBreaker_43 : decode cX6_goThroughBreaker 43 = .ok (.iconst 0, 1) := by decide +kernel
theorem dX6_goThroughBreaker_44 : decode cX6_goThroughBreaker 44 = .ok (.aload_n 0, 1) := by decide +kernel
theorem dX6_goThroughBreaker_45 : decode cX6_goThroughBreaker 45 = .ok (.getfield 21, 3) := by decide +kernel
theorem dX6_goThroughBreaker_48 : decode cX6_goThroughBreaker 48 = .ok (.getfield 221, 3) := by decide +kernel
theorem dX6_goThroughBreaker_51 : decode cX6_goThroughBreaker 51 = .ok (.iload_n 3, 1) := by decide +kernel
theorem dX6_goThroughBreaker_52 : decode cX6_goThroughBreaker 52 = .ok (.isub, 1) := by decide +kernel
theorem dX6_goThroughBreaker_53 : decode cX6_goThroughBreaker 53 = .ok (.invokevirtual 250, 3) := by decide +kernel
theorem dX6_goThroughBreaker_56 : decode cX6_goThroughBreaker 56 = .ok (.iload 4, 2) := by decide +kernel
theorem dX6_goThroughBreaker_58 : decode cX6_goThroughBreaker 58 = .ok (.ireturn, 1) := by decide +kernel
set_option maxRecDepth 20000 in
theorem ggX6_goThroughBulkhead_X2_add : GoodIn wsX6_goThroughBulkhead wsX2_add := goodIn_r _ [8, 9, 10, 11, 192, 193, 194] (by decide +kernel) (by decide +kernel)
set_option maxRecDepth 20000 in
theorem gX6_goThroughBulkhead_X2_add : GoodIn wsX6_goThroughBulkhead (wsV RX6 254 RX2 yX2_add wsX2_add) := goodIn_app (goodIn_of _ (by decide +kernel)) ggX6_goThroughBulkhead_X2_add
set_option maxRecDepth 20000 in
theorem ggX6_goThroughBulkhead_X6_goIn : GoodIn wsX6_goThroughBulkhead wsX6_goIn := goodIn_r _ [16, 17, 18, 19, 20, 21, 22, 23, 24, 25, 26, 27, 28, 29, 30, 31, 32, 33, 34, 35, 36, 37, 5, 6, 7, 8, 9, 10, 11, 38, 39, 40, 41, 42, 43, 44, 45, 46, 47, 48, 15, 49, 50, 51, 52, 53, 54, 55, 56, 57, 58, 59, 60, 61, 62, 63, 64, 65, 66, 67, 68, 69, 70, 71, 72, 73, 74, 75, 76, 77, 78, 79, 80, 81, 82, 83, 84, 85, 86, 87, 12, 13, 14, 88, 89, 90, 91, 92, 93, 94, 95, 96, 97, 98, 99, 100, 101, 102, 103, 104, 105, 106, 107, 108, 109, 110, 111, 112, 113, 114, 115, 116, 117, 118, 119, 120, 121, 122, 123, 124, 125, 126, 127, 128, 129, 0, 1, 2, 3, 4, 130, 131, 132, 133, 134, 135, 136, 137, 138, 139, 140, 141, 142, 143, 144, 145, 146, 147, 148, 149, 150, 151, 152, 153, 154, 155, 156, 157, 158, 159, 160, 161, 162, 163, 164, 165, 166, 167, 168, 169, 170, 171, 172, 173, 174, 175, 176, 177, 178, 179, 180, 181, 182, 183, 184, 185, 186, 187, 188, 189, 190, 191, 192, 193, 194, 195, 196, 197, 198, 199, 200, 201, 202, 203, 204, 205, 206, 207, 208, 209, 210, 211, 212, 213, 214, 215, 216, 217, 218, 219, 220, 221, 222, 223] (by decide +kernel) (by decide +kernel)
set_option maxRecDepth 20000 in
theorem gX6_goThroughBulkhead_X6_goIn : GoodIn wsX6_goThroughBulkhead (wsV RX6 159 RX6 yX6_goIn wsX6_goIn) := goodIn_app (goodIn_of _ (by decide +kernel)) ggX6_goThroughBulkhead_X6_goIn
theorem dX6_goThroughBulkhead_0 : decode cX6_goThroughBulkhead 0 = .ok (.aload_n 0, 1) := by decide +kernel
theorem dX6_goThroughBulkhead_1 : decode cX6_goThroughBulkhead 1 = .ok (.getfield 66, 3) := by decide +kernel
theorem dX6_goThroughBulkhead_4 : decode cX6_goThroughBulkhead 4 = .ok (.aload_n 0, 1) := by decide +kernel
theorem dX6_goThroughBulkhead_5 : decode cX6_goThroughBulkhead 5 = .ok (.getfield 63, 3) := by decide +kernel
theorem dX6_goThroughBulkhead_8 : decode cX6_goThroughBulkhead 8 = .ok (.if_icmp .lt 14, 3) := by decide +kernel
theorem dX6_goThroughBulkhead_11 : decode cX6_goThroughBulkhead 11 = .ok (.aload_n 0, 1) := by decide +kernel
theorem dX6_goThroughBulkhead_12 : decode cX6_goThroughBulkhead 12 = .ok (.getfield 10, 3) := by decide +kernel
theorem dX6_goThroughBulkhead_15 : decode cX6_goThroughBulkhead 15 = .ok (.bipush 11, 2) := by decide +kernel
theorem dX6_goThroughBulkhead_17 : decode cX6_goThroughBulkhead 17 = .ok (.invokevirtual 254, 3) := by decide +kernel
theorem dX6_goThroughBulkhead_20 : decode cX6_goThroughBulkhead 20 = .ok (.iconst 2, 1) := by decide +kernel
theorem dX6_goThroughBulkhead_21 : decode cX6_goThroughBulkhead 21 = .ok (.ireturn, 1) := by decide +kernel
theorem dX6_goThroughBulkhead_22 : decode cX6_goThroughBulkhead 22 = .ok (.aload_n 0, 1) := by decide +kernel
theorem dX6_goThroughBulkhead_23 : decode cX6_goThroughBulkhead 23 = .ok (.iload_n 1, 1) := by decide +kernel
theorem dX6_goThroughBulkhead_24 : decode cX6_goThroughBulkhead 24 = .ok (.iconst 1, 1) := by decide +kernel
theorem dX6_goThroughBulkhead_25 : decode cX6_goThroughBulkhead 25 = .ok (.isub, 1) := by decide +kernel
theorem dX6_goThroughBulkhead_26 : decode cX6_goThroughBulkhead 26 = .ok (.iload_n 2, 1) := by decide +kernel
theorem dX6_goThroughBulkhead_27 : decode cX6_goThroughBulkhead 27 = .ok (.invokevirtual 159, 3) := by decide +kernel
theorem dX6_goThroughBulkhead_30 : decode cX6_goThroughBulkhead 30 = .ok (.ireturn, 1) := by decide +kernel
set_option maxRecDepth 20000 in
theorem ggX6_goThroughLimiter_X3_takePermit : GoodIn wsX6_goThroughLimiter wsX3_takePermit := goodIn_r _ [6, 7, 8, 9, 10, 11, 12, 13, 14, 15, 5, 16, 17, 18, 19, 20, 21, 22, 23, 24, 25, 26, 27, 28, 29, 30, 31, 32, 33, 34, 35, 36, 37, 212, 213, 214, 215, 216, 217, 218, 195, 196, 192, 193, 194] (by decide +kernel) (by decide +kernel)
set_option maxRecDepth 20000 in
theorem gX6_goThroughLimiter_X3_takePermit : GoodIn wsX6_goThroughLimiter (wsV RX6 258 RX3 yX3_takePermit wsX3_takePermit) := goodIn_app (goodIn_of _ (by decide +kernel)) ggX6_goThroughLimiter_X3_takePermit
set_option maxRecDepth 20000 in
theorem ggX6_goThroughLimiter_X6_goIn : GoodIn wsX6_goThroughLimiter wsX6_goIn := goodIn_r _ [42, 43, 44, 45, 46, 47, 48, 49, 50, 51, 52, 53, 54, 55, 56, 57, 58, 59, 60, 61, 62, 63, 23, 24, 25, 26, 27, 28, 29, 64, 31, 32, 33, 34, 35, 36, 37, 65, 66, 67, 41, 68, 69, 70, 71, 72, 73, 74, 75, 76, 77, 78, 79, 80, 81, 82, 83, 84, 85, 86, 87, 88, 89, 90, 91, 92, 93, 94, 95, 96, 97, 98, 99, 100, 101, 102, 103, 104, 105, 106, 38, 39, 40, 107, 108, 109, 110, 111, 112, 113, 114, 115, 116, 117, 118, 119, 120, 121, 122, 123, 124, 125, 126, 127, 128, 129, 130, 131, 132, 133, 134, 135, 136, 137, 138, 139, 140, 141, 142, 143, 144, 145, 146, 147, 148, 149, 150, 151, 152, 153, 0, 1, 2, 3, 4, 5, 6, 7, 8, 9, 10, 11, 12, 13, 14, 15, 16, 17, 18, 19, 20, 21, 22, 30, 154, 155, 156, 157, 158, 159, 160, 161, 162, 163, 164, 165, 166, 167, 168, 169, 170, 171, 172, 173, 174, 175, 176, 177, 178, 179, 180, 181, 182, 183, 184, 185, 186, 187, 188, 189, 190, 191, 192, 193, 194, 195, 196, 197, 198, 199, 200, 201, 202, 203, 204, 205, 206, 207, 208, 209, 210, 211, 212, 213, 214, 215, 216, 217, 218, 219, 220, 221, 222, 223] (by decide +kernel) (by decide +kernel)
set_option maxRecDepth 20000 in
theorem gX6_goThroughLimiter_X6_goIn : GoodIn wsX6_goThroughLimiter (wsV RX6 159 RX6 yX6_goIn wsX6_goIn) := goodIn_app (goodIn_of _ (by decide +kernel)) ggX6_goThroughLimiter_X6_goIn
theorem dX6_goThroughLimiter_0 : decode cX6_goThroughLimiter 0 = .ok (.aload_n 0, 1) := by decide +kernel
theorem dX6_goThroughLimiter_1 : decode cX6_goThroughLimiter 1 = .ok (.getfield 44, 3) := by decide +kernel
theorem dX6_goThroughLimiter_4 : decode cX6_goThroughLimiter 4 = .ok (.iload_n 2, 1) := by decide +kernel
theorem dX6_goThroughLimiter_5 : decode cX6_goThroughLimiter 5 = .ok (.invokevirtual 258, 3) := by decide +kernel
theorem dX6_goThroughLimiter_8 : decode cX6_goThroughLimiter 8 = .ok (.istore_n 3, 1) := by decide +kernel
theorem dX6_goThroughLimiter_9 : decode cX6_goThroughLimiter 9 = .ok (.iload_n 3, 1) := by decide +kernel
theorem dX6_goThroughLimiter_10 : decode cX6_goThroughLimiter 10 = .ok (.ifCond .ne 14, 3) := by decide +kernel
theorem dX6_goThroughLimiter_13 : decode cX6_goThroughLimiter 13 = .ok (.aload_n 0, 1) := by decide +kernel
theorem dX6_goThroughLimiter_14 : decode cX6_goThroughLimiter 14 = .ok (.iload_n 1, 1) := by decide +kernel
theorem dX6_goThroughLimiter_15 : decode cX6_goThroughLimiter 15 = .ok (.iconst 1, 1) := by decide +kernel
theorem dX6_goThroughLimiter_16 : decode cX6_goThroughLimiter 16 = .ok (.isub, 1) := by decide +kernel
theorem dX6_goThroughLimiter_17 : decode cX6_goThroughLimiter 17 = .ok (.iload_n 2, 1) := by decide +kernel
theorem dX6_goThroughLimiter_18 : decode cX6_goThroughLimiter 18 = .ok (.invokevirtual 159, 3) := by decide +kernel
theorem dX6_goThroughLimiter_21 : decode cX6_goThroughLimiter 21 = .ok (.goto 4, 3) := by decide +kernel
theorem dX6_goThroughLimiter_24 : decode cX6_goThroughLimiter 24 = .ok (.iload_n 3, 1) := by decide +kernel
theorem dX6_goThroughLimiter_25 : decode cX6_goThroughLimiter 25 = .ok (.ireturn, 1) := by decide +kernel
set_option maxRecDepth 20000 in
theorem ggX6_goThroughRetry_X6_goIn : GoodIn wsX6_goThroughRetry wsX6_goIn := goodIn_r _ [37, 38, 39, 40, 41, 42, 43, 44, 45, 46, 47, 48, 49, 50, 51, 52, 53, 54, 55, 56, 57, 58, 15, 16, 17, 18, 19, 20, 21, 59, 30, 31, 32, 33, 34, 35, 36, 60, 61, 62, 7, 63, 64, 65, 66, 67, 68, 69, 70, 71, 72, 73, 74, 75, 76, 3, 77, 78, 79, 80, 81, 82, 83, 84, 85, 86, 87, 88, 89, 90, 91, 92, 93, 94, 95, 96, 97, 98, 99, 100, 4, 5, 6, 101, 102, 103, 104, 105, 106, 107, 108, 109, 110, 111, 112, 113, 114, 115, 116, 117, 118, 119, 120, 121, 122, 123, 124, 125, 126, 127, 128, 129, 130, 131, 132, 133, 134, 135, 136, 137, 138, 139, 140, 141, 142, 143, 144, 145, 2, 14, 146, 147, 148, 149, 150, 151, 152, 153, 154, 155, 156, 157, 158, 159, 160, 161, 162, 163, 164, 165, 166, 167, 168, 169, 0, 1, 8, 9, 10, 11, 12, 13, 22, 23, 24, 25, 26, 27, 28, 29, 170, 171, 172, 173, 174, 175, 176, 177, 178, 179, 180, 181, 182, 183, 184, 185, 186, 187, 188, 189, 190, 191, 192, 193, 194, 195, 196, 197, 198, 199, 200, 201, 202, 203, 204, 205, 206, 207, 208, 209, 210, 211, 212, 213, 214, 215, 216, 217, 218, 219, 220, 221, 222, 223] (by decide +kernel) (by decide +kernel)
set_option maxRecDepth 20000 in
theorem gX6_goThroughRetry_X6_goIn : GoodIn wsX6_goThroughRetry (wsV RX6 159 RX6 yX6_goIn wsX6_goIn) := goodIn_app (goodIn_of _ (by decide +kernel)) ggX6_goThroughRetry_X6_goIn
set_option maxRecDepth 20000 in
theorem ggX6_goThroughRetry_X4_isAgain : GoodIn wsX6_goThroughRetry wsX4_isAgain := goodIn_r _ [12, 13, 219, 220, 221, 222, 223] (by decide +kernel) (by decide +kernel)
set_option maxRecDepth 20000 in
theorem gX6_goThroughRetry_X4_isAgain : GoodIn wsX6_goThroughRetry (wsV RX6 261 RX4 yX4_isAgain wsX4_isAgain) := goodIn_app (goodIn_of _ (by decide +kernel)) ggX6_goThroughRetry_X4_isAgain
set_option maxRecDepth 20000 in
theorem ggX6_goThroughRetry_X2_add : GoodIn wsX6_goThroughRetry wsX2_add := goodIn_r _ [18, 19, 20, 21, 192, 193, 194] (by decide +kernel) (by decide +kernel)
set_option maxRecDepth 20000 in
theorem gX6_goThroughRetry_X2_add : GoodIn wsX6_goThroughRetry (wsV RX6 254 RX2 yX2_add wsX2_add) := goodIn_app (goodIn_of _ (by decide +kernel)) ggX6_goThroughRetry_X2_add
set_option maxRecDepth 20000 in
theorem ggX6_goThroughRetry_X4_ticksAfter : GoodIn wsX6_goThroughRetry wsX4_ticksAfter := goodIn_r _ [25, 26, 27, 28, 219, 220, 221, 222, 223] (by decide +kernel) (by decide +kernel)
set_option maxRecDepth 20000 in
theorem gX6_goThroughRetry_X4_ticksAfter : GoodIn wsX6_goThroughRetry (wsV RX6 264 RX4 yX4_ticksAfter wsX4_ticksAfter) := goodIn_app (goodIn_of _ (by decide +kernel)) ggX6_goThroughRetry_X4_ticksAfter
set_option maxRecDepth 20000 in
theorem ggX6_goThroughRetry_X1_lapse : GoodIn wsX6_goThroughRetry wsX1_lapse := goodIn_r _ [33, 34, 35, 36, 15, 16, 17, 18, 19, 20, 21, 195, 196, 192, 193, 194] (by decide +kernel) (by decide +kernel)
set_option maxRecDepth 20000 in
theorem gX6_goThroughRetry_X1_lapse : GoodIn wsX6_goThroughRetry (wsV RX6 155 RX1 yX1_lapse wsX1_lapse) := goodIn_app (goodIn_of _ (by decide +kernel)) ggX6_goThroughRetry_X1_lapse
theorem dX6_goThroughRetry_0 : decode cX6_goThroughRetry 0 = .ok (.iconst 1, 1) := by decide +kernel
theorem dX6_goThroughRetry_1 : decode cX6_goThroughRetry 1 = .ok (.istore_n 3, 1) := by decide +kernel
theorem dX6_goThroughRetry_2 : decode cX6_goThroughRetry 2 = .ok (.iload_n 3, 1) := by decide +kernel
theorem dX6_goThroughRetry_3 : decode cX6_goThroughRetry 3 = .ok (.aload_n 0, 1) := by decide +kernel
theorem dX6_goThroughRetry_4 : decode cX6_goThroughRetry 4 = .ok (.getfield 51, 3) := by decide +kernel
theorem dX6_goThroughRetry_7 : decode cX6_goThroughRetry 7 = .ok (.getfield 120, 3) := by decide +kernel
theorem dX6_goThroughRetry_10 : decode cX6_goThroughRetry 10 = .ok (.if_icmp .ge 65, 3) := by decide +kernel
theorem dX6_goThroughRetry_13 : decode cX6_goThroughRetry 13 = .ok (.aload_n 0, 1) := by decide +kernel
theorem dX6_goThroughRetry_14 : decode cX6_goThroughRetry 14 = .ok (.iload_n 1, 1) := by decide +kernel
theorem dX6_goThroughRetry_15 : decode cX6_goThroughRetry 15 = .ok (.iconst 1, 1) := by decide +kernel
theorem dX6_goThroughRetry_16 : decode cX6_goThroughRetry 16 = .ok (.isub, 1) := by decide +kernel
theorem dX6_goThroughRetry_17 : decode cX6_goThroughRetry 17 = .ok (.iload_n 2, 1) := by decide +kernel
theorem dX6_goThroughRetry_18 : decode cX6_goThroughRetry 18 = .ok (.invokevirtual 159, 3) := by decide +kernel
theorem dX6_goThroughRetry_21 : decode cX6_goThroughRetry 21 = .ok (.istore 4, 2) := by decide +kernel
theorem dX6_goThroughRetry_23 : decode cX6_goThroughRetry 23 = .ok (.aload_n 0, 1) := by decide +kernel
theorem dX6_goThroughRetry_24 : decode cX6_goThroughRetry 24 = .ok (.getfield 51, 3) := by decide +kernel
theorem dX6_goThroughRetry_27 : decode cX6_goThroughRetry 27 = .ok (.iload 4, 2) := by decide +kernel
theorem dX6_goThroughRetry_29 : decode cX6_goThroughRetry 29 = .ok (.invokevirtual 261, 3) := by decide +kernel
theorem dX6_goThroughRetry_32 : decode cX6_goThroughRetry 32 = .ok (.ifCond .ne 6, 3) := by decide +kernel
theorem dX6_goThroughRetry_35 : decode cX6_goThroughRetry 35 = .ok (.iload 4, 2) := by decide +kernel
theorem dX6_goThroughRetry_37 : decode cX6_goThroughRetry 37 = .ok (.ireturn, 1) := by decide +kernel
theorem dX6_goThroughRetry_38 : decode cX6_goThroughRetry 38 = .ok (.aload_n 0, 1) := by decide +kernel
theorem dX6_goThroughRetry_39 : decode cX6_goThroughRetry 39 = .ok (.getfield 10, 3) := by decide +kernel
theorem dX6_goThroughRetry_42 : decode cX6_goThroughRetry 42 = .ok (.bipush 31, 2) := by decide +kernel
theorem dX6_goThroughRetry_44 : decode cX6_goThroughRetry 44 = .ok (.invokevirtual 254, 3) := by decide +kernel
theorem dX6_goThroughRetry_47 : decode cX6_goThroughRetry 47 = .ok (.aload_n 0, 1) := by decide +kernel
theorem dX6_goThroughRetry_48 : decode cX6_goThroughRetry 48 = .ok (.getfield 21, 3) := by decide +kernel
theorem dX6_goThroughRetry_51 : decode cX6_goThroughRetry 51 = .ok (.aload_n 0, 1) := by decide +kernel
theorem dX6_goThroughRetry_52 : decode cX6_goThroughRetry 52 = .ok (.getfield 51, 3) := by decide +kernel
theorem dX6_goThroughRetry_55 : decode cX6_goThroughRetry 55 = .ok (.iload_n 3, 1) := by decide +kernel
theorem dX6_goThroughRetry_56 : decode cX6_goThroughRetry 56 = .ok (.invokevirtual 264, 3) := by decide +kernel
theorem dX6_goThroughRetry_59 : decode cX6_goThroughRetry 59 = .ok (.iload_n 2, 1) := by decide +kernel
theorem dX6_goThroughRetry_60 : decode cX6_goThroughRetry 60 = .ok (.invokevirtual 155, 3) := by decide +kernel
theorem dX6_goThroughRetry_63 : decode cX6_goThroughRetry 63 = .ok (.ifCond .ne 6, 3) := by decide +kernel
theorem dX6_goThroughRetry_66 : decode cX6_goThroughRetry 66 = .ok (.bipush 8, 2) := by decide +kernel
theorem dX6_goThroughRetry_68 : decode cX6_goThroughRetry 68 = .ok (.ireturn, 1) := by decide +kernel
theorem dX6_goThroughRetry_69 : decode cX6_goThroughRetry 69 = .ok (.iinc 3 1, 3) := by decide +kernel
theorem dX6_goThroughRetry_72 : decode cX6_goThroughRetry 72 = .ok (.goto (-70), 3) := by decide +kernel
theorem dX6_goThroughRetry_75 : decode cX6_goThroughRetry 75 = .ok (.aload_n 0, 1) := by decide +kernel
theorem dX6_goThroughRetry_76 : decode cX6_goThroughRetry 76 = .ok (.iload_n 1, 1) := by decide +kernel
theorem dX6_goThroughRetry_77 : decode cX6_goThroughRetry 77 = .ok (.iconst 1, 1) := by decide +kernel
theorem dX6_goThroughRetry_78 : decode cX6_goThroughRetry 78 = .ok (.isub, 1) := by decide +kernel
theorem dX6_goThroughRetry_79 : decode cX6_goThroughRetry 79 = .ok (.iload_n 2, 1) := by decide +kernel
theorem dX6_goThroughRetry_80 : decode cX6_goThroughRetry 80 = .ok (.invokevirtual 159, 3) := by decide +kernel
theorem dX6_goThroughRetry_83 : decode cX6_goThroughRetry 83 = .ok (.istore_n 3, 1) := by decide +kernel
theorem dX6_goThroughRetry_84 : decode cX6_goThroughRetry 84 = .ok (.aload_n 0, 1) := by decide +kernel
theorem dX6_goThroughRetry_85 : decode cX6_goThroughRetry 85 = .ok (.getfield 51, 3) := by decide +kernel
theorem dX6_goThroughRetry_88 : decode cX6_goThroughRetry 88 = .ok (.iload_n 3, 1) := by decide +kernel
theorem dX6_goThroughRetry_89 : decode cX6_goThroughRetry 89 = .ok (.invokevirtual 261, 3) := by decide +kernel
theorem dX6_goThroughRetry_92 : decode cX6_goThroughRetry 92 = .ok (.ifCond .eq 12, 3) := by decide +kernel
theorem dX6_goThroughRetry_95 : decode cX6_goThroughRetry 95 = .ok (.aload_n 0, 1) := by decide +kernel
theorem dX6_goThroughRetry_96 : decode cX6_goThroughRetry 96 = .ok (.getfield 10, 3) := by decide +kernel
theorem dX6_goThroughRetry_99 : decode cX6_goThroughRetry 99 = .ok (.bipush 32, 2) := by decide +kernel
theorem dX6_goThroughRetry_101 : decode cX6_goThroughRetry 101 = .ok (.invokevirtual 254, 3) := by decide +kernel
theorem dX6_goThroughRetry_104 : decode cX6_goThroughRetry 104 = .ok (.iload_n 3, 1) := by decide +kernel
theorem dX6_goThroughRetry_105 : decode cX6_goThroughRetry 105 = .ok (.ireturn, 1) := by decide +kernel
set_option maxRecDepth 20000 in
theorem ggX6_goThroughTimer_X6_goIn : GoodIn wsX6_goThroughTimer wsX6_goIn := goodIn_r _ [7, 8, 9, 10, 11, 12, 13, 14, 15, 16, 17, 18, 19, 20, 21, 22, 23, 24, 25, 26, 27, 28, 29, 30, 31, 32, 33, 34, 35, 36, 37, 38, 39, 40, 41, 42, 43, 44, 45, 46, 6, 47, 48, 49, 50, 51, 52, 53, 54, 55, 56, 57, 58, 59, 60, 1, 61, 62, 63, 64, 65, 66, 67, 68, 69, 70, 71, 72, 73, 74, 75, 76, 77, 78, 79, 80, 81, 82, 83, 84, 3, 4, 5, 85, 86, 87, 88, 89, 90, 91, 92, 93, 94, 95, 96, 97, 98, 99, 100, 101, 102, 103, 104, 105, 106, 107, 108, 109, 110, 111, 112, 113, 114, 115, 116, 117, 118, 119, 120, 121, 122, 123, 124, 125, 126, 127, 128, 129, 130, 131, 132, 133, 134, 135, 136, 137, 138, 139, 140, 141, 142, 143, 144, 145, 146, 147, 148, 149, 150, 151, 152, 153, 154, 155, 156, 157, 158, 159, 160, 161, 162, 163, 164, 165, 166, 167, 168, 169, 170, 171, 0, 2, 172, 173, 174, 175, 176, 177, 178, 179, 180, 181, 182, 183, 184, 185, 186, 187, 188, 189, 190, 191, 192, 193, 194, 195, 196, 197, 198, 199, 200, 201, 202, 203, 204, 205, 206, 207, 208, 209, 210, 211, 212, 213, 214, 215, 216, 217, 218, 219, 220, 221, 222, 223] (by decide +kernel) (by decide +kernel)
set_option maxRecDepth 20000 in
theorem gX6_goThroughTimer_X6_goIn : GoodIn wsX6_goThroughTimer (wsV RX6 159 RX6 yX6_goIn wsX6_goIn) := goodIn_app (goodIn_of _ (by decide +kernel)) ggX6_goThroughTimer_X6_goIn
theorem dX6_goThroughTimer_0 : decode cX6_goThroughTimer 0 = .ok (.aload_n 0, 1) := by decide +kernel
theorem dX6_goThroughTimer_1 : decode cX6_goThroughTimer 1 = .ok (.iload_n 1, 1) := by decide +kernel
theorem dX6_goThroughTimer_2 : decode cX6_goThroughTimer 2 = .ok (.iconst 1, 1) := by decide +kernel
theorem dX6_goThroughTimer_3 : decode cX6_goThroughTimer 3 = .ok (.isub, 1) := by decide +kernel
theorem dX6_goThroughTimer_4 : decode cX6_goThroughTimer 4 = .ok (.aload_n 0, 1) := by decide +kernel
theorem dX6_goThroughTimer_5 : decode cX6_goThroughTimer 5 = .ok (.getfield 21, 3) := by decide +kernel
theorem dX6_goThroughTimer_8 : decode cX6_goThroughTimer 8 = .ok (.getfield 221, 3) := by decide +kernel
theorem dX6_goThroughTimer_11 : decode cX6_goThroughTimer 11 = .ok (.aload_n 0, 1) := by decide +kernel
theorem dX6_goThroughTimer_12 : decode cX6_goThroughTimer 12 = .ok (.getfield 69, 3) := by decide +kernel
theorem dX6_goThroughTimer_15 : decode cX6_goThroughTimer 15 = .ok (.iadd, 1) := by decide +kernel
theorem dX6_goThroughTimer_16 : decode cX6_goThroughTimer 16 = .ok (.invokevirtual 159, 3) := by decide +kernel
theorem dX6_goThroughTimer_19 : decode cX6_goThroughTimer 19 = .ok (.ireturn, 1) := by decide +kernel
theorem dX6_isWithin_0 : decode cX6_isWithin 0 = .ok (.iload_n 0, 1) := by decide +kernel
theorem dX6_isWithin_1 : decode cX6_isWithin 1 = .ok (.iload_n 1, 1) := by decide +kernel
theorem dX6_isWithin_2 : decode cX6_isWithin 2 = .ok (.if_icmp .lt 12, 3) := by decide +kernel
theorem dX6_isWithin_5 : decode cX6_isWithin 5 = .ok (.iload_n 0, 1) := by decide +kernel
theorem dX6_isWithin_6 : decode cX6_isWithin 6 = .ok (.iload_n 2, 1) := by decide +kernel
theorem dX6_isWithin_7 : decode cX6_isWithin 7 = .ok (.if_icmp .gt 7, 3) := by decide +kernel
theorem dX6_isWithin_10 : decode cX6_isWithin 10 = .ok (.iconst 1, 1) := by decide +kernel
theorem dX6_isWithin_11 : decode cX6_isWithin 11 = .ok (.goto 4, 3) := by decide +kernel
theorem dX6_isWithin_14 : decode cX6_isWithin 14 = .ok (.iconst 0, 1) := by decide +kernel
theorem dX6_isWithin_15 : decode cX6_isWithin 15 = .ok (.ireturn, 1) := by decide +kernel
theorem dX6_isBetween_0 : decode cX6_isBetween 0 = .ok (.dload_n 0, 1) := by decide +kernel
theorem dX6_isBetween_1 : decode cX6_isBetween 1 = .ok (.dload_n 2, 1) := by decide +kernel
theorem dX6_isBetween_2 : decode cX6_isBetween 2 = .ok (.dcmp .l, 1) := by decide +kernel
theorem dX6_isBetween_3 : decode cX6_isBetween 3 = .ok (.ifCond .lt 14, 3) := by decide +kernel
theorem dX6_isBetween_6 : decode cX6_isBetween 6 = .ok (.dload_n 0, 1) := by decide +kernel
theorem dX6_isBetween_7 : decode cX6_isBetween 7 = .ok (.dload 4, 2) := by decide +kernel
theorem dX6_isBetween_9 : decode cX6_isBetween 9 = .ok (.dcmp .g, 1) := by decide +kernel
theorem dX6_isBetween_10 : decode cX6_isBetween 10 = .ok (.ifCond .gt 7, 3) := by decide +kernel
theorem dX6_isBetween_13 : decode cX6_isBetween 13 = .ok (.iconst 1, 1) := by decide +kernel
theorem dX6_isBetween_14 : decode cX6_isBetween 14 = .ok (.goto 4, 3) := by decide +kernel
theorem dX6_isBetween_17 : decode cX6_isBetween 17 = .ok (.iconst 0, 1) := by decide +kernel
theorem dX6_isBetween_18 : decode cX6_isBetween 18 = .ok (.ireturn, 1) := by decide +kernel
theorem dX6_isRate_0 : decode cX6_isRate 0 = .ok (.dload_n 0, 1) := by decide +kernel
theorem dX6_isRate_1 : decode cX6_isRate 1 = .ok (.dconst 0, 1) := by decide +kernel
theorem dX6_isRate_2 : decode cX6_isRate 2 = .ok (.dcmp .l, 1) := by decide +kernel
theorem dX6_isRate_3 : decode cX6_isRate 3 = .ok (.ifCond .le 15, 3) := by decide +kernel
theorem dX6_isRate_6 : decode cX6_isRate 6 = .ok (.dload_n 0, 1) := by decide +kernel
theorem dX6_isRate_7 : decode cX6_isRate 7 = .ok (.ldc2_w 136, 3) := by decide +kernel
theorem dX6_isRate_10 : decode cX6_isRate 10 = .ok (.dcmp .g, 1) := by decide +kernel
theorem dX6_isRate_11 : decode cX6_isRate 11 = .ok (.ifCond .gt 7, 3) := by decide +kernel
theorem dX6_isRate_14 : decode cX6_isRate 14 = .ok (.iconst 1, 1) := by decide +kernel
theorem dX6_isRate_15 : decode cX6_isRate 15 = .ok (.goto 4, 3) := by decide +kernel
theorem dX6_isRate_18 : decode cX6_isRate 18 = .ok (.iconst 0, 1) := by decide +kernel
theorem dX6_isRate_19 : decode cX6_isRate 19 = .ok (.ireturn, 1) := by decide +kernel
