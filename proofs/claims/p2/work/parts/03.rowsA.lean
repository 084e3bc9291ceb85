theorem dX0_init_0 : decode cX0_init 0 = .ok (.aload_n 0, 1) := by decide +kernel
theorem dX0_init_1 : decode cX0_init 1 = .ok (.invokespecial 3, 3) := by decide +kernel
theorem dX0_init_4 : decode cX0_init 4 = .ok (.aload_n 0, 1) := by decide +kernel
theorem dX0_init_5 : decode cX0_init 5 = .ok (.aload_n 1, 1) := by decide +kernel
theorem dX0_init_6 : decode cX0_init 6 = .ok (.putfield 9, 3) := by decide +kernel
theorem dX0_init_9 : decode cX0_init 9 = .ok (.aload_n 0, 1) := by decide +kernel
theorem dX0_init_10 : decode cX0_init 10 = .ok (.aload_n 2, 1) := by decide +kernel
theorem dX0_init_11 : decode cX0_init 11 = .ok (.putfield 15, 3) := by decide +kernel
theorem dX0_init_14 : decode cX0_init 14 = .ok (.aload_n 0, 1) := by decide +kernel
theorem dX0_init_15 : decode cX0_init 15 = .ok (.iconst 4, 1) := by decide +kernel
theorem dX0_init_16 : decode cX0_init 16 = .ok (.putfield 19, 3) := by decide +kernel
theorem dX0_init_19 : decode cX0_init 19 = .ok (.aload_n 0, 1) := by decide +kernel
theorem dX0_init_20 : decode cX0_init 20 = .ok (.iconst 2, 1) := by decide +kernel
theorem dX0_init_21 : decode cX0_init 21 = .ok (.putfield 23, 3) := by decide +kernel
theorem dX0_init_24 : decode cX0_init 24 = .ok (.aload_n 0, 1) := by decide +kernel
theorem dX0_init_25 : decode cX0_init 25 = .ok (.bipush 10, 2) := by decide +kernel
theorem dX0_init_27 : decode cX0_init 27 = .ok (.putfield 26, 3) := by decide +kernel
theorem dX0_init_30 : decode cX0_init 30 = .ok (.aload_n 0, 1) := by decide +kernel
theorem dX0_init_31 : decode cX0_init 31 = .ok (.iconst 2, 1) := by decide +kernel
theorem dX0_init_32 : decode cX0_init 32 = .ok (.putfield 29, 3) := by decide +kernel
theorem dX0_init_35 : decode cX0_init 35 = .ok (.aload_n 0, 1) := by decide +kernel
theorem dX0_init_36 : decode cX0_init 36 = .ok (.ldc2_w 32, 3) := by decide +kernel
theorem dX0_init_39 : decode cX0_init 39 = .ok (.putfield 34, 3) := by decide +kernel
theorem dX0_init_42 : decode cX0_init 42 = .ok (.aload_n 0, 1) := by decide +kernel
theorem dX0_init_43 : decode cX0_init 43 = .ok (.ldc2_w 38, 3) := by decide +kernel
theorem dX0_init_46 : decode cX0_init 46 = .ok (.putfield 40, 3) := by decide +kernel
theorem dX0_init_49 : decode cX0_init 49 = .ok (.aload_n 0, 1) := by decide +kernel
theorem dX0_init_50 : decode cX0_init 50 = .ok (.iconst 5, 1) := by decide +kernel
theorem dX0_init_51 : decode cX0_init 51 = .ok (.putfield 43, 3) := by decide +kernel
theorem dX0_init_54 : decode cX0_init 54 = .ok (.aload_n 0, 1) := by decide +kernel
theorem dX0_init_55 : decode cX0_init 55 = .ok (.iconst 0, 1) := by decide +kernel
theorem dX0_init_56 : decode cX0_init 56 = .ok (.putfield 46, 3) := by decide +kernel
theorem dX0_init_59 : decode cX0_init 59 = .ok (.aload_n 0, 1) := by decide +kernel
theorem dX0_init_60 : decode cX0_init 60 = .ok (.iconst 0, 1) := by decide +kernel
theorem dX0_init_61 : decode cX0_init 61 = .ok (.putfield 49, 3) := by decide +kernel
theorem dX0_init_64 : decode cX0_init 64 = .ok (.aload_n 0, 1) := by decide +kernel
theorem dX0_init_65 : decode cX0_init 65 = .ok (.iconst 0, 1) := by decide +kernel
theorem dX0_init_66 : decode cX0_init 66 = .ok (.putfield 52, 3) := by decide +kernel
theorem dX0_init_69 : decode cX0_init 69 = .ok (.aload_n 0, 1) := by decide +kernel
theorem dX0_init_70 : decode cX0_init 70 = .ok (.iconst 0, 1) := by decide +kernel
theorem dX0_init_71 : decode cX0_init 71 = .ok (.putfield 55, 3) := by decide +kernel
theorem dX0_init_74 : decode cX0_init 74 = .ok (.aload_n 0, 1) := by decide +kernel
theorem dX0_init_75 : decode cX0_init 75 = .ok (.iconst 0, 1) := by decide +kernel
theorem dX0_init_76 : decode cX0_init 76 = .ok (.putfield 58, 3) := by decide +kernel
theorem dX0_init_79 : decode cX0_init 79 = .ok (.aload_n 0, 1) := by decide +kernel
theorem dX0_init_80 : decode cX0_init 80 = .ok (.iconst 0, 1) := by decide +kernel
theorem dX0_init_81 : decode cX0_init 81 = .ok (.putfield 61, 3) := by decide +kernel
theorem dX0_init_84 : decode cX0_init 84 = .ok (.return_, 1) := by decide +kernel
theorem dX0_emptyWindow_0 : decode cX0_emptyWindow 0 = .ok (.aload_n 0, 1) := by decide +kernel
theorem dX0_emptyWindow_1 : decode cX0_emptyWindow 1 = .ok (.iconst 0, 1) := by decide +kernel
theorem dX0_emptyWindow_2 : decode cX0_emptyWindow 2 = .ok (.putfield 55, 3) := by decide +kernel
theorem dX0_emptyWindow_5 : decode cX0_emptyWindow 5 = .ok (.aload_n 0, 1) := by decide +kernel
theorem dX0_emptyWindow_6 : decode cX0_emptyWindow 6 = .ok (.iconst 0, 1) := by decide +kernel
theorem dX0_emptyWindow_7 : decode cX0_emptyWindow 7 = .ok (.putfield 58, 3) := by decide +kernel
theorem dX0_emptyWindow_10 : decode cX0_emptyWindow 10 = .ok (.aload_n 0, 1) := by decide +kernel
theorem dX0_emptyWindow_11 : decode cX0_emptyWindow 11 = .ok (.iconst 0, 1) := by decide +kernel
theorem dX0_emptyWindow_12 : decode cX0_emptyWindow 12 = .ok (.putfield 61, 3) := by decide +kernel
theorem dX0_emptyWindow_15 : decode cX0_emptyWindow 15 = .ok (.return_, 1) := by decide +kernel
set_option maxRecDepth 20000 in
theorem ggX0_letsIn_X0_halfOpen : GoodIn wsX0_letsIn wsX0_halfOpen := goodIn_r _ [12, 1, 5, 7, 13, 14, 15, 11, 16, 17, 18, 19, 20, 21, 22, 23, 24, 25, 26, 27, 28, 29, 30, 31, 32, 33, 34, 35, 36, 37, 38, 39, 40, 41, 42, 45, 46, 47] (by decide +kernel) (by decide +kernel)
set_option maxRecDepth 20000 in
theorem gX0_letsIn_X0_halfOpen : GoodIn wsX0_letsIn (wsV RX0 69 RX0 yX0_halfOpen wsX0_halfOpen) := goodIn_app (goodIn_of _ (by decide +kernel)) ggX0_letsIn_X0_halfOpen
set_option maxRecDepth 20000 in
theorem ggX0_letsIn_X2_add : GoodIn wsX0_letsIn wsX2_add := goodIn_r _ [24, 25, 26, 27, 45, 46, 47] (by decide +kernel) (by decide +kernel)
set_option maxRecDepth 20000 in
theorem gX0_letsIn_X2_add : GoodIn wsX0_letsIn (wsV RX0 72 RX2 yX2_add wsX2_add) := goodIn_app (goodIn_of _ (by decide +kernel)) ggX0_letsIn_X2_add
theorem dX0_letsIn_0 : decode cX0_letsIn 0 = .ok (.aload_n 0, 1) := by decide +kernel
theorem dX0_letsIn_1 : decode cX0_letsIn 1 = .ok (.getfield 46, 3) := by decide +kernel
theorem dX0_letsIn_4 : decode cX0_letsIn 4 = .ok (.iconst 1, 1) := by decide +kernel
theorem dX0_letsIn_5 : decode cX0_letsIn 5 = .ok (.if_icmp .ne 26, 3) := by decide +kernel
theorem dX0_letsIn_8 : decode cX0_letsIn 8 = .ok (.aload_n 0, 1) := by decide +kernel
theorem dX0_letsIn_9 : decode cX0_letsIn 9 = .ok (.getfield 9, 3) := by decide +kernel
theorem dX0_letsIn_12 : decode cX0_letsIn 12 = .ok (.getfield 64, 3) := by decide +kernel
theorem dX0_letsIn_15 : decode cX0_letsIn 15 = .ok (.aload_n 0, 1) := by decide +kernel
theorem dX0_letsIn_16 : decode cX0_letsIn 16 = .ok (.getfield 49, 3) := by decide +kernel
theorem dX0_letsIn_19 : decode cX0_letsIn 19 = .ok (.isub, 1) := by decide +kernel
theorem dX0_letsIn_20 : decode cX0_letsIn 20 = .ok (.aload_n 0, 1) := by decide +kernel
theorem dX0_letsIn_21 : decode cX0_letsIn 21 = .ok (.getfield 26, 3) := by decide +kernel
theorem dX0_letsIn_24 : decode cX0_letsIn 24 = .ok (.if_icmp .lt 7, 3) := by decide +kernel
theorem dX0_letsIn_27 : decode cX0_letsIn 27 = .ok (.aload_n 0, 1) := by decide +kernel
theorem dX0_letsIn_28 : decode cX0_letsIn 28 = .ok (.invokevirtual 69, 3) := by decide +kernel
theorem dX0_letsIn_31 : decode cX0_letsIn 31 = .ok (.aload_n 0, 1) := by decide +kernel
theorem dX0_letsIn_32 : decode cX0_letsIn 32 = .ok (.getfield 46, 3) := by decide +kernel
theorem dX0_letsIn_35 : decode cX0_letsIn 35 = .ok (.iconst 1, 1) := by decide +kernel
theorem dX0_letsIn_36 : decode cX0_letsIn 36 = .ok (.if_icmp .eq 22, 3) := by decide +kernel
theorem dX0_letsIn_39 : decode cX0_letsIn 39 = .ok (.aload_n 0, 1) := by decide +kernel
theorem dX0_letsIn_40 : decode cX0_letsIn 40 = .ok (.getfield 46, 3) := by decide +kernel
theorem dX0_letsIn_43 : decode cX0_letsIn 43 = .ok (.iconst 2, 1) := by decide +kernel
theorem dX0_letsIn_44 : decode cX0_letsIn 44 = .ok (.if_icmp .ne 24, 3) := by decide +kernel
theorem dX0_letsIn_47 : decode cX0_letsIn 47 = .ok (.aload_n 0, 1) := by decide +kernel
theorem dX0_letsIn_48 : decode cX0_letsIn 48 = .ok (.getfield 52, 3) := by decide +kernel
theorem dX0_letsIn_51 : decode cX0_letsIn 51 = .ok (.aload_n 0, 1) := by decide +kernel
theorem dX0_letsIn_52 : decode cX0_letsIn 52 = .ok (.getfield 29, 3) := by decide +kernel
theorem dX0_letsIn_55 : decode cX0_letsIn 55 = .ok (.if_icmp .lt 13, 3) := by decide +kernel
theorem dX0_letsIn_58 : decode cX0_letsIn 58 = .ok (.aload_n 0, 1) := by decide +kernel
theorem dX0_letsIn_59 : decode cX0_letsIn 59 = .ok (.getfield 15, 3) := by decide +kernel
theorem dX0_letsIn_62 : decode cX0_letsIn 62 = .ok (.iconst 1, 1) := by decide +kernel
theorem dX0_letsIn_63 : decode cX0_letsIn 63 = .ok (.invokevirtual 72, 3) := by decide +kernel
theorem dX0_letsIn_66 : decode cX0_letsIn 66 = .ok (.iconst 0, 1) := by decide +kernel
theorem dX0_letsIn_67 : decode cX0_letsIn 67 = .ok (.ireturn, 1) := by decide +kernel
theorem dX0_letsIn_68 : decode cX0_letsIn 68 = .ok (.aload_n 0, 1) := by decide +kernel
theorem dX0_letsIn_69 : decode cX0_letsIn 69 = .ok (.getfield 46, 3) := by decide +kernel
theorem dX0_letsIn_72 : decode cX0_letsIn 72 = .ok (.iconst 2, 1) := by decide +kernel
theorem dX0_letsIn_73 : decode cX0_letsIn 73 = .ok (.if_icmp .ne 13, 3) := by decide +kernel
theorem dX0_letsIn_76 : decode cX0_letsIn 76 = .ok (.aload_n 0, 1) := by decide +kernel
theorem dX0_letsIn_77 : decode cX0_letsIn 77 = .ok (.dup, 1) := by decide +kernel
theorem dX0_letsIn_78 : decode cX0_letsIn 78 = .ok (.getfield 52, 3) := by decide +kernel
theorem dX0_letsIn_81 : decode cX0_letsIn 81 = .ok (.iconst 1, 1) := by decide +kernel
theorem dX0_letsIn_82 : decode cX0_letsIn 82 = .ok (.iadd, 1) := by decide +kernel
theorem dX0_letsIn_83 : decode cX0_letsIn 83 = .ok (.putfield 52, 3) := by decide +kernel
theorem dX0_letsIn_86 : decode cX0_letsIn 86 = .ok (.iconst 1, 1) := by decide +kernel
theorem dX0_letsIn_87 : decode cX0_letsIn 87 = .ok (.ireturn, 1) := by decide +kernel
set_option maxRecDepth 20000 in
theorem ggX0_learn_X0_remember : GoodIn wsX0_learn wsX0_remember := goodIn_r _ [9, 10, 11, 12, 3, 60, 61, 62, 63, 64, 65, 66, 67, 68, 69, 70, 71, 72, 73, 74] (by decide +kernel) (by decide +kernel)
set_option maxRecDepth 20000 in
theorem gX0_learn_X0_remember : GoodIn wsX0_learn (wsV RX0 78 RX0 yX0_remember wsX0_remember) := goodIn_app (goodIn_of _ (by decide +kernel)) ggX0_learn_X0_remember
set_option maxRecDepth 20000 in
theorem ggX0_learn_X0_decideTrials : GoodIn wsX0_learn wsX0_decideTrials := goodIn_r _ [16, 3, 17, 18, 19, 20, 8, 21, 11, 22, 12, 23, 24, 25, 26, 27, 28, 29, 30, 31, 32, 33, 34, 35, 36, 37, 38, 39, 40, 2, 41, 42, 43, 44, 45, 46, 47, 48, 49, 50, 51, 52, 53, 54, 55, 56, 57, 58, 59, 60, 61, 62, 63, 64, 65, 66, 67, 68, 69, 70, 71, 72, 73, 74, 75, 76, 77, 78, 79] (by decide +kernel) (by decide +kernel)
set_option maxRecDepth 20000 in
theorem gX0_learn_X0_decideTrials : GoodIn wsX0_learn (wsV RX0 82 RX0 yX0_decideTrials wsX0_decideTrials) := goodIn_app (goodIn_of _ (by decide +kernel)) ggX0_learn_X0_decideTrials
set_option maxRecDepth 20000 in
theorem ggX0_learn_X0_isTripped : GoodIn wsX0_learn wsX0_isTripped := goodIn_r _ [21, 11, 22, 12, 23, 24, 25, 26, 8, 27, 3, 28, 29, 30, 31, 32, 33, 34, 35, 36, 60, 61, 62, 63, 64, 65, 66, 67, 68, 69, 70, 71, 72, 73, 74] (by decide +kernel) (by decide +kernel)
set_option maxRecDepth 20000 in
theorem gX0_learn_X0_isTripped : GoodIn wsX0_learn (wsV RX0 85 RX0 yX0_isTripped wsX0_isTripped) := goodIn_app (goodIn_of _ (by decide +kernel)) ggX0_learn_X0_isTripped
set_option maxRecDepth 20000 in
theorem ggX0_learn_X0_open : GoodIn wsX0_learn wsX0_open := goodIn_r _ [40, 2, 41, 42, 43, 44, 45, 46, 8, 47, 3, 11, 12, 48, 49, 50, 51, 52, 53, 54, 55, 60, 61, 62, 63, 64, 65, 66, 67, 68, 69, 70, 71, 72, 73, 74, 75, 76, 77, 78, 79] (by decide +kernel) (by decide +kernel)
set_option maxRecDepth 20000 in
theorem gX0_learn_X0_open : GoodIn wsX0_learn (wsV RX0 89 RX0 yX0_open wsX0_open) := goodIn_app (goodIn_of _ (by decide +kernel)) ggX0_learn_X0_open
theorem dX0_learn_0 : decode cX0_learn 0 = .ok (.aload_n 0, 1) := by decide +kernel
theorem dX0_learn_1 : decode cX0_learn 1 = .ok (.iload_n 1, 1) := by decide +kernel
theorem dX0_learn_2 : decode cX0_learn 2 = .ok (.iload_n 2, 1) := by decide +kernel
theorem dX0_learn_3 : decode cX0_learn 3 = .ok (.aload_n 0, 1) := by decide +kernel
theorem dX0_learn_4 : decode cX0_learn 4 = .ok (.getfield 43, 3) := by decide +kernel
theorem dX0_learn_7 : decode cX0_learn 7 = .ok (.if_icmp .lt 7, 3) := by decide +kernel
theorem dX0_learn_10 : decode cX0_learn 10 = .ok (.iconst 1, 1) := by decide +kernel
theorem dX0_learn_11 : decode cX0_learn 11 = .ok (.goto 4, 3) := by decide +kernel
theorem dX0_learn_14 : decode cX0_learn 14 = .ok (.iconst 0, 1) := by decide +kernel
theorem dX0_learn_15 : decode cX0_learn 15 = .ok (.invokevirtual 78, 3) := by decide +kernel
theorem dX0_learn_18 : decode cX0_learn 18 = .ok (.aload_n 0, 1) := by decide +kernel
theorem dX0_learn_19 : decode cX0_learn 19 = .ok (.getfield 46, 3) := by decide +kernel
theorem dX0_learn_22 : decode cX0_learn 22 = .ok (.iconst 2, 1) := by decide +kernel
theorem dX0_learn_23 : decode cX0_learn 23 = .ok (.if_icmp .ne 10, 3) := by decide +kernel
theorem dX0_learn_26 : decode cX0_learn 26 = .ok (.aload_n 0, 1) := by decide +kernel
theorem dX0_learn_27 : decode cX0_learn 27 = .ok (.invokevirtual 82, 3) := by decide +kernel
theorem dX0_learn_30 : decode cX0_learn 30 = .ok (.goto 25, 3) := by decide +kernel
theorem dX0_learn_33 : decode cX0_learn 33 = .ok (.aload_n 0, 1) := by decide +kernel
theorem dX0_learn_34 : decode cX0_learn 34 = .ok (.getfield 55, 3) := by decide +kernel
theorem dX0_learn_37 : decode cX0_learn 37 = .ok (.aload_n 0, 1) := by decide +kernel
theorem dX0_learn_38 : decode cX0_learn 38 = .ok (.getfield 23, 3) := by decide +kernel
theorem dX0_learn_41 : decode cX0_learn 41 = .ok (.if_icmp .lt 14, 3) := by decide +kernel
theorem dX0_learn_44 : decode cX0_learn 44 = .ok (.aload_n 0, 1) := by decide +kernel
theorem dX0_learn_45 : decode cX0_learn 45 = .ok (.invokevirtual 85, 3) := by decide +kernel
theorem dX0_learn_48 : decode cX0_learn 48 = .ok (.ifCond .eq 7, 3) := by decide +kernel
theorem dX0_learn_51 : decode cX0_learn 51 = .ok (.aload_n 0, 1) := by decide +kernel
theorem dX0_learn_52 : decode cX0_learn 52 = .ok (.invokevirtual 89, 3) := by decide +kernel
theorem dX0_learn_55 : decode cX0_learn 55 = .ok (.return_, 1) := by decide +kernel
set_option maxRecDepth 20000 in
theorem ggX0_rate_J6_bitCount_0f7a4 : GoodIn wsX0_rate wsJ6_bitCount_0f7a4 := goodIn_r _ [7, 8, 9, 10] (by decide +kernel) (by decide +kernel)
set_option maxRecDepth 20000 in
theorem gX0_rate_J6_bitCount_0f7a4 : GoodIn wsX0_rate (va_wsS RX0 94 yJ6_bitCount_0f7a4 wsJ6_bitCount_0f7a4) := goodIn_app (goodIn_of _ (by decide +kernel)) ggX0_rate_J6_bitCount_0f7a4
theorem dX0_rate_0 : decode cX0_rate 0 = .ok (.aload_n 0, 1) := by decide +kernel
theorem dX0_rate_1 : decode cX0_rate 1 = .ok (.getfield 55, 3) := by decide +kernel
theorem dX0_rate_4 : decode cX0_rate 4 = .ok (.iconst 1, 1) := by decide +kernel
theorem dX0_rate_5 : decode cX0_rate 5 = .ok (.if_icmp .ge 9, 3) := by decide +kernel
theorem dX0_rate_8 : decode cX0_rate 8 = .ok (.ldc2_w 92, 3) := by decide +kernel
theorem dX0_rate_11 : decode cX0_rate 11 = .ok (.goto 18, 3) := by decide +kernel
theorem dX0_rate_14 : decode cX0_rate 14 = .ok (.ldc2_w 38, 3) := by decide +kernel
theorem dX0_rate_17 : decode cX0_rate 17 = .ok (.iload_n 1, 1) := by decide +kernel
theorem dX0_rate_18 : decode cX0_rate 18 = .ok (.invokestatic 94, 3) := by decide +kernel
theorem dX0_rate_21 : decode cX0_rate 21 = .ok (.i2d, 1) := by decide +kernel
theorem dX0_rate_22 : decode cX0_rate 22 = .ok (.dmul, 1) := by decide +kernel
theorem dX0_rate_23 : decode cX0_rate 23 = .ok (.aload_n 0, 1) := by decide +kernel
theorem dX0_rate_24 : decode cX0_rate 24 = .ok (.getfield 55, 3) := by decide +kernel
theorem dX0_rate_27 : decode cX0_rate 27 = .ok (.i2d, 1) := by decide +kernel
theorem dX0_rate_28 : decode cX0_rate 28 = .ok (.ddiv, 1) := by decide +kernel
theorem dX0_rate_29 : decode cX0_rate 29 = .ok (.dreturn, 1) := by decide +kernel
theorem dX0_remember_0 : decode cX0_remember 0 = .ok (.iconst 1, 1) := by decide +kernel
theorem dX0_remember_1 : decode cX0_remember 1 = .ok (.aload_n 0, 1) := by decide +kernel
theorem dX0_remember_2 : decode cX0_remember 2 = .ok (.getfield 19, 3) := by decide +kernel
theorem dX0_remember_5 : decode cX0_remember 5 = .ok (.ishl, 1) := by decide +kernel
theorem dX0_remember_6 : decode cX0_remember 6 = .ok (.iconst 1, 1) := by decide +kernel
theorem dX0_remember_7 : decode cX0_remember 7 = .ok (.isub, 1) := by decide +kernel
theorem dX0_remember_8 : decode cX0_remember 8 = .ok (.istore_n 3, 1) := by decide +kernel
theorem dX0_remember_9 : decode cX0_remember 9 = .ok (.aload_n 0, 1) := by decide +kernel
theorem dX0_remember_10 : decode cX0_remember 10 = .ok (.aload_n 0, 1) := by decide +kernel
theorem dX0_remember_11 : decode cX0_remember 11 = .ok (.getfield 58, 3) := by decide +kernel
theorem dX0_remember_14 : decode cX0_remember 14 = .ok (.iconst 1, 1) := by decide +kernel
theorem dX0_remember_15 : decode cX0_remember 15 = .ok (.ishl, 1) := by decide +kernel
theorem dX0_remember_16 : decode cX0_remember 16 = .ok (.iload_n 1, 1) := by decide +kernel
theorem dX0_remember_17 : decode cX0_remember 17 = .ok (.ifCond .eq 7, 3) := by decide +kernel
theorem dX0_remember_20 : decode cX0_remember 20 = .ok (.iconst 1, 1) := by decide +kernel
theorem dX0_remember_21 : decode cX0_remember 21 = .ok (.goto 4, 3) := by decide +kernel
theorem dX0_remember_24 : decode cX0_remember 24 = .ok (.iconst 0, 1) := by decide +kernel
theorem dX0_remember_25 : decode cX0_remember 25 = .ok (.ior, 1) := by decide +kernel
theorem dX0_remember_26 : decode cX0_remember 26 = .ok (.iload_n 3, 1) := by decide +kernel
theorem dX0_remember_27 : decode cX0_remember 27 = .ok (.iand, 1) := by decide +kernel
theorem dX0_remember_28 : decode cX0_remember 28 = .ok (.putfield 58, 3) := by decide +kernel
theorem dX0_remember_31 : decode cX0_remember 31 = .ok (.aload_n 0, 1) := by decide +kernel
theorem dX0_remember_32 : decode cX0_remember 32 = .ok (.aload_n 0, 1) := by decide +kernel
theorem dX0_remember_33 : decode cX0_remember 33 = .ok (.getfield 61, 3) := by decide +kernel
theorem dX0_remember_36 : decode cX0_remember 36 = .ok (.iconst 1, 1) := by decide +kernel
theorem dX0_remember_37 : decode cX0_remember 37 = .ok (.ishl, 1) := by decide +kernel
theorem dX0_remember_38 : decode cX0_remember 38 = .ok (.iload_n 2, 1) := by decide +kernel
theorem dX0_remember_39 : decode cX0_remember 39 = .ok (.ifCond .eq 7, 3) := by decide +kernel
theorem dX0_remember_42 : decode cX0_remember 42 = .ok (.iconst 1, 1) := by decide +kernel
theorem dX0_remember_43 : decode cX0_remember 43 = .ok (.goto 4, 3) := by decide +kernel
theorem dX0_remember_46 : decode cX0_remember 46 = .ok (.iconst 0, 1) := by decide +kernel
theorem dX0_remember_47 : decode cX0_remember 47 = .ok (.ior, 1) := by decide +kernel
theorem dX0_remember_48 : decode cX0_remember 48 = .ok (.iload_n 3, 1) := by decide +kernel
theorem dX0_remember_49 : decode cX0_remember 49 = .ok (.iand, 1) := by decide +kernel
theorem dX0_remember_50 : decode cX0_remember 50 = .ok (.putfield 61, 3) := by decide +kernel
theorem dX0_remember_53 : decode cX0_remember 53 = .ok (.aload_n 0, 1) := by decide +kernel
theorem dX0_remember_54 : decode cX0_remember 54 = .ok (.getfield 55, 3) := by decide +kernel
theorem dX0_remember_57 : decode cX0_remember 57 = .ok (.aload_n 0, 1) := by decide +kernel
theorem dX0_remember_58 : decode cX0_remember 58 = .ok (.getfield 19, 3) := by decide +kernel
theorem dX0_remember_61 : decode cX0_remember 61 = .ok (.if_icmp .ge 13, 3) := by decide +kernel
theorem dX0_remember_64 : decode cX0_remember 64 = .ok (.aload_n 0, 1) := by decide +kernel
theorem dX0_remember_65 : decode cX0_remember 65 = .ok (.dup, 1) := by decide +kernel
theorem dX0_remember_66 : decode cX0_remember 66 = .ok (.getfield 55, 3) := by decide +kernel
theorem dX0_remember_69 : decode cX0_remember 69 = .ok (.iconst 1, 1) := by decide +kernel
theorem dX0_remember_70 : decode cX0_remember 70 = .ok (.iadd, 1) := by decide +kernel
theorem dX0_remember_71 : decode cX0_remember 71 = .ok (.putfield 55, 3) := by decide +kernel
theorem dX0_remember_74 : decode cX0_remember 74 = .ok (.return_, 1) := by decide +kernel
set_option maxRecDepth 20000 in
theorem ggX0_decideTrials_X0_isTripped : GoodIn wsX0_decideTrials wsX0_isTripped := goodIn_r _ [7, 8, 9, 10, 11, 12, 13, 14, 6, 15, 1, 16, 17, 18, 19, 20, 21, 22, 23, 24, 49, 50, 51, 52, 53, 54, 55, 56, 57, 58, 59, 60, 61, 62, 63] (by decide +kernel) (by decide +kernel)
set_option maxRecDepth 20000 in
theorem gX0_decideTrials_X0_isTripped : GoodIn wsX0_decideTrials (wsV RX0 85 RX0 yX0_isTripped wsX0_isTripped) := goodIn_app (goodIn_of _ (by decide +kernel)) ggX0_decideTrials_X0_isTripped
set_option maxRecDepth 20000 in
theorem ggX0_decideTrials_X0_open : GoodIn wsX0_decideTrials wsX0_open := goodIn_r _ [28, 29, 30, 31, 32, 33, 34, 35, 6, 36, 1, 8, 10, 37, 38, 39, 40, 41, 42, 43, 44, 49, 50, 51, 52, 53, 54, 55, 56, 57, 58, 59, 60, 61, 62, 63, 64, 65, 66, 67, 68] (by decide +kernel) (by decide +kernel)
set_option maxRecDepth 20000 in
theorem gX0_decideTrials_X0_open : GoodIn wsX0_decideTrials (wsV RX0 89 RX0 yX0_open wsX0_open) := goodIn_app (goodIn_of _ (by decide +kernel)) ggX0_decideTrials_X0_open
set_option maxRecDepth 20000 in
theorem ggX0_decideTrials_X0_close : GoodIn wsX0_decideTrials wsX0_close := goodIn_r _ [48, 29, 32, 33, 34, 35, 6, 36, 1, 8, 10, 37, 38, 39, 40, 41, 42, 43, 44, 49, 50, 51, 52, 53, 54, 55, 56, 57, 58, 59, 60, 61, 62, 63, 66, 67, 68] (by decide +kernel) (by decide +kernel)
set_option maxRecDepth 20000 in
theorem gX0_decideTrials_X0_close : GoodIn wsX0_decideTrials (wsV RX0 100 RX0 yX0_close wsX0_close) := goodIn_app (goodIn_of _ (by decide +kernel)) ggX0_decideTrials_X0_close
theorem dX0_decideTrials_0 : decode cX0_decideTrials 0 = .ok (.aload_n 0, 1) := by decide +kernel
theorem dX0_decideTrials_1 : decode cX0_decideTrials 1 = .ok (.getfield 55, 3) := by decide +kernel
theorem dX0_decideTrials_4 : decode cX0_decideTrials 4 = .ok (.aload_n 0, 1) := by decide +kernel
theorem dX0_decideTrials_5 : decode cX0_decideTrials 5 = .ok (.getfield 29, 3) := by decide +kernel
theorem dX0_decideTrials_8 : decode cX0_decideTrials 8 = .ok (.if_icmp .ge 4, 3) := by decide +kernel
theorem dX0_decideTrials_11 : decode cX0_decideTrials 11 = .ok (.return_, 1) := by decide +kernel
theorem dX0_decideTrials_12 : decode cX0_decideTrials 12 = .ok (.aload_n 0, 1) := by decide +kernel
theorem dX0_decideTrials_13 : decode cX0_decideTrials 13 = .ok (.invokevirtual 85, 3) := by decide +kernel
theorem dX0_decideTrials_16 : decode cX0_decideTrials 16 = .ok (.ifCond .eq 10, 3) := by decide +kernel
theorem dX0_decideTrials_19 : decode cX0_decideTrials 19 = .ok (.aload_n 0, 1) := by decide +kernel
theorem dX0_decideTrials_20 : decode cX0_decideTrials 20 = .ok (.invokevirtual 89, 3) := by decide +kernel
theorem dX0_decideTrials_23 : decode cX0_decideTrials 23 = .ok (.goto 7, 3) := by decide +kernel
theorem dX0_decideTrials_26 : decode cX0_decideTrials 26 = .ok (.aload_n 0, 1) := by decide +kernel
theorem dX0_decideTrials_27 : decode cX0_decideTrials 27 = .ok (.invokevirtual 100, 3) := by decide +kernel
theorem dX0_decideTrials_30 : decode cX0_decideTrials 30 = .ok (.return_, 1) := by decide +kernel
set_option maxRecDepth 20000 in
theorem ggX0_isTripped_X0_rate : GoodIn wsX0_isTripped wsX0_rate := goodIn_r _ [9, 10, 11, 12, 13, 14, 15, 16, 17, 18, 19, 20, 21, 22, 23, 24, 25, 26, 27, 28, 29, 30, 31, 32, 33, 34] (by decide +kernel) (by decide +kernel)
set_option maxRecDepth 20000 in
theorem gX0_isTripped_X0_rate : GoodIn wsX0_isTripped (wsV RX0 103 RX0 yX0_rate wsX0_rate) := goodIn_app (goodIn_of _ (by decide +kernel)) ggX0_isTripped_X0_rate
theorem dX0_isTripped_0 : decode cX0_isTripped 0 = .ok (.aload_n 0, 1) := by decide +kernel
theorem dX0_isTripped_1 : decode cX0_isTripped 1 = .ok (.aload_n 0, 1) := by decide +kernel
theorem dX0_isTripped_2 : decode cX0_isTripped 2 = .ok (.getfield 58, 3) := by decide +kernel
theorem dX0_isTripped_5 : decode cX0_isTripped 5 = .ok (.invokevirtual 103, 3) := by decide +kernel
theorem dX0_isTripped_8 : decode cX0_isTripped 8 = .ok (.aload_n 0, 1) := by decide +kernel
theorem dX0_isTripped_9 : decode cX0_isTripped 9 = .ok (.getfield 34, 3) := by decide +kernel
theorem dX0_isTripped_12 : decode cX0_isTripped 12 = .ok (.dcmp .l, 1) := by decide +kernel
theorem dX0_isTripped_13 : decode cX0_isTripped 13 = .ok (.ifCond .ge 19, 3) := by decide +kernel
theorem dX0_isTripped_16 : decode cX0_isTripped 16 = .ok (.aload_n 0, 1) := by decide +kernel
theorem dX0_isTripped_17 : decode cX0_isTripped 17 = .ok (.aload_n 0, 1) := by decide +kernel
theorem dX0_isTripped_18 : decode cX0_isTripped 18 = .ok (.getfield 61, 3) := by decide +kernel
theorem dX0_isTripped_21 : decode cX0_isTripped 21 = .ok (.invokevirtual 103, 3) := by decide +kernel
theorem dX0_isTripped_24 : decode cX0_isTripped 24 = .ok (.aload_n 0, 1) := by decide +kernel
theorem dX0_isTripped_25 : decode cX0_isTripped 25 = .ok (.getfield 40, 3) := by decide +kernel
theorem dX0_isTripped_28 : decode cX0_isTripped 28 = .ok (.dcmp .l, 1) := by decide +kernel
theorem dX0_isTripped_29 : decode cX0_isTripped 29 = .ok (.ifCond .lt 7, 3) := by decide +kernel
theorem dX0_isTripped_32 : decode cX0_isTripped 32 = .ok (.iconst 1, 1) := by decide +kernel
theorem dX0_isTripped_33 : decode cX0_isTripped 33 = .ok (.goto 4, 3) := by decide +kernel
theorem dX0_isTripped_36 : decode cX0_isTripped 36 = .ok (.iconst 0, 1) := by decide +kernel
theorem dX0_isTripped_37 : decode cX0_isTripped 37 = .ok (.ireturn, 1) := by decide +kernel
set_option maxRecDepth 20000 in
theorem ggX0_open_X0_emptyWindow : GoodIn wsX0_open wsX0_emptyWindow := goodIn_r _ [9, 10, 11, 12, 21, 22, 23, 24, 25, 26, 27, 28, 29, 30, 31, 32, 33, 34, 35] (by decide +kernel) (by decide +kernel)
set_option maxRecDepth 20000 in
theorem gX0_open_X0_emptyWindow : GoodIn wsX0_open (wsV RX0 107 RX0 yX0_emptyWindow wsX0_emptyWindow) := goodIn_app (goodIn_of _ (by decide +kernel)) ggX0_open_X0_emptyWindow
set_option maxRecDepth 20000 in
theorem ggX0_open_X2_add : GoodIn wsX0_open wsX2_add := goodIn_r _ [17, 18, 19, 20, 38, 39, 40] (by decide +kernel) (by decide +kernel)
set_option maxRecDepth 20000 in
theorem gX0_open_X2_add : GoodIn wsX0_open (wsV RX0 72 RX2 yX2_add wsX2_add) := goodIn_app (goodIn_of _ (by decide +kernel)) ggX0_open_X2_add
theorem dX0_open_0 : decode cX0_open 0 = .ok (.aload_n 0, 1) := by decide +kernel
theorem dX0_open_1 : decode cX0_open 1 = .ok (.iconst 1, 1) := by decide +kernel
theorem dX0_open_2 : decode cX0_open 2 = .ok (.putfield 46, 3) := by decide +kernel
theorem dX0_open_5 : decode cX0_open 5 = .ok (.aload_n 0, 1) := by decide +kernel
theorem dX0_open_6 : decode cX0_open 6 = .ok (.aload_n 0, 1) := by decide +kernel
theorem dX0_open_7 : decode cX0_open 7 = .ok (.getfield 9, 3) := by decide +kernel
theorem dX0_open_10 : decode cX0_open 10 = .ok (.getfield 64, 3) := by decide +kernel
theorem dX0_open_13 : decode cX0_open 13 = .ok (.putfield 49, 3) := by decide +kernel
theorem dX0_open_16 : decode cX0_open 16 = .ok (.aload_n 0, 1) := by decide +kernel
theorem dX0_open_17 : decode cX0_open 17 = .ok (.invokevirtual 107, 3) := by decide +kernel
theorem dX0_open_20 : decode cX0_open 20 = .ok (.aload_n 0, 1) := by decide +kernel
theorem dX0_open_21 : decode cX0_open 21 = .ok (.getfield 15, 3) := by decide +kernel
theorem dX0_open_24 : decode cX0_open 24 = .ok (.iconst 2, 1) := by decide +kernel
theorem dX0_open_25 : decode cX0_open 25 = .ok (.invokevirtual 72, 3) := by decide +kernel
theorem dX0_open_28 : decode cX0_open 28 = .ok (.return_, 1) := by decide +kernel
set_option maxRecDepth 20000 in
theorem ggX0_halfOpen_X0_emptyWindow : GoodIn wsX0_halfOpen wsX0_emptyWindow := goodIn_r _ [8, 9, 10, 11, 20, 21, 22, 23, 24, 25, 26, 27, 28, 29, 30, 31, 32, 33, 34] (by decide +kernel) (by decide +kernel)
set_option maxRecDepth 20000 in
theorem gX0_halfOpen_X0_emptyWindow : GoodIn wsX0_halfOpen (wsV RX0 107 RX0 yX0_emptyWindow wsX0_emptyWindow) := goodIn_app (goodIn_of _ (by decide +kernel)) ggX0_halfOpen_X0_emptyWindow
set_option maxRecDepth 20000 in
theorem ggX0_halfOpen_X2_add : GoodIn wsX0_halfOpen wsX2_add := goodIn_r _ [16, 17, 18, 19, 35, 36, 37] (by decide +kernel) (by decide +kernel)
set_option maxRecDepth 20000 in
theorem gX0_halfOpen_X2_add : GoodIn wsX0_halfOpen (wsV RX0 72 RX2 yX2_add wsX2_add) := goodIn_app (goodIn_of _ (by decide +kernel)) ggX0_halfOpen_X2_add
theorem dX0_halfOpen_0 : decode cX0_halfOpen 0 = .ok (.aload_n 0, 1) := by decide +kernel
theorem dX0_halfOpen_1 : decode cX0_halfOpen 1 = .ok (.iconst 2, 1) := by decide +kernel
theorem dX0_halfOpen_2 : decode cX0_halfOpen 2 = .ok (.putfield 46, 3) := by decide +kernel
theorem dX0_halfOpen_5 : decode cX0_halfOpen 5 = .ok (.aload_n 0, 1) := by decide +kernel
theorem dX0_halfOpen_6 : decode cX0_halfOpen 6 = .ok (.iconst 0, 1) := by decide +kernel
theorem dX0_halfOpen_7 : decode cX0_halfOpen 7 = .ok (.putfield 52, 3) := by decide +kernel
theorem dX0_halfOpen_10 : decode cX0_halfOpen 10 = .ok (.aload_n 0, 1) := by decide +kernel
theorem dX0_halfOpen_11 : decode cX0_halfOpen 11 = .ok (.invokevirtual 107, 3) := by decide +kernel
theorem dX0_halfOpen_14 : decode cX0_halfOpen 14 = .ok (.aload_n 0, 1) := by decide +kernel
theorem dX0_halfOpen_15 : decode cX0_halfOpen 15 = .ok (.getfield 15, 3) := by decide +kernel
theorem dX0_halfOpen_18 : decode cX0_halfOpen 18 = .ok (.iconst 3, 1) := by decide +kernel
theorem dX0_halfOpen_19 : decode cX0_halfOpen 19 = .ok (.invokevirtual 72, 3) := by decide +kernel
theorem dX0_halfOpen_22 : decode cX0_halfOpen 22 = .ok (.return_, 1) := by decide +kernel
set_option maxRecDepth 20000 in
theorem ggX0_close_X0_emptyWindow : GoodIn wsX0_close wsX0_emptyWindow := goodIn_r _ [7, 8, 9, 10, 19, 20, 21, 22, 23, 24, 25, 26, 27, 28, 29, 30, 31, 32, 33] (by decide +kernel) (by decide +kernel)
set_option maxRecDepth 20000 in
theorem gX0_close_X0_emptyWindow : GoodIn wsX0_close (wsV RX0 107 RX0 yX0_emptyWindow wsX0_emptyWindow) := goodIn_app (goodIn_of _ (by decide +kernel)) ggX0_close_X0_emptyWindow
set_option maxRecDepth 20000 in
theorem ggX0_close_X2_add : GoodIn wsX0_close wsX2_add := goodIn_r _ [15, 16, 17, 18, 34, 35, 36] (by decide +kernel) (by decide +kernel)
set_option maxRecDepth 20000 in
theorem gX0_close_X2_add : GoodIn wsX0_close (wsV RX0 72 RX2 yX2_add wsX2_add) := goodIn_app (goodIn_of _ (by decide +kernel)) ggX0_close_X2_add
theorem dX0_close_0 : decode cX0_close 0 = .ok (.aload_n 0, 1) := by decide +kernel
theorem dX0_close_1 : decode cX0_close 1 = .ok (.iconst 0, 1) := by decide +kernel
theorem dX0_close_2 : decode cX0_close 2 = .ok (.putfield 46, 3) := by decide +kernel
theorem dX0_close_5 : decode cX0_close 5 = .ok (.aload_n 0, 1) := by decide +kernel
theorem dX0_close_6 : decode cX0_close 6 = .ok (.invokevirtual 107, 3) := by decide +kernel
theorem dX0_close_9 : decode cX0_close 9 = .ok (.aload_n 0, 1) := by decide +kernel
theorem dX0_close_10 : decode cX0_close 10 = .ok (.getfield 15, 3) := by decide +kernel
theorem dX0_close_13 : decode cX0_close 13 = .ok (.iconst 4, 1) := by decide +kernel
theorem dX0_close_14 : decode cX0_close 14 = .ok (.invokevirtual 72, 3) := by decide +kernel
theorem dX0_close_17 : decode cX0_close 17 = .ok (.return_, 1) := by decide +kernel
theorem dX1_init_0 : decode cX1_init 0 = .ok (.aload_n 0, 1) := by decide +kernel
theorem dX1_init_1 : decode cX1_init 1 = .ok (.invokespecial 3, 3) := by decide +kernel
theorem dX1_init_4 : decode cX1_init 4 = .ok (.aload_n 0, 1) := by decide +kernel
theorem dX1_init_5 : decode cX1_init 5 = .ok (.aload_n 1, 1) := by decide +kernel
theorem dX1_init_6 : decode cX1_init 6 = .ok (.putfield 9, 3) := by decide +kernel
theorem dX1_init_9 : decode cX1_init 9 = .ok (.aload_n 0, 1) := by decide +kernel
theorem dX1_init_10 : decode cX1_init 10 = .ok (.iconst 0, 1) := by decide +kernel
theorem dX1_init_11 : decode cX1_init 11 = .ok (.putfield 15, 3) := by decide +kernel
theorem dX1_init_14 : decode cX1_init 14 = .ok (.return_, 1) := by decide +kernel
set_option maxRecDepth 20000 in
theorem ggX1_lapse_X2_add : GoodIn wsX1_lapse wsX2_add := goodIn_r _ [7, 8, 9, 10, 13, 14, 15] (by decide +kernel) (by decide +kernel)
set_option maxRecDepth 20000 in
theorem gX1_lapse_X2_add : GoodIn wsX1_lapse (wsV RX1 19 RX2 yX2_add wsX2_add) := goodIn_app (goodIn_of _ (by decide +kernel)) ggX1_lapse_X2_add
theorem dX1_lapse_0 : decode cX1_lapse 0 = .ok (.iload_n 1, 1) := by decide +kernel
theorem dX1_lapse_1 : decode cX1_lapse 1 = .ok (.iload_n 2, 1) := by decide +kernel
theorem dX1_lapse_2 : decode cX1_lapse 2 = .ok (.aload_n 0, 1) := by decide +kernel
theorem dX1_lapse_3 : decode cX1_lapse 3 = .ok (.getfield 15, 3) := by decide +kernel
theorem dX1_lapse_6 : decode cX1_lapse 6 = .ok (.isub, 1) := by decide +kernel
theorem dX1_lapse_7 : decode cX1_lapse 7 = .ok (.if_icmp .le 19, 3) := by decide +kernel
theorem dX1_lapse_10 : decode cX1_lapse 10 = .ok (.aload_n 0, 1) := by decide +kernel
theorem dX1_lapse_11 : decode cX1_lapse 11 = .ok (.iload_n 2, 1) := by decide +kernel
theorem dX1_lapse_12 : decode cX1_lapse 12 = .ok (.putfield 15, 3) := by decide +kernel
theorem dX1_lapse_15 : decode cX1_lapse 15 = .ok (.aload_n 0, 1) := by decide +kernel
theorem dX1_lapse_16 : decode cX1_lapse 16 = .ok (.getfield 9, 3) := by decide +kernel
theorem dX1_lapse_19 : decode cX1_lapse 19 = .ok (.bipush 41, 2) := by decide +kernel
theorem dX1_lapse_21 : decode cX1_lapse 21 = .ok (.invokevirtual 19, 3) := by decide +kernel
theorem dX1_lapse_24 : decode cX1_lapse 24 = .ok (.iconst 0, 1) := by decide +kernel
theorem dX1_lapse_25 : decode cX1_lapse 25 = .ok (.ireturn, 1) := by decide +kernel
theorem dX1_lapse_26 : decode cX1_lapse 26 = .ok (.aload_n 0, 1) := by decide +kernel
theorem dX1_lapse_27 : decode cX1_lapse 27 = .ok (.dup, 1) := by decide +kernel
theorem dX1_lapse_28 : decode cX1_lapse 28 = .ok (.getfield 15, 3) := by decide +kernel
theorem dX1_lapse_31 : decode cX1_lapse 31 = .ok (.iload_n 1, 1) := by decide +kernel
theorem dX1_lapse_32 : decode cX1_lapse 32 = .ok (.iadd, 1) := by decide +kernel
theorem dX1_lapse_33 : decode cX1_lapse 33 = .ok (.putfield 15, 3) := by decide +kernel
theorem dX1_lapse_36 : decode cX1_lapse 36 = .ok (.iconst 1, 1) := by decide +kernel
theorem dX1_lapse_37 : decode cX1_lapse 37 = .ok (.ireturn, 1) := by decide +kernel
theorem dX2_init_0 : decode cX2_init 0 = .ok (.aload_n 0, 1) := by decide +kernel
theorem dX2_init_1 : decode cX2_init 1 = .ok (.invokespecial 1, 3) := by decide +kernel
theorem dX2_init_4 : decode cX2_init 4 = .ok (.aload_n 0, 1) := by decide +kernel
theorem dX2_init_5 : decode cX2_init 5 = .ok (.bipush 8, 2) := by decide +kernel
theorem dX2_init_7 : decode cX2_init 7 = .ok (.newarray .int, 2) := by decide +kernel
theorem dX2_init_9 : decode cX2_init 9 = .ok (.putfield 9, 3) := by decide +kernel
theorem dX2_init_12 : decode cX2_init 12 = .ok (.aload_n 0, 1) := by decide +kernel
theorem dX2_init_13 : decode cX2_init 13 = .ok (.iconst 0, 1) := by decide +kernel
theorem dX2_init_14 : decode cX2_init 14 = .ok (.putfield 13, 3) := by decide +kernel
theorem dX2_init_17 : decode cX2_init 17 = .ok (.aload_n 0, 1) := by decide +kernel
theorem dX2_init_18 : decode cX2_init 18 = .ok (.iconst 0, 1) := by decide +kernel
theorem dX2_init_19 : decode cX2_init 19 = .ok (.putfield 17, 3) := by decide +kernel
theorem dX2_init_22 : decode cX2_init 22 = .ok (.return_, 1) := by decide +kernel
theorem dX2_add_0 : decode cX2_add 0 = .ok (.aload_n 0, 1) := by decide +kernel
theorem dX2_add_1 : decode cX2_add 1 = .ok (.getfield 9, 3) := by decide +kernel
theorem dX2_add_4 : decode cX2_add 4 = .ok (.aload_n 0, 1) := by decide +kernel
theorem dX2_add_5 : decode cX2_add 5 = .ok (.getfield 13, 3) := by decide +kernel
theorem dX2_add_8 : decode cX2_add 8 = .ok (.iload_n 1, 1) := by decide +kernel
theorem dX2_add_9 : decode cX2_add 9 = .ok (.iastore, 1) := by decide +kernel
theorem dX2_add_10 : decode cX2_add 10 = .ok (.aload_n 0, 1) := by decide +kernel
theorem dX2_add_11 : decode cX2_add 11 = .ok (.aload_n 0, 1) := by decide +kernel
theorem dX2_add_12 : decode cX2_add 12 = .ok (.getfield 13, 3) := by decide +kernel
theorem dX2_add_15 : decode cX2_add 15 = .ok (.iconst 1, 1) := by decide +kernel
theorem dX2_add_16 : decode cX2_add 16 = .ok (.iadd, 1) := by decide +kernel
theorem dX2_add_17 : decode cX2_add 17 = .ok (.bipush 8, 2) := by decide +kernel
theorem dX2_add_19 : decode cX2_add 19 = .ok (.irem, 1) := by decide +kernel
theorem dX2_add_20 : decode cX2_add 20 = .ok (.putfield 13, 3) := by decide +kernel
theorem dX2_add_23 : decode cX2_add 23 = .ok (.aload_n 0, 1) := by decide +kernel
theorem dX2_add_24 : decode cX2_add 24 = .ok (.getfield 17, 3) := by decide +kernel
theorem dX2_add_27 : decode cX2_add 27 = .ok (.bipush 8, 2) := by decide +kernel
theorem dX2_add_29 : decode cX2_add 29 = .ok (.if_icmp .ge 13, 3) := by decide +kernel
theorem dX2_add_32 : decode cX2_add 32 = .ok (.aload_n 0, 1) := by decide +kernel
theorem dX2_add_33 : decode cX2_add 33 = .ok (.dup, 1) := by decide +kernel
theorem dX2_add_34 : decode cX2_add 34 = .ok (.getfield 17, 3) := by decide +kernel
theorem dX2_add_37 : decode cX2_add 37 = .ok (.iconst 1, 1) := by decide +kernel
theorem dX2_add_38 : decode cX2_add 38 = .ok (.iadd, 1) := by decide +kernel
theorem dX2_add_39 : decode cX2_add 39 = .ok (.putfield 17, 3) := by decide +kernel
theorem dX2_add_42 : decode cX2_add 42 = .ok (.return_, 1) := by decide +kernel
theorem dX2_latest_0 : decode cX2_latest 0 = .ok (.iload_n 1, 1) := by decide +kernel
theorem dX2_latest_1 : decode cX2_latest 1 = .ok (.ifCond .lt 11, 3) := by decide +kernel
theorem dX2_latest_4 : decode cX2_latest 4 = .ok (.iload_n 1, 1) := by decide +kernel
theorem dX2_latest_5 : decode cX2_latest 5 = .ok (.aload_n 0, 1) := by decide +kernel
theorem dX2_latest_6 : decode cX2_latest 6 = .ok (.getfield 17, 3) := by decide +kernel
theorem dX2_latest_9 : decode cX2_latest 9 = .ok (.if_icmp .lt 5, 3) := by decide +kernel
theorem dX2_latest_12 : decode cX2_latest 12 = .ok (.iconst (-1), 1) := by decide +kernel
theorem dX2_latest_13 : decode cX2_latest 13 = .ok (.ireturn, 1) := by decide +kernel
theorem dX2_latest_14 : decode cX2_latest 14 = .ok (.aload_n 0, 1) := by decide +kernel
theorem dX2_latest_15 : decode cX2_latest 15 = .ok (.getfield 9, 3) := by decide +kernel
theorem dX2_latest_18 : decode cX2_latest 18 = .ok (.aload_n 0, 1) := by decide +kernel
theorem dX2_latest_19 : decode cX2_latest 19 = .ok (.getfield 13, 3) := by decide +kernel
theorem dX2_latest_22 : decode cX2_latest 22 = .ok (.bipush 8, 2) := by decide +kernel
theorem dX2_latest_24 : decode cX2_latest 24 = .ok (.iadd, 1) := by decide +kernel
theorem dX2_latest_25 : decode cX2_latest 25 = .ok (.iconst 1, 1) := by decide +kernel
theorem dX2_latest_26 : decode cX2_latest 26 = .ok (.isub, 1) := by decide +kernel
theorem dX2_latest_27 : decode cX2_latest 27 = .ok (.iload_n 1, 1) := by decide +kernel
theorem dX2_latest_28 : decode cX2_latest 28 = .ok (.isub, 1) := by decide +kernel
theorem dX2_latest_29 : decode cX2_latest 29 = .ok (.bipush 8, 2) := by decide +kernel
theorem dX2_latest_31 : decode cX2_latest 31 = .ok (.irem, 1) := by decide +kernel
theorem dX2_latest_32 : decode cX2_latest 32 = .ok (.iaload, 1) := by decide +kernel
theorem dX2_latest_33 : decode cX2_latest 33 = .ok (.ireturn, 1) := by decide +kernel
theorem dX3_init_0 : decode cX3_init 0 = .ok (.aload_n 0, 1) := by decide +kernel
theorem dX3_init_1 : decode cX3_init 1 = .ok (.invokespecial 3, 3) := by decide +kernel
theorem dX3_init_4 : decode cX3_init 4 = .ok (.aload_n 0, 1) := by decide +kernel
theorem dX3_init_5 : decode cX3_init 5 = .ok (.aload_n 1, 1) := by decide +kernel
theorem dX3_init_6 : decode cX3_init 6 = .ok (.putfield 9, 3) := by decide +kernel
theorem dX3_init_9 : decode cX3_init 9 = .ok (.aload_n 0, 1) := by decide +kernel
theorem dX3_init_10 : decode cX3_init 10 = .ok (.aload_n 2, 1) := by decide +kernel
theorem dX3_init_11 : decode cX3_init 11 = .ok (.putfield 15, 3) := by decide +kernel
theorem dX3_init_14 : decode cX3_init 14 = .ok (.aload_n 0, 1) := by decide +kernel
theorem dX3_init_15 : decode cX3_init 15 = .ok (.bipush 10, 2) := by decide +kernel
theorem dX3_init_17 : decode cX3_init 17 = .ok (.putfield 19, 3) := by decide +kernel
theorem dX3_init_20 : decode cX3_init 20 = .ok (.aload_n 0, 1) := by decide +kernel
theorem dX3_init_21 : decode cX3_init 21 = .ok (.iconst 2, 1) := by decide +kernel
theorem dX3_init_22 : decode cX3_init 22 = .ok (.putfield 23, 3) := by decide +kernel
theorem dX3_init_25 : decode cX3_init 25 = .ok (.aload_n 0, 1) := by decide +kernel
theorem dX3_init_26 : decode cX3_init 26 = .ok (.iconst 5, 1) := by decide +kernel
theorem dX3_init_27 : decode cX3_init 27 = .ok (.putfield 26, 3) := by decide +kernel
theorem dX3_init_30 : decode cX3_init 30 = .ok (.aload_n 0, 1) := by decide +kernel
theorem dX3_init_31 : decode cX3_init 31 = .ok (.iconst 0, 1) := by decide +kernel
theorem dX3_init_32 : decode cX3_init 32 = .ok (.putfield 29, 3) := by decide +kernel
theorem dX3_init_35 : decode cX3_init 35 = .ok (.aload_n 0, 1) := by decide +kernel
theorem dX3_init_36 : decode cX3_init 36 = .ok (.iconst 2, 1) := by decide +kernel
theorem dX3_init_37 : decode cX3_init 37 = .ok (.putfield 32, 3) := by decide +kernel
theorem dX3_init_40 : decode cX3_init 40 = .ok (.return_, 1) := by decide +kernel
set_option maxRecDepth 20000 in
theorem ggX3_beginCycle_X3_cycleNow : GoodIn wsX3_beginCycle wsX3_cycleNow := goodIn_r _ [8, 9, 10, 11, 12, 13, 14, 15, 16, 17, 18, 19] (by decide +kernel) (by decide +kernel)
set_option maxRecDepth 20000 in
theorem gX3_beginCycle_X3_cycleNow : GoodIn wsX3_beginCycle (wsV RX3 35 RX3 yX3_cycleNow wsX3_cycleNow) := goodIn_app (goodIn_of _ (by decide +kernel)) ggX3_beginCycle_X3_cycleNow
theorem dX3_beginCycle_0 : decode cX3_beginCycle 0 = .ok (.aload_n 0, 1) := by decide +kernel
theorem dX3_beginCycle_1 : decode cX3_beginCycle 1 = .ok (.aload_n 0, 1) := by decide +kernel
theorem dX3_beginCycle_2 : decode cX3_beginCycle 2 = .ok (.invokevirtual 35, 3) := by decide +kernel
theorem dX3_beginCycle_5 : decode cX3_beginCycle 5 = .ok (.putfield 29, 3) := by decide +kernel
theorem dX3_beginCycle_8 : decode cX3_beginCycle 8 = .ok (.aload_n 0, 1) := by decide +kernel
theorem dX3_beginCycle_9 : decode cX3_beginCycle 9 = .ok (.aload_n 0, 1) := by decide +kernel
theorem dX3_beginCycle_10 : decode cX3_beginCycle 10 = .ok (.getfield 23, 3) := by decide +kernel
theorem dX3_beginCycle_13 : decode cX3_beginCycle 13 = .ok (.putfield 32, 3) := by decide +kernel
theorem dX3_beginCycle_16 : decode cX3_beginCycle 16 = .ok (.return_, 1) := by decide +kernel
set_option maxRecDepth 20000 in
theorem ggX3_takePermit_X3_cycleNow : GoodIn wsX3_takePermit wsX3_cycleNow := goodIn_r _ [11, 3, 4, 33, 34, 35, 36, 37, 38, 39, 40, 41] (by decide +kernel) (by decide +kernel)
set_option maxRecDepth 20000 in
theorem gX3_takePermit_X3_cycleNow : GoodIn wsX3_takePermit (wsV RX3 35 RX3 yX3_cycleNow wsX3_cycleNow) := goodIn_app (goodIn_of _ (by decide +kernel)) ggX3_takePermit_X3_cycleNow
set_option maxRecDepth 20000 in
theorem ggX3_takePermit_X3_beginCycle : GoodIn wsX3_takePermit wsX3_beginCycle := goodIn_r _ [15, 1, 16, 2, 7, 8, 9, 10, 11, 3, 4, 33, 34, 35, 36, 37, 38, 39, 40, 41] (by decide +kernel) (by decide +kernel)
set_option maxRecDepth 20000 in
theorem gX3_takePermit_X3_beginCycle : GoodIn wsX3_takePermit (wsV RX3 39 RX3 yX3_beginCycle wsX3_beginCycle) := goodIn_app (goodIn_of _ (by decide +kernel)) ggX3_takePermit_X3_beginCycle
set_option maxRecDepth 20000 in
theorem ggX3_takePermit_X2_add : GoodIn wsX3_takePermit wsX2_add := goodIn_r _ [21, 22, 23, 24, 42, 43, 44] (by decide +kernel) (by decide +kernel)
set_option maxRecDepth 20000 in
theorem gX3_takePermit_X2_add : GoodIn wsX3_takePermit (wsV RX3 47 RX2 yX2_add wsX2_add) := goodIn_app (goodIn_of _ (by decide +kernel)) ggX3_takePermit_X2_add
set_option maxRecDepth 20000 in
theorem ggX3_takePermit_X1_lapse : GoodIn wsX3_takePermit wsX1_lapse := goodIn_r _ [29, 30, 31, 32, 18, 19, 20, 21, 22, 23, 24, 40, 41, 42, 43, 44] (by decide +kernel) (by decide +kernel)
set_option maxRecDepth 20000 in
theorem gX3_takePermit_X1_lapse : GoodIn wsX3_takePermit (wsV RX3 53 RX1 yX1_lapse wsX1_lapse) := goodIn_app (goodIn_of _ (by decide +kernel)) ggX3_takePermit_X1_lapse
theorem dX3_takePermit_0 : decode cX3_takePermit 0 = .ok (.aload_n 0, 1) := by decide +kernel
theorem dX3_takePermit_1 : decode cX3_takePermit 1 = .ok (.invokevirtual 35, 3) := by decide +kernel
theorem dX3_takePermit_4 : decode cX3_takePermit 4 = .ok (.aload_n 0, 1) := by decide +kernel
theorem dX3_takePermit_5 : decode cX3_takePermit 5 = .ok (.getfield 29, 3) := by decide +kernel
theorem dX3_takePermit_8 : decode cX3_takePermit 8 = .ok (.if_icmp .le 7, 3) := by decide +kernel
theorem dX3_takePermit_11 : decode cX3_takePermit 11 = .ok (.aload_n 0, 1) := by decide +kernel
theorem dX3_takePermit_12 : decode cX3_takePermit 12 = .ok (.invokevirtual 39, 3) := by decide +kernel
theorem dX3_takePermit_15 : decode cX3_takePermit 15 = .ok (.aload_n 0, 1) := by decide +kernel
theorem dX3_takePermit_16 : decode cX3_takePermit 16 = .ok (.getfield 32, 3) := by decide +kernel
theorem dX3_takePermit_19 : decode cX3_takePermit 19 = .ok (.iconst 1, 1) := by decide +kernel
theorem dX3_takePermit_20 : decode cX3_takePermit 20 = .ok (.if_icmp .ge 70, 3) := by decide +kernel
theorem dX3_takePermit_23 : decode cX3_takePermit 23 = .ok (.aload_n 0, 1) := by decide +kernel
theorem dX3_takePermit_24 : decode cX3_takePermit 24 = .ok (.getfield 29, 3) := by decide +kernel
theorem dX3_takePermit_27 : decode cX3_takePermit 27 = .ok (.iconst 1, 1) := by decide +kernel
theorem dX3_takePermit_28 : decode cX3_takePermit 28 = .ok (.iadd, 1) := by decide +kernel
theorem dX3_takePermit_29 : decode cX3_takePermit 29 = .ok (.aload_n 0, 1) := by decide +kernel
theorem dX3_takePermit_30 : decode cX3_takePermit 30 = .ok (.getfield 19, 3) := by decide +kernel
theorem dX3_takePermit_33 : decode cX3_takePermit 33 = .ok (.imul, 1) := by decide +kernel
theorem dX3_takePermit_34 : decode cX3_takePermit 34 = .ok (.aload_n 0, 1) := by decide +kernel
theorem dX3_takePermit_35 : decode cX3_takePermit 35 = .ok (.getfield 9, 3) := by decide +kernel
theorem dX3_takePermit_38 : decode cX3_takePermit 38 = .ok (.getfield 42, 3) := by decide +kernel
theorem dX3_takePermit_41 : decode cX3_takePermit 41 = .ok (.isub, 1) := by decide +kernel
theorem dX3_takePermit_42 : decode cX3_takePermit 42 = .ok (.istore_n 2, 1) := by decide +kernel
theorem dX3_takePermit_43 : decode cX3_takePermit 43 = .ok (.iload_n 2, 1) := by decide +kernel
theorem dX3_takePermit_44 : decode cX3_takePermit 44 = .ok (.aload_n 0, 1) := by decide +kernel
theorem dX3_takePermit_45 : decode cX3_takePermit 45 = .ok (.getfield 26, 3) := by decide +kernel
theorem dX3_takePermit_48 : decode cX3_takePermit 48 = .ok (.if_icmp .le 14, 3) := by decide +kernel
theorem dX3_takePermit_51 : decode cX3_takePermit 51 = .ok (.aload_n 0, 1) := by decide +kernel
theorem dX3_takePermit_52 : decode cX3_takePermit 52 = .ok (.getfield 15, 3) := by decide +kernel
theorem dX3_takePermit_55 : decode cX3_takePermit 55 = .ok (.bipush 21, 2) := by decide +kernel
theorem dX3_takePermit_57 : decode cX3_takePermit 57 = .ok (.invokevirtual 47, 3) := by decide +kernel
theorem dX3_takePermit_60 : decode cX3_takePermit 60 = .ok (.iconst 4, 1) := by decide +kernel
theorem dX3_takePermit_61 : decode cX3_takePermit 61 = .ok (.ireturn, 1) := by decide +kernel
theorem dX3_takePermit_62 : decode cX3_takePermit 62 = .ok (.aload_n 0, 1) := by decide +kernel
theorem dX3_takePermit_63 : decode cX3_takePermit 63 = .ok (.getfield 15, 3) := by decide +kernel
theorem dX3_takePermit_66 : decode cX3_takePermit 66 = .ok (.bipush 22, 2) := by decide +kernel
theorem dX3_takePermit_68 : decode cX3_takePermit 68 = .ok (.invokevirtual 47, 3) := by decide +kernel
theorem dX3_takePermit_71 : decode cX3_takePermit 71 = .ok (.aload_n 0, 1) := by decide +kernel
theorem dX3_takePermit_72 : decode cX3_takePermit 72 = .ok (.getfield 9, 3) := by decide +kernel
theorem dX3_takePermit_75 : decode cX3_takePermit 75 = .ok (.iload_n 2, 1) := by decide +kernel
theorem dX3_takePermit_76 : decode cX3_takePermit 76 = .ok (.iload_n 1, 1) := by decide +kernel
theorem dX3_takePermit_77 : decode cX3_takePermit 77 = .ok (.invokevirtual 53, 3) := by decide +kernel
theorem dX3_takePermit_80 : decode cX3_takePermit 80 = .ok (.ifCond .ne 6, 3) := by decide +kernel
theorem dX3_takePermit_83 : decode cX3_takePermit 83 = .ok (.bipush 8, 2) := by decide +kernel
theorem dX3_takePermit_85 : decode cX3_takePermit 85 = .ok (.ireturn, 1) := by decide +kernel
theorem dX3_takePermit_86 : decode cX3_takePermit 86 = .ok (.aload_n 0, 1) := by decide +kernel
theorem dX3_takePermit_87 : decode cX3_takePermit 87 = .ok (.invokevirtual 39, 3) := by decide +kernel
theorem dX3_takePermit_90 : decode cX3_takePermit 90 = .ok (.aload_n 0, 1) := by decide +kernel
theorem dX3_takePermit_91 : decode cX3_takePermit 91 = .ok (.dup, 1) := by decide +kernel
theorem dX3_takePermit_92 : decode cX3_takePermit 92 = .ok (.getfield 32, 3) := by decide +kernel
theorem dX3_takePermit_95 : decode cX3_takePermit 95 = .ok (.iconst 1, 1) := by decide +kernel
theorem dX3_takePermit_96 : decode cX3_takePermit 96 = .ok (.isub, 1) := by decide +kernel
theorem dX3_takePermit_97 : decode cX3_takePermit 97 = .ok (.putfield 32, 3) := by decide +kernel
theorem dX3_takePermit_100 : decode cX3_takePermit 100 = .ok (.iconst 0, 1) := by decide +kernel
theorem dX3_takePermit_101 : decode cX3_takePermit 101 = .ok (.ireturn, 1) := by decide +kernel
theorem dX3_cycleNow_0 : decode cX3_cycleNow 0 = .ok (.aload_n 0, 1) := by decide +kernel
theorem dX3_cycleNow_1 : decode cX3_cycleNow 1 = .ok (.getfield 19, 3) := by decide +kernel
theorem dX3_cycleNow_4 : decode cX3_cycleNow 4 = .ok (.iconst 1, 1) := by decide +kernel
theorem dX3_cycleNow_5 : decode cX3_cycleNow 5 = .ok (.if_icmp .ge 7, 3) := by decide +kernel
theorem dX3_cycleNow_8 : decode cX3_cycleNow 8 = .ok (.iconst 0, 1) := by decide +kernel
theorem dX3_cycleNow_9 : decode cX3_cycleNow 9 = .ok (.goto 15, 3) := by decide +kernel
theorem dX3_cycleNow_12 : decode cX3_cycleNow 12 = .ok (.aload_n 0, 1) := by decide +kernel
theorem dX3_cycleNow_13 : decode cX3_cycleNow 13 = .ok (.getfield 9, 3) := by decide +kernel
theorem dX3_cycleNow_16 : decode cX3_cycleNow 16 = .ok (.getfield 42, 3) := by decide +kernel
theorem dX3_cycleNow_19 : decode cX3_cycleNow 19 = .ok (.aload_n 0, 1) := by decide +kernel
theorem dX3_cycleNow_20 : decode cX3_cycleNow 20 = .ok (.getfield 19, 3) := by decide +kernel
theorem dX3_cycleNow_23 : decode cX3_cycleNow 23 = .ok (.idiv, 1) := by decide +kernel
theorem dX3_cycleNow_24 : decode cX3_cycleNow 24 = .ok (.ireturn, 1) := by decide +kernel
theorem dX4_init_0 : decode cX4_init 0 = .ok (.aload_n 0, 1) := by decide +kernel
theorem dX4_init_1 : decode cX4_init 1 = .ok (.invokespecial 3, 3) := by decide +kernel
theorem dX4_init_4 : decode cX4_init 4 = .ok (.aload_n 0, 1) := by decide +kernel
theorem dX4_init_5 : decode cX4_init 5 = .ok (.iconst 3, 1) := by decide +kernel
theorem dX4_init_6 : decode cX4_init 6 = .ok (.putfield 9, 3) := by decide +kernel
theorem dX4_init_9 : decode cX4_init 9 = .ok (.aload_n 0, 1) := by decide +kernel
theorem dX4_init_10 : decode cX4_init 10 = .ok (.bipush 16, 2) := by decide +kernel
theorem dX4_init_12 : decode cX4_init 12 = .ok (.putfield 15, 3) := by decide +kernel
theorem dX4_init_15 : decode cX4_init 15 = .ok (.aload_n 0, 1) := by decide +kernel
theorem dX4_init_16 : decode cX4_init 16 = .ok (.dconst 1, 1) := by decide +kernel
theorem dX4_init_17 : decode cX4_init 17 = .ok (.putfield 18, 3) := by decide +kernel
theorem dX4_init_20 : decode cX4_init 20 = .ok (.aload_n 0, 1) := by decide +kernel
theorem dX4_init_21 : decode cX4_init 21 = .ok (.ldc2_w 22, 3) := by decide +kernel
theorem dX4_init_24 : decode cX4_init 24 = .ok (.putfield 24, 3) := by decide +kernel
theorem dX4_init_27 : decode cX4_init 27 = .ok (.aload_n 0, 1) := by decide +kernel
theorem dX4_init_28 : decode cX4_init 28 = .ok (.ldc2_w 27, 3) := by decide +kernel
theorem dX4_init_31 : decode cX4_init 31 = .ok (.putfield 29, 3) := by decide +kernel
theorem dX4_init_34 : decode cX4_init 34 = .ok (.return_, 1) := by decide +kernel
theorem dX4_isAgain_0 : decode cX4_isAgain 0 = .ok (.iload_n 1, 1) := by decide +kernel
theorem dX4_isAgain_1 : decode cX4_isAgain 1 = .ok (.aload_n 0, 1) := by decide +kernel
theorem dX4_isAgain_2 : decode cX4_isAgain 2 = .ok (.getfield 15, 3) := by decide +kernel
theorem dX4_isAgain_5 : decode cX4_isAgain 5 = .ok (.iand, 1) := by decide +kernel
theorem dX4_isAgain_6 : decode cX4_isAgain 6 = .ok (.ifCond .eq 7, 3) := by decide +kernel
theorem dX4_isAgain_9 : decode cX4_isAgain 9 = .ok (.iconst 1, 1) := by decide +kernel
theorem dX4_isAgain_10 : decode cX4_isAgain 10 = .ok (.goto 4, 3) := by decide +kernel
theorem dX4_isAgain_13 : decode cX4_isAgain 13 = .ok (.iconst 0, 1) := by decide +kernel
theorem dX4_isAgain_14 : decode cX4_isAgain 14 = .ok (.ireturn, 1) := by decide +kernel
theorem dX4_ticksAfter_0 : decode cX4_ticksAfter 0 = .ok (.aload_n 0, 1) := by decide +kernel
theorem dX4_ticksAfter_1 : decode cX4_ticksAfter 1 = .ok (.getfield 18, 3) := by decide +kernel
theorem dX4_ticksAfter_4 : decode cX4_ticksAfter 4 = .ok (.dstore_n 2, 1) := by decide +kernel
theorem dX4_ticksAfter_5 : decode cX4_ticksAfter 5 = .ok (.iconst 1, 1) := by decide +kernel
theorem dX4_ticksAfter_6 : decode cX4_ticksAfter 6 = .ok (.istore 4, 2) := by decide +kernel
theorem dX4_ticksAfter_8 : decode cX4_ticksAfter 8 = .ok (.iload 4, 2) := by decide +kernel
theorem dX4_ticksAfter_10 : decode cX4_ticksAfter 10 = .ok (.iload_n 1, 1) := by decide +kernel
theorem dX4_ticksAfter_11 : decode cX4_ticksAfter 11 = .ok (.if_icmp .ge 16, 3) := by decide +kernel
theorem dX4_ticksAfter_14 : decode cX4_ticksAfter 14 = .ok (.dload_n 2, 1) := by decide +kernel
theorem dX4_ticksAfter_15 : decode cX4_ticksAfter 15 = .ok (.aload_n 0, 1) := by decide +kernel
theorem dX4_ticksAfter_16 : decode cX4_ticksAfter 16 = .ok (.getfield 24, 3) := by decide +kernel
theorem dX4_ticksAfter_19 : decode cX4_ticksAfter 19 = .ok (.dmul, 1) := by decide +kernel
theorem dX4_ticksAfter_20 : decode cX4_ticksAfter 20 = .ok (.dstore_n 2, 1) := by decide +kernel
theorem dX4_ticksAfter_21 : decode cX4_ticksAfter 21 = .ok (.iinc 4 1, 3) := by decide +kernel
theorem dX4_ticksAfter_24 : decode cX4_ticksAfter 24 = .ok (.goto (-16), 3) := by decide +kernel
theorem dX4_ticksAfter_27 : decode cX4_ticksAfter 27 = .ok (.aload_n 0, 1) := by decide +kernel
theorem dX4_ticksAfter_28 : decode cX4_ticksAfter 28 = .ok (.getfield 29, 3) := by decide +kernel
theorem dX4_ticksAfter_31 : decode cX4_ticksAfter 31 = .ok (.dload_n 2, 1) := by decide +kernel
theorem dX4_ticksAfter_32 : decode cX4_ticksAfter 32 = .ok (.dcmp .g, 1) := by decide +kernel
theorem dX4_ticksAfter_33 : decode cX4_ticksAfter 33 = .ok (.ifCond .ge 10, 3) := by decide +kernel
theorem dX4_ticksAfter_36 : decode cX4_ticksAfter 36 = .ok (.aload_n 0, 1) := by decide +kernel
theorem dX4_ticksAfter_37 : decode cX4_ticksAfter 37 = .ok (.getfield 29, 3) := by decide +kernel
theorem dX4_ticksAfter_40 : decode cX4_ticksAfter 40 = .ok (.goto 4, 3) := by decide +kernel
theorem dX4_ticksAfter_43 : decode cX4_ticksAfter 43 = .ok (.dload_n 2, 1) := by decide +kernel
theorem dX4_ticksAfter_44 : decode cX4_ticksAfter 44 = .ok (.d2i, 1) := by decide +kernel
theorem dX4_ticksAfter_45 : decode cX4_ticksAfter 45 = .ok (.ireturn, 1) := by decide +kernel
theorem dX5_init_0 : decode cX5_init 0 = .ok (.aload_n 0, 1) := by decide +kernel
theorem dX5_init_1 : decode cX5_init 1 = .ok (.invokespecial 3, 3) := by decide +kernel
theorem dX5_init_4 : decode cX5_init 4 = .ok (.aload_n 0, 1) := by decide +kernel
theorem dX5_init_5 : decode cX5_init 5 = .ok (.aload_n 1, 1) := by decide +kernel
theorem dX5_init_6 : decode cX5_init 6 = .ok (.putfield 9, 3) := by decide +kernel
theorem dX5_init_9 : decode cX5_init 9 = .ok (.aload_n 0, 1) := by decide +kernel
theorem dX5_init_10 : decode cX5_init 10 = .ok (.aload_n 2, 1) := by decide +kernel
theorem dX5_init_11 : decode cX5_init 11 = .ok (.putfield 15, 3) := by decide +kernel
theorem dX5_init_14 : decode cX5_init 14 = .ok (.aload_n 0, 1) := by decide +kernel
theorem dX5_init_15 : decode cX5_init 15 = .ok (.bipush 20, 2) := by decide +kernel
theorem dX5_init_17 : decode cX5_init 17 = .ok (.newarray .int, 2) := by decide +kernel
theorem dX5_init_19 : decode cX5_init 19 = .ok (.putfield 19, 3) := by decide +kernel
theorem dX5_init_22 : decode cX5_init 22 = .ok (.aload_n 0, 1) := by decide +kernel
theorem dX5_init_23 : decode cX5_init 23 = .ok (.bipush 20, 2) := by decide +kernel
theorem dX5_init_25 : decode cX5_init 25 = .ok (.newarray .int, 2) := by decide +kernel
theorem dX5_init_27 : decode cX5_init 27 = .ok (.putfield 23, 3) := by decide +kernel
theorem dX5_init_30 : decode cX5_init 30 = .ok (.aload_n 0, 1) := by decide +kernel
theorem dX5_init_31 : decode cX5_init 31 = .ok (.bipush 20, 2) := by decide +kernel
theorem dX5_init_33 : decode cX5_init 33 = .ok (.newarray .int, 2) := by decide +kernel
theorem dX5_init_35 : decode cX5_init 35 = .ok (.putfield 26, 3) := by decide +kernel
theorem dX5_init_38 : decode cX5_init 38 = .ok (.aload_n 0, 1) := by decide +kernel
theorem dX5_init_39 : decode cX5_init 39 = .ok (.iconst 0, 1) := by decide +kernel
theorem dX5_init_40 : decode cX5_init 40 = .ok (.putfield 29, 3) := by decide +kernel
theorem dX5_init_43 : decode cX5_init 43 = .ok (.aload_n 0, 1) := by decide +kernel
theorem dX5_init_44 : decode cX5_init 44 = .ok (.iconst 0, 1) := by decide +kernel
theorem dX5_init_45 : decode cX5_init 45 = .ok (.putfield 33, 3) := by decide +kernel
theorem dX5_init_48 : decode cX5_init 48 = .ok (.aload_n 0, 1) := by decide +kernel
theorem dX5_init_49 : decode cX5_init 49 = .ok (.iconst 0, 1) := by decide +kernel
theorem dX5_init_50 : decode cX5_init 50 = .ok (.putfield 36, 3) := by decide +kernel
theorem dX5_init_53 : decode cX5_init 53 = .ok (.aload_n 0, 1) := by decide +kernel
theorem dX5_init_54 : decode cX5_init 54 = .ok (.iconst 0, 1) := by decide +kernel
theorem dX5_init_55 : decode cX5_init 55 = .ok (.putfield 39, 3) := by decide +kernel
theorem dX5_init_58 : decode cX5_init 58 = .ok (.return_, 1) := by decide +kernel
theorem dX5_append_0 : decode cX5_append 0 = .ok (.aload_n 0, 1) := by decide +kernel
theorem dX5_append_1 : decode cX5_append 1 = .ok (.getfield 33, 3) := by decide +kernel
theorem dX5_append_4 : decode cX5_append 4 = .ok (.bipush 20, 2) := by decide +kernel
theorem dX5_append_6 : decode cX5_append 6 = .ok (.if_icmp .lt 5, 3) := by decide +kernel
theorem dX5_append_9 : decode cX5_append 9 = .ok (.iconst 0, 1) := by decide +kernel
theorem dX5_append_10 : decode cX5_append 10 = .ok (.ireturn, 1) := by decide +kernel
theorem dX5_append_11 : decode cX5_append 11 = .ok (.aload_n 0, 1) := by decide +kernel
theorem dX5_append_12 : decode cX5_append 12 = .ok (.getfield 29, 3) := by decide +kernel
theorem dX5_append_15 : decode cX5_append 15 = .ok (.aload_n 0, 1) := by decide +kernel
theorem dX5_append_16 : decode cX5_append 16 = .ok (.getfield 33, 3) := by decide +kernel
theorem dX5_append_19 : decode cX5_append 19 = .ok (.iadd, 1) := by decide +kernel
theorem dX5_append_20 : decode cX5_append 20 = .ok (.bipush 20, 2) := by decide +kernel
theorem dX5_append_22 : decode cX5_append 22 = .ok (.irem, 1) := by decide +kernel
theorem dX5_append_23 : decode cX5_append 23 = .ok (.istore 4, 2) := by decide +kernel
theorem dX5_append_25 : decode cX5_append 25 = .ok (.aload_n 0, 1) := by decide +kernel
theorem dX5_append_26 : decode cX5_append 26 = .ok (.getfield 19, 3) := by decide +kernel
theorem dX5_append_29 : decode cX5_append 29 = .ok (.iload 4, 2) := by decide +kernel
theorem dX5_append_31 : decode cX5_append 31 = .ok (.iload_n 1, 1) := by decide +kernel
theorem dX5_append_32 : decode cX5_append 32 = .ok (.iastore, 1) := by decide +kernel
theorem dX5_append_33 : decode cX5_append 33 = .ok (.aload_n 0, 1) := by decide +kernel
theorem dX5_append_34 : decode cX5_append 34 = .ok (.getfield 23, 3) := by decide +kernel
theorem dX5_append_37 : decode cX5_append 37 = .ok (.iload 4, 2) := by decide +kernel
theorem dX5_append_39 : decode cX5_append 39 = .ok (.iload_n 2, 1) := by decide +kernel
theorem dX5_append_40 : decode cX5_append 40 = .ok (.iastore, 1) := by decide +kernel
theorem dX5_append_41 : decode cX5_append 41 = .ok (.aload_n 0, 1) := by decide +kernel
theorem dX5_append_42 : decode cX5_append 42 = .ok (.getfield 26, 3) := by decide +kernel
theorem dX5_append_45 : decode cX5_append 45 = .ok (.iload 4, 2) := by decide +kernel
theorem dX5_append_47 : decode cX5_append 47 = .ok (.iload_n 3, 1) := by decide +kernel
theorem dX5_append_48 : decode cX5_append 48 = .ok (.iastore, 1) := by decide +kernel
theorem dX5_append_49 : decode cX5_append 49 = .ok (.aload_n 0, 1) := by decide +kernel
theorem dX5_append_50 : decode cX5_append 50 = .ok (.dup, 1) := by decide +kernel
theorem dX5_append_51 : decode cX5_append 51 = .ok (.getfield 33, 3) := by decide +kernel
theorem dX5_append_54 : decode cX5_append 54 = .ok (.iconst 1, 1) := by decide +kernel
theorem dX5_append_55 : decode cX5_append 55 = .ok (.iadd, 1) := by decide +kernel
theorem dX5_append_56 : decode cX5_append 56 = .ok (.putfield 33, 3) := by decide +kernel
theorem dX5_append_59 : decode cX5_append 59 = .ok (.iconst 1, 1) := by decide +kernel
theorem dX5_append_60 : decode cX5_append 60 = .ok (.ireturn, 1) := by decide +kernel
set_option maxRecDepth 20000 in
theorem ggX5_supply_X5_succeed : GoodIn wsX5_supply wsX5_succeed := goodIn_r _ [13, 14, 7, 15, 16, 17, 18, 19, 20, 21, 22, 31, 32, 33, 34, 35, 36, 37, 38, 39, 40, 41, 42] (by decide +kernel) (by decide +kernel)
set_option maxRecDepth 20000 in
theorem gX5_supply_X5_succeed : GoodIn wsX5_supply (wsV RX5 42 RX5 yX5_succeed wsX5_succeed) := goodIn_app (goodIn_of _ (by decide +kernel)) ggX5_supply_X5_succeed
set_option maxRecDepth 20000 in
theorem ggX5_supply_X1_lapse : GoodIn wsX5_supply wsX1_lapse := goodIn_r _ [27, 28, 29, 30, 16, 17, 18, 19, 20, 21, 22, 43, 44, 40, 41, 42] (by decide +kernel) (by decide +kernel)
set_option maxRecDepth 20000 in
theorem gX5_supply_X1_lapse : GoodIn wsX5_supply (wsV RX5 46 RX1 yX1_lapse wsX1_lapse) := goodIn_app (goodIn_of _ (by decide +kernel)) ggX5_supply_X1_lapse
set_option maxRecDepth 20000 in
theorem ggX5_supply_X2_add : GoodIn wsX5_supply wsX2_add := goodIn_r _ [19, 20, 21, 22, 40, 41, 42] (by decide +kernel) (by decide +kernel)
set_option maxRecDepth 20000 in
theorem gX5_supply_X2_add : GoodIn wsX5_supply (wsV RX5 52 RX2 yX2_add wsX2_add) := goodIn_app (goodIn_of _ (by decide +kernel)) ggX5_supply_X2_add
theorem dX5_supply_0 : decode cX5_supply 0 = .ok (.aload_n 0, 1) := by decide +kernel
theorem dX5_supply_1 : decode cX5_supply 1 = .ok (.dup, 1) := by decide +kernel
theorem dX5_supply_2 : decode cX5_supply 2 = .ok (.getfield 36, 3) := by decide +kernel
theorem dX5_supply_5 : decode cX5_supply 5 = .ok (.iconst 1, 1) := by decide +kernel
theorem dX5_supply_6 : decode cX5_supply 6 = .ok (.iadd, 1) := by decide +kernel
theorem dX5_supply_7 : decode cX5_supply 7 = .ok (.putfield 36, 3) := by decide +kernel
theorem dX5_supply_10 : decode cX5_supply 10 = .ok (.aload_n 0, 1) := by decide +kernel
theorem dX5_supply_11 : decode cX5_supply 11 = .ok (.getfield 33, 3) := by decide +kernel
theorem dX5_supply_14 : decode cX5_supply 14 = .ok (.iconst 1, 1) := by decide +kernel
theorem dX5_supply_15 : decode cX5_supply 15 = .ok (.if_icmp .ge 9, 3) := by decide +kernel
theorem dX5_supply_18 : decode cX5_supply 18 = .ok (.aload_n 0, 1) := by decide +kernel
theorem dX5_supply_19 : decode cX5_supply 19 = .ok (.iconst 0, 1) := by decide +kernel
theorem dX5_supply_20 : decode cX5_supply 20 = .ok (.invokevirtual 42, 3) := by decide +kernel
theorem dX5_supply_23 : decode cX5_supply 23 = .ok (.ireturn, 1) := by decide +kernel
theorem dX5_supply_24 : decode cX5_supply 24 = .ok (.aload_n 0, 1) := by decide +kernel
theorem dX5_supply_25 : decode cX5_supply 25 = .ok (.getfield 29, 3) := by decide +kernel
theorem dX5_supply_28 : decode cX5_supply 28 = .ok (.istore_n 2, 1) := by decide +kernel
theorem dX5_supply_29 : decode cX5_supply 29 = .ok (.aload_n 0, 1) := by decide +kernel
theorem dX5_supply_30 : decode cX5_supply 30 = .ok (.aload_n 0, 1) := by decide +kernel
theorem dX5_supply_31 : decode cX5_supply 31 = .ok (.getfield 29, 3) := by decide +kernel
theorem dX5_supply_34 : decode cX5_supply 34 = .ok (.iconst 1, 1) := by decide +kernel
theorem dX5_supply_35 : decode cX5_supply 35 = .ok (.iadd, 1) := by decide +kernel
theorem dX5_supply_36 : decode cX5_supply 36 = .ok (.bipush 20, 2) := by decide +kernel
theorem dX5_supply_38 : decode cX5_supply 38 = .ok (.irem, 1) := by decide +kernel
theorem dX5_supply_39 : decode cX5_supply 39 = .ok (.putfield 29, 3) := by decide +kernel
theorem dX5_supply_42 : decode cX5_supply 42 = .ok (.aload_n 0, 1) := by decide +kernel
theorem dX5_supply_43 : decode cX5_supply 43 = .ok (.dup, 1) := by decide +kernel
theorem dX5_supply_44 : decode cX5_supply 44 = .ok (.getfield 33, 3) := by decide +kernel
theorem dX5_supply_47 : decode cX5_supply 47 = .ok (.iconst 1, 1) := by decide +kernel
theorem dX5_supply_48 : decode cX5_supply 48 = .ok (.isub, 1) := by decide +kernel
theorem dX5_supply_49 : decode cX5_supply 49 = .ok (.putfield 33, 3) := by decide +kernel
theorem dX5_supply_52 : decode cX5_supply 52 = .ok (.aload_n 0, 1) := by decide +kernel
theorem dX5_supply_53 : decode cX5_supply 53 = .ok (.getfield 9, 3) := by decide +kernel
theorem dX5_supply_56 : decode cX5_supply 56 = .ok (.aload_n 0, 1) := by decide +kernel
theorem dX5_supply_57 : decode cX5_supply 57 = .ok (.getfield 23, 3) := by decide +kernel
theorem dX5_supply_60 : decode cX5_supply 60 = .ok (.iload_n 2, 1) := by decide +kernel
theorem dX5_supply_61 : decode cX5_supply 61 = .ok (.iaload, 1) := by decide +kernel
theorem dX5_supply_62 : decode cX5_supply 62 = .ok (.iload_n 1, 1) := by decide +kernel
theorem dX5_supply_63 : decode cX5_supply 63 = .ok (.invokevirtual 46, 3) := by decide +kernel
theorem dX5_supply_66 : decode cX5_supply 66 = .ok (.ifCond .ne 6, 3) := by decide +kernel
theorem dX5_supply_69 : decode cX5_supply 69 = .ok (.bipush 8, 2) := by decide +kernel
theorem dX5_supply_71 : decode cX5_supply 71 = .ok (.ireturn, 1) := by decide +kernel
theorem dX5_supply_72 : decode cX5_supply 72 = .ok (.aload_n 0, 1) := by decide +kernel
theorem dX5_supply_73 : decode cX5_supply 73 = .ok (.getfield 19, 3) := by decide +kernel
theorem dX5_supply_76 : decode cX5_supply 76 = .ok (.iload_n 2, 1) := by decide +kernel
theorem dX5_supply_77 : decode cX5_supply 77 = .ok (.iaload, 1) := by decide +kernel
theorem dX5_supply_78 : decode cX5_supply 78 = .ok (.lookupswitch 50 #[(1, 26), (2, 38)], 26) := by decide +kernel
theorem dX5_supply_104 : decode cX5_supply 104 = .ok (.aload_n 0, 1) := by decide +kernel
theorem dX5_supply_105 : decode cX5_supply 105 = .ok (.getfield 15, 3) := by decide +kernel
theorem dX5_supply_108 : decode cX5_supply 108 = .ok (.bipush 52, 2) := by decide +kernel
theorem dX5_supply_110 : decode cX5_supply 110 = .ok (.invokevirtual 52, 3) := by decide +kernel
theorem dX5_supply_113 : decode cX5_supply 113 = .ok (.bipush 16, 2) := by decide +kernel
theorem dX5_supply_115 : decode cX5_supply 115 = .ok (.ireturn, 1) := by decide +kernel
theorem dX5_supply_116 : decode cX5_supply 116 = .ok (.aload_n 0, 1) := by decide +kernel
theorem dX5_supply_117 : decode cX5_supply 117 = .ok (.getfield 15, 3) := by decide +kernel
theorem dX5_supply_120 : decode cX5_supply 120 = .ok (.bipush 53, 2) := by decide +kernel
theorem dX5_supply_122 : decode cX5_supply 122 = .ok (.invokevirtual 52, 3) := by decide +kernel
theorem dX5_supply_125 : decode cX5_supply 125 = .ok (.bipush 32, 2) := by decide +kernel
theorem dX5_supply_127 : decode cX5_supply 127 = .ok (.ireturn, 1) := by decide +kernel
theorem dX5_supply_128 : decode cX5_supply 128 = .ok (.aload_n 0, 1) := by decide +kernel
theorem dX5_supply_129 : decode cX5_supply 129 = .ok (.aload_n 0, 1) := by decide +kernel
theorem dX5_supply_130 : decode cX5_supply 130 = .ok (.getfield 26, 3) := by decide +kernel
theorem dX5_supply_133 : decode cX5_supply 133 = .ok (.iload_n 2, 1) := by decide +kernel
theorem dX5_supply_134 : decode cX5_supply 134 = .ok (.iaload, 1) := by decide +kernel
theorem dX5_supply_135 : decode cX5_supply 135 = .ok (.invokevirtual 42, 3) := by decide +kernel
theorem dX5_supply_138 : decode cX5_supply 138 = .ok (.ireturn, 1) := by decide +kernel
set_option maxRecDepth 20000 in
theorem ggX5_succeed_X2_add : GoodIn wsX5_succeed wsX2_add := goodIn_r _ [7, 8, 9, 10, 20, 21, 22] (by decide +kernel) (by decide +kernel)
set_option maxRecDepth 20000 in
theorem gX5_succeed_X2_add : GoodIn wsX5_succeed (wsV RX5 52 RX2 yX2_add wsX2_add) := goodIn_app (goodIn_of _ (by decide +kernel)) ggX5_succeed_X2_add
theorem dX5_succeed_0 : decode cX5_succeed 0 = .ok (.aload_n 0, 1) := by decide +kernel
theorem dX5_succeed_1 : decode cX5_succeed 1 = .ok (.iload_n 1, 1) := by decide +kernel
theorem dX5_succeed_2 : decode cX5_succeed 2 = .ok (.putfield 39, 3) := by decide +kernel
theorem dX5_succeed_5 : decode cX5_succeed 5 = .ok (.aload_n 0, 1) := by decide +kernel
theorem dX5_succeed_6 : decode cX5_succeed 6 = .ok (.getfield 15, 3) := by decide +kernel
theorem dX5_succeed_9 : decode cX5_succeed 9 = .ok (.bipush 51, 2) := by decide +kernel
theorem dX5_succeed_11 : decode cX5_succeed 11 = .ok (.invokevirtual 52, 3) := by decide +kernel
theorem dX5_succeed_14 : decode cX5_succeed 14 = .ok (.iconst 0, 1) := by decide +kernel
theorem dX5_succeed_15 : decode cX5_succeed 15 = .ok (.ireturn, 1) := by decide +kernel
theorem dJ6_bitCount_0f7a4_0 : decode cJ6_bitCount_0f7a4 0 = .ok (.iload_n 0, 1) := by decide +kernel
theorem dJ6_bitCount_0f7a4_1 : decode cJ6_bitCount_0f7a4 1 = .ok (.iload_n 0, 1) := by decide +kernel
theorem dJ6_bitCount_0f7a4_2 : decode cJ6_bitCount_0f7a4 2 = .ok (.iconst 1, 1) := by decide +kernel
theorem dJ6_bitCount_0f7a4_3 : decode cJ6_bitCount_0f7a4 3 = .ok (.iushr, 1) := by decide +kernel
theorem dJ6_bitCount_0f7a4_4 : decode cJ6_bitCount_0f7a4 4 = .ok (.ldc_w 265, 3) := by decide +kernel
theorem dJ6_bitCount_0f7a4_7 : decode cJ6_bitCount_0f7a4 7 = .ok (.iand, 1) := by decide +kernel
theorem dJ6_bitCount_0f7a4_8 : decode cJ6_bitCount_0f7a4 8 = .ok (.isub, 1) := by decide +kernel
theorem dJ6_bitCount_0f7a4_9 : decode cJ6_bitCount_0f7a4 9 = .ok (.istore_n 0, 1) := by decide +kernel
theorem dJ6_bitCount_0f7a4_10 : decode cJ6_bitCount_0f7a4 10 = .ok (.iload_n 0, 1) := by decide +kernel
theorem dJ6_bitCount_0f7a4_11 : decode cJ6_bitCount_0f7a4 11 = .ok (.ldc_w 266, 3) := by decide +kernel
theorem dJ6_bitCount_0f7a4_14 : decode cJ6_bitCount_0f7a4 14 = .ok (.iand, 1) := by decide +kernel
theorem dJ6_bitCount_0f7a4_15 : decode cJ6_bitCount_0f7a4 15 = .ok (.iload_n 0, 1) := by decide +kernel
theorem dJ6_bitCount_0f7a4_16 : decode cJ6_bitCount_0f7a4 16 = .ok (.iconst 2, 1) := by decide +kernel
theorem dJ6_bitCount_0f7a4_17 : decode cJ6_bitCount_0f7a4 17 = .ok (.iushr, 1) := by decide +kernel
theorem dJ6_bitCount_0f7a4_18 : decode cJ6_bitCount_0f7a4 18 = .ok (.ldc_w 266, 3) := by decide +kernel
theorem dJ6_bitCount_0f7a4_21 : decode cJ6_bitCount_0f7a4 21 = .ok (.iand, 1) := by decide +kernel
theorem dJ6_bitCount_0f7a4_22 : decode cJ6_bitCount_0f7a4 22 = .ok (.iadd, 1) := by decide +kernel
theorem dJ6_bitCount_0f7a4_23 : decode cJ6_bitCount_0f7a4 23 = .ok (.istore_n 0, 1) := by decide +kernel
theorem dJ6_bitCount_0f7a4_24 : decode cJ6_bitCount_0f7a4 24 = .ok (.iload_n 0, 1) := by decide +kernel
theorem dJ6_bitCount_0f7a4_25 : decode cJ6_bitCount_0f7a4 25 = .ok (.iload_n 0, 1) := by decide +kernel
theorem dJ6_bitCount_0f7a4_26 : decode cJ6_bitCount_0f7a4 26 = .ok (.iconst 4, 1) := by decide +kernel
theorem dJ6_bitCount_0f7a4_27 : decode cJ6_bitCount_0f7a4 27 = .ok (.iushr, 1) := by decide +kernel
theorem dJ6_bitCount_0f7a4_28 : decode cJ6_bitCount_0f7a4 28 = .ok (.iadd, 1) := by decide +kernel
theorem dJ6_bitCount_0f7a4_29 : decode cJ6_bitCount_0f7a4 29 = .ok (.ldc_w 267, 3) := by decide +kernel
theorem dJ6_bitCount_0f7a4_32 : decode cJ6_bitCount_0f7a4 32 = .ok (.iand, 1) := by decide +kernel
theorem dJ6_bitCount_0f7a4_33 : decode cJ6_bitCount_0f7a4 33 = .ok (.istore_n 0, 1) := by decide +kernel
theorem dJ6_bitCount_0f7a4_34 : decode cJ6_bitCount_0f7a4 34 = .ok (.iload_n 0, 1) := by decide +kernel
theorem dJ6_bitCount_0f7a4_35 : decode cJ6_bitCount_0f7a4 35 = .ok (.iload_n 0, 1) := by decide +kernel
theorem dJ6_bitCount_0f7a4_36 : decode cJ6_bitCount_0f7a4 36 = .ok (.bipush 8, 2) := by decide +kernel
theorem dJ6_bitCount_0f7a4_38 : decode cJ6_bitCount_0f7a4 38 = .ok (.iushr, 1) := by decide +kernel
theorem dJ6_bitCount_0f7a4_39 : decode cJ6_bitCount_0f7a4 39 = .ok (.iadd, 1) := by decide +kernel
theorem dJ6_bitCount_0f7a4_40 : decode cJ6_bitCount_0f7a4 40 = .ok (.istore_n 0, 1) := by decide +kernel
theorem dJ6_bitCount_0f7a4_41 : decode cJ6_bitCount_0f7a4 41 = .ok (.iload_n 0, 1) := by decide +kernel
theorem dJ6_bitCount_0f7a4_42 : decode cJ6_bitCount_0f7a4 42 = .ok (.iload_n 0, 1) := by decide +kernel
theorem dJ6_bitCount_0f7a4_43 : decode cJ6_bitCount_0f7a4 43 = .ok (.bipush 16, 2) := by decide +kernel
theorem dJ6_bitCount_0f7a4_45 : decode cJ6_bitCount_0f7a4 45 = .ok (.iushr, 1) := by decide +kernel
theorem dJ6_bitCount_0f7a4_46 : decode cJ6_bitCount_0f7a4 46 = .ok (.iadd, 1) := by decide +kernel
theorem dJ6_bitCount_0f7a4_47 : decode cJ6_bitCount_0f7a4 47 = .ok (.istore_n 0, 1) := by decide +kernel
theorem dJ6_bitCount_0f7a4_48 : decode cJ6_bitCount_0f7a4 48 = .ok (.iload_n 0, 1) := by decide +kernel
theorem dJ6_bitCount_0f7a4_49 : decode cJ6_bitCount_0f7a4 49 = .ok (.bipush 63, 2) := by decide +kernel
theorem dJ6_bitCount_0f7a4_51 : decode cJ6_bitCount_0f7a4 51 = .ok (.iand, 1) := by decide +kernel
theorem dJ6_bitCount_0f7a4_52 : decode cJ6_bitCount_0f7a4 52 = .ok (.ireturn, 1) := by decide +kernel
