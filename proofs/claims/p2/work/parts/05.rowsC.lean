theorem dX7_init_0 : decode cX7_init 0 = .ok (.aload_n 0, 1) := by decide +kernel
theorem dX7_init_1 : decode cX7_init 1 = .ok (.invokespecial 1, 3) := by decide +kernel
theorem dX7_init_4 : decode cX7_init 4 = .ok (.aload_n 0, 1) := by decide +kernel
theorem dX7_init_5 : decode cX7_init 5 = .ok (.iconst 5, 1) := by decide +kernel
theorem dX7_init_6 : decode cX7_init 6 = .ok (.newarray .int, 2) := by decide +kernel
theorem dX7_init_8 : decode cX7_init 8 = .ok (.putfield 7, 3) := by decide +kernel
theorem dX7_init_11 : decode cX7_init 11 = .ok (.aload_n 0, 1) := by decide +kernel
theorem dX7_init_12 : decode cX7_init 12 = .ok (.bipush 20, 2) := by decide +kernel
theorem dX7_init_14 : decode cX7_init 14 = .ok (.newarray .int, 2) := by decide +kernel
theorem dX7_init_16 : decode cX7_init 16 = .ok (.putfield 13, 3) := by decide +kernel
theorem dX7_init_19 : decode cX7_init 19 = .ok (.aload_n 0, 1) := by decide +kernel
theorem dX7_init_20 : decode cX7_init 20 = .ok (.bipush 20, 2) := by decide +kernel
theorem dX7_init_22 : decode cX7_init 22 = .ok (.newarray .int, 2) := by decide +kernel
theorem dX7_init_24 : decode cX7_init 24 = .ok (.putfield 16, 3) := by decide +kernel
theorem dX7_init_27 : decode cX7_init 27 = .ok (.aload_n 0, 1) := by decide +kernel
theorem dX7_init_28 : decode cX7_init 28 = .ok (.bipush 20, 2) := by decide +kernel
theorem dX7_init_30 : decode cX7_init 30 = .ok (.newarray .int, 2) := by decide +kernel
theorem dX7_init_32 : decode cX7_init 32 = .ok (.putfield 19, 3) := by decide +kernel
theorem dX7_init_35 : decode cX7_init 35 = .ok (.aload_n 0, 1) := by decide +kernel
theorem dX7_init_36 : decode cX7_init 36 = .ok (.iconst 4, 1) := by decide +kernel
theorem dX7_init_37 : decode cX7_init 37 = .ok (.putfield 22, 3) := by decide +kernel
theorem dX7_init_40 : decode cX7_init 40 = .ok (.aload_n 0, 1) := by decide +kernel
theorem dX7_init_41 : decode cX7_init 41 = .ok (.iconst 2, 1) := by decide +kernel
theorem dX7_init_42 : decode cX7_init 42 = .ok (.putfield 26, 3) := by decide +kernel
theorem dX7_init_45 : decode cX7_init 45 = .ok (.aload_n 0, 1) := by decide +kernel
theorem dX7_init_46 : decode cX7_init 46 = .ok (.bipush 10, 2) := by decide +kernel
theorem dX7_init_48 : decode cX7_init 48 = .ok (.putfield 29, 3) := by decide +kernel
theorem dX7_init_51 : decode cX7_init 51 = .ok (.aload_n 0, 1) := by decide +kernel
theorem dX7_init_52 : decode cX7_init 52 = .ok (.iconst 2, 1) := by decide +kernel
theorem dX7_init_53 : decode cX7_init 53 = .ok (.putfield 32, 3) := by decide +kernel
theorem dX7_init_56 : decode cX7_init 56 = .ok (.aload_n 0, 1) := by decide +kernel
theorem dX7_init_57 : decode cX7_init 57 = .ok (.iconst 5, 1) := by decide +kernel
theorem dX7_init_58 : decode cX7_init 58 = .ok (.putfield 35, 3) := by decide +kernel
theorem dX7_init_61 : decode cX7_init 61 = .ok (.aload_n 0, 1) := by decide +kernel
theorem dX7_init_62 : decode cX7_init 62 = .ok (.ldc2_w 38, 3) := by decide +kernel
theorem dX7_init_65 : decode cX7_init 65 = .ok (.putfield 40, 3) := by decide +kernel
theorem dX7_init_68 : decode cX7_init 68 = .ok (.aload_n 0, 1) := by decide +kernel
theorem dX7_init_69 : decode cX7_init 69 = .ok (.ldc2_w 44, 3) := by decide +kernel
theorem dX7_init_72 : decode cX7_init 72 = .ok (.putfield 46, 3) := by decide +kernel
theorem dX7_init_75 : decode cX7_init 75 = .ok (.aload_n 0, 1) := by decide +kernel
theorem dX7_init_76 : decode cX7_init 76 = .ok (.bipush 8, 2) := by decide +kernel
theorem dX7_init_78 : decode cX7_init 78 = .ok (.newarray .int, 2) := by decide +kernel
theorem dX7_init_80 : decode cX7_init 80 = .ok (.putfield 49, 3) := by decide +kernel
theorem dX7_init_83 : decode cX7_init 83 = .ok (.aload_n 0, 1) := by decide +kernel
theorem dX7_init_84 : decode cX7_init 84 = .ok (.iconst 2, 1) := by decide +kernel
theorem dX7_init_85 : decode cX7_init 85 = .ok (.putfield 52, 3) := by decide +kernel
theorem dX7_init_88 : decode cX7_init 88 = .ok (.aload_n 0, 1) := by decide +kernel
theorem dX7_init_89 : decode cX7_init 89 = .ok (.bipush 10, 2) := by decide +kernel
theorem dX7_init_91 : decode cX7_init 91 = .ok (.putfield 55, 3) := by decide +kernel
theorem dX7_init_94 : decode cX7_init 94 = .ok (.aload_n 0, 1) := by decide +kernel
theorem dX7_init_95 : decode cX7_init 95 = .ok (.iconst 2, 1) := by decide +kernel
theorem dX7_init_96 : decode cX7_init 96 = .ok (.putfield 58, 3) := by decide +kernel
theorem dX7_init_99 : decode cX7_init 99 = .ok (.aload_n 0, 1) := by decide +kernel
theorem dX7_init_100 : decode cX7_init 100 = .ok (.iconst 5, 1) := by decide +kernel
theorem dX7_init_101 : decode cX7_init 101 = .ok (.putfield 61, 3) := by decide +kernel
theorem dX7_init_104 : decode cX7_init 104 = .ok (.aload_n 0, 1) := by decide +kernel
theorem dX7_init_105 : decode cX7_init 105 = .ok (.iconst 2, 1) := by decide +kernel
theorem dX7_init_106 : decode cX7_init 106 = .ok (.putfield 64, 3) := by decide +kernel
theorem dX7_init_109 : decode cX7_init 109 = .ok (.aload_n 0, 1) := by decide +kernel
theorem dX7_init_110 : decode cX7_init 110 = .ok (.iconst 3, 1) := by decide +kernel
theorem dX7_init_111 : decode cX7_init 111 = .ok (.putfield 67, 3) := by decide +kernel
theorem dX7_init_114 : decode cX7_init 114 = .ok (.aload_n 0, 1) := by decide +kernel
theorem dX7_init_115 : decode cX7_init 115 = .ok (.bipush 16, 2) := by decide +kernel
theorem dX7_init_117 : decode cX7_init 117 = .ok (.putfield 70, 3) := by decide +kernel
theorem dX7_init_120 : decode cX7_init 120 = .ok (.aload_n 0, 1) := by decide +kernel
theorem dX7_init_121 : decode cX7_init 121 = .ok (.dconst 1, 1) := by decide +kernel
theorem dX7_init_122 : decode cX7_init 122 = .ok (.putfield 73, 3) := by decide +kernel
theorem dX7_init_125 : decode cX7_init 125 = .ok (.aload_n 0, 1) := by decide +kernel
theorem dX7_init_126 : decode cX7_init 126 = .ok (.ldc2_w 76, 3) := by decide +kernel
theorem dX7_init_129 : decode cX7_init 129 = .ok (.putfield 78, 3) := by decide +kernel
theorem dX7_init_132 : decode cX7_init 132 = .ok (.aload_n 0, 1) := by decide +kernel
theorem dX7_init_133 : decode cX7_init 133 = .ok (.ldc2_w 81, 3) := by decide +kernel
theorem dX7_init_136 : decode cX7_init 136 = .ok (.putfield 83, 3) := by decide +kernel
theorem dX7_init_139 : decode cX7_init 139 = .ok (.aload_n 0, 1) := by decide +kernel
theorem dX7_init_140 : decode cX7_init 140 = .ok (.bipush 10, 2) := by decide +kernel
theorem dX7_init_142 : decode cX7_init 142 = .ok (.putfield 86, 3) := by decide +kernel
theorem dX7_init_145 : decode cX7_init 145 = .ok (.aload_n 0, 1) := by decide +kernel
theorem dX7_init_146 : decode cX7_init 146 = .ok (.bipush 8, 2) := by decide +kernel
theorem dX7_init_148 : decode cX7_init 148 = .ok (.newarray .int, 2) := by decide +kernel
theorem dX7_init_150 : decode cX7_init 150 = .ok (.putfield 89, 3) := by decide +kernel
theorem dX7_init_153 : decode cX7_init 153 = .ok (.aload_n 0, 1) := by decide +kernel
theorem dX7_init_154 : decode cX7_init 154 = .ok (.ldc 92, 2) := by decide +kernel
theorem dX7_init_156 : decode cX7_init 156 = .ok (.putfield 93, 3) := by decide +kernel
theorem dX7_init_159 : decode cX7_init 159 = .ok (.return_, 1) := by decide +kernel
theorem dX7_in_0 : decode cX7_in 0 = .ok (.iload_n 0, 1) := by decide +kernel
theorem dX7_in_1 : decode cX7_in 1 = .ok (.iload_n 1, 1) := by decide +kernel
theorem dX7_in_2 : decode cX7_in 2 = .ok (.if_icmp .lt 12, 3) := by decide +kernel
theorem dX7_in_5 : decode cX7_in 5 = .ok (.iload_n 0, 1) := by decide +kernel
theorem dX7_in_6 : decode cX7_in 6 = .ok (.iload_n 2, 1) := by decide +kernel
theorem dX7_in_7 : decode cX7_in 7 = .ok (.if_icmp .gt 7, 3) := by decide +kernel
theorem dX7_in_10 : decode cX7_in 10 = .ok (.iconst 1, 1) := by decide +kernel
theorem dX7_in_11 : decode cX7_in 11 = .ok (.goto 4, 3) := by decide +kernel
theorem dX7_in_14 : decode cX7_in 14 = .ok (.iconst 0, 1) := by decide +kernel
theorem dX7_in_15 : decode cX7_in 15 = .ok (.ireturn, 1) := by decide +kernel
theorem dX7_note_0 : decode cX7_note 0 = .ok (.bipush 7, 2) := by decide +kernel
theorem dX7_note_2 : decode cX7_note 2 = .ok (.istore_n 2, 1) := by decide +kernel
theorem dX7_note_3 : decode cX7_note 3 = .ok (.iload_n 2, 1) := by decide +kernel
theorem dX7_note_4 : decode cX7_note 4 = .ok (.ifCond .le 23, 3) := by decide +kernel
theorem dX7_note_7 : decode cX7_note 7 = .ok (.aload_n 0, 1) := by decide +kernel
theorem dX7_note_8 : decode cX7_note 8 = .ok (.getfield 89, 3) := by decide +kernel
theorem dX7_note_11 : decode cX7_note 11 = .ok (.iload_n 2, 1) := by decide +kernel
theorem dX7_note_12 : decode cX7_note 12 = .ok (.aload_n 0, 1) := by decide +kernel
theorem dX7_note_13 : decode cX7_note 13 = .ok (.getfield 89, 3) := by decide +kernel
theorem dX7_note_16 : decode cX7_note 16 = .ok (.iload_n 2, 1) := by decide +kernel
theorem dX7_note_17 : decode cX7_note 17 = .ok (.iconst 1, 1) := by decide +kernel
theorem dX7_note_18 : decode cX7_note 18 = .ok (.isub, 1) := by decide +kernel
theorem dX7_note_19 : decode cX7_note 19 = .ok (.iaload, 1) := by decide +kernel
theorem dX7_note_20 : decode cX7_note 20 = .ok (.iastore, 1) := by decide +kernel
theorem dX7_note_21 : decode cX7_note 21 = .ok (.iinc 2 (-1), 3) := by decide +kernel
theorem dX7_note_24 : decode cX7_note 24 = .ok (.goto (-21), 3) := by decide +kernel
theorem dX7_note_27 : decode cX7_note 27 = .ok (.aload_n 0, 1) := by decide +kernel
theorem dX7_note_28 : decode cX7_note 28 = .ok (.getfield 89, 3) := by decide +kernel
theorem dX7_note_31 : decode cX7_note 31 = .ok (.iconst 0, 1) := by decide +kernel
theorem dX7_note_32 : decode cX7_note 32 = .ok (.iload_n 1, 1) := by decide +kernel
theorem dX7_note_33 : decode cX7_note 33 = .ok (.iastore, 1) := by decide +kernel
theorem dX7_note_34 : decode cX7_note 34 = .ok (.aload_n 0, 1) := by decide +kernel
theorem dX7_note_35 : decode cX7_note 35 = .ok (.aload_n 0, 1) := by decide +kernel
theorem dX7_note_36 : decode cX7_note 36 = .ok (.getfield 99, 3) := by decide +kernel
theorem dX7_note_39 : decode cX7_note 39 = .ok (.bipush 8, 2) := by decide +kernel
theorem dX7_note_41 : decode cX7_note 41 = .ok (.if_icmp .ge 12, 3) := by decide +kernel
theorem dX7_note_44 : decode cX7_note 44 = .ok (.aload_n 0, 1) := by decide +kernel
theorem dX7_note_45 : decode cX7_note 45 = .ok (.getfield 99, 3) := by decide +kernel
theorem dX7_note_48 : decode cX7_note 48 = .ok (.iconst 1, 1) := by decide +kernel
theorem dX7_note_49 : decode cX7_note 49 = .ok (.iadd, 1) := by decide +kernel
theorem dX7_note_50 : decode cX7_note 50 = .ok (.goto 5, 3) := by decide +kernel
theorem dX7_note_53 : decode cX7_note 53 = .ok (.bipush 8, 2) := by decide +kernel
theorem dX7_note_55 : decode cX7_note 55 = .ok (.putfield 99, 3) := by decide +kernel
theorem dX7_note_58 : decode cX7_note 58 = .ok (.return_, 1) := by decide +kernel
set_option maxRecDepth 20000 in
theorem ggX7_lapse_X7_note : GoodIn wsX7_lapse wsX7_note := goodIn_r _ [7, 8, 9, 10, 11, 12, 13, 14, 15, 16, 17, 18, 19, 20, 21, 22, 23, 24, 25, 26, 27, 28, 29, 30, 31, 32, 33, 34, 35, 36, 37, 38, 39, 40, 41, 42, 43, 44, 45, 46, 47, 48, 49, 50] (by decide +kernel) (by decide +kernel)
set_option maxRecDepth 20000 in
theorem gX7_lapse_X7_note : GoodIn wsX7_lapse (wsV RX7 105 RX7 yX7_note wsX7_note) := goodIn_app (goodIn_of _ (by decide +kernel)) ggX7_lapse_X7_note
theorem dX7_lapse_0 : decode cX7_lapse 0 = .ok (.iload_n 1, 1) := by decide +kernel
theorem dX7_lapse_1 : decode cX7_lapse 1 = .ok (.aload_n 0, 1) := by decide +kernel
theorem dX7_lapse_2 : decode cX7_lapse 2 = .ok (.getfield 93, 3) := by decide +kernel
theorem dX7_lapse_5 : decode cX7_lapse 5 = .ok (.aload_n 0, 1) := by decide +kernel
theorem dX7_lapse_6 : decode cX7_lapse 6 = .ok (.getfield 102, 3) := by decide +kernel
theorem dX7_lapse_9 : decode cX7_lapse 9 = .ok (.isub, 1) := by decide +kernel
theorem dX7_lapse_10 : decode cX7_lapse 10 = .ok (.if_icmp .gt 7, 3) := by decide +kernel
theorem dX7_lapse_13 : decode cX7_lapse 13 = .ok (.iconst 1, 1) := by decide +kernel
theorem dX7_lapse_14 : decode cX7_lapse 14 = .ok (.goto 4, 3) := by decide +kernel
theorem dX7_lapse_17 : decode cX7_lapse 17 = .ok (.iconst 0, 1) := by decide +kernel
theorem dX7_lapse_18 : decode cX7_lapse 18 = .ok (.istore_n 2, 1) := by decide +kernel
theorem dX7_lapse_19 : decode cX7_lapse 19 = .ok (.aload_n 0, 1) := by decide +kernel
theorem dX7_lapse_20 : decode cX7_lapse 20 = .ok (.iload_n 2, 1) := by decide +kernel
theorem dX7_lapse_21 : decode cX7_lapse 21 = .ok (.ifCond .eq 12, 3) := by decide +kernel
theorem dX7_lapse_24 : decode cX7_lapse 24 = .ok (.aload_n 0, 1) := by decide +kernel
theorem dX7_lapse_25 : decode cX7_lapse 25 = .ok (.getfield 102, 3) := by decide +kernel
theorem dX7_lapse_28 : decode cX7_lapse 28 = .ok (.iload_n 1, 1) := by decide +kernel
theorem dX7_lapse_29 : decode cX7_lapse 29 = .ok (.iadd, 1) := by decide +kernel
theorem dX7_lapse_30 : decode cX7_lapse 30 = .ok (.goto 7, 3) := by decide +kernel
theorem dX7_lapse_33 : decode cX7_lapse 33 = .ok (.aload_n 0, 1) := by decide +kernel
theorem dX7_lapse_34 : decode cX7_lapse 34 = .ok (.getfield 93, 3) := by decide +kernel
theorem dX7_lapse_37 : decode cX7_lapse 37 = .ok (.putfield 102, 3) := by decide +kernel
theorem dX7_lapse_40 : decode cX7_lapse 40 = .ok (.iload_n 2, 1) := by decide +kernel
theorem dX7_lapse_41 : decode cX7_lapse 41 = .ok (.ifCond .ne 9, 3) := by decide +kernel
theorem dX7_lapse_44 : decode cX7_lapse 44 = .ok (.aload_n 0, 1) := by decide +kernel
theorem dX7_lapse_45 : decode cX7_lapse 45 = .ok (.bipush 41, 2) := by decide +kernel
theorem dX7_lapse_47 : decode cX7_lapse 47 = .ok (.invokevirtual 105, 3) := by decide +kernel
theorem dX7_lapse_50 : decode cX7_lapse 50 = .ok (.iload_n 2, 1) := by decide +kernel
theorem dX7_lapse_51 : decode cX7_lapse 51 = .ok (.ireturn, 1) := by decide +kernel
theorem dX7_become_0 : decode cX7_become 0 = .ok (.aload_n 0, 1) := by decide +kernel
theorem dX7_become_1 : decode cX7_become 1 = .ok (.iload_n 1, 1) := by decide +kernel
theorem dX7_become_2 : decode cX7_become 2 = .ok (.putfield 109, 3) := by decide +kernel
theorem dX7_become_5 : decode cX7_become 5 = .ok (.aload_n 0, 1) := by decide +kernel
theorem dX7_become_6 : decode cX7_become 6 = .ok (.iconst 0, 1) := by decide +kernel
theorem dX7_become_7 : decode cX7_become 7 = .ok (.putfield 112, 3) := by decide +kernel
theorem dX7_become_10 : decode cX7_become 10 = .ok (.aload_n 0, 1) := by decide +kernel
theorem dX7_become_11 : decode cX7_become 11 = .ok (.iconst 0, 1) := by decide +kernel
theorem dX7_become_12 : decode cX7_become 12 = .ok (.putfield 115, 3) := by decide +kernel
theorem dX7_become_15 : decode cX7_become 15 = .ok (.return_, 1) := by decide +kernel
theorem dX7_marked_0 : decode cX7_marked 0 = .ok (.iconst 0, 1) := by decide +kernel
theorem dX7_marked_1 : decode cX7_marked 1 = .ok (.istore_n 2, 1) := by decide +kernel
theorem dX7_marked_2 : decode cX7_marked 2 = .ok (.iconst 0, 1) := by decide +kernel
theorem dX7_marked_3 : decode cX7_marked 3 = .ok (.istore_n 3, 1) := by decide +kernel
theorem dX7_marked_4 : decode cX7_marked 4 = .ok (.iload_n 3, 1) := by decide +kernel
theorem dX7_marked_5 : decode cX7_marked 5 = .ok (.aload_n 0, 1) := by decide +kernel
theorem dX7_marked_6 : decode cX7_marked 6 = .ok (.getfield 112, 3) := by decide +kernel
theorem dX7_marked_9 : decode cX7_marked 9 = .ok (.if_icmp .ge 28, 3) := by decide +kernel
theorem dX7_marked_12 : decode cX7_marked 12 = .ok (.aload_n 0, 1) := by decide +kernel
theorem dX7_marked_13 : decode cX7_marked 13 = .ok (.getfield 49, 3) := by decide +kernel
theorem dX7_marked_16 : decode cX7_marked 16 = .ok (.iload_n 3, 1) := by decide +kernel
theorem dX7_marked_17 : decode cX7_marked 17 = .ok (.iaload, 1) := by decide +kernel
theorem dX7_marked_18 : decode cX7_marked 18 = .ok (.iload_n 1, 1) := by decide +kernel
theorem dX7_marked_19 : decode cX7_marked 19 = .ok (.iand, 1) := by decide +kernel
theorem dX7_marked_20 : decode cX7_marked 20 = .ok (.ifCond .eq 9, 3) := by decide +kernel
theorem dX7_marked_23 : decode cX7_marked 23 = .ok (.iload_n 2, 1) := by decide +kernel
theorem dX7_marked_24 : decode cX7_marked 24 = .ok (.iconst 1, 1) := by decide +kernel
theorem dX7_marked_25 : decode cX7_marked 25 = .ok (.iadd, 1) := by decide +kernel
theorem dX7_marked_26 : decode cX7_marked 26 = .ok (.goto 4, 3) := by decide +kernel
theorem dX7_marked_29 : decode cX7_marked 29 = .ok (.iload_n 2, 1) := by decide +kernel
theorem dX7_marked_30 : decode cX7_marked 30 = .ok (.istore_n 2, 1) := by decide +kernel
theorem dX7_marked_31 : decode cX7_marked 31 = .ok (.iinc 3 1, 3) := by decide +kernel
theorem dX7_marked_34 : decode cX7_marked 34 = .ok (.goto (-30), 3) := by decide +kernel
theorem dX7_marked_37 : decode cX7_marked 37 = .ok (.iload_n 2, 1) := by decide +kernel
theorem dX7_marked_38 : decode cX7_marked 38 = .ok (.ireturn, 1) := by decide +kernel
set_option maxRecDepth 20000 in
theorem ggX7_rate_X7_marked : GoodIn wsX7_rate wsX7_marked := goodIn_r _ [8, 1, 9, 10, 11, 12, 13, 14, 15, 16, 17, 18, 19, 20, 21, 22, 23, 24, 25, 26, 27, 28, 29, 30, 31, 32, 33, 34, 35, 36, 37, 38, 39, 40, 41, 42, 43, 44, 45, 46, 47, 48, 49, 50] (by decide +kernel) (by decide +kernel)
set_option maxRecDepth 20000 in
theorem gX7_rate_X7_marked : GoodIn wsX7_rate (wsV RX7 120 RX7 yX7_marked wsX7_marked) := goodIn_app (goodIn_of _ (by decide +kernel)) ggX7_rate_X7_marked
theorem dX7_rate_0 : decode cX7_rate 0 = .ok (.aload_n 0, 1) := by decide +kernel
theorem dX7_rate_1 : decode cX7_rate 1 = .ok (.getfield 112, 3) := by decide +kernel
theorem dX7_rate_4 : decode cX7_rate 4 = .ok (.ifCond .ne 9, 3) := by decide +kernel
theorem dX7_rate_7 : decode cX7_rate 7 = .ok (.ldc2_w 118, 3) := by decide +kernel
theorem dX7_rate_10 : decode cX7_rate 10 = .ok (.goto 19, 3) := by decide +kernel
theorem dX7_rate_13 : decode cX7_rate 13 = .ok (.ldc2_w 44, 3) := by decide +kernel
theorem dX7_rate_16 : decode cX7_rate 16 = .ok (.aload_n 0, 1) := by decide +kernel
theorem dX7_rate_17 : decode cX7_rate 17 = .ok (.iload_n 1, 1) := by decide +kernel
theorem dX7_rate_18 : decode cX7_rate 18 = .ok (.invokevirtual 120, 3) := by decide +kernel
theorem dX7_rate_21 : decode cX7_rate 21 = .ok (.i2d, 1) := by decide +kernel
theorem dX7_rate_22 : decode cX7_rate 22 = .ok (.dmul, 1) := by decide +kernel
theorem dX7_rate_23 : decode cX7_rate 23 = .ok (.aload_n 0, 1) := by decide +kernel
theorem dX7_rate_24 : decode cX7_rate 24 = .ok (.getfield 112, 3) := by decide +kernel
theorem dX7_rate_27 : decode cX7_rate 27 = .ok (.i2d, 1) := by decide +kernel
theorem dX7_rate_28 : decode cX7_rate 28 = .ok (.ddiv, 1) := by decide +kernel
theorem dX7_rate_29 : decode cX7_rate 29 = .ok (.dreturn, 1) := by decide +kernel
set_option maxRecDepth 20000 in
theorem ggX7_admits_X7_become : GoodIn wsX7_admits wsX7_become := goodIn_r _ [13, 1, 14, 5, 21, 22, 23, 24, 25, 26, 27, 28, 29, 30, 31, 32, 33, 34, 35, 36, 37, 38, 39, 40, 41, 42, 43, 44, 45, 46, 47, 48, 49, 50, 51, 52, 53, 54, 55, 56, 57, 58, 59, 60, 61] (by decide +kernel) (by decide +kernel)
set_option maxRecDepth 20000 in
theorem gX7_admits_X7_become : GoodIn wsX7_admits (wsV RX7 127 RX7 yX7_become wsX7_become) := goodIn_app (goodIn_of _ (by decide +kernel)) ggX7_admits_X7_become
set_option maxRecDepth 20000 in
theorem ggX7_admits_X7_note : GoodIn wsX7_admits wsX7_note := goodIn_r _ [18, 19, 20, 21, 22, 23, 24, 25, 26, 27, 28, 29, 30, 31, 32, 33, 34, 35, 36, 37, 38, 39, 40, 41, 42, 43, 44, 45, 46, 47, 48, 49, 50, 51, 52, 53, 54, 55, 56, 57, 58, 59, 60, 61] (by decide +kernel) (by decide +kernel)
set_option maxRecDepth 20000 in
theorem gX7_admits_X7_note : GoodIn wsX7_admits (wsV RX7 105 RX7 yX7_note wsX7_note) := goodIn_app (goodIn_of _ (by decide +kernel)) ggX7_admits_X7_note
theorem dX7_admits_0 : decode cX7_admits 0 = .ok (.aload_n 0, 1) := by decide +kernel
theorem dX7_admits_1 : decode cX7_admits 1 = .ok (.getfield 109, 3) := by decide +kernel
theorem dX7_admits_4 : decode cX7_admits 4 = .ok (.iconst 1, 1) := by decide +kernel
theorem dX7_admits_5 : decode cX7_admits 5 = .ok (.if_icmp .ne 29, 3) := by decide +kernel
theorem dX7_admits_8 : decode cX7_admits 8 = .ok (.aload_n 0, 1) := by decide +kernel
theorem dX7_admits_9 : decode cX7_admits 9 = .ok (.getfield 102, 3) := by decide +kernel
theorem dX7_admits_12 : decode cX7_admits 12 = .ok (.aload_n 0, 1) := by decide +kernel
theorem dX7_admits_13 : decode cX7_admits 13 = .ok (.getfield 124, 3) := by decide +kernel
theorem dX7_admits_16 : decode cX7_admits 16 = .ok (.isub, 1) := by decide +kernel
theorem dX7_admits_17 : decode cX7_admits 17 = .ok (.aload_n 0, 1) := by decide +kernel
theorem dX7_admits_18 : decode cX7_admits 18 = .ok (.getfield 29, 3) := by decide +kernel
theorem dX7_admits_21 : decode cX7_admits 21 = .ok (.if_icmp .lt 13, 3) := by decide +kernel
theorem dX7_admits_24 : decode cX7_admits 24 = .ok (.aload_n 0, 1) := by decide +kernel
theorem dX7_admits_25 : decode cX7_admits 25 = .ok (.iconst 2, 1) := by decide +kernel
theorem dX7_admits_26 : decode cX7_admits 26 = .ok (.invokevirtual 127, 3) := by decide +kernel
theorem dX7_admits_29 : decode cX7_admits 29 = .ok (.aload_n 0, 1) := by decide +kernel
theorem dX7_admits_30 : decode cX7_admits 30 = .ok (.iconst 3, 1) := by decide +kernel
theorem dX7_admits_31 : decode cX7_admits 31 = .ok (.invokevirtual 105, 3) := by decide +kernel
theorem dX7_admits_34 : decode cX7_admits 34 = .ok (.aload_n 0, 1) := by decide +kernel
theorem dX7_admits_35 : decode cX7_admits 35 = .ok (.getfield 109, 3) := by decide +kernel
theorem dX7_admits_38 : decode cX7_admits 38 = .ok (.iconst 1, 1) := by decide +kernel
theorem dX7_admits_39 : decode cX7_admits 39 = .ok (.if_icmp .eq 22, 3) := by decide +kernel
theorem dX7_admits_42 : decode cX7_admits 42 = .ok (.aload_n 0, 1) := by decide +kernel
theorem dX7_admits_43 : decode cX7_admits 43 = .ok (.getfield 109, 3) := by decide +kernel
theorem dX7_admits_46 : decode cX7_admits 46 = .ok (.iconst 2, 1) := by decide +kernel
theorem dX7_admits_47 : decode cX7_admits 47 = .ok (.if_icmp .ne 21, 3) := by decide +kernel
theorem dX7_admits_50 : decode cX7_admits 50 = .ok (.aload_n 0, 1) := by decide +kernel
theorem dX7_admits_51 : decode cX7_admits 51 = .ok (.getfield 115, 3) := by decide +kernel
theorem dX7_admits_54 : decode cX7_admits 54 = .ok (.aload_n 0, 1) := by decide +kernel
theorem dX7_admits_55 : decode cX7_admits 55 = .ok (.getfield 32, 3) := by decide +kernel
theorem dX7_admits_58 : decode cX7_admits 58 = .ok (.if_icmp .lt 10, 3) := by decide +kernel
theorem dX7_admits_61 : decode cX7_admits 61 = .ok (.aload_n 0, 1) := by decide +kernel
theorem dX7_admits_62 : decode cX7_admits 62 = .ok (.iconst 1, 1) := by decide +kernel
theorem dX7_admits_63 : decode cX7_admits 63 = .ok (.invokevirtual 105, 3) := by decide +kernel
theorem dX7_admits_66 : decode cX7_admits 66 = .ok (.iconst 0, 1) := by decide +kernel
theorem dX7_admits_67 : decode cX7_admits 67 = .ok (.ireturn, 1) := by decide +kernel
theorem dX7_admits_68 : decode cX7_admits 68 = .ok (.aload_n 0, 1) := by decide +kernel
theorem dX7_admits_69 : decode cX7_admits 69 = .ok (.aload_n 0, 1) := by decide +kernel
theorem dX7_admits_70 : decode cX7_admits 70 = .ok (.getfield 109, 3) := by decide +kernel
theorem dX7_admits_73 : decode cX7_admits 73 = .ok (.iconst 2, 1) := by decide +kernel
theorem dX7_admits_74 : decode cX7_admits 74 = .ok (.if_icmp .ne 7, 3) := by decide +kernel
theorem dX7_admits_77 : decode cX7_admits 77 = .ok (.iconst 1, 1) := by decide +kernel
theorem dX7_admits_78 : decode cX7_admits 78 = .ok (.goto 4, 3) := by decide +kernel
theorem dX7_admits_81 : decode cX7_admits 81 = .ok (.iconst 0, 1) := by decide +kernel
theorem dX7_admits_82 : decode cX7_admits 82 = .ok (.putfield 130, 3) := by decide +kernel
theorem dX7_admits_85 : decode cX7_admits 85 = .ok (.aload_n 0, 1) := by decide +kernel
theorem dX7_admits_86 : decode cX7_admits 86 = .ok (.aload_n 0, 1) := by decide +kernel
theorem dX7_admits_87 : decode cX7_admits 87 = .ok (.getfield 130, 3) := by decide +kernel
theorem dX7_admits_90 : decode cX7_admits 90 = .ok (.ifCond .eq 12, 3) := by decide +kernel
theorem dX7_admits_93 : decode cX7_admits 93 = .ok (.aload_n 0, 1) := by decide +kernel
theorem dX7_admits_94 : decode cX7_admits 94 = .ok (.getfield 115, 3) := by decide +kernel
theorem dX7_admits_97 : decode cX7_admits 97 = .ok (.iconst 1, 1) := by decide +kernel
theorem dX7_admits_98 : decode cX7_admits 98 = .ok (.iadd, 1) := by decide +kernel
theorem dX7_admits_99 : decode cX7_admits 99 = .ok (.goto 7, 3) := by decide +kernel
theorem dX7_admits_102 : decode cX7_admits 102 = .ok (.aload_n 0, 1) := by decide +kernel
theorem dX7_admits_103 : decode cX7_admits 103 = .ok (.getfield 115, 3) := by decide +kernel
theorem dX7_admits_106 : decode cX7_admits 106 = .ok (.putfield 115, 3) := by decide +kernel
theorem dX7_admits_109 : decode cX7_admits 109 = .ok (.aload_n 0, 1) := by decide +kernel
theorem dX7_admits_110 : decode cX7_admits 110 = .ok (.aload_n 0, 1) := by decide +kernel
theorem dX7_admits_111 : decode cX7_admits 111 = .ok (.getfield 102, 3) := by decide +kernel
theorem dX7_admits_114 : decode cX7_admits 114 = .ok (.putfield 134, 3) := by decide +kernel
theorem dX7_admits_117 : decode cX7_admits 117 = .ok (.iconst 1, 1) := by decide +kernel
theorem dX7_admits_118 : decode cX7_admits 118 = .ok (.ireturn, 1) := by decide +kernel
set_option maxRecDepth 20000 in
theorem ggX7_judge_X7_rate : GoodIn wsX7_judge wsX7_rate := goodIn_r _ [17, 5, 18, 19, 20, 21, 22, 16, 23, 7, 36, 37, 38, 39, 40, 41, 42, 43, 44, 45, 46, 47, 48, 49, 50, 51, 52, 53, 54, 55, 56, 57, 58, 59, 60, 61, 62, 63, 64, 65, 66, 67, 68, 69, 70, 71, 72, 73, 74, 75, 76] (by decide +kernel) (by decide +kernel)
set_option maxRecDepth 20000 in
theorem gX7_judge_X7_rate : GoodIn wsX7_judge (wsV RX7 137 RX7 yX7_rate wsX7_rate) := goodIn_app (goodIn_of _ (by decide +kernel)) ggX7_judge_X7_rate
set_option maxRecDepth 20000 in
theorem ggX7_judge_X7_become : GoodIn wsX7_judge wsX7_become := goodIn_r _ [27, 28, 5, 29, 36, 37, 38, 39, 40, 41, 42, 43, 44, 45, 46, 47, 48, 49, 50, 51, 52, 53, 54, 55, 56, 57, 58, 59, 60, 61, 62, 63, 64, 65, 66, 67, 68, 69, 70, 71, 72, 73, 74, 75, 76] (by decide +kernel) (by decide +kernel)
set_option maxRecDepth 20000 in
theorem gX7_judge_X7_become : GoodIn wsX7_judge (wsV RX7 127 RX7 yX7_become wsX7_become) := goodIn_app (goodIn_of _ (by decide +kernel)) ggX7_judge_X7_become
set_option maxRecDepth 20000 in
theorem ggX7_judge_X7_note : GoodIn wsX7_judge wsX7_note := goodIn_r _ [33, 34, 35, 36, 37, 38, 39, 40, 41, 42, 43, 44, 45, 46, 47, 48, 49, 50, 51, 52, 53, 54, 55, 56, 57, 58, 59, 60, 61, 62, 63, 64, 65, 66, 67, 68, 69, 70, 71, 72, 73, 74, 75, 76] (by decide +kernel) (by decide +kernel)
set_option maxRecDepth 20000 in
theorem gX7_judge_X7_note : GoodIn wsX7_judge (wsV RX7 105 RX7 yX7_note wsX7_note) := goodIn_app (goodIn_of _ (by decide +kernel)) ggX7_judge_X7_note
theorem dX7_judge_0 : decode cX7_judge 0 = .ok (.iload_n 1, 1) := by decide +kernel
theorem dX7_judge_1 : decode cX7_judge 1 = .ok (.ifCond .le 7, 3) := by decide +kernel
theorem dX7_judge_4 : decode cX7_judge 4 = .ok (.iconst 1, 1) := by decide +kernel
theorem dX7_judge_5 : decode cX7_judge 5 = .ok (.goto 4, 3) := by decide +kernel
theorem dX7_judge_8 : decode cX7_judge 8 = .ok (.iconst 0, 1) := by decide +kernel
theorem dX7_judge_9 : decode cX7_judge 9 = .ok (.aload_n 0, 1) := by decide +kernel
theorem dX7_judge_10 : decode cX7_judge 10 = .ok (.getfield 102, 3) := by decide +kernel
theorem dX7_judge_13 : decode cX7_judge 13 = .ok (.aload_n 0, 1) := by decide +kernel
theorem dX7_judge_14 : decode cX7_judge 14 = .ok (.getfield 134, 3) := by decide +kernel
theorem dX7_judge_17 : decode cX7_judge 17 = .ok (.isub, 1) := by decide +kernel
theorem dX7_judge_18 : decode cX7_judge 18 = .ok (.aload_n 0, 1) := by decide +kernel
theorem dX7_judge_19 : decode cX7_judge 19 = .ok (.getfield 35, 3) := by decide +kernel
theorem dX7_judge_22 : decode cX7_judge 22 = .ok (.if_icmp .lt 7, 3) := by decide +kernel
theorem dX7_judge_25 : decode cX7_judge 25 = .ok (.iconst 2, 1) := by decide +kernel
theorem dX7_judge_26 : decode cX7_judge 26 = .ok (.goto 4, 3) := by decide +kernel
theorem dX7_judge_29 : decode cX7_judge 29 = .ok (.iconst 0, 1) := by decide +kernel
theorem dX7_judge_30 : decode cX7_judge 30 = .ok (.iadd, 1) := by decide +kernel
theorem dX7_judge_31 : decode cX7_judge 31 = .ok (.istore_n 2, 1) := by decide +kernel
theorem dX7_judge_32 : decode cX7_judge 32 = .ok (.aload_n 0, 1) := by decide +kernel
theorem dX7_judge_33 : decode cX7_judge 33 = .ok (.getfield 130, 3) := by decide +kernel
theorem dX7_judge_36 : decode cX7_judge 36 = .ok (.ifCond .ne 54, 3) := by decide +kernel
theorem dX7_judge_39 : decode cX7_judge 39 = .ok (.aload_n 0, 1) := by decide +kernel
theorem dX7_judge_40 : decode cX7_judge 40 = .ok (.getfield 112, 3) := by decide +kernel
theorem dX7_judge_43 : decode cX7_judge 43 = .ok (.aload_n 0, 1) := by decide +kernel
theorem dX7_judge_44 : decode cX7_judge 44 = .ok (.getfield 22, 3) := by decide +kernel
theorem dX7_judge_47 : decode cX7_judge 47 = .ok (.if_icmp .ne 43, 3) := by decide +kernel
theorem dX7_judge_50 : decode cX7_judge 50 = .ok (.aload_n 0, 1) := by decide +kernel
theorem dX7_judge_51 : decode cX7_judge 51 = .ok (.aload_n 0, 1) := by decide +kernel
theorem dX7_judge_52 : decode cX7_judge 52 = .ok (.getfield 112, 3) := by decide +kernel
theorem dX7_judge_55 : decode cX7_judge 55 = .ok (.iconst 1, 1) := by decide +kernel
theorem dX7_judge_56 : decode cX7_judge 56 = .ok (.isub, 1) := by decide +kernel
theorem dX7_judge_57 : decode cX7_judge 57 = .ok (.putfield 112, 3) := by decide +kernel
theorem dX7_judge_60 : decode cX7_judge 60 = .ok (.iconst 0, 1) := by decide +kernel
theorem dX7_judge_61 : decode cX7_judge 61 = .ok (.istore_n 3, 1) := by decide +kernel
theorem dX7_judge_62 : decode cX7_judge 62 = .ok (.iload_n 3, 1) := by decide +kernel
theorem dX7_judge_63 : decode cX7_judge 63 = .ok (.aload_n 0, 1) := by decide +kernel
theorem dX7_judge_64 : decode cX7_judge 64 = .ok (.getfield 112, 3) := by decide +kernel
theorem dX7_judge_67 : decode cX7_judge 67 = .ok (.if_icmp .ge 23, 3) := by decide +kernel
theorem dX7_judge_70 : decode cX7_judge 70 = .ok (.aload_n 0, 1) := by decide +kernel
theorem dX7_judge_71 : decode cX7_judge 71 = .ok (.getfield 49, 3) := by decide +kernel
theorem dX7_judge_74 : decode cX7_judge 74 = .ok (.iload_n 3, 1) := by decide +kernel
theorem dX7_judge_75 : decode cX7_judge 75 = .ok (.aload_n 0, 1) := by decide +kernel
theorem dX7_judge_76 : decode cX7_judge 76 = .ok (.getfield 49, 3) := by decide +kernel
theorem dX7_judge_79 : decode cX7_judge 79 = .ok (.iload_n 3, 1) := by decide +kernel
theorem dX7_judge_80 : decode cX7_judge 80 = .ok (.iconst 1, 1) := by decide +kernel
theorem dX7_judge_81 : decode cX7_judge 81 = .ok (.iadd, 1) := by decide +kernel
theorem dX7_judge_82 : decode cX7_judge 82 = .ok (.iaload, 1) := by decide +kernel
theorem dX7_judge_83 : decode cX7_judge 83 = .ok (.iastore, 1) := by decide +kernel
theorem dX7_judge_84 : decode cX7_judge 84 = .ok (.iinc 3 1, 3) := by decide +kernel
theorem dX7_judge_87 : decode cX7_judge 87 = .ok (.goto (-25), 3) := by decide +kernel
theorem dX7_judge_90 : decode cX7_judge 90 = .ok (.aload_n 0, 1) := by decide +kernel
theorem dX7_judge_91 : decode cX7_judge 91 = .ok (.getfield 49, 3) := by decide +kernel
theorem dX7_judge_94 : decode cX7_judge 94 = .ok (.aload_n 0, 1) := by decide +kernel
theorem dX7_judge_95 : decode cX7_judge 95 = .ok (.getfield 112, 3) := by decide +kernel
theorem dX7_judge_98 : decode cX7_judge 98 = .ok (.iload_n 2, 1) := by decide +kernel
theorem dX7_judge_99 : decode cX7_judge 99 = .ok (.iastore, 1) := by decide +kernel
theorem dX7_judge_100 : decode cX7_judge 100 = .ok (.aload_n 0, 1) := by decide +kernel
theorem dX7_judge_101 : decode cX7_judge 101 = .ok (.aload_n 0, 1) := by decide +kernel
theorem dX7_judge_102 : decode cX7_judge 102 = .ok (.getfield 112, 3) := by decide +kernel
theorem dX7_judge_105 : decode cX7_judge 105 = .ok (.iconst 1, 1) := by decide +kernel
theorem dX7_judge_106 : decode cX7_judge 106 = .ok (.iadd, 1) := by decide +kernel
theorem dX7_judge_107 : decode cX7_judge 107 = .ok (.putfield 112, 3) := by decide +kernel
theorem dX7_judge_110 : decode cX7_judge 110 = .ok (.aload_n 0, 1) := by decide +kernel
theorem dX7_judge_111 : decode cX7_judge 111 = .ok (.getfield 112, 3) := by decide +kernel
theorem dX7_judge_114 : decode cX7_judge 114 = .ok (.aload_n 0, 1) := by decide +kernel
theorem dX7_judge_115 : decode cX7_judge 115 = .ok (.getfield 130, 3) := by decide +kernel
theorem dX7_judge_118 : decode cX7_judge 118 = .ok (.ifCond .eq 10, 3) := by decide +kernel
theorem dX7_judge_121 : decode cX7_judge 121 = .ok (.aload_n 0, 1) := by decide +kernel
theorem dX7_judge_122 : decode cX7_judge 122 = .ok (.getfield 32, 3) := by decide +kernel
theorem dX7_judge_125 : decode cX7_judge 125 = .ok (.goto 7, 3) := by decide +kernel
theorem dX7_judge_128 : decode cX7_judge 128 = .ok (.aload_n 0, 1) := by decide +kernel
theorem dX7_judge_129 : decode cX7_judge 129 = .ok (.getfield 26, 3) := by decide +kernel
theorem dX7_judge_132 : decode cX7_judge 132 = .ok (.if_icmp .lt 7, 3) := by decide +kernel
theorem dX7_judge_135 : decode cX7_judge 135 = .ok (.iconst 1, 1) := by decide +kernel
theorem dX7_judge_136 : decode cX7_judge 136 = .ok (.goto 4, 3) := by decide +kernel
theorem dX7_judge_139 : decode cX7_judge 139 = .ok (.iconst 0, 1) := by decide +kernel
theorem dX7_judge_140 : decode cX7_judge 140 = .ok (.istore_n 3, 1) := by decide +kernel
theorem dX7_judge_141 : decode cX7_judge 141 = .ok (.iload_n 3, 1) := by decide +kernel
theorem dX7_judge_142 : decode cX7_judge 142 = .ok (.ifCond .ne 4, 3) := by decide +kernel
theorem dX7_judge_145 : decode cX7_judge 145 = .ok (.return_, 1) := by decide +kernel
theorem dX7_judge_146 : decode cX7_judge 146 = .ok (.aload_n 0, 1) := by decide +kernel
theorem dX7_judge_147 : decode cX7_judge 147 = .ok (.iconst 1, 1) := by decide +kernel
theorem dX7_judge_148 : decode cX7_judge 148 = .ok (.invokevirtual 137, 3) := by decide +kernel
theorem dX7_judge_151 : decode cX7_judge 151 = .ok (.aload_n 0, 1) := by decide +kernel
theorem dX7_judge_152 : decode cX7_judge 152 = .ok (.getfield 40, 3) := by decide +kernel
theorem dX7_judge_155 : decode cX7_judge 155 = .ok (.dcmp .l, 1) := by decide +kernel
theorem dX7_judge_156 : decode cX7_judge 156 = .ok (.ifCond .ge 16, 3) := by decide +kernel
theorem dX7_judge_159 : decode cX7_judge 159 = .ok (.aload_n 0, 1) := by decide +kernel
theorem dX7_judge_160 : decode cX7_judge 160 = .ok (.iconst 2, 1) := by decide +kernel
theorem dX7_judge_161 : decode cX7_judge 161 = .ok (.invokevirtual 137, 3) := by decide +kernel
theorem dX7_judge_164 : decode cX7_judge 164 = .ok (.aload_n 0, 1) := by decide +kernel
theorem dX7_judge_165 : decode cX7_judge 165 = .ok (.getfield 46, 3) := by decide +kernel
theorem dX7_judge_168 : decode cX7_judge 168 = .ok (.dcmp .l, 1) := by decide +kernel
theorem dX7_judge_169 : decode cX7_judge 169 = .ok (.ifCond .lt 7, 3) := by decide +kernel
theorem dX7_judge_172 : decode cX7_judge 172 = .ok (.iconst 1, 1) := by decide +kernel
theorem dX7_judge_173 : decode cX7_judge 173 = .ok (.goto 4, 3) := by decide +kernel
theorem dX7_judge_176 : decode cX7_judge 176 = .ok (.iconst 0, 1) := by decide +kernel
theorem dX7_judge_177 : decode cX7_judge 177 = .ok (.istore 4, 2) := by decide +kernel
theorem dX7_judge_179 : decode cX7_judge 179 = .ok (.iload 4, 2) := by decide +kernel
theorem dX7_judge_181 : decode cX7_judge 181 = .ok (.ifCond .eq 24, 3) := by decide +kernel
theorem dX7_judge_184 : decode cX7_judge 184 = .ok (.aload_n 0, 1) := by decide +kernel
theorem dX7_judge_185 : decode cX7_judge 185 = .ok (.iconst 1, 1) := by decide +kernel
theorem dX7_judge_186 : decode cX7_judge 186 = .ok (.invokevirtual 127, 3) := by decide +kernel
theorem dX7_judge_189 : decode cX7_judge 189 = .ok (.aload_n 0, 1) := by decide +kernel
theorem dX7_judge_190 : decode cX7_judge 190 = .ok (.aload_n 0, 1) := by decide +kernel
theorem dX7_judge_191 : decode cX7_judge 191 = .ok (.getfield 102, 3) := by decide +kernel
theorem dX7_judge_194 : decode cX7_judge 194 = .ok (.putfield 124, 3) := by decide +kernel
theorem dX7_judge_197 : decode cX7_judge 197 = .ok (.aload_n 0, 1) := by decide +kernel
theorem dX7_judge_198 : decode cX7_judge 198 = .ok (.iconst 2, 1) := by decide +kernel
theorem dX7_judge_199 : decode cX7_judge 199 = .ok (.invokevirtual 105, 3) := by decide +kernel
theorem dX7_judge_202 : decode cX7_judge 202 = .ok (.goto 20, 3) := by decide +kernel
theorem dX7_judge_205 : decode cX7_judge 205 = .ok (.aload_n 0, 1) := by decide +kernel
theorem dX7_judge_206 : decode cX7_judge 206 = .ok (.getfield 130, 3) := by decide +kernel
theorem dX7_judge_209 : decode cX7_judge 209 = .ok (.ifCond .eq 13, 3) := by decide +kernel
theorem dX7_judge_212 : decode cX7_judge 212 = .ok (.aload_n 0, 1) := by decide +kernel
theorem dX7_judge_213 : decode cX7_judge 213 = .ok (.iconst 0, 1) := by decide +kernel
theorem dX7_judge_214 : decode cX7_judge 214 = .ok (.invokevirtual 127, 3) := by decide +kernel
theorem dX7_judge_217 : decode cX7_judge 217 = .ok (.aload_n 0, 1) := by decide +kernel
theorem dX7_judge_218 : decode cX7_judge 218 = .ok (.iconst 4, 1) := by decide +kernel
theorem dX7_judge_219 : decode cX7_judge 219 = .ok (.invokevirtual 105, 3) := by decide +kernel
theorem dX7_judge_222 : decode cX7_judge 222 = .ok (.return_, 1) := by decide +kernel
theorem dX7_renew_0 : decode cX7_renew 0 = .ok (.aload_n 0, 1) := by decide +kernel
theorem dX7_renew_1 : decode cX7_renew 1 = .ok (.aload_n 0, 1) := by decide +kernel
theorem dX7_renew_2 : decode cX7_renew 2 = .ok (.getfield 102, 3) := by decide +kernel
theorem dX7_renew_5 : decode cX7_renew 5 = .ok (.aload_n 0, 1) := by decide +kernel
theorem dX7_renew_6 : decode cX7_renew 6 = .ok (.getfield 55, 3) := by decide +kernel
theorem dX7_renew_9 : decode cX7_renew 9 = .ok (.idiv, 1) := by decide +kernel
theorem dX7_renew_10 : decode cX7_renew 10 = .ok (.putfield 141, 3) := by decide +kernel
theorem dX7_renew_13 : decode cX7_renew 13 = .ok (.aload_n 0, 1) := by decide +kernel
theorem dX7_renew_14 : decode cX7_renew 14 = .ok (.aload_n 0, 1) := by decide +kernel
theorem dX7_renew_15 : decode cX7_renew 15 = .ok (.getfield 58, 3) := by decide +kernel
theorem dX7_renew_18 : decode cX7_renew 18 = .ok (.putfield 64, 3) := by decide +kernel
theorem dX7_renew_21 : decode cX7_renew 21 = .ok (.return_, 1) := by decide +kernel
set_option maxRecDepth 20000 in
theorem ggX7_limits_X7_renew : GoodIn wsX7_limits wsX7_renew := goodIn_r _ [10, 1, 2, 3, 11, 4, 23, 24, 25, 26, 27, 28, 29, 30, 31, 32, 33, 34, 35, 36, 37, 38, 39, 40, 41, 42, 43, 44, 45, 46, 47, 48, 49, 50, 51, 52, 53, 54, 55, 56, 57, 58, 59, 60, 61, 62, 63] (by decide +kernel) (by decide +kernel)
set_option maxRecDepth 20000 in
theorem gX7_limits_X7_renew : GoodIn wsX7_limits (wsV RX7 144 RX7 yX7_renew wsX7_renew) := goodIn_app (goodIn_of _ (by decide +kernel)) ggX7_limits_X7_renew
set_option maxRecDepth 20000 in
theorem ggX7_limits_X7_note : GoodIn wsX7_limits wsX7_note := goodIn_r _ [15, 16, 17, 23, 24, 25, 26, 27, 28, 29, 30, 31, 32, 33, 34, 35, 36, 37, 38, 39, 40, 41, 42, 43, 44, 45, 46, 47, 48, 49, 50, 51, 52, 53, 54, 55, 56, 57, 58, 59, 60, 61, 62, 63] (by decide +kernel) (by decide +kernel)
set_option maxRecDepth 20000 in
theorem gX7_limits_X7_note : GoodIn wsX7_limits (wsV RX7 105 RX7 yX7_note wsX7_note) := goodIn_app (goodIn_of _ (by decide +kernel)) ggX7_limits_X7_note
set_option maxRecDepth 20000 in
theorem ggX7_limits_X7_lapse : GoodIn wsX7_limits wsX7_lapse := goodIn_r _ [21, 22, 1, 12, 13, 14, 9, 15, 16, 17, 23, 24, 25, 26, 27, 28, 29, 30, 31, 32, 33, 34, 35, 36, 37, 38, 39, 40, 41, 42, 43, 44, 45, 46, 47, 48, 49, 50, 51, 52, 53, 54, 55, 56, 57, 58, 59, 60, 61, 62, 63] (by decide +kernel) (by decide +kernel)
set_option maxRecDepth 20000 in
theorem gX7_limits_X7_lapse : GoodIn wsX7_limits (wsV RX7 147 RX7 yX7_lapse wsX7_lapse) := goodIn_app (goodIn_of _ (by decide +kernel)) ggX7_limits_X7_lapse
theorem dX7_limits_0 : decode cX7_limits 0 = .ok (.aload_n 0, 1) := by decide +kernel
theorem dX7_limits_1 : decode cX7_limits 1 = .ok (.getfield 102, 3) := by decide +kernel
theorem dX7_limits_4 : decode cX7_limits 4 = .ok (.aload_n 0, 1) := by decide +kernel
theorem dX7_limits_5 : decode cX7_limits 5 = .ok (.getfield 55, 3) := by decide +kernel
theorem dX7_limits_8 : decode cX7_limits 8 = .ok (.idiv, 1) := by decide +kernel
theorem dX7_limits_9 : decode cX7_limits 9 = .ok (.aload_n 0, 1) := by decide +kernel
theorem dX7_limits_10 : decode cX7_limits 10 = .ok (.getfield 141, 3) := by decide +kernel
theorem dX7_limits_13 : decode cX7_limits 13 = .ok (.if_icmp .le 7, 3) := by decide +kernel
theorem dX7_limits_16 : decode cX7_limits 16 = .ok (.aload_n 0, 1) := by decide +kernel
theorem dX7_limits_17 : decode cX7_limits 17 = .ok (.invokevirtual 144, 3) := by decide +kernel
theorem dX7_limits_20 : decode cX7_limits 20 = .ok (.aload_n 0, 1) := by decide +kernel
theorem dX7_limits_21 : decode cX7_limits 21 = .ok (.getfield 64, 3) := by decide +kernel
theorem dX7_limits_24 : decode cX7_limits 24 = .ok (.ifCond .ne 56, 3) := by decide +kernel
theorem dX7_limits_27 : decode cX7_limits 27 = .ok (.aload_n 0, 1) := by decide +kernel
theorem dX7_limits_28 : decode cX7_limits 28 = .ok (.getfield 141, 3) := by decide +kernel
theorem dX7_limits_31 : decode cX7_limits 31 = .ok (.iconst 1, 1) := by decide +kernel
theorem dX7_limits_32 : decode cX7_limits 32 = .ok (.iadd, 1) := by decide +kernel
theorem dX7_limits_33 : decode cX7_limits 33 = .ok (.aload_n 0, 1) := by decide +kernel
theorem dX7_limits_34 : decode cX7_limits 34 = .ok (.getfield 55, 3) := by decide +kernel
theorem dX7_limits_37 : decode cX7_limits 37 = .ok (.imul, 1) := by decide +kernel
theorem dX7_limits_38 : decode cX7_limits 38 = .ok (.aload_n 0, 1) := by decide +kernel
theorem dX7_limits_39 : decode cX7_limits 39 = .ok (.getfield 102, 3) := by decide +kernel
theorem dX7_limits_42 : decode cX7_limits 42 = .ok (.isub, 1) := by decide +kernel
theorem dX7_limits_43 : decode cX7_limits 43 = .ok (.istore_n 1, 1) := by decide +kernel
theorem dX7_limits_44 : decode cX7_limits 44 = .ok (.iload_n 1, 1) := by decide +kernel
theorem dX7_limits_45 : decode cX7_limits 45 = .ok (.aload_n 0, 1) := by decide +kernel
theorem dX7_limits_46 : decode cX7_limits 46 = .ok (.getfield 61, 3) := by decide +kernel
theorem dX7_limits_49 : decode cX7_limits 49 = .ok (.if_icmp .le 11, 3) := by decide +kernel
theorem dX7_limits_52 : decode cX7_limits 52 = .ok (.aload_n 0, 1) := by decide +kernel
theorem dX7_limits_53 : decode cX7_limits 53 = .ok (.bipush 21, 2) := by decide +kernel
theorem dX7_limits_55 : decode cX7_limits 55 = .ok (.invokevirtual 105, 3) := by decide +kernel
theorem dX7_limits_58 : decode cX7_limits 58 = .ok (.iconst 3, 1) := by decide +kernel
theorem dX7_limits_59 : decode cX7_limits 59 = .ok (.ireturn, 1) := by decide +kernel
theorem dX7_limits_60 : decode cX7_limits 60 = .ok (.aload_n 0, 1) := by decide +kernel
theorem dX7_limits_61 : decode cX7_limits 61 = .ok (.bipush 22, 2) := by decide +kernel
theorem dX7_limits_63 : decode cX7_limits 63 = .ok (.invokevirtual 105, 3) := by decide +kernel
theorem dX7_limits_66 : decode cX7_limits 66 = .ok (.aload_n 0, 1) := by decide +kernel
theorem dX7_limits_67 : decode cX7_limits 67 = .ok (.iload_n 1, 1) := by decide +kernel
theorem dX7_limits_68 : decode cX7_limits 68 = .ok (.invokevirtual 147, 3) := by decide +kernel
theorem dX7_limits_71 : decode cX7_limits 71 = .ok (.ifCond .ne 5, 3) := by decide +kernel
theorem dX7_limits_74 : decode cX7_limits 74 = .ok (.iconst 4, 1) := by decide +kernel
theorem dX7_limits_75 : decode cX7_limits 75 = .ok (.ireturn, 1) := by decide +kernel
theorem dX7_limits_76 : decode cX7_limits 76 = .ok (.aload_n 0, 1) := by decide +kernel
theorem dX7_limits_77 : decode cX7_limits 77 = .ok (.invokevirtual 144, 3) := by decide +kernel
theorem dX7_limits_80 : decode cX7_limits 80 = .ok (.aload_n 0, 1) := by decide +kernel
theorem dX7_limits_81 : decode cX7_limits 81 = .ok (.aload_n 0, 1) := by decide +kernel
theorem dX7_limits_82 : decode cX7_limits 82 = .ok (.getfield 64, 3) := by decide +kernel
theorem dX7_limits_85 : decode cX7_limits 85 = .ok (.iconst 1, 1) := by decide +kernel
theorem dX7_limits_86 : decode cX7_limits 86 = .ok (.isub, 1) := by decide +kernel
theorem dX7_limits_87 : decode cX7_limits 87 = .ok (.putfield 64, 3) := by decide +kernel
theorem dX7_limits_90 : decode cX7_limits 90 = .ok (.iconst 0, 1) := by decide +kernel
theorem dX7_limits_91 : decode cX7_limits 91 = .ok (.ireturn, 1) := by decide +kernel
theorem dX7_pause_0 : decode cX7_pause 0 = .ok (.aload_n 0, 1) := by decide +kernel
theorem dX7_pause_1 : decode cX7_pause 1 = .ok (.getfield 73, 3) := by decide +kernel
theorem dX7_pause_4 : decode cX7_pause 4 = .ok (.dstore_n 1, 1) := by decide +kernel
theorem dX7_pause_5 : decode cX7_pause 5 = .ok (.iconst 1, 1) := by decide +kernel
theorem dX7_pause_6 : decode cX7_pause 6 = .ok (.istore_n 3, 1) := by decide +kernel
theorem dX7_pause_7 : decode cX7_pause 7 = .ok (.iload_n 3, 1) := by decide +kernel
theorem dX7_pause_8 : decode cX7_pause 8 = .ok (.aload_n 0, 1) := by decide +kernel
theorem dX7_pause_9 : decode cX7_pause 9 = .ok (.getfield 151, 3) := by decide +kernel
theorem dX7_pause_12 : decode cX7_pause 12 = .ok (.if_icmp .ge 16, 3) := by decide +kernel
theorem dX7_pause_15 : decode cX7_pause 15 = .ok (.dload_n 1, 1) := by decide +kernel
theorem dX7_pause_16 : decode cX7_pause 16 = .ok (.aload_n 0, 1) := by decide +kernel
theorem dX7_pause_17 : decode cX7_pause 17 = .ok (.getfield 78, 3) := by decide +kernel
theorem dX7_pause_20 : decode cX7_pause 20 = .ok (.dmul, 1) := by decide +kernel
theorem dX7_pause_21 : decode cX7_pause 21 = .ok (.dstore_n 1, 1) := by decide +kernel
theorem dX7_pause_22 : decode cX7_pause 22 = .ok (.iinc 3 1, 3) := by decide +kernel
theorem dX7_pause_25 : decode cX7_pause 25 = .ok (.goto (-18), 3) := by decide +kernel
theorem dX7_pause_28 : decode cX7_pause 28 = .ok (.dload_n 1, 1) := by decide +kernel
theorem dX7_pause_29 : decode cX7_pause 29 = .ok (.aload_n 0, 1) := by decide +kernel
theorem dX7_pause_30 : decode cX7_pause 30 = .ok (.getfield 83, 3) := by decide +kernel
theorem dX7_pause_33 : decode cX7_pause 33 = .ok (.dcmp .g, 1) := by decide +kernel
theorem dX7_pause_34 : decode cX7_pause 34 = .ok (.ifCond .ge 7, 3) := by decide +kernel
theorem dX7_pause_37 : decode cX7_pause 37 = .ok (.dload_n 1, 1) := by decide +kernel
theorem dX7_pause_38 : decode cX7_pause 38 = .ok (.goto 7, 3) := by decide +kernel
theorem dX7_pause_41 : decode cX7_pause 41 = .ok (.aload_n 0, 1) := by decide +kernel
theorem dX7_pause_42 : decode cX7_pause 42 = .ok (.getfield 83, 3) := by decide +kernel
theorem dX7_pause_45 : decode cX7_pause 45 = .ok (.d2i, 1) := by decide +kernel
theorem dX7_pause_46 : decode cX7_pause 46 = .ok (.ireturn, 1) := by decide +kernel
theorem dX7_isAgain_0 : decode cX7_isAgain 0 = .ok (.iload_n 1, 1) := by decide +kernel
theorem dX7_isAgain_1 : decode cX7_isAgain 1 = .ok (.ifCond .le 21, 3) := by decide +kernel
theorem dX7_isAgain_4 : decode cX7_isAgain 4 = .ok (.aload_n 0, 1) := by decide +kernel
theorem dX7_isAgain_5 : decode cX7_isAgain 5 = .ok (.getfield 70, 3) := by decide +kernel
theorem dX7_isAgain_8 : decode cX7_isAgain 8 = .ok (.iload_n 1, 1) := by decide +kernel
theorem dX7_isAgain_9 : decode cX7_isAgain 9 = .ok (.iconst 1, 1) := by decide +kernel
theorem dX7_isAgain_10 : decode cX7_isAgain 10 = .ok (.isub, 1) := by decide +kernel
theorem dX7_isAgain_11 : decode cX7_isAgain 11 = .ok (.ishr, 1) := by decide +kernel
theorem dX7_isAgain_12 : decode cX7_isAgain 12 = .ok (.iconst 1, 1) := by decide +kernel
theorem dX7_isAgain_13 : decode cX7_isAgain 13 = .ok (.iand, 1) := by decide +kernel
theorem dX7_isAgain_14 : decode cX7_isAgain 14 = .ok (.iconst 1, 1) := by decide +kernel
theorem dX7_isAgain_15 : decode cX7_isAgain 15 = .ok (.if_icmp .ne 7, 3) := by decide +kernel
theorem dX7_isAgain_18 : decode cX7_isAgain 18 = .ok (.iconst 1, 1) := by decide +kernel
theorem dX7_isAgain_19 : decode cX7_isAgain 19 = .ok (.goto 4, 3) := by decide +kernel
theorem dX7_isAgain_22 : decode cX7_isAgain 22 = .ok (.iconst 0, 1) := by decide +kernel
theorem dX7_isAgain_23 : decode cX7_isAgain 23 = .ok (.ireturn, 1) := by decide +kernel
set_option maxRecDepth 20000 in
theorem ggX7_supply_X7_note : GoodIn wsX7_supply wsX7_note := goodIn_r _ [11, 12, 13, 20, 21, 22, 23, 24, 25, 26, 27, 28, 29, 30, 31, 32, 33, 34, 35, 36, 37, 38, 39, 40, 41, 42, 43, 44, 45, 46, 47, 48, 49, 50, 51, 52, 53, 54, 55, 56, 57, 58, 59, 60] (by decide +kernel) (by decide +kernel)
set_option maxRecDepth 20000 in
theorem gX7_supply_X7_note : GoodIn wsX7_supply (wsV RX7 105 RX7 yX7_note wsX7_note) := goodIn_app (goodIn_of _ (by decide +kernel)) ggX7_supply_X7_note
set_option maxRecDepth 20000 in
theorem ggX7_supply_X7_lapse : GoodIn wsX7_supply wsX7_lapse := goodIn_r _ [17, 18, 19, 7, 8, 9, 10, 11, 12, 13, 20, 21, 22, 23, 24, 25, 26, 27, 28, 29, 30, 31, 32, 33, 34, 35, 36, 37, 38, 39, 40, 41, 42, 43, 44, 45, 46, 47, 48, 49, 50, 51, 52, 53, 54, 55, 56, 57, 58, 59, 60] (by decide +kernel) (by decide +kernel)
set_option maxRecDepth 20000 in
theorem gX7_supply_X7_lapse : GoodIn wsX7_supply (wsV RX7 147 RX7 yX7_lapse wsX7_lapse) := goodIn_app (goodIn_of _ (by decide +kernel)) ggX7_supply_X7_lapse
theorem dX7_supply_0 : decode cX7_supply 0 = .ok (.aload_n 0, 1) := by decide +kernel
theorem dX7_supply_1 : decode cX7_supply 1 = .ok (.aload_n 0, 1) := by decide +kernel
theorem dX7_supply_2 : decode cX7_supply 2 = .ok (.getfield 154, 3) := by decide +kernel
theorem dX7_supply_5 : decode cX7_supply 5 = .ok (.iconst 1, 1) := by decide +kernel
theorem dX7_supply_6 : decode cX7_supply 6 = .ok (.iadd, 1) := by decide +kernel
theorem dX7_supply_7 : decode cX7_supply 7 = .ok (.putfield 154, 3) := by decide +kernel
theorem dX7_supply_10 : decode cX7_supply 10 = .ok (.aload_n 0, 1) := by decide +kernel
theorem dX7_supply_11 : decode cX7_supply 11 = .ok (.iconst 0, 1) := by decide +kernel
theorem dX7_supply_12 : decode cX7_supply 12 = .ok (.putfield 157, 3) := by decide +kernel
theorem dX7_supply_15 : decode cX7_supply 15 = .ok (.aload_n 0, 1) := by decide +kernel
theorem dX7_supply_16 : decode cX7_supply 16 = .ok (.getfield 160, 3) := by decide +kernel
theorem dX7_supply_19 : decode cX7_supply 19 = .ok (.ifCond .ne 11, 3) := by decide +kernel
theorem dX7_supply_22 : decode cX7_supply 22 = .ok (.aload_n 0, 1) := by decide +kernel
theorem dX7_supply_23 : decode cX7_supply 23 = .ok (.bipush 51, 2) := by decide +kernel
theorem dX7_supply_25 : decode cX7_supply 25 = .ok (.invokevirtual 105, 3) := by decide +kernel
theorem dX7_supply_28 : decode cX7_supply 28 = .ok (.iconst 0, 1) := by decide +kernel
theorem dX7_supply_29 : decode cX7_supply 29 = .ok (.ireturn, 1) := by decide +kernel
theorem dX7_supply_30 : decode cX7_supply 30 = .ok (.aload_n 0, 1) := by decide +kernel
theorem dX7_supply_31 : decode cX7_supply 31 = .ok (.getfield 13, 3) := by decide +kernel
theorem dX7_supply_34 : decode cX7_supply 34 = .ok (.iconst 0, 1) := by decide +kernel
theorem dX7_supply_35 : decode cX7_supply 35 = .ok (.iaload, 1) := by decide +kernel
theorem dX7_supply_36 : decode cX7_supply 36 = .ok (.istore_n 1, 1) := by decide +kernel
theorem dX7_supply_37 : decode cX7_supply 37 = .ok (.aload_n 0, 1) := by decide +kernel
theorem dX7_supply_38 : decode cX7_supply 38 = .ok (.getfield 16, 3) := by decide +kernel
theorem dX7_supply_41 : decode cX7_supply 41 = .ok (.iconst 0, 1) := by decide +kernel
theorem dX7_supply_42 : decode cX7_supply 42 = .ok (.iaload, 1) := by decide +kernel
theorem dX7_supply_43 : decode cX7_supply 43 = .ok (.istore_n 2, 1) := by decide +kernel
theorem dX7_supply_44 : decode cX7_supply 44 = .ok (.aload_n 0, 1) := by decide +kernel
theorem dX7_supply_45 : decode cX7_supply 45 = .ok (.aload_n 0, 1) := by decide +kernel
theorem dX7_supply_46 : decode cX7_supply 46 = .ok (.getfield 19, 3) := by decide +kernel
theorem dX7_supply_49 : decode cX7_supply 49 = .ok (.iconst 0, 1) := by decide +kernel
theorem dX7_supply_50 : decode cX7_supply 50 = .ok (.iaload, 1) := by decide +kernel
theorem dX7_supply_51 : decode cX7_supply 51 = .ok (.putfield 157, 3) := by decide +kernel
theorem dX7_supply_54 : decode cX7_supply 54 = .ok (.aload_n 0, 1) := by decide +kernel
theorem dX7_supply_55 : decode cX7_supply 55 = .ok (.aload_n 0, 1) := by decide +kernel
theorem dX7_supply_56 : decode cX7_supply 56 = .ok (.getfield 160, 3) := by decide +kernel
theorem dX7_supply_59 : decode cX7_supply 59 = .ok (.iconst 1, 1) := by decide +kernel
theorem dX7_supply_60 : decode cX7_supply 60 = .ok (.isub, 1) := by decide +kernel
theorem dX7_supply_61 : decode cX7_supply 61 = .ok (.putfield 160, 3) := by decide +kernel
theorem dX7_supply_64 : decode cX7_supply 64 = .ok (.iconst 0, 1) := by decide +kernel
theorem dX7_supply_65 : decode cX7_supply 65 = .ok (.istore_n 3, 1) := by decide +kernel
theorem dX7_supply_66 : decode cX7_supply 66 = .ok (.iload_n 3, 1) := by decide +kernel
theorem dX7_supply_67 : decode cX7_supply 67 = .ok (.aload_n 0, 1) := by decide +kernel
theorem dX7_supply_68 : decode cX7_supply 68 = .ok (.getfield 160, 3) := by decide +kernel
theorem dX7_supply_71 : decode cX7_supply 71 = .ok (.if_icmp .ge 51, 3) := by decide +kernel
theorem dX7_supply_74 : decode cX7_supply 74 = .ok (.aload_n 0, 1) := by decide +kernel
theorem dX7_supply_75 : decode cX7_supply 75 = .ok (.getfield 13, 3) := by decide +kernel
theorem dX7_supply_78 : decode cX7_supply 78 = .ok (.iload_n 3, 1) := by decide +kernel
theorem dX7_supply_79 : decode cX7_supply 79 = .ok (.aload_n 0, 1) := by decide +kernel
theorem dX7_supply_80 : decode cX7_supply 80 = .ok (.getfield 13, 3) := by decide +kernel
theorem dX7_supply_83 : decode cX7_supply 83 = .ok (.iload_n 3, 1) := by decide +kernel
theorem dX7_supply_84 : decode cX7_supply 84 = .ok (.iconst 1, 1) := by decide +kernel
theorem dX7_supply_85 : decode cX7_supply 85 = .ok (.iadd, 1) := by decide +kernel
theorem dX7_supply_86 : decode cX7_supply 86 = .ok (.iaload, 1) := by decide +kernel
theorem dX7_supply_87 : decode cX7_supply 87 = .ok (.iastore, 1) := by decide +kernel
theorem dX7_supply_88 : decode cX7_supply 88 = .ok (.aload_n 0, 1) := by decide +kernel
theorem dX7_supply_89 : decode cX7_supply 89 = .ok (.getfield 16, 3) := by decide +kernel
theorem dX7_supply_92 : decode cX7_supply 92 = .ok (.iload_n 3, 1) := by decide +kernel
theorem dX7_supply_93 : decode cX7_supply 93 = .ok (.aload_n 0, 1) := by decide +kernel
theorem dX7_supply_94 : decode cX7_supply 94 = .ok (.getfield 16, 3) := by decide +kernel
theorem dX7_supply_97 : decode cX7_supply 97 = .ok (.iload_n 3, 1) := by decide +kernel
theorem dX7_supply_98 : decode cX7_supply 98 = .ok (.iconst 1, 1) := by decide +kernel
theorem dX7_supply_99 : decode cX7_supply 99 = .ok (.iadd, 1) := by decide +kernel
theorem dX7_supply_100 : decode cX7_supply 100 = .ok (.iaload, 1) := by decide +kernel
theorem dX7_supply_101 : decode cX7_supply 101 = .ok (.iastore, 1) := by decide +kernel
theorem dX7_supply_102 : decode cX7_supply 102 = .ok (.aload_n 0, 1) := by decide +kernel
theorem dX7_supply_103 : decode cX7_supply 103 = .ok (.getfield 19, 3) := by decide +kernel
theorem dX7_supply_106 : decode cX7_supply 106 = .ok (.iload_n 3, 1) := by decide +kernel
theorem dX7_supply_107 : decode cX7_supply 107 = .ok (.aload_n 0, 1) := by decide +kernel
theorem dX7_supply_108 : decode cX7_supply 108 = .ok (.getfield 19, 3) := by decide +kernel
theorem dX7_supply_111 : decode cX7_supply 111 = .ok (.iload_n 3, 1) := by decide +kernel
theorem dX7_supply_112 : decode cX7_supply 112 = .ok (.iconst 1, 1) := by decide +kernel
theorem dX7_supply_113 : decode cX7_supply 113 = .ok (.iadd, 1) := by decide +kernel
theorem dX7_supply_114 : decode cX7_supply 114 = .ok (.iaload, 1) := by decide +kernel
theorem dX7_supply_115 : decode cX7_supply 115 = .ok (.iastore, 1) := by decide +kernel
theorem dX7_supply_116 : decode cX7_supply 116 = .ok (.iinc 3 1, 3) := by decide +kernel
theorem dX7_supply_119 : decode cX7_supply 119 = .ok (.goto (-53), 3) := by decide +kernel
theorem dX7_supply_122 : decode cX7_supply 122 = .ok (.aload_n 0, 1) := by decide +kernel
theorem dX7_supply_123 : decode cX7_supply 123 = .ok (.iload_n 2, 1) := by decide +kernel
theorem dX7_supply_124 : decode cX7_supply 124 = .ok (.invokevirtual 147, 3) := by decide +kernel
theorem dX7_supply_127 : decode cX7_supply 127 = .ok (.ifCond .ne 5, 3) := by decide +kernel
theorem dX7_supply_130 : decode cX7_supply 130 = .ok (.iconst 4, 1) := by decide +kernel
theorem dX7_supply_131 : decode cX7_supply 131 = .ok (.ireturn, 1) := by decide +kernel
theorem dX7_supply_132 : decode cX7_supply 132 = .ok (.aload_n 0, 1) := by decide +kernel
theorem dX7_supply_133 : decode cX7_supply 133 = .ok (.bipush 51, 2) := by decide +kernel
theorem dX7_supply_135 : decode cX7_supply 135 = .ok (.iload_n 1, 1) := by decide +kernel
theorem dX7_supply_136 : decode cX7_supply 136 = .ok (.iadd, 1) := by decide +kernel
theorem dX7_supply_137 : decode cX7_supply 137 = .ok (.invokevirtual 105, 3) := by decide +kernel
theorem dX7_supply_140 : decode cX7_supply 140 = .ok (.iload_n 1, 1) := by decide +kernel
theorem dX7_supply_141 : decode cX7_supply 141 = .ok (.ifCond .ne 7, 3) := by decide +kernel
theorem dX7_supply_144 : decode cX7_supply 144 = .ok (.iconst 0, 1) := by decide +kernel
theorem dX7_supply_145 : decode cX7_supply 145 = .ok (.goto 6, 3) := by decide +kernel
theorem dX7_supply_148 : decode cX7_supply 148 = .ok (.iconst 4, 1) := by decide +kernel
theorem dX7_supply_149 : decode cX7_supply 149 = .ok (.iload_n 1, 1) := by decide +kernel
theorem dX7_supply_150 : decode cX7_supply 150 = .ok (.iadd, 1) := by decide +kernel
theorem dX7_supply_151 : decode cX7_supply 151 = .ok (.ireturn, 1) := by decide +kernel
set_option maxRecDepth 20000 in
theorem ggX7_enter_X7_admits : GoodIn wsX7_enter wsX7_admits := goodIn_r _ [11, 12, 4, 13, 14, 15, 16, 17, 18, 19, 20, 21, 10, 22, 23, 24, 25, 26, 27, 28, 29, 47, 48, 49, 50, 51, 52, 53, 54, 55, 56, 57, 58, 59, 60, 61, 62, 63, 64, 65, 66, 67, 68, 69, 70, 71, 72, 73, 74, 75, 76, 77, 78, 79, 80, 81, 82, 83, 84, 85, 86, 87] (by decide +kernel) (by decide +kernel)
set_option maxRecDepth 20000 in
theorem gX7_enter_X7_admits : GoodIn wsX7_enter (wsV RX7 163 RX7 yX7_admits wsX7_admits) := goodIn_app (goodIn_of _ (by decide +kernel)) ggX7_enter_X7_admits
set_option maxRecDepth 20000 in
theorem ggX7_enter_X7_note : GoodIn wsX7_enter wsX7_note := goodIn_r _ [27, 28, 29, 47, 48, 49, 50, 51, 52, 53, 54, 55, 56, 57, 58, 59, 60, 61, 62, 63, 64, 65, 66, 67, 68, 69, 70, 71, 72, 73, 74, 75, 76, 77, 78, 79, 80, 81, 82, 83, 84, 85, 86, 87] (by decide +kernel) (by decide +kernel)
set_option maxRecDepth 20000 in
theorem gX7_enter_X7_note : GoodIn wsX7_enter (wsV RX7 105 RX7 yX7_note wsX7_note) := goodIn_app (goodIn_of _ (by decide +kernel)) ggX7_enter_X7_note
set_option maxRecDepth 20000 in
theorem ggX7_enter_X7_limits : GoodIn wsX7_enter wsX7_limits := goodIn_r _ [33, 4, 34, 35, 36, 37, 38, 39, 40, 10, 41, 42, 24, 25, 26, 27, 28, 29, 43, 44, 45, 46, 6, 47, 48, 49, 50, 51, 52, 53, 54, 55, 56, 57, 58, 59, 60, 61, 62, 63, 64, 65, 66, 67, 68, 69, 70, 71, 72, 73, 74, 75, 76, 77, 78, 79, 80, 81, 82, 83, 84, 85, 86, 87] (by decide +kernel) (by decide +kernel)
set_option maxRecDepth 20000 in
theorem gX7_enter_X7_limits : GoodIn wsX7_enter (wsV RX7 170 RX7 yX7_limits wsX7_limits) := goodIn_app (goodIn_of _ (by decide +kernel)) ggX7_enter_X7_limits
theorem dX7_enter_0 : decode cX7_enter 0 = .ok (.iload_n 1, 1) := by decide +kernel
theorem dX7_enter_1 : decode cX7_enter 1 = .ok (.ifCond .ne 16, 3) := by decide +kernel
theorem dX7_enter_4 : decode cX7_enter 4 = .ok (.aload_n 0, 1) := by decide +kernel
theorem dX7_enter_5 : decode cX7_enter 5 = .ok (.invokevirtual 163, 3) := by decide +kernel
theorem dX7_enter_8 : decode cX7_enter 8 = .ok (.ifCond .eq 7, 3) := by decide +kernel
theorem dX7_enter_11 : decode cX7_enter 11 = .ok (.iconst 0, 1) := by decide +kernel
theorem dX7_enter_12 : decode cX7_enter 12 = .ok (.goto 4, 3) := by decide +kernel
theorem dX7_enter_15 : decode cX7_enter 15 = .ok (.iconst 1, 1) := by decide +kernel
theorem dX7_enter_16 : decode cX7_enter 16 = .ok (.ireturn, 1) := by decide +kernel
theorem dX7_enter_17 : decode cX7_enter 17 = .ok (.iload_n 1, 1) := by decide +kernel
theorem dX7_enter_18 : decode cX7_enter 18 = .ok (.iconst 1, 1) := by decide +kernel
theorem dX7_enter_19 : decode cX7_enter 19 = .ok (.if_icmp .ne 37, 3) := by decide +kernel
theorem dX7_enter_22 : decode cX7_enter 22 = .ok (.aload_n 0, 1) := by decide +kernel
theorem dX7_enter_23 : decode cX7_enter 23 = .ok (.getfield 167, 3) := by decide +kernel
theorem dX7_enter_26 : decode cX7_enter 26 = .ok (.aload_n 0, 1) := by decide +kernel
theorem dX7_enter_27 : decode cX7_enter 27 = .ok (.getfield 52, 3) := by decide +kernel
theorem dX7_enter_30 : decode cX7_enter 30 = .ok (.if_icmp .lt 9, 3) := by decide +kernel
theorem dX7_enter_33 : decode cX7_enter 33 = .ok (.aload_n 0, 1) := by decide +kernel
theorem dX7_enter_34 : decode cX7_enter 34 = .ok (.bipush 11, 2) := by decide +kernel
theorem dX7_enter_36 : decode cX7_enter 36 = .ok (.invokevirtual 105, 3) := by decide +kernel
theorem dX7_enter_39 : decode cX7_enter 39 = .ok (.aload_n 0, 1) := by decide +kernel
theorem dX7_enter_40 : decode cX7_enter 40 = .ok (.getfield 167, 3) := by decide +kernel
theorem dX7_enter_43 : decode cX7_enter 43 = .ok (.aload_n 0, 1) := by decide +kernel
theorem dX7_enter_44 : decode cX7_enter 44 = .ok (.getfield 52, 3) := by decide +kernel
theorem dX7_enter_47 : decode cX7_enter 47 = .ok (.if_icmp .lt 7, 3) := by decide +kernel
theorem dX7_enter_50 : decode cX7_enter 50 = .ok (.iconst 2, 1) := by decide +kernel
theorem dX7_enter_51 : decode cX7_enter 51 = .ok (.goto 4, 3) := by decide +kernel
theorem dX7_enter_54 : decode cX7_enter 54 = .ok (.iconst 0, 1) := by decide +kernel
theorem dX7_enter_55 : decode cX7_enter 55 = .ok (.ireturn, 1) := by decide +kernel
theorem dX7_enter_56 : decode cX7_enter 56 = .ok (.iload_n 1, 1) := by decide +kernel
theorem dX7_enter_57 : decode cX7_enter 57 = .ok (.iconst 2, 1) := by decide +kernel
theorem dX7_enter_58 : decode cX7_enter 58 = .ok (.if_icmp .ne 8, 3) := by decide +kernel
theorem dX7_enter_61 : decode cX7_enter 61 = .ok (.aload_n 0, 1) := by decide +kernel
theorem dX7_enter_62 : decode cX7_enter 62 = .ok (.invokevirtual 170, 3) := by decide +kernel
theorem dX7_enter_65 : decode cX7_enter 65 = .ok (.ireturn, 1) := by decide +kernel
theorem dX7_enter_66 : decode cX7_enter 66 = .ok (.iload_n 1, 1) := by decide +kernel
theorem dX7_enter_67 : decode cX7_enter 67 = .ok (.iconst 3, 1) := by decide +kernel
theorem dX7_enter_68 : decode cX7_enter 68 = .ok (.if_icmp .ne 11, 3) := by decide +kernel
theorem dX7_enter_71 : decode cX7_enter 71 = .ok (.aload_n 0, 1) := by decide +kernel
theorem dX7_enter_72 : decode cX7_enter 72 = .ok (.iconst 1, 1) := by decide +kernel
theorem dX7_enter_73 : decode cX7_enter 73 = .ok (.putfield 151, 3) := by decide +kernel
theorem dX7_enter_76 : decode cX7_enter 76 = .ok (.goto 16, 3) := by decide +kernel
theorem dX7_enter_79 : decode cX7_enter 79 = .ok (.aload_n 0, 1) := by decide +kernel
theorem dX7_enter_80 : decode cX7_enter 80 = .ok (.aload_n 0, 1) := by decide +kernel
theorem dX7_enter_81 : decode cX7_enter 81 = .ok (.getfield 102, 3) := by decide +kernel
theorem dX7_enter_84 : decode cX7_enter 84 = .ok (.aload_n 0, 1) := by decide +kernel
theorem dX7_enter_85 : decode cX7_enter 85 = .ok (.getfield 86, 3) := by decide +kernel
theorem dX7_enter_88 : decode cX7_enter 88 = .ok (.iadd, 1) := by decide +kernel
theorem dX7_enter_89 : decode cX7_enter 89 = .ok (.putfield 93, 3) := by decide +kernel
theorem dX7_enter_92 : decode cX7_enter 92 = .ok (.iconst 0, 1) := by decide +kernel
theorem dX7_enter_93 : decode cX7_enter 93 = .ok (.ireturn, 1) := by decide +kernel
set_option maxRecDepth 20000 in
theorem ggX7_call_X7_supply : GoodIn wsX7_call wsX7_supply := goodIn_r _ [13, 14, 8, 15, 16, 17, 18, 19, 20, 21, 12, 22, 23, 24, 25, 26, 27, 28, 4, 29, 98, 99, 100, 101, 102, 103, 104, 105, 106, 107, 108, 109, 110, 111, 112, 113, 114, 115, 116, 117, 118, 119, 120, 121, 122, 123, 124, 125, 126, 127, 128, 129, 130, 131, 132, 133, 134, 135, 136, 137, 138] (by decide +kernel) (by decide +kernel)
set_option maxRecDepth 20000 in
theorem gX7_call_X7_supply : GoodIn wsX7_call (wsV RX7 177 RX7 yX7_supply wsX7_supply) := goodIn_app (goodIn_of _ (by decide +kernel)) ggX7_call_X7_supply
set_option maxRecDepth 20000 in
theorem ggX7_call_X7_enter : GoodIn wsX7_call wsX7_enter := goodIn_r _ [33, 34, 35, 5, 29, 36, 4, 37, 38, 39, 12, 40, 41, 42, 43, 44, 45, 46, 47, 48, 49, 50, 51, 52, 19, 20, 21, 22, 23, 24, 53, 54, 55, 56, 57, 58, 59, 60, 61, 62, 63, 64, 65, 25, 26, 27, 28, 98, 99, 100, 101, 102, 103, 104, 105, 106, 107, 108, 109, 110, 111, 112, 113, 114, 115, 116, 117, 118, 119, 120, 121, 122, 123, 124, 125, 126, 127, 128, 129, 130, 131, 132, 133, 134, 135, 136, 137, 138] (by decide +kernel) (by decide +kernel)
set_option maxRecDepth 20000 in
theorem gX7_call_X7_enter : GoodIn wsX7_call (wsV RX7 180 RX7 yX7_enter wsX7_enter) := goodIn_app (goodIn_of _ (by decide +kernel)) ggX7_call_X7_enter
set_option maxRecDepth 20000 in
theorem ggX7_call_X7_judge : GoodIn wsX7_call wsX7_judge := goodIn_r _ [69, 29, 47, 70, 46, 52, 71, 72, 45, 73, 74, 75, 42, 76, 77, 78, 12, 79, 80, 81, 82, 83, 84, 85, 48, 49, 50, 51, 41, 44, 19, 20, 21, 22, 23, 24, 98, 99, 100, 101, 102, 103, 104, 105, 106, 107, 108, 109, 110, 111, 112, 113, 114, 115, 116, 117, 118, 119, 120, 121, 122, 123, 124, 125, 126, 127, 128, 129, 130, 131, 132, 133, 134, 135, 136, 137, 138] (by decide +kernel) (by decide +kernel)
set_option maxRecDepth 20000 in
theorem gX7_call_X7_judge : GoodIn wsX7_call (wsV RX7 183 RX7 yX7_judge wsX7_judge) := goodIn_app (goodIn_of _ (by decide +kernel)) ggX7_call_X7_judge
set_option maxRecDepth 20000 in
theorem ggX7_call_X7_isAgain : GoodIn wsX7_call wsX7_isAgain := goodIn_r _ [89, 90, 98, 99, 100, 101, 102, 103, 104, 105, 106, 107, 108, 109, 110, 111, 112, 113, 114, 115, 116, 117, 118, 119, 120, 121, 122, 123, 124, 125, 126, 127, 128, 129, 130, 131, 132, 133, 134, 135, 136, 137, 138] (by decide +kernel) (by decide +kernel)
set_option maxRecDepth 20000 in
theorem gX7_call_X7_isAgain : GoodIn wsX7_call (wsV RX7 186 RX7 yX7_isAgain wsX7_isAgain) := goodIn_app (goodIn_of _ (by decide +kernel)) ggX7_call_X7_isAgain
set_option maxRecDepth 20000 in
theorem ggX7_call_X7_note : GoodIn wsX7_call wsX7_note := goodIn_r _ [22, 23, 24, 98, 99, 100, 101, 102, 103, 104, 105, 106, 107, 108, 109, 110, 111, 112, 113, 114, 115, 116, 117, 118, 119, 120, 121, 122, 123, 124, 125, 126, 127, 128, 129, 130, 131, 132, 133, 134, 135, 136, 137, 138] (by decide +kernel) (by decide +kernel)
set_option maxRecDepth 20000 in
theorem gX7_call_X7_note : GoodIn wsX7_call (wsV RX7 105 RX7 yX7_note wsX7_note) := goodIn_app (goodIn_of _ (by decide +kernel)) ggX7_call_X7_note
set_option maxRecDepth 20000 in
theorem ggX7_call_X7_pause : GoodIn wsX7_call wsX7_pause := goodIn_r _ [94, 95, 5, 96, 97, 98, 99, 100, 101, 102, 103, 104, 105, 106, 107, 108, 109, 110, 111, 112, 113, 114, 115, 116, 117, 118, 119, 120, 121, 122, 123, 124, 125, 126, 127, 128, 129, 130, 131, 132, 133, 134, 135, 136, 137, 138] (by decide +kernel) (by decide +kernel)
set_option maxRecDepth 20000 in
theorem gX7_call_X7_pause : GoodIn wsX7_call (wsV RX7 189 RX7 yX7_pause wsX7_pause) := goodIn_app (goodIn_of _ (by decide +kernel)) ggX7_call_X7_pause
set_option maxRecDepth 20000 in
theorem ggX7_call_X7_lapse : GoodIn wsX7_call wsX7_lapse := goodIn_r _ [28, 4, 29, 19, 20, 21, 12, 22, 23, 24, 98, 99, 100, 101, 102, 103, 104, 105, 106, 107, 108, 109, 110, 111, 112, 113, 114, 115, 116, 117, 118, 119, 120, 121, 122, 123, 124, 125, 126, 127, 128, 129, 130, 131, 132, 133, 134, 135, 136, 137, 138] (by decide +kernel) (by decide +kernel)
set_option maxRecDepth 20000 in
theorem gX7_call_X7_lapse : GoodIn wsX7_call (wsV RX7 147 RX7 yX7_lapse wsX7_lapse) := goodIn_app (goodIn_of _ (by decide +kernel)) ggX7_call_X7_lapse
theorem dX7_call_0 : decode cX7_call 0 = .ok (.aload_n 0, 1) := by decide +kernel
theorem dX7_call_1 : decode cX7_call 1 = .ok (.getfield 174, 3) := by decide +kernel
theorem dX7_call_4 : decode cX7_call 4 = .ok (.iconst 1, 1) := by decide +kernel
theorem dX7_call_5 : decode cX7_call 5 = .ok (.isub, 1) := by decide +kernel
theorem dX7_call_6 : decode cX7_call 6 = .ok (.istore_n 1, 1) := by decide +kernel
theorem dX7_call_7 : decode cX7_call 7 = .ok (.iconst (-1), 1) := by decide +kernel
theorem dX7_call_8 : decode cX7_call 8 = .ok (.istore_n 2, 1) := by decide +kernel
theorem dX7_call_9 : decode cX7_call 9 = .ok (.iload_n 2, 1) := by decide +kernel
theorem dX7_call_10 : decode cX7_call 10 = .ok (.ifCond .lt 11, 3) := by decide +kernel
theorem dX7_call_13 : decode cX7_call 13 = .ok (.iload_n 1, 1) := by decide +kernel
theorem dX7_call_14 : decode cX7_call 14 = .ok (.aload_n 0, 1) := by decide +kernel
theorem dX7_call_15 : decode cX7_call 15 = .ok (.getfield 174, 3) := by decide +kernel
theorem dX7_call_18 : decode cX7_call 18 = .ok (.if_icmp .ge 202, 3) := by decide +kernel
theorem dX7_call_21 : decode cX7_call 21 = .ok (.iload_n 2, 1) := by decide +kernel
theorem dX7_call_22 : decode cX7_call 22 = .ok (.ifCond .ge 17, 3) := by decide +kernel
theorem dX7_call_25 : decode cX7_call 25 = .ok (.iload_n 1, 1) := by decide +kernel
theorem dX7_call_26 : decode cX7_call 26 = .ok (.ifCond .ge 13, 3) := by decide +kernel
theorem dX7_call_29 : decode cX7_call 29 = .ok (.aload_n 0, 1) := by decide +kernel
theorem dX7_call_30 : decode cX7_call 30 = .ok (.invokevirtual 177, 3) := by decide +kernel
theorem dX7_call_33 : decode cX7_call 33 = .ok (.istore_n 2, 1) := by decide +kernel
theorem dX7_call_34 : decode cX7_call 34 = .ok (.iconst 0, 1) := by decide +kernel
theorem dX7_call_35 : decode cX7_call 35 = .ok (.istore_n 1, 1) := by decide +kernel
theorem dX7_call_36 : decode cX7_call 36 = .ok (.goto (-27), 3) := by decide +kernel
theorem dX7_call_39 : decode cX7_call 39 = .ok (.iload_n 2, 1) := by decide +kernel
theorem dX7_call_40 : decode cX7_call 40 = .ok (.ifCond .ge 41, 3) := by decide +kernel
theorem dX7_call_43 : decode cX7_call 43 = .ok (.aload_n 0, 1) := by decide +kernel
theorem dX7_call_44 : decode cX7_call 44 = .ok (.aload_n 0, 1) := by decide +kernel
theorem dX7_call_45 : decode cX7_call 45 = .ok (.getfield 7, 3) := by decide +kernel
theorem dX7_call_48 : decode cX7_call 48 = .ok (.iload_n 1, 1) := by decide +kernel
theorem dX7_call_49 : decode cX7_call 49 = .ok (.iaload, 1) := by decide +kernel
theorem dX7_call_50 : decode cX7_call 50 = .ok (.invokevirtual 180, 3) := by decide +kernel
theorem dX7_call_53 : decode cX7_call 53 = .ok (.istore_n 3, 1) := by decide +kernel
theorem dX7_call_54 : decode cX7_call 54 = .ok (.iload_n 3, 1) := by decide +kernel
theorem dX7_call_55 : decode cX7_call 55 = .ok (.ifCond .le 7, 3) := by decide +kernel
theorem dX7_call_58 : decode cX7_call 58 = .ok (.iload_n 3, 1) := by decide +kernel
theorem dX7_call_59 : decode cX7_call 59 = .ok (.goto 4, 3) := by decide +kernel
theorem dX7_call_62 : decode cX7_call 62 = .ok (.iconst (-1), 1) := by decide +kernel
theorem dX7_call_63 : decode cX7_call 63 = .ok (.istore_n 2, 1) := by decide +kernel
theorem dX7_call_64 : decode cX7_call 64 = .ok (.iload_n 3, 1) := by decide +kernel
theorem dX7_call_65 : decode cX7_call 65 = .ok (.ifCond .le 9, 3) := by decide +kernel
theorem dX7_call_68 : decode cX7_call 68 = .ok (.iload_n 1, 1) := by decide +kernel
theorem dX7_call_69 : decode cX7_call 69 = .ok (.iconst 1, 1) := by decide +kernel
theorem dX7_call_70 : decode cX7_call 70 = .ok (.iadd, 1) := by decide +kernel
theorem dX7_call_71 : decode cX7_call 71 = .ok (.goto 6, 3) := by decide +kernel
theorem dX7_call_74 : decode cX7_call 74 = .ok (.iload_n 1, 1) := by decide +kernel
theorem dX7_call_75 : decode cX7_call 75 = .ok (.iconst 1, 1) := by decide +kernel
theorem dX7_call_76 : decode cX7_call 76 = .ok (.isub, 1) := by decide +kernel
theorem dX7_call_77 : decode cX7_call 77 = .ok (.istore_n 1, 1) := by decide +kernel
theorem dX7_call_78 : decode cX7_call 78 = .ok (.goto (-69), 3) := by decide +kernel
theorem dX7_call_81 : decode cX7_call 81 = .ok (.aload_n 0, 1) := by decide +kernel
theorem dX7_call_82 : decode cX7_call 82 = .ok (.getfield 7, 3) := by decide +kernel
theorem dX7_call_85 : decode cX7_call 85 = .ok (.iload_n 1, 1) := by decide +kernel
theorem dX7_call_86 : decode cX7_call 86 = .ok (.iaload, 1) := by decide +kernel
theorem dX7_call_87 : decode cX7_call 87 = .ok (.istore_n 3, 1) := by decide +kernel
theorem dX7_call_88 : decode cX7_call 88 = .ok (.iload_n 3, 1) := by decide +kernel
theorem dX7_call_89 : decode cX7_call 89 = .ok (.ifCond .ne 8, 3) := by decide +kernel
theorem dX7_call_92 : decode cX7_call 92 = .ok (.aload_n 0, 1) := by decide +kernel
theorem dX7_call_93 : decode cX7_call 93 = .ok (.iload_n 2, 1) := by decide +kernel
theorem dX7_call_94 : decode cX7_call 94 = .ok (.invokevirtual 183, 3) := by decide +kernel
theorem dX7_call_97 : decode cX7_call 97 = .ok (.iload_n 3, 1) := by decide +kernel
theorem dX7_call_98 : decode cX7_call 98 = .ok (.iconst 3, 1) := by decide +kernel
theorem dX7_call_99 : decode cX7_call 99 = .ok (.if_icmp .le 9, 3) := by decide +kernel
theorem dX7_call_102 : decode cX7_call 102 = .ok (.aload_n 0, 1) := by decide +kernel
theorem dX7_call_103 : decode cX7_call 103 = .ok (.ldc 92, 2) := by decide +kernel
theorem dX7_call_105 : decode cX7_call 105 = .ok (.putfield 93, 3) := by decide +kernel
theorem dX7_call_108 : decode cX7_call 108 = .ok (.iload_n 3, 1) := by decide +kernel
theorem dX7_call_109 : decode cX7_call 109 = .ok (.iconst 3, 1) := by decide +kernel
theorem dX7_call_110 : decode cX7_call 110 = .ok (.if_icmp .ne 26, 3) := by decide +kernel
theorem dX7_call_113 : decode cX7_call 113 = .ok (.aload_n 0, 1) := by decide +kernel
theorem dX7_call_114 : decode cX7_call 114 = .ok (.iload_n 2, 1) := by decide +kernel
theorem dX7_call_115 : decode cX7_call 115 = .ok (.invokevirtual 186, 3) := by decide +kernel
theorem dX7_call_118 : decode cX7_call 118 = .ok (.ifCond .eq 18, 3) := by decide +kernel
theorem dX7_call_121 : decode cX7_call 121 = .ok (.aload_n 0, 1) := by decide +kernel
theorem dX7_call_122 : decode cX7_call 122 = .ok (.getfield 151, 3) := by decide +kernel
theorem dX7_call_125 : decode cX7_call 125 = .ok (.aload_n 0, 1) := by decide +kernel
theorem dX7_call_126 : decode cX7_call 126 = .ok (.getfield 67, 3) := by decide +kernel
theorem dX7_call_129 : decode cX7_call 129 = .ok (.if_icmp .ge 7, 3) := by decide +kernel
theorem dX7_call_132 : decode cX7_call 132 = .ok (.iconst 1, 1) := by decide +kernel
theorem dX7_call_133 : decode cX7_call 133 = .ok (.goto 4, 3) := by decide +kernel
theorem dX7_call_136 : decode cX7_call 136 = .ok (.iconst 0, 1) := by decide +kernel
theorem dX7_call_137 : decode cX7_call 137 = .ok (.istore 4, 2) := by decide +kernel
theorem dX7_call_139 : decode cX7_call 139 = .ok (.iload_n 3, 1) := by decide +kernel
theorem dX7_call_140 : decode cX7_call 140 = .ok (.iconst 3, 1) := by decide +kernel
theorem dX7_call_141 : decode cX7_call 141 = .ok (.if_icmp .ne 22, 3) := by decide +kernel
theorem dX7_call_144 : decode cX7_call 144 = .ok (.aload_n 0, 1) := by decide +kernel
theorem dX7_call_145 : decode cX7_call 145 = .ok (.iload_n 2, 1) := by decide +kernel
theorem dX7_call_146 : decode cX7_call 146 = .ok (.invokevirtual 186, 3) := by decide +kernel
theorem dX7_call_149 : decode cX7_call 149 = .ok (.ifCond .eq 14, 3) := by decide +kernel
theorem dX7_call_152 : decode cX7_call 152 = .ok (.iload 4, 2) := by decide +kernel
theorem dX7_call_154 : decode cX7_call 154 = .ok (.ifCond .ne 9, 3) := by decide +kernel
theorem dX7_call_157 : decode cX7_call 157 = .ok (.aload_n 0, 1) := by decide +kernel
theorem dX7_call_158 : decode cX7_call 158 = .ok (.bipush 32, 2) := by decide +kernel
theorem dX7_call_160 : decode cX7_call 160 = .ok (.invokevirtual 105, 3) := by decide +kernel
theorem dX7_call_163 : decode cX7_call 163 = .ok (.iload 4, 2) := by decide +kernel
theorem dX7_call_165 : decode cX7_call 165 = .ok (.ifCond .eq 48, 3) := by decide +kernel
theorem dX7_call_168 : decode cX7_call 168 = .ok (.aload_n 0, 1) := by decide +kernel
theorem dX7_call_169 : decode cX7_call 169 = .ok (.bipush 31, 2) := by decide +kernel
theorem dX7_call_171 : decode cX7_call 171 = .ok (.invokevirtual 105, 3) := by decide +kernel
theorem dX7_call_174 : decode cX7_call 174 = .ok (.aload_n 0, 1) := by decide +kernel
theorem dX7_call_175 : decode cX7_call 175 = .ok (.aload_n 0, 1) := by decide +kernel
theorem dX7_call_176 : decode cX7_call 176 = .ok (.invokevirtual 189, 3) := by decide +kernel
theorem dX7_call_179 : decode cX7_call 179 = .ok (.invokevirtual 147, 3) := by decide +kernel
theorem dX7_call_182 : decode cX7_call 182 = .ok (.ifCond .eq 22, 3) := by decide +kernel
theorem dX7_call_185 : decode cX7_call 185 = .ok (.aload_n 0, 1) := by decide +kernel
theorem dX7_call_186 : decode cX7_call 186 = .ok (.aload_n 0, 1) := by decide +kernel
theorem dX7_call_187 : decode cX7_call 187 = .ok (.getfield 151, 3) := by decide +kernel
theorem dX7_call_190 : decode cX7_call 190 = .ok (.iconst 1, 1) := by decide +kernel
theorem dX7_call_191 : decode cX7_call 191 = .ok (.iadd, 1) := by decide +kernel
theorem dX7_call_192 : decode cX7_call 192 = .ok (.putfield 151, 3) := by decide +kernel
theorem dX7_call_195 : decode cX7_call 195 = .ok (.iconst (-1), 1) := by decide +kernel
theorem dX7_call_196 : decode cX7_call 196 = .ok (.istore_n 2, 1) := by decide +kernel
theorem dX7_call_197 : decode cX7_call 197 = .ok (.iload_n 1, 1) := by decide +kernel
theorem dX7_call_198 : decode cX7_call 198 = .ok (.iconst 1, 1) := by decide +kernel
theorem dX7_call_199 : decode cX7_call 199 = .ok (.isub, 1) := by decide +kernel
theorem dX7_call_200 : decode cX7_call 200 = .ok (.istore_n 1, 1) := by decide +kernel
theorem dX7_call_201 : decode cX7_call 201 = .ok (.goto 16, 3) := by decide +kernel
theorem dX7_call_204 : decode cX7_call 204 = .ok (.iconst 4, 1) := by decide +kernel
theorem dX7_call_205 : decode cX7_call 205 = .ok (.istore_n 2, 1) := by decide +kernel
theorem dX7_call_206 : decode cX7_call 206 = .ok (.iload_n 1, 1) := by decide +kernel
theorem dX7_call_207 : decode cX7_call 207 = .ok (.iconst 1, 1) := by decide +kernel
theorem dX7_call_208 : decode cX7_call 208 = .ok (.iadd, 1) := by decide +kernel
theorem dX7_call_209 : decode cX7_call 209 = .ok (.istore_n 1, 1) := by decide +kernel
theorem dX7_call_210 : decode cX7_call 210 = .ok (.goto 7, 3) := by decide +kernel
theorem dX7_call_213 : decode cX7_call 213 = .ok (.iload_n 1, 1) := by decide +kernel
theorem dX7_call_214 : decode cX7_call 214 = .ok (.iconst 1, 1) := by decide +kernel
theorem dX7_call_215 : decode cX7_call 215 = .ok (.iadd, 1) := by decide +kernel
theorem dX7_call_216 : decode cX7_call 216 = .ok (.istore_n 1, 1) := by decide +kernel
theorem dX7_call_217 : decode cX7_call 217 = .ok (.goto (-208), 3) := by decide +kernel
theorem dX7_call_220 : decode cX7_call 220 = .ok (.aload_n 0, 1) := by decide +kernel
theorem dX7_call_221 : decode cX7_call 221 = .ok (.iload_n 2, 1) := by decide +kernel
theorem dX7_call_222 : decode cX7_call 222 = .ok (.putfield 96, 3) := by decide +kernel
theorem dX7_call_225 : decode cX7_call 225 = .ok (.iload_n 2, 1) := by decide +kernel
theorem dX7_call_226 : decode cX7_call 226 = .ok (.ifCond .le 7, 3) := by decide +kernel
theorem dX7_call_229 : decode cX7_call 229 = .ok (.iconst 0, 1) := by decide +kernel
theorem dX7_call_230 : decode cX7_call 230 = .ok (.goto 7, 3) := by decide +kernel
theorem dX7_call_233 : decode cX7_call 233 = .ok (.aload_n 0, 1) := by decide +kernel
theorem dX7_call_234 : decode cX7_call 234 = .ok (.getfield 157, 3) := by decide +kernel
theorem dX7_call_237 : decode cX7_call 237 = .ok (.ireturn, 1) := by decide +kernel
set_option maxRecDepth 20000 in
theorem ggX7_breaker_X7_in : GoodIn wsX7_breaker wsX7_in := goodIn_r _ [9] (by decide +kernel) (by decide +kernel)
set_option maxRecDepth 20000 in
theorem gX7_breaker_X7_in : GoodIn wsX7_breaker (va_wsS RX7 192 yX7_in wsX7_in) := goodIn_app (goodIn_of _ (by decide +kernel)) ggX7_breaker_X7_in
set_option maxRecDepth 20000 in
theorem ggX7_breaker_X7_become : GoodIn wsX7_breaker wsX7_become := goodIn_r _ [13, 14, 15, 16, 17, 18, 19, 20, 21, 22, 23, 24, 25, 26, 27, 28, 29, 30, 31, 32, 33, 34, 35, 36, 37, 38, 39, 40, 41, 42, 43, 44, 45, 46, 47, 48, 49, 50, 51, 52, 53, 54, 55, 56, 57] (by decide +kernel) (by decide +kernel)
set_option maxRecDepth 20000 in
theorem gX7_breaker_X7_become : GoodIn wsX7_breaker (wsV RX7 127 RX7 yX7_become wsX7_become) := goodIn_app (goodIn_of _ (by decide +kernel)) ggX7_breaker_X7_become
theorem dX7_breaker_0 : decode cX7_breaker 0 = .ok (.aload_n 0, 1) := by decide +kernel
theorem dX7_breaker_1 : decode cX7_breaker 1 = .ok (.iconst 0, 1) := by decide +kernel
theorem dX7_breaker_2 : decode cX7_breaker 2 = .ok (.putfield 96, 3) := by decide +kernel
theorem dX7_breaker_5 : decode cX7_breaker 5 = .ok (.iload_n 1, 1) := by decide +kernel
theorem dX7_breaker_6 : decode cX7_breaker 6 = .ok (.iconst 1, 1) := by decide +kernel
theorem dX7_breaker_7 : decode cX7_breaker 7 = .ok (.bipush 8, 2) := by decide +kernel
theorem dX7_breaker_9 : decode cX7_breaker 9 = .ok (.invokestatic 192, 3) := by decide +kernel
theorem dX7_breaker_12 : decode cX7_breaker 12 = .ok (.ifCond .eq 32, 3) := by decide +kernel
theorem dX7_breaker_15 : decode cX7_breaker 15 = .ok (.iload_n 2, 1) := by decide +kernel
theorem dX7_breaker_16 : decode cX7_breaker 16 = .ok (.iconst 1, 1) := by decide +kernel
theorem dX7_breaker_17 : decode cX7_breaker 17 = .ok (.iload_n 1, 1) := by decide +kernel
theorem dX7_breaker_18 : decode cX7_breaker 18 = .ok (.invokestatic 192, 3) := by decide +kernel
theorem dX7_breaker_21 : decode cX7_breaker 21 = .ok (.ifCond .eq 23, 3) := by decide +kernel
theorem dX7_breaker_24 : decode cX7_breaker 24 = .ok (.iload_n 3, 1) := by decide +kernel
theorem dX7_breaker_25 : decode cX7_breaker 25 = .ok (.iconst 0, 1) := by decide +kernel
theorem dX7_breaker_26 : decode cX7_breaker 26 = .ok (.bipush 100, 2) := by decide +kernel
theorem dX7_breaker_28 : decode cX7_breaker 28 = .ok (.invokestatic 192, 3) := by decide +kernel
theorem dX7_breaker_31 : decode cX7_breaker 31 = .ok (.ifCond .eq 13, 3) := by decide +kernel
theorem dX7_breaker_34 : decode cX7_breaker 34 = .ok (.iload 4, 2) := by decide +kernel
theorem dX7_breaker_36 : decode cX7_breaker 36 = .ok (.iconst 1, 1) := by decide +kernel
theorem dX7_breaker_37 : decode cX7_breaker 37 = .ok (.iconst 4, 1) := by decide +kernel
theorem dX7_breaker_38 : decode cX7_breaker 38 = .ok (.invokestatic 192, 3) := by decide +kernel
theorem dX7_breaker_41 : decode cX7_breaker 41 = .ok (.ifCond .ne 5, 3) := by decide +kernel
theorem dX7_breaker_44 : decode cX7_breaker 44 = .ok (.iconst 0, 1) := by decide +kernel
theorem dX7_breaker_45 : decode cX7_breaker 45 = .ok (.ireturn, 1) := by decide +kernel
theorem dX7_breaker_46 : decode cX7_breaker 46 = .ok (.aload_n 0, 1) := by decide +kernel
theorem dX7_breaker_47 : decode cX7_breaker 47 = .ok (.iload_n 1, 1) := by decide +kernel
theorem dX7_breaker_48 : decode cX7_breaker 48 = .ok (.putfield 22, 3) := by decide +kernel
theorem dX7_breaker_51 : decode cX7_breaker 51 = .ok (.aload_n 0, 1) := by decide +kernel
theorem dX7_breaker_52 : decode cX7_breaker 52 = .ok (.iload_n 2, 1) := by decide +kernel
theorem dX7_breaker_53 : decode cX7_breaker 53 = .ok (.putfield 26, 3) := by decide +kernel
theorem dX7_breaker_56 : decode cX7_breaker 56 = .ok (.aload_n 0, 1) := by decide +kernel
theorem dX7_breaker_57 : decode cX7_breaker 57 = .ok (.iload_n 3, 1) := by decide +kernel
theorem dX7_breaker_58 : decode cX7_breaker 58 = .ok (.putfield 29, 3) := by decide +kernel
theorem dX7_breaker_61 : decode cX7_breaker 61 = .ok (.aload_n 0, 1) := by decide +kernel
theorem dX7_breaker_62 : decode cX7_breaker 62 = .ok (.iload 4, 2) := by decide +kernel
theorem dX7_breaker_64 : decode cX7_breaker 64 = .ok (.putfield 32, 3) := by decide +kernel
theorem dX7_breaker_67 : decode cX7_breaker 67 = .ok (.aload_n 0, 1) := by decide +kernel
theorem dX7_breaker_68 : decode cX7_breaker 68 = .ok (.iconst 0, 1) := by decide +kernel
theorem dX7_breaker_69 : decode cX7_breaker 69 = .ok (.invokevirtual 127, 3) := by decide +kernel
theorem dX7_breaker_72 : decode cX7_breaker 72 = .ok (.iconst 1, 1) := by decide +kernel
theorem dX7_breaker_73 : decode cX7_breaker 73 = .ok (.ireturn, 1) := by decide +kernel
set_option maxRecDepth 20000 in
theorem ggX7_trips_X7_in : GoodIn wsX7_trips wsX7_in := goodIn_r _ [9] (by decide +kernel) (by decide +kernel)
set_option maxRecDepth 20000 in
theorem gX7_trips_X7_in : GoodIn wsX7_trips (va_wsS RX7 192 yX7_in wsX7_in) := goodIn_app (goodIn_of _ (by decide +kernel)) ggX7_trips_X7_in
theorem dX7_trips_0 : decode cX7_trips 0 = .ok (.aload_n 0, 1) := by decide +kernel
theorem dX7_trips_1 : decode cX7_trips 1 = .ok (.iconst 0, 1) := by decide +kernel
theorem dX7_trips_2 : decode cX7_trips 2 = .ok (.putfield 96, 3) := by decide +kernel
theorem dX7_trips_5 : decode cX7_trips 5 = .ok (.dload_n 1, 1) := by decide +kernel
theorem dX7_trips_6 : decode cX7_trips 6 = .ok (.dconst 0, 1) := by decide +kernel
theorem dX7_trips_7 : decode cX7_trips 7 = .ok (.dcmp .l, 1) := by decide +kernel
theorem dX7_trips_8 : decode cX7_trips 8 = .ok (.ifCond .le 36, 3) := by decide +kernel
theorem dX7_trips_11 : decode cX7_trips 11 = .ok (.dload_n 1, 1) := by decide +kernel
theorem dX7_trips_12 : decode cX7_trips 12 = .ok (.ldc2_w 44, 3) := by decide +kernel
theorem dX7_trips_15 : decode cX7_trips 15 = .ok (.dcmp .g, 1) := by decide +kernel
theorem dX7_trips_16 : decode cX7_trips 16 = .ok (.ifCond .gt 28, 3) := by decide +kernel
theorem dX7_trips_19 : decode cX7_trips 19 = .ok (.dload_n 3, 1) := by decide +kernel
theorem dX7_trips_20 : decode cX7_trips 20 = .ok (.dconst 0, 1) := by decide +kernel
theorem dX7_trips_21 : decode cX7_trips 21 = .ok (.dcmp .l, 1) := by decide +kernel
theorem dX7_trips_22 : decode cX7_trips 22 = .ok (.ifCond .le 22, 3) := by decide +kernel
theorem dX7_trips_25 : decode cX7_trips 25 = .ok (.dload_n 3, 1) := by decide +kernel
theorem dX7_trips_26 : decode cX7_trips 26 = .ok (.ldc2_w 44, 3) := by decide +kernel
theorem dX7_trips_29 : decode cX7_trips 29 = .ok (.dcmp .g, 1) := by decide +kernel
theorem dX7_trips_30 : decode cX7_trips 30 = .ok (.ifCond .gt 14, 3) := by decide +kernel
theorem dX7_trips_33 : decode cX7_trips 33 = .ok (.iload 5, 2) := by decide +kernel
theorem dX7_trips_35 : decode cX7_trips 35 = .ok (.iconst 0, 1) := by decide +kernel
theorem dX7_trips_36 : decode cX7_trips 36 = .ok (.bipush 100, 2) := by decide +kernel
theorem dX7_trips_38 : decode cX7_trips 38 = .ok (.invokestatic 192, 3) := by decide +kernel
theorem dX7_trips_41 : decode cX7_trips 41 = .ok (.ifCond .ne 5, 3) := by decide +kernel
theorem dX7_trips_44 : decode cX7_trips 44 = .ok (.iconst 0, 1) := by decide +kernel
theorem dX7_trips_45 : decode cX7_trips 45 = .ok (.ireturn, 1) := by decide +kernel
theorem dX7_trips_46 : decode cX7_trips 46 = .ok (.aload_n 0, 1) := by decide +kernel
theorem dX7_trips_47 : decode cX7_trips 47 = .ok (.dload_n 1, 1) := by decide +kernel
theorem dX7_trips_48 : decode cX7_trips 48 = .ok (.putfield 40, 3) := by decide +kernel
theorem dX7_trips_51 : decode cX7_trips 51 = .ok (.aload_n 0, 1) := by decide +kernel
theorem dX7_trips_52 : decode cX7_trips 52 = .ok (.dload_n 3, 1) := by decide +kernel
theorem dX7_trips_53 : decode cX7_trips 53 = .ok (.putfield 46, 3) := by decide +kernel
theorem dX7_trips_56 : decode cX7_trips 56 = .ok (.aload_n 0, 1) := by decide +kernel
theorem dX7_trips_57 : decode cX7_trips 57 = .ok (.iload 5, 2) := by decide +kernel
theorem dX7_trips_59 : decode cX7_trips 59 = .ok (.putfield 35, 3) := by decide +kernel
theorem dX7_trips_62 : decode cX7_trips 62 = .ok (.iconst 1, 1) := by decide +kernel
theorem dX7_trips_63 : decode cX7_trips 63 = .ok (.ireturn, 1) := by decide +kernel
set_option maxRecDepth 20000 in
theorem ggX7_bulkhead_X7_in : GoodIn wsX7_bulkhead wsX7_in := goodIn_r _ [6] (by decide +kernel) (by decide +kernel)
set_option maxRecDepth 20000 in
theorem gX7_bulkhead_X7_in : GoodIn wsX7_bulkhead (va_wsS RX7 192 yX7_in wsX7_in) := goodIn_app (goodIn_of _ (by decide +kernel)) ggX7_bulkhead_X7_in
theorem dX7_bulkhead_0 : decode cX7_bulkhead 0 = .ok (.aload_n 0, 1) := by decide +kernel
theorem dX7_bulkhead_1 : decode cX7_bulkhead 1 = .ok (.iconst 0, 1) := by decide +kernel
theorem dX7_bulkhead_2 : decode cX7_bulkhead 2 = .ok (.putfield 96, 3) := by decide +kernel
theorem dX7_bulkhead_5 : decode cX7_bulkhead 5 = .ok (.iload_n 1, 1) := by decide +kernel
theorem dX7_bulkhead_6 : decode cX7_bulkhead 6 = .ok (.iconst 0, 1) := by decide +kernel
theorem dX7_bulkhead_7 : decode cX7_bulkhead 7 = .ok (.iconst 5, 1) := by decide +kernel
theorem dX7_bulkhead_8 : decode cX7_bulkhead 8 = .ok (.invokestatic 192, 3) := by decide +kernel
theorem dX7_bulkhead_11 : decode cX7_bulkhead 11 = .ok (.ifCond .ne 5, 3) := by decide +kernel
theorem dX7_bulkhead_14 : decode cX7_bulkhead 14 = .ok (.iconst 0, 1) := by decide +kernel
theorem dX7_bulkhead_15 : decode cX7_bulkhead 15 = .ok (.ireturn, 1) := by decide +kernel
theorem dX7_bulkhead_16 : decode cX7_bulkhead 16 = .ok (.aload_n 0, 1) := by decide +kernel
theorem dX7_bulkhead_17 : decode cX7_bulkhead 17 = .ok (.iload_n 1, 1) := by decide +kernel
theorem dX7_bulkhead_18 : decode cX7_bulkhead 18 = .ok (.putfield 52, 3) := by decide +kernel
theorem dX7_bulkhead_21 : decode cX7_bulkhead 21 = .ok (.iconst 1, 1) := by decide +kernel
theorem dX7_bulkhead_22 : decode cX7_bulkhead 22 = .ok (.ireturn, 1) := by decide +kernel
set_option maxRecDepth 20000 in
theorem ggX7_use_X7_in : GoodIn wsX7_use wsX7_in := goodIn_r _ [6] (by decide +kernel) (by decide +kernel)
set_option maxRecDepth 20000 in
theorem gX7_use_X7_in : GoodIn wsX7_use (va_wsS RX7 192 yX7_in wsX7_in) := goodIn_app (goodIn_of _ (by decide +kernel)) ggX7_use_X7_in
theorem dX7_use_0 : decode cX7_use 0 = .ok (.aload_n 0, 1) := by decide +kernel
theorem dX7_use_1 : decode cX7_use 1 = .ok (.iconst 0, 1) := by decide +kernel
theorem dX7_use_2 : decode cX7_use 2 = .ok (.putfield 96, 3) := by decide +kernel
theorem dX7_use_5 : decode cX7_use 5 = .ok (.iload_n 1, 1) := by decide +kernel
theorem dX7_use_6 : decode cX7_use 6 = .ok (.bipush (-9), 2) := by decide +kernel
theorem dX7_use_8 : decode cX7_use 8 = .ok (.bipush 9, 2) := by decide +kernel
theorem dX7_use_10 : decode cX7_use 10 = .ok (.invokestatic 192, 3) := by decide +kernel
theorem dX7_use_13 : decode cX7_use 13 = .ok (.ifCond .eq 18, 3) := by decide +kernel
theorem dX7_use_16 : decode cX7_use 16 = .ok (.aload_n 0, 1) := by decide +kernel
theorem dX7_use_17 : decode cX7_use 17 = .ok (.getfield 167, 3) := by decide +kernel
theorem dX7_use_20 : decode cX7_use 20 = .ok (.iload_n 1, 1) := by decide +kernel
theorem dX7_use_21 : decode cX7_use 21 = .ok (.iadd, 1) := by decide +kernel
theorem dX7_use_22 : decode cX7_use 22 = .ok (.iconst 0, 1) := by decide +kernel
theorem dX7_use_23 : decode cX7_use 23 = .ok (.bipush 9, 2) := by decide +kernel
theorem dX7_use_25 : decode cX7_use 25 = .ok (.invokestatic 192, 3) := by decide +kernel
theorem dX7_use_28 : decode cX7_use 28 = .ok (.ifCond .ne 5, 3) := by decide +kernel
theorem dX7_use_31 : decode cX7_use 31 = .ok (.iconst 0, 1) := by decide +kernel
theorem dX7_use_32 : decode cX7_use 32 = .ok (.ireturn, 1) := by decide +kernel
theorem dX7_use_33 : decode cX7_use 33 = .ok (.aload_n 0, 1) := by decide +kernel
theorem dX7_use_34 : decode cX7_use 34 = .ok (.aload_n 0, 1) := by decide +kernel
theorem dX7_use_35 : decode cX7_use 35 = .ok (.getfield 167, 3) := by decide +kernel
theorem dX7_use_38 : decode cX7_use 38 = .ok (.iload_n 1, 1) := by decide +kernel
theorem dX7_use_39 : decode cX7_use 39 = .ok (.iadd, 1) := by decide +kernel
theorem dX7_use_40 : decode cX7_use 40 = .ok (.putfield 167, 3) := by decide +kernel
theorem dX7_use_43 : decode cX7_use 43 = .ok (.iconst 1, 1) := by decide +kernel
theorem dX7_use_44 : decode cX7_use 44 = .ok (.ireturn, 1) := by decide +kernel
set_option maxRecDepth 20000 in
theorem ggX7_limiter_X7_in : GoodIn wsX7_limiter wsX7_in := goodIn_r _ [8] (by decide +kernel) (by decide +kernel)
set_option maxRecDepth 20000 in
theorem gX7_limiter_X7_in : GoodIn wsX7_limiter (va_wsS RX7 192 yX7_in wsX7_in) := goodIn_app (goodIn_of _ (by decide +kernel)) ggX7_limiter_X7_in
set_option maxRecDepth 20000 in
theorem ggX7_limiter_X7_renew : GoodIn wsX7_limiter wsX7_renew := goodIn_r _ [12, 13, 2, 14, 3, 15, 16, 17, 18, 19, 20, 21, 22, 23, 24, 25, 26, 27, 28, 29, 30, 31, 32, 33, 34, 35, 36, 37, 38, 39, 40, 41, 42, 43, 44, 45, 46, 47, 48, 49, 50, 51, 52, 53, 54, 55, 56] (by decide +kernel) (by decide +kernel)
set_option maxRecDepth 20000 in
theorem gX7_limiter_X7_renew : GoodIn wsX7_limiter (wsV RX7 144 RX7 yX7_renew wsX7_renew) := goodIn_app (goodIn_of _ (by decide +kernel)) ggX7_limiter_X7_renew
theorem dX7_limiter_0 : decode cX7_limiter 0 = .ok (.aload_n 0, 1) := by decide +kernel
theorem dX7_limiter_1 : decode cX7_limiter 1 = .ok (.iconst 0, 1) := by decide +kernel
theorem dX7_limiter_2 : decode cX7_limiter 2 = .ok (.putfield 96, 3) := by decide +kernel
theorem dX7_limiter_5 : decode cX7_limiter 5 = .ok (.iload_n 1, 1) := by decide +kernel
theorem dX7_limiter_6 : decode cX7_limiter 6 = .ok (.iconst 1, 1) := by decide +kernel
theorem dX7_limiter_7 : decode cX7_limiter 7 = .ok (.bipush 50, 2) := by decide +kernel
theorem dX7_limiter_9 : decode cX7_limiter 9 = .ok (.invokestatic 192, 3) := by decide +kernel
theorem dX7_limiter_12 : decode cX7_limiter 12 = .ok (.ifCond .eq 22, 3) := by decide +kernel
theorem dX7_limiter_15 : decode cX7_limiter 15 = .ok (.iload_n 2, 1) := by decide +kernel
theorem dX7_limiter_16 : decode cX7_limiter 16 = .ok (.iconst 1, 1) := by decide +kernel
theorem dX7_limiter_17 : decode cX7_limiter 17 = .ok (.iconst 5, 1) := by decide +kernel
theorem dX7_limiter_18 : decode cX7_limiter 18 = .ok (.invokestatic 192, 3) := by decide +kernel
theorem dX7_limiter_21 : decode cX7_limiter 21 = .ok (.ifCond .eq 13, 3) := by decide +kernel
theorem dX7_limiter_24 : decode cX7_limiter 24 = .ok (.iload_n 3, 1) := by decide +kernel
theorem dX7_limiter_25 : decode cX7_limiter 25 = .ok (.iconst 0, 1) := by decide +kernel
theorem dX7_limiter_26 : decode cX7_limiter 26 = .ok (.bipush 100, 2) := by decide +kernel
theorem dX7_limiter_28 : decode cX7_limiter 28 = .ok (.invokestatic 192, 3) := by decide +kernel
theorem dX7_limiter_31 : decode cX7_limiter 31 = .ok (.ifCond .ne 5, 3) := by decide +kernel
theorem dX7_limiter_34 : decode cX7_limiter 34 = .ok (.iconst 0, 1) := by decide +kernel
theorem dX7_limiter_35 : decode cX7_limiter 35 = .ok (.ireturn, 1) := by decide +kernel
theorem dX7_limiter_36 : decode cX7_limiter 36 = .ok (.aload_n 0, 1) := by decide +kernel
theorem dX7_limiter_37 : decode cX7_limiter 37 = .ok (.iload_n 1, 1) := by decide +kernel
theorem dX7_limiter_38 : decode cX7_limiter 38 = .ok (.putfield 55, 3) := by decide +kernel
theorem dX7_limiter_41 : decode cX7_limiter 41 = .ok (.aload_n 0, 1) := by decide +kernel
theorem dX7_limiter_42 : decode cX7_limiter 42 = .ok (.iload_n 2, 1) := by decide +kernel
theorem dX7_limiter_43 : decode cX7_limiter 43 = .ok (.putfield 58, 3) := by decide +kernel
theorem dX7_limiter_46 : decode cX7_limiter 46 = .ok (.aload_n 0, 1) := by decide +kernel
theorem dX7_limiter_47 : decode cX7_limiter 47 = .ok (.iload_n 3, 1) := by decide +kernel
theorem dX7_limiter_48 : decode cX7_limiter 48 = .ok (.putfield 61, 3) := by decide +kernel
theorem dX7_limiter_51 : decode cX7_limiter 51 = .ok (.aload_n 0, 1) := by decide +kernel
theorem dX7_limiter_52 : decode cX7_limiter 52 = .ok (.invokevirtual 144, 3) := by decide +kernel
theorem dX7_limiter_55 : decode cX7_limiter 55 = .ok (.iconst 1, 1) := by decide +kernel
theorem dX7_limiter_56 : decode cX7_limiter 56 = .ok (.ireturn, 1) := by decide +kernel
set_option maxRecDepth 20000 in
theorem ggX7_retry_X7_in : GoodIn wsX7_retry wsX7_in := goodIn_r _ [7] (by decide +kernel) (by decide +kernel)
set_option maxRecDepth 20000 in
theorem gX7_retry_X7_in : GoodIn wsX7_retry (va_wsS RX7 192 yX7_in wsX7_in) := goodIn_app (goodIn_of _ (by decide +kernel)) ggX7_retry_X7_in
theorem dX7_retry_0 : decode cX7_retry 0 = .ok (.aload_n 0, 1) := by decide +kernel
theorem dX7_retry_1 : decode cX7_retry 1 = .ok (.iconst 0, 1) := by decide +kernel
theorem dX7_retry_2 : decode cX7_retry 2 = .ok (.putfield 96, 3) := by decide +kernel
theorem dX7_retry_5 : decode cX7_retry 5 = .ok (.iload_n 1, 1) := by decide +kernel
theorem dX7_retry_6 : decode cX7_retry 6 = .ok (.iconst 1, 1) := by decide +kernel
theorem dX7_retry_7 : decode cX7_retry 7 = .ok (.iconst 5, 1) := by decide +kernel
theorem dX7_retry_8 : decode cX7_retry 8 = .ok (.invokestatic 192, 3) := by decide +kernel
theorem dX7_retry_11 : decode cX7_retry 11 = .ok (.ifCond .eq 13, 3) := by decide +kernel
theorem dX7_retry_14 : decode cX7_retry 14 = .ok (.iload_n 2, 1) := by decide +kernel
theorem dX7_retry_15 : decode cX7_retry 15 = .ok (.iconst 0, 1) := by decide +kernel
theorem dX7_retry_16 : decode cX7_retry 16 = .ok (.bipush 63, 2) := by decide +kernel
theorem dX7_retry_18 : decode cX7_retry 18 = .ok (.invokestatic 192, 3) := by decide +kernel
theorem dX7_retry_21 : decode cX7_retry 21 = .ok (.ifCond .ne 5, 3) := by decide +kernel
theorem dX7_retry_24 : decode cX7_retry 24 = .ok (.iconst 0, 1) := by decide +kernel
theorem dX7_retry_25 : decode cX7_retry 25 = .ok (.ireturn, 1) := by decide +kernel
theorem dX7_retry_26 : decode cX7_retry 26 = .ok (.aload_n 0, 1) := by decide +kernel
theorem dX7_retry_27 : decode cX7_retry 27 = .ok (.iload_n 1, 1) := by decide +kernel
theorem dX7_retry_28 : decode cX7_retry 28 = .ok (.putfield 67, 3) := by decide +kernel
theorem dX7_retry_31 : decode cX7_retry 31 = .ok (.aload_n 0, 1) := by decide +kernel
theorem dX7_retry_32 : decode cX7_retry 32 = .ok (.iload_n 2, 1) := by decide +kernel
theorem dX7_retry_33 : decode cX7_retry 33 = .ok (.putfield 70, 3) := by decide +kernel
theorem dX7_retry_36 : decode cX7_retry 36 = .ok (.iconst 1, 1) := by decide +kernel
theorem dX7_retry_37 : decode cX7_retry 37 = .ok (.ireturn, 1) := by decide +kernel
theorem dX7_backoff_0 : decode cX7_backoff 0 = .ok (.aload_n 0, 1) := by decide +kernel
theorem dX7_backoff_1 : decode cX7_backoff 1 = .ok (.iconst 0, 1) := by decide +kernel
theorem dX7_backoff_2 : decode cX7_backoff 2 = .ok (.putfield 96, 3) := by decide +kernel
theorem dX7_backoff_5 : decode cX7_backoff 5 = .ok (.dload_n 1, 1) := by decide +kernel
theorem dX7_backoff_6 : decode cX7_backoff 6 = .ok (.dconst 0, 1) := by decide +kernel
theorem dX7_backoff_7 : decode cX7_backoff 7 = .ok (.dcmp .l, 1) := by decide +kernel
theorem dX7_backoff_8 : decode cX7_backoff 8 = .ok (.ifCond .lt 43, 3) := by decide +kernel
theorem dX7_backoff_11 : decode cX7_backoff 11 = .ok (.dload_n 1, 1) := by decide +kernel
theorem dX7_backoff_12 : decode cX7_backoff 12 = .ok (.ldc2_w 38, 3) := by decide +kernel
theorem dX7_backoff_15 : decode cX7_backoff 15 = .ok (.dcmp .g, 1) := by decide +kernel
theorem dX7_backoff_16 : decode cX7_backoff 16 = .ok (.ifCond .gt 35, 3) := by decide +kernel
theorem dX7_backoff_19 : decode cX7_backoff 19 = .ok (.dload_n 3, 1) := by decide +kernel
theorem dX7_backoff_20 : decode cX7_backoff 20 = .ok (.ldc2_w 196, 3) := by decide +kernel
theorem dX7_backoff_23 : decode cX7_backoff 23 = .ok (.dcmp .l, 1) := by decide +kernel
theorem dX7_backoff_24 : decode cX7_backoff 24 = .ok (.ifCond .lt 27, 3) := by decide +kernel
theorem dX7_backoff_27 : decode cX7_backoff 27 = .ok (.dload_n 3, 1) := by decide +kernel
theorem dX7_backoff_28 : decode cX7_backoff 28 = .ok (.ldc2_w 198, 3) := by decide +kernel
theorem dX7_backoff_31 : decode cX7_backoff 31 = .ok (.dcmp .g, 1) := by decide +kernel
theorem dX7_backoff_32 : decode cX7_backoff 32 = .ok (.ifCond .gt 19, 3) := by decide +kernel
theorem dX7_backoff_35 : decode cX7_backoff 35 = .ok (.dload 5, 2) := by decide +kernel
theorem dX7_backoff_37 : decode cX7_backoff 37 = .ok (.dconst 0, 1) := by decide +kernel
theorem dX7_backoff_38 : decode cX7_backoff 38 = .ok (.dcmp .l, 1) := by decide +kernel
theorem dX7_backoff_39 : decode cX7_backoff 39 = .ok (.ifCond .lt 12, 3) := by decide +kernel
theorem dX7_backoff_42 : decode cX7_backoff 42 = .ok (.dload 5, 2) := by decide +kernel
theorem dX7_backoff_44 : decode cX7_backoff 44 = .ok (.ldc2_w 44, 3) := by decide +kernel
theorem dX7_backoff_47 : decode cX7_backoff 47 = .ok (.dcmp .g, 1) := by decide +kernel
theorem dX7_backoff_48 : decode cX7_backoff 48 = .ok (.ifCond .le 5, 3) := by decide +kernel
theorem dX7_backoff_51 : decode cX7_backoff 51 = .ok (.iconst 0, 1) := by decide +kernel
theorem dX7_backoff_52 : decode cX7_backoff 52 = .ok (.ireturn, 1) := by decide +kernel
theorem dX7_backoff_53 : decode cX7_backoff 53 = .ok (.aload_n 0, 1) := by decide +kernel
theorem dX7_backoff_54 : decode cX7_backoff 54 = .ok (.dload_n 1, 1) := by decide +kernel
theorem dX7_backoff_55 : decode cX7_backoff 55 = .ok (.putfield 73, 3) := by decide +kernel
theorem dX7_backoff_58 : decode cX7_backoff 58 = .ok (.aload_n 0, 1) := by decide +kernel
theorem dX7_backoff_59 : decode cX7_backoff 59 = .ok (.dload_n 3, 1) := by decide +kernel
theorem dX7_backoff_60 : decode cX7_backoff 60 = .ok (.putfield 78, 3) := by decide +kernel
theorem dX7_backoff_63 : decode cX7_backoff 63 = .ok (.aload_n 0, 1) := by decide +kernel
theorem dX7_backoff_64 : decode cX7_backoff 64 = .ok (.dload 5, 2) := by decide +kernel
theorem dX7_backoff_66 : decode cX7_backoff 66 = .ok (.putfield 83, 3) := by decide +kernel
theorem dX7_backoff_69 : decode cX7_backoff 69 = .ok (.iconst 1, 1) := by decide +kernel
theorem dX7_backoff_70 : decode cX7_backoff 70 = .ok (.ireturn, 1) := by decide +kernel
set_option maxRecDepth 20000 in
theorem ggX7_timer_X7_in : GoodIn wsX7_timer wsX7_in := goodIn_r _ [6] (by decide +kernel) (by decide +kernel)
set_option maxRecDepth 20000 in
theorem gX7_timer_X7_in : GoodIn wsX7_timer (va_wsS RX7 192 yX7_in wsX7_in) := goodIn_app (goodIn_of _ (by decide +kernel)) ggX7_timer_X7_in
theorem dX7_timer_0 : decode cX7_timer 0 = .ok (.aload_n 0, 1) := by decide +kernel
theorem dX7_timer_1 : decode cX7_timer 1 = .ok (.iconst 0, 1) := by decide +kernel
theorem dX7_timer_2 : decode cX7_timer 2 = .ok (.putfield 96, 3) := by decide +kernel
theorem dX7_timer_5 : decode cX7_timer 5 = .ok (.iload_n 1, 1) := by decide +kernel
theorem dX7_timer_6 : decode cX7_timer 6 = .ok (.iconst 0, 1) := by decide +kernel
theorem dX7_timer_7 : decode cX7_timer 7 = .ok (.bipush 100, 2) := by decide +kernel
theorem dX7_timer_9 : decode cX7_timer 9 = .ok (.invokestatic 192, 3) := by decide +kernel
theorem dX7_timer_12 : decode cX7_timer 12 = .ok (.ifCond .ne 5, 3) := by decide +kernel
theorem dX7_timer_15 : decode cX7_timer 15 = .ok (.iconst 0, 1) := by decide +kernel
theorem dX7_timer_16 : decode cX7_timer 16 = .ok (.ireturn, 1) := by decide +kernel
theorem dX7_timer_17 : decode cX7_timer 17 = .ok (.aload_n 0, 1) := by decide +kernel
theorem dX7_timer_18 : decode cX7_timer 18 = .ok (.iload_n 1, 1) := by decide +kernel
theorem dX7_timer_19 : decode cX7_timer 19 = .ok (.putfield 86, 3) := by decide +kernel
theorem dX7_timer_22 : decode cX7_timer 22 = .ok (.iconst 1, 1) := by decide +kernel
theorem dX7_timer_23 : decode cX7_timer 23 = .ok (.ireturn, 1) := by decide +kernel
set_option maxRecDepth 20000 in
theorem ggX7_lay_X7_in : GoodIn wsX7_lay wsX7_in := goodIn_r _ [7] (by decide +kernel) (by decide +kernel)
set_option maxRecDepth 20000 in
theorem gX7_lay_X7_in : GoodIn wsX7_lay (va_wsS RX7 192 yX7_in wsX7_in) := goodIn_app (goodIn_of _ (by decide +kernel)) ggX7_lay_X7_in
theorem dX7_lay_0 : decode cX7_lay 0 = .ok (.aload_n 0, 1) := by decide +kernel
theorem dX7_lay_1 : decode cX7_lay 1 = .ok (.iconst 0, 1) := by decide +kernel
theorem dX7_lay_2 : decode cX7_lay 2 = .ok (.putfield 96, 3) := by decide +kernel
theorem dX7_lay_5 : decode cX7_lay 5 = .ok (.iconst 0, 1) := by decide +kernel
theorem dX7_lay_6 : decode cX7_lay 6 = .ok (.istore_n 2, 1) := by decide +kernel
theorem dX7_lay_7 : decode cX7_lay 7 = .ok (.iconst 0, 1) := by decide +kernel
theorem dX7_lay_8 : decode cX7_lay 8 = .ok (.istore_n 3, 1) := by decide +kernel
theorem dX7_lay_9 : decode cX7_lay 9 = .ok (.iload_n 3, 1) := by decide +kernel
theorem dX7_lay_10 : decode cX7_lay 10 = .ok (.aload_n 0, 1) := by decide +kernel
theorem dX7_lay_11 : decode cX7_lay 11 = .ok (.getfield 174, 3) := by decide +kernel
theorem dX7_lay_14 : decode cX7_lay 14 = .ok (.if_icmp .ge 29, 3) := by decide +kernel
theorem dX7_lay_17 : decode cX7_lay 17 = .ok (.iload_n 2, 1) := by decide +kernel
theorem dX7_lay_18 : decode cX7_lay 18 = .ok (.ifCond .ne 13, 3) := by decide +kernel
theorem dX7_lay_21 : decode cX7_lay 21 = .ok (.aload_n 0, 1) := by decide +kernel
theorem dX7_lay_22 : decode cX7_lay 22 = .ok (.getfield 7, 3) := by decide +kernel
theorem dX7_lay_25 : decode cX7_lay 25 = .ok (.iload_n 3, 1) := by decide +kernel
theorem dX7_lay_26 : decode cX7_lay 26 = .ok (.iaload, 1) := by decide +kernel
theorem dX7_lay_27 : decode cX7_lay 27 = .ok (.iload_n 1, 1) := by decide +kernel
theorem dX7_lay_28 : decode cX7_lay 28 = .ok (.if_icmp .ne 7, 3) := by decide +kernel
theorem dX7_lay_31 : decode cX7_lay 31 = .ok (.iconst 1, 1) := by decide +kernel
theorem dX7_lay_32 : decode cX7_lay 32 = .ok (.goto 4, 3) := by decide +kernel
theorem dX7_lay_35 : decode cX7_lay 35 = .ok (.iconst 0, 1) := by decide +kernel
theorem dX7_lay_36 : decode cX7_lay 36 = .ok (.istore_n 2, 1) := by decide +kernel
theorem dX7_lay_37 : decode cX7_lay 37 = .ok (.iinc 3 1, 3) := by decide +kernel
theorem dX7_lay_40 : decode cX7_lay 40 = .ok (.goto (-31), 3) := by decide +kernel
theorem dX7_lay_43 : decode cX7_lay 43 = .ok (.iload_n 1, 1) := by decide +kernel
theorem dX7_lay_44 : decode cX7_lay 44 = .ok (.iconst 0, 1) := by decide +kernel
theorem dX7_lay_45 : decode cX7_lay 45 = .ok (.iconst 4, 1) := by decide +kernel
theorem dX7_lay_46 : decode cX7_lay 46 = .ok (.invokestatic 192, 3) := by decide +kernel
theorem dX7_lay_49 : decode cX7_lay 49 = .ok (.ifCond .eq 7, 3) := by decide +kernel
theorem dX7_lay_52 : decode cX7_lay 52 = .ok (.iload_n 2, 1) := by decide +kernel
theorem dX7_lay_53 : decode cX7_lay 53 = .ok (.ifCond .eq 5, 3) := by decide +kernel
theorem dX7_lay_56 : decode cX7_lay 56 = .ok (.iconst (-1), 1) := by decide +kernel
theorem dX7_lay_57 : decode cX7_lay 57 = .ok (.ireturn, 1) := by decide +kernel
theorem dX7_lay_58 : decode cX7_lay 58 = .ok (.aload_n 0, 1) := by decide +kernel
theorem dX7_lay_59 : decode cX7_lay 59 = .ok (.getfield 7, 3) := by decide +kernel
theorem dX7_lay_62 : decode cX7_lay 62 = .ok (.aload_n 0, 1) := by decide +kernel
theorem dX7_lay_63 : decode cX7_lay 63 = .ok (.getfield 174, 3) := by decide +kernel
theorem dX7_lay_66 : decode cX7_lay 66 = .ok (.iload_n 1, 1) := by decide +kernel
theorem dX7_lay_67 : decode cX7_lay 67 = .ok (.iastore, 1) := by decide +kernel
theorem dX7_lay_68 : decode cX7_lay 68 = .ok (.aload_n 0, 1) := by decide +kernel
theorem dX7_lay_69 : decode cX7_lay 69 = .ok (.aload_n 0, 1) := by decide +kernel
theorem dX7_lay_70 : decode cX7_lay 70 = .ok (.getfield 174, 3) := by decide +kernel
theorem dX7_lay_73 : decode cX7_lay 73 = .ok (.iconst 1, 1) := by decide +kernel
theorem dX7_lay_74 : decode cX7_lay 74 = .ok (.iadd, 1) := by decide +kernel
theorem dX7_lay_75 : decode cX7_lay 75 = .ok (.putfield 174, 3) := by decide +kernel
theorem dX7_lay_78 : decode cX7_lay 78 = .ok (.aload_n 0, 1) := by decide +kernel
theorem dX7_lay_79 : decode cX7_lay 79 = .ok (.getfield 174, 3) := by decide +kernel
theorem dX7_lay_82 : decode cX7_lay 82 = .ok (.ireturn, 1) := by decide +kernel
theorem dX7_strip_0 : decode cX7_strip 0 = .ok (.aload_n 0, 1) := by decide +kernel
theorem dX7_strip_1 : decode cX7_strip 1 = .ok (.iconst 0, 1) := by decide +kernel
theorem dX7_strip_2 : decode cX7_strip 2 = .ok (.putfield 96, 3) := by decide +kernel
theorem dX7_strip_5 : decode cX7_strip 5 = .ok (.aload_n 0, 1) := by decide +kernel
theorem dX7_strip_6 : decode cX7_strip 6 = .ok (.getfield 174, 3) := by decide +kernel
theorem dX7_strip_9 : decode cX7_strip 9 = .ok (.istore_n 1, 1) := by decide +kernel
theorem dX7_strip_10 : decode cX7_strip 10 = .ok (.aload_n 0, 1) := by decide +kernel
theorem dX7_strip_11 : decode cX7_strip 11 = .ok (.iconst 0, 1) := by decide +kernel
theorem dX7_strip_12 : decode cX7_strip 12 = .ok (.putfield 174, 3) := by decide +kernel
theorem dX7_strip_15 : decode cX7_strip 15 = .ok (.iload_n 1, 1) := by decide +kernel
theorem dX7_strip_16 : decode cX7_strip 16 = .ok (.ireturn, 1) := by decide +kernel
set_option maxRecDepth 20000 in
theorem ggX7_outcome_X7_in : GoodIn wsX7_outcome wsX7_in := goodIn_r _ [9] (by decide +kernel) (by decide +kernel)
set_option maxRecDepth 20000 in
theorem gX7_outcome_X7_in : GoodIn wsX7_outcome (va_wsS RX7 192 yX7_in wsX7_in) := goodIn_app (goodIn_of _ (by decide +kernel)) ggX7_outcome_X7_in
theorem dX7_outcome_0 : decode cX7_outcome 0 = .ok (.aload_n 0, 1) := by decide +kernel
theorem dX7_outcome_1 : decode cX7_outcome 1 = .ok (.iconst 0, 1) := by decide +kernel
theorem dX7_outcome_2 : decode cX7_outcome 2 = .ok (.putfield 96, 3) := by decide +kernel
theorem dX7_outcome_5 : decode cX7_outcome 5 = .ok (.iload_n 1, 1) := by decide +kernel
theorem dX7_outcome_6 : decode cX7_outcome 6 = .ok (.iconst 0, 1) := by decide +kernel
theorem dX7_outcome_7 : decode cX7_outcome 7 = .ok (.iconst 2, 1) := by decide +kernel
theorem dX7_outcome_8 : decode cX7_outcome 8 = .ok (.invokestatic 192, 3) := by decide +kernel
theorem dX7_outcome_11 : decode cX7_outcome 11 = .ok (.ifCond .eq 22, 3) := by decide +kernel
theorem dX7_outcome_14 : decode cX7_outcome 14 = .ok (.iload_n 2, 1) := by decide +kernel
theorem dX7_outcome_15 : decode cX7_outcome 15 = .ok (.iconst 0, 1) := by decide +kernel
theorem dX7_outcome_16 : decode cX7_outcome 16 = .ok (.bipush 50, 2) := by decide +kernel
theorem dX7_outcome_18 : decode cX7_outcome 18 = .ok (.invokestatic 192, 3) := by decide +kernel
theorem dX7_outcome_21 : decode cX7_outcome 21 = .ok (.ifCond .eq 12, 3) := by decide +kernel
theorem dX7_outcome_24 : decode cX7_outcome 24 = .ok (.aload_n 0, 1) := by decide +kernel
theorem dX7_outcome_25 : decode cX7_outcome 25 = .ok (.getfield 160, 3) := by decide +kernel
theorem dX7_outcome_28 : decode cX7_outcome 28 = .ok (.bipush 20, 2) := by decide +kernel
theorem dX7_outcome_30 : decode cX7_outcome 30 = .ok (.if_icmp .lt 5, 3) := by decide +kernel
theorem dX7_outcome_33 : decode cX7_outcome 33 = .ok (.iconst 0, 1) := by decide +kernel
theorem dX7_outcome_34 : decode cX7_outcome 34 = .ok (.ireturn, 1) := by decide +kernel
theorem dX7_outcome_35 : decode cX7_outcome 35 = .ok (.aload_n 0, 1) := by decide +kernel
theorem dX7_outcome_36 : decode cX7_outcome 36 = .ok (.getfield 13, 3) := by decide +kernel
theorem dX7_outcome_39 : decode cX7_outcome 39 = .ok (.aload_n 0, 1) := by decide +kernel
theorem dX7_outcome_40 : decode cX7_outcome 40 = .ok (.getfield 160, 3) := by decide +kernel
theorem dX7_outcome_43 : decode cX7_outcome 43 = .ok (.iload_n 1, 1) := by decide +kernel
theorem dX7_outcome_44 : decode cX7_outcome 44 = .ok (.iastore, 1) := by decide +kernel
theorem dX7_outcome_45 : decode cX7_outcome 45 = .ok (.aload_n 0, 1) := by decide +kernel
theorem dX7_outcome_46 : decode cX7_outcome 46 = .ok (.getfield 16, 3) := by decide +kernel
theorem dX7_outcome_49 : decode cX7_outcome 49 = .ok (.aload_n 0, 1) := by decide +kernel
theorem dX7_outcome_50 : decode cX7_outcome 50 = .ok (.getfield 160, 3) := by decide +kernel
theorem dX7_outcome_53 : decode cX7_outcome 53 = .ok (.iload_n 2, 1) := by decide +kernel
theorem dX7_outcome_54 : decode cX7_outcome 54 = .ok (.iastore, 1) := by decide +kernel
theorem dX7_outcome_55 : decode cX7_outcome 55 = .ok (.aload_n 0, 1) := by decide +kernel
theorem dX7_outcome_56 : decode cX7_outcome 56 = .ok (.getfield 19, 3) := by decide +kernel
theorem dX7_outcome_59 : decode cX7_outcome 59 = .ok (.aload_n 0, 1) := by decide +kernel
theorem dX7_outcome_60 : decode cX7_outcome 60 = .ok (.getfield 160, 3) := by decide +kernel
theorem dX7_outcome_63 : decode cX7_outcome 63 = .ok (.iload_n 3, 1) := by decide +kernel
theorem dX7_outcome_64 : decode cX7_outcome 64 = .ok (.iastore, 1) := by decide +kernel
theorem dX7_outcome_65 : decode cX7_outcome 65 = .ok (.aload_n 0, 1) := by decide +kernel
theorem dX7_outcome_66 : decode cX7_outcome 66 = .ok (.aload_n 0, 1) := by decide +kernel
theorem dX7_outcome_67 : decode cX7_outcome 67 = .ok (.getfield 160, 3) := by decide +kernel
theorem dX7_outcome_70 : decode cX7_outcome 70 = .ok (.iconst 1, 1) := by decide +kernel
theorem dX7_outcome_71 : decode cX7_outcome 71 = .ok (.iadd, 1) := by decide +kernel
theorem dX7_outcome_72 : decode cX7_outcome 72 = .ok (.putfield 160, 3) := by decide +kernel
theorem dX7_outcome_75 : decode cX7_outcome 75 = .ok (.iconst 1, 1) := by decide +kernel
theorem dX7_outcome_76 : decode cX7_outcome 76 = .ok (.ireturn, 1) := by decide +kernel
set_option maxRecDepth 20000 in
theorem ggX7_pass_X7_in : GoodIn wsX7_pass wsX7_in := goodIn_r _ [6] (by decide +kernel) (by decide +kernel)
set_option maxRecDepth 20000 in
theorem gX7_pass_X7_in : GoodIn wsX7_pass (va_wsS RX7 192 yX7_in wsX7_in) := goodIn_app (goodIn_of _ (by decide +kernel)) ggX7_pass_X7_in
theorem dX7_pass_0 : decode cX7_pass 0 = .ok (.aload_n 0, 1) := by decide +kernel
theorem dX7_pass_1 : decode cX7_pass 1 = .ok (.iconst 0, 1) := by decide +kernel
theorem dX7_pass_2 : decode cX7_pass 2 = .ok (.putfield 96, 3) := by decide +kernel
theorem dX7_pass_5 : decode cX7_pass 5 = .ok (.iload_n 1, 1) := by decide +kernel
theorem dX7_pass_6 : decode cX7_pass 6 = .ok (.iconst 0, 1) := by decide +kernel
theorem dX7_pass_7 : decode cX7_pass 7 = .ok (.bipush 100, 2) := by decide +kernel
theorem dX7_pass_9 : decode cX7_pass 9 = .ok (.invokestatic 192, 3) := by decide +kernel
theorem dX7_pass_12 : decode cX7_pass 12 = .ok (.ifCond .ne 5, 3) := by decide +kernel
theorem dX7_pass_15 : decode cX7_pass 15 = .ok (.iconst 0, 1) := by decide +kernel
theorem dX7_pass_16 : decode cX7_pass 16 = .ok (.ireturn, 1) := by decide +kernel
theorem dX7_pass_17 : decode cX7_pass 17 = .ok (.aload_n 0, 1) := by decide +kernel
theorem dX7_pass_18 : decode cX7_pass 18 = .ok (.aload_n 0, 1) := by decide +kernel
theorem dX7_pass_19 : decode cX7_pass 19 = .ok (.getfield 102, 3) := by decide +kernel
theorem dX7_pass_22 : decode cX7_pass 22 = .ok (.iload_n 1, 1) := by decide +kernel
theorem dX7_pass_23 : decode cX7_pass 23 = .ok (.iadd, 1) := by decide +kernel
theorem dX7_pass_24 : decode cX7_pass 24 = .ok (.putfield 102, 3) := by decide +kernel
theorem dX7_pass_27 : decode cX7_pass 27 = .ok (.iconst 1, 1) := by decide +kernel
theorem dX7_pass_28 : decode cX7_pass 28 = .ok (.ireturn, 1) := by decide +kernel
set_option maxRecDepth 20000 in
theorem ggX7_failing_X7_rate : GoodIn wsX7_failing wsX7_rate := goodIn_r _ [6, 7, 8, 9, 10, 11, 12, 5, 13, 14, 15, 16, 17, 18, 19, 20, 21, 22, 23, 24, 25, 26, 27, 28, 29, 30, 31, 32, 33, 34, 35, 36, 37, 38, 39, 40, 41, 42, 43, 44, 45, 46, 47, 48, 49, 50, 51, 52, 53, 54, 55] (by decide +kernel) (by decide +kernel)
set_option maxRecDepth 20000 in
theorem gX7_failing_X7_rate : GoodIn wsX7_failing (wsV RX7 137 RX7 yX7_rate wsX7_rate) := goodIn_app (goodIn_of _ (by decide +kernel)) ggX7_failing_X7_rate
theorem dX7_failing_0 : decode cX7_failing 0 = .ok (.aload_n 0, 1) := by decide +kernel
theorem dX7_failing_1 : decode cX7_failing 1 = .ok (.iconst 0, 1) := by decide +kernel
theorem dX7_failing_2 : decode cX7_failing 2 = .ok (.putfield 96, 3) := by decide +kernel
theorem dX7_failing_5 : decode cX7_failing 5 = .ok (.aload_n 0, 1) := by decide +kernel
theorem dX7_failing_6 : decode cX7_failing 6 = .ok (.iconst 1, 1) := by decide +kernel
theorem dX7_failing_7 : decode cX7_failing 7 = .ok (.invokevirtual 137, 3) := by decide +kernel
theorem dX7_failing_10 : decode cX7_failing 10 = .ok (.dreturn, 1) := by decide +kernel
set_option maxRecDepth 20000 in
theorem ggX7_sluggish_X7_rate : GoodIn wsX7_sluggish wsX7_rate := goodIn_r _ [6, 7, 8, 9, 10, 11, 12, 5, 13, 14, 15, 16, 17, 18, 19, 20, 21, 22, 23, 24, 25, 26, 27, 28, 29, 30, 31, 32, 33, 34, 35, 36, 37, 38, 39, 40, 41, 42, 43, 44, 45, 46, 47, 48, 49, 50, 51, 52, 53, 54, 55] (by decide +kernel) (by decide +kernel)
set_option maxRecDepth 20000 in
theorem gX7_sluggish_X7_rate : GoodIn wsX7_sluggish (wsV RX7 137 RX7 yX7_rate wsX7_rate) := goodIn_app (goodIn_of _ (by decide +kernel)) ggX7_sluggish_X7_rate
theorem dX7_sluggish_0 : decode cX7_sluggish 0 = .ok (.aload_n 0, 1) := by decide +kernel
theorem dX7_sluggish_1 : decode cX7_sluggish 1 = .ok (.iconst 0, 1) := by decide +kernel
theorem dX7_sluggish_2 : decode cX7_sluggish 2 = .ok (.putfield 96, 3) := by decide +kernel
theorem dX7_sluggish_5 : decode cX7_sluggish 5 = .ok (.aload_n 0, 1) := by decide +kernel
theorem dX7_sluggish_6 : decode cX7_sluggish 6 = .ok (.iconst 2, 1) := by decide +kernel
theorem dX7_sluggish_7 : decode cX7_sluggish 7 = .ok (.invokevirtual 137, 3) := by decide +kernel
theorem dX7_sluggish_10 : decode cX7_sluggish 10 = .ok (.dreturn, 1) := by decide +kernel
theorem dX7_tell_0 : decode cX7_tell 0 = .ok (.aload_n 0, 1) := by decide +kernel
theorem dX7_tell_1 : decode cX7_tell 1 = .ok (.iconst 0, 1) := by decide +kernel
theorem dX7_tell_2 : decode cX7_tell 2 = .ok (.putfield 96, 3) := by decide +kernel
theorem dX7_tell_5 : decode cX7_tell 5 = .ok (.iload_n 1, 1) := by decide +kernel
theorem dX7_tell_6 : decode cX7_tell 6 = .ok (.iconst 4, 1) := by decide +kernel
theorem dX7_tell_7 : decode cX7_tell 7 = .ok (.if_icmp .ge 52, 3) := by decide +kernel
theorem dX7_tell_10 : decode cX7_tell 10 = .ok (.iload_n 1, 1) := by decide +kernel
theorem dX7_tell_11 : decode cX7_tell 11 = .ok (.ifCond .ne 10, 3) := by decide +kernel
theorem dX7_tell_14 : decode cX7_tell 14 = .ok (.aload_n 0, 1) := by decide +kernel
theorem dX7_tell_15 : decode cX7_tell 15 = .ok (.getfield 109, 3) := by decide +kernel
theorem dX7_tell_18 : decode cX7_tell 18 = .ok (.goto 40, 3) := by decide +kernel
theorem dX7_tell_21 : decode cX7_tell 21 = .ok (.iload_n 1, 1) := by decide +kernel
theorem dX7_tell_22 : decode cX7_tell 22 = .ok (.iconst 1, 1) := by decide +kernel
theorem dX7_tell_23 : decode cX7_tell 23 = .ok (.if_icmp .ne 10, 3) := by decide +kernel
theorem dX7_tell_26 : decode cX7_tell 26 = .ok (.aload_n 0, 1) := by decide +kernel
theorem dX7_tell_27 : decode cX7_tell 27 = .ok (.getfield 112, 3) := by decide +kernel
theorem dX7_tell_30 : decode cX7_tell 30 = .ok (.goto 28, 3) := by decide +kernel
theorem dX7_tell_33 : decode cX7_tell 33 = .ok (.iload_n 1, 1) := by decide +kernel
theorem dX7_tell_34 : decode cX7_tell 34 = .ok (.iconst 2, 1) := by decide +kernel
theorem dX7_tell_35 : decode cX7_tell 35 = .ok (.if_icmp .ne 10, 3) := by decide +kernel
theorem dX7_tell_38 : decode cX7_tell 38 = .ok (.aload_n 0, 1) := by decide +kernel
theorem dX7_tell_39 : decode cX7_tell 39 = .ok (.getfield 115, 3) := by decide +kernel
theorem dX7_tell_42 : decode cX7_tell 42 = .ok (.goto 16, 3) := by decide +kernel
theorem dX7_tell_45 : decode cX7_tell 45 = .ok (.iload_n 1, 1) := by decide +kernel
theorem dX7_tell_46 : decode cX7_tell 46 = .ok (.iconst 3, 1) := by decide +kernel
theorem dX7_tell_47 : decode cX7_tell 47 = .ok (.if_icmp .ne 10, 3) := by decide +kernel
theorem dX7_tell_50 : decode cX7_tell 50 = .ok (.aload_n 0, 1) := by decide +kernel
theorem dX7_tell_51 : decode cX7_tell 51 = .ok (.getfield 167, 3) := by decide +kernel
theorem dX7_tell_54 : decode cX7_tell 54 = .ok (.goto 4, 3) := by decide +kernel
theorem dX7_tell_57 : decode cX7_tell 57 = .ok (.iconst (-1), 1) := by decide +kernel
theorem dX7_tell_58 : decode cX7_tell 58 = .ok (.ireturn, 1) := by decide +kernel
theorem dX7_tell_59 : decode cX7_tell 59 = .ok (.iload_n 1, 1) := by decide +kernel
theorem dX7_tell_60 : decode cX7_tell 60 = .ok (.iconst 4, 1) := by decide +kernel
theorem dX7_tell_61 : decode cX7_tell 61 = .ok (.if_icmp .ne 10, 3) := by decide +kernel
theorem dX7_tell_64 : decode cX7_tell 64 = .ok (.aload_n 0, 1) := by decide +kernel
theorem dX7_tell_65 : decode cX7_tell 65 = .ok (.getfield 64, 3) := by decide +kernel
theorem dX7_tell_68 : decode cX7_tell 68 = .ok (.goto 42, 3) := by decide +kernel
theorem dX7_tell_71 : decode cX7_tell 71 = .ok (.iload_n 1, 1) := by decide +kernel
theorem dX7_tell_72 : decode cX7_tell 72 = .ok (.iconst 5, 1) := by decide +kernel
theorem dX7_tell_73 : decode cX7_tell 73 = .ok (.if_icmp .ne 10, 3) := by decide +kernel
theorem dX7_tell_76 : decode cX7_tell 76 = .ok (.aload_n 0, 1) := by decide +kernel
theorem dX7_tell_77 : decode cX7_tell 77 = .ok (.getfield 160, 3) := by decide +kernel
theorem dX7_tell_80 : decode cX7_tell 80 = .ok (.goto 30, 3) := by decide +kernel
theorem dX7_tell_83 : decode cX7_tell 83 = .ok (.iload_n 1, 1) := by decide +kernel
theorem dX7_tell_84 : decode cX7_tell 84 = .ok (.bipush 6, 2) := by decide +kernel
theorem dX7_tell_86 : decode cX7_tell 86 = .ok (.if_icmp .ne 10, 3) := by decide +kernel
theorem dX7_tell_89 : decode cX7_tell 89 = .ok (.aload_n 0, 1) := by decide +kernel
theorem dX7_tell_90 : decode cX7_tell 90 = .ok (.getfield 154, 3) := by decide +kernel
theorem dX7_tell_93 : decode cX7_tell 93 = .ok (.goto 17, 3) := by decide +kernel
theorem dX7_tell_96 : decode cX7_tell 96 = .ok (.iload_n 1, 1) := by decide +kernel
theorem dX7_tell_97 : decode cX7_tell 97 = .ok (.bipush 7, 2) := by decide +kernel
theorem dX7_tell_99 : decode cX7_tell 99 = .ok (.if_icmp .ne 10, 3) := by decide +kernel
theorem dX7_tell_102 : decode cX7_tell 102 = .ok (.aload_n 0, 1) := by decide +kernel
theorem dX7_tell_103 : decode cX7_tell 103 = .ok (.getfield 102, 3) := by decide +kernel
theorem dX7_tell_106 : decode cX7_tell 106 = .ok (.goto 4, 3) := by decide +kernel
theorem dX7_tell_109 : decode cX7_tell 109 = .ok (.iconst (-1), 1) := by decide +kernel
theorem dX7_tell_110 : decode cX7_tell 110 = .ok (.ireturn, 1) := by decide +kernel
set_option maxRecDepth 20000 in
theorem ggX7_event_X7_in : GoodIn wsX7_event wsX7_in := goodIn_r _ [7] (by decide +kernel) (by decide +kernel)
set_option maxRecDepth 20000 in
theorem gX7_event_X7_in : GoodIn wsX7_event (va_wsS RX7 192 yX7_in wsX7_in) := goodIn_app (goodIn_of _ (by decide +kernel)) ggX7_event_X7_in
theorem dX7_event_0 : decode cX7_event 0 = .ok (.aload_n 0, 1) := by decide +kernel
theorem dX7_event_1 : decode cX7_event 1 = .ok (.iconst 0, 1) := by decide +kernel
theorem dX7_event_2 : decode cX7_event 2 = .ok (.putfield 96, 3) := by decide +kernel
theorem dX7_event_5 : decode cX7_event 5 = .ok (.iload_n 1, 1) := by decide +kernel
theorem dX7_event_6 : decode cX7_event 6 = .ok (.iconst 0, 1) := by decide +kernel
theorem dX7_event_7 : decode cX7_event 7 = .ok (.aload_n 0, 1) := by decide +kernel
theorem dX7_event_8 : decode cX7_event 8 = .ok (.getfield 99, 3) := by decide +kernel
theorem dX7_event_11 : decode cX7_event 11 = .ok (.iconst 1, 1) := by decide +kernel
theorem dX7_event_12 : decode cX7_event 12 = .ok (.isub, 1) := by decide +kernel
theorem dX7_event_13 : decode cX7_event 13 = .ok (.invokestatic 192, 3) := by decide +kernel
theorem dX7_event_16 : decode cX7_event 16 = .ok (.ifCond .eq 12, 3) := by decide +kernel
theorem dX7_event_19 : decode cX7_event 19 = .ok (.aload_n 0, 1) := by decide +kernel
theorem dX7_event_20 : decode cX7_event 20 = .ok (.getfield 89, 3) := by decide +kernel
theorem dX7_event_23 : decode cX7_event 23 = .ok (.iload_n 1, 1) := by decide +kernel
theorem dX7_event_24 : decode cX7_event 24 = .ok (.iaload, 1) := by decide +kernel
theorem dX7_event_25 : decode cX7_event 25 = .ok (.goto 4, 3) := by decide +kernel
theorem dX7_event_28 : decode cX7_event 28 = .ok (.iconst (-1), 1) := by decide +kernel
theorem dX7_event_29 : decode cX7_event 29 = .ok (.ireturn, 1) := by decide +kernel
