theorem dX10_give_8 : decode cX10_give 8 = .ok (.getfield 16, 3) := by decide +kernel
theorem dX10_give_11 : decode cX10_give 11 = .ok (.iload_n 1, 1) := by decide +kernel
theorem dX10_give_12 : decode cX10_give 12 = .ok (.iload_n 2, 1) := by decide +kernel
theorem dX10_give_13 : decode cX10_give 13 = .ok (.iastore, 1) := by decide +kernel
theorem dX10_give_14 : decode cX10_give 14 = .ok (.iconst 0, 1) := by decide +kernel
theorem dX10_give_15 : decode cX10_give 15 = .ok (.istore 4, 2) := by decide +kernel
theorem dX10_give_17 : decode cX10_give 17 = .ok (.iload 4, 2) := by decide +kernel
theorem dX10_give_19 : decode cX10_give 19 = .ok (.bipush 12, 2) := by decide +kernel
theorem dX10_give_21 : decode cX10_give 21 = .ok (.if_icmp .ge 47, 3) := by decide +kernel
theorem dX10_give_24 : decode cX10_give 24 = .ok (.aload_n 0, 1) := by decide +kernel
theorem dX10_give_25 : decode cX10_give 25 = .ok (.getfield 19, 3) := by decide +kernel
theorem dX10_give_28 : decode cX10_give 28 = .ok (.bipush 12, 2) := by decide +kernel
theorem dX10_give_30 : decode cX10_give 30 = .ok (.iload_n 1, 1) := by decide +kernel
theorem dX10_give_31 : decode cX10_give 31 = .ok (.imul, 1) := by decide +kernel
theorem dX10_give_32 : decode cX10_give 32 = .ok (.iload 4, 2) := by decide +kernel
theorem dX10_give_34 : decode cX10_give 34 = .ok (.iadd, 1) := by decide +kernel
theorem dX10_give_35 : decode cX10_give 35 = .ok (.iload_n 2, 1) := by decide +kernel
theorem dX10_give_36 : decode cX10_give 36 = .ok (.iload 4, 2) := by decide +kernel
theorem dX10_give_38 : decode cX10_give 38 = .ok (.invokestatic 91, 3) := by decide +kernel
theorem dX10_give_41 : decode cX10_give 41 = .ok (.ifCond .eq 8, 3) := by decide +kernel
theorem dX10_give_44 : decode cX10_give 44 = .ok (.bipush (-9), 2) := by decide +kernel
theorem dX10_give_46 : decode cX10_give 46 = .ok (.goto 15, 3) := by decide +kernel
theorem dX10_give_49 : decode cX10_give 49 = .ok (.aload_n 0, 1) := by decide +kernel
theorem dX10_give_50 : decode cX10_give 50 = .ok (.getfield 19, 3) := by decide +kernel
theorem dX10_give_53 : decode cX10_give 53 = .ok (.bipush 12, 2) := by decide +kernel
theorem dX10_give_55 : decode cX10_give 55 = .ok (.iload_n 1, 1) := by decide +kernel
theorem dX10_give_56 : decode cX10_give 56 = .ok (.imul, 1) := by decide +kernel
theorem dX10_give_57 : decode cX10_give 57 = .ok (.iload 4, 2) := by decide +kernel
theorem dX10_give_59 : decode cX10_give 59 = .ok (.iadd, 1) := by decide +kernel
theorem dX10_give_60 : decode cX10_give 60 = .ok (.iaload, 1) := by decide +kernel
theorem dX10_give_61 : decode cX10_give 61 = .ok (.iastore, 1) := by decide +kernel
theorem dX10_give_62 : decode cX10_give 62 = .ok (.iinc 4 1, 3) := by decide +kernel
theorem dX10_give_65 : decode cX10_give 65 = .ok (.goto (-48), 3) := by decide +kernel
theorem dX10_give_68 : decode cX10_give 68 = .ok (.iload_n 3, 1) := by decide +kernel
theorem dX10_give_69 : decode cX10_give 69 = .ok (.ireturn, 1) := by decide +kernel
set_option maxRecDepth 20000 in
theorem ggX10_change_X10_isPerson : GoodIn wsX10_change wsX10_isPerson := goodIn_r _ [6, 7, 8, 9, 5, 10, 20, 21, 22, 23, 24, 25, 26, 27, 28, 29, 30, 31, 32, 33, 34, 35, 36, 37, 38, 39, 40, 41, 42, 43, 44, 45, 46, 47, 48, 49, 50, 51] (by decide +kernel) (by decide +kernel)
set_option maxRecDepth 20000 in
theorem gX10_change_X10_isPerson : GoodIn wsX10_change (wsV RX10 95 RX10 yX10_isPerson wsX10_isPerson) := goodIn_app (goodIn_of _ (by decide +kernel)) ggX10_change_X10_isPerson
set_option maxRecDepth 20000 in
theorem ggX10_change_X10_in : GoodIn wsX10_change wsX10_in := goodIn_r _ [10] (by decide +kernel) (by decide +kernel)
set_option maxRecDepth 20000 in
theorem gX10_change_X10_in : GoodIn wsX10_change (va_wsS RX10 87 yX10_in wsX10_in) := goodIn_app (goodIn_of _ (by decide +kernel)) ggX10_change_X10_in
set_option maxRecDepth 20000 in
theorem ggX10_change_X10_give : GoodIn wsX10_change wsX10_give := goodIn_r _ [14, 15, 16, 17, 18, 5, 19, 20, 21, 22, 23, 24, 25, 26, 27, 28, 29, 30, 31, 32, 33, 34, 35, 36, 37, 38, 39, 40, 41, 42, 43, 44, 45, 46, 47, 48, 49, 50, 51] (by decide +kernel) (by decide +kernel)
set_option maxRecDepth 20000 in
theorem gX10_change_X10_give : GoodIn wsX10_change (wsV RX10 99 RX10 yX10_give wsX10_give) := goodIn_app (goodIn_of _ (by decide +kernel)) ggX10_change_X10_give
theorem dX10_change_0 : decode cX10_change 0 = .ok (.aload_n 0, 1) := by decide +kernel
theorem dX10_change_1 : decode cX10_change 1 = .ok (.iload_n 1, 1) := by decide +kernel
theorem dX10_change_2 : decode cX10_change 2 = .ok (.invokevirtual 95, 3) := by decide +kernel
theorem dX10_change_5 : decode cX10_change 5 = .ok (.ifCond .eq 33, 3) := by decide +kernel
theorem dX10_change_8 : decode cX10_change 8 = .ok (.iload_n 2, 1) := by decide +kernel
theorem dX10_change_9 : decode cX10_change 9 = .ok (.iconst 0, 1) := by decide +kernel
theorem dX10_change_10 : decode cX10_change 10 = .ok (.iconst 1, 1) := by decide +kernel
theorem dX10_change_11 : decode cX10_change 11 = .ok (.invokestatic 87, 3) := by decide +kernel
theorem dX10_change_14 : decode cX10_change 14 = .ok (.ifCond .eq 24, 3) := by decide +kernel
theorem dX10_change_17 : decode cX10_change 17 = .ok (.iload_n 3, 1) := by decide +kernel
theorem dX10_change_18 : decode cX10_change 18 = .ok (.iconst 0, 1) := by decide +kernel
theorem dX10_change_19 : decode cX10_change 19 = .ok (.iload_n 2, 1) := by decide +kernel
theorem dX10_change_20 : decode cX10_change 20 = .ok (.ifCond .ne 9, 3) := by decide +kernel
theorem dX10_change_23 : decode cX10_change 23 = .ok (.sipush 255, 3) := by decide +kernel
theorem dX10_change_26 : decode cX10_change 26 = .ok (.goto 6, 3) := by decide +kernel
theorem dX10_change_29 : decode cX10_change 29 = .ok (.sipush 4095, 3) := by decide +kernel
theorem dX10_change_32 : decode cX10_change 32 = .ok (.invokestatic 87, 3) := by decide +kernel
theorem dX10_change_35 : decode cX10_change 35 = .ok (.ifCond .ne 5, 3) := by decide +kernel
theorem dX10_change_38 : decode cX10_change 38 = .ok (.iconst (-1), 1) := by decide +kernel
theorem dX10_change_39 : decode cX10_change 39 = .ok (.ireturn, 1) := by decide +kernel
theorem dX10_change_40 : decode cX10_change 40 = .ok (.iload_n 2, 1) := by decide +kernel
theorem dX10_change_41 : decode cX10_change 41 = .ok (.iconst 1, 1) := by decide +kernel
theorem dX10_change_42 : decode cX10_change 42 = .ok (.if_icmp .ne 10, 3) := by decide +kernel
theorem dX10_change_45 : decode cX10_change 45 = .ok (.aload_n 0, 1) := by decide +kernel
theorem dX10_change_46 : decode cX10_change 46 = .ok (.iload_n 1, 1) := by decide +kernel
theorem dX10_change_47 : decode cX10_change 47 = .ok (.iload_n 3, 1) := by decide +kernel
theorem dX10_change_48 : decode cX10_change 48 = .ok (.invokevirtual 99, 3) := by decide +kernel
theorem dX10_change_51 : decode cX10_change 51 = .ok (.ireturn, 1) := by decide +kernel
theorem dX10_change_52 : decode cX10_change 52 = .ok (.aload_n 0, 1) := by decide +kernel
theorem dX10_change_53 : decode cX10_change 53 = .ok (.getfield 13, 3) := by decide +kernel
theorem dX10_change_56 : decode cX10_change 56 = .ok (.iload_n 1, 1) := by decide +kernel
theorem dX10_change_57 : decode cX10_change 57 = .ok (.iaload, 1) := by decide +kernel
theorem dX10_change_58 : decode cX10_change 58 = .ok (.istore 4, 2) := by decide +kernel
theorem dX10_change_60 : decode cX10_change 60 = .ok (.aload_n 0, 1) := by decide +kernel
theorem dX10_change_61 : decode cX10_change 61 = .ok (.getfield 13, 3) := by decide +kernel
theorem dX10_change_64 : decode cX10_change 64 = .ok (.iload_n 1, 1) := by decide +kernel
theorem dX10_change_65 : decode cX10_change 65 = .ok (.iload_n 3, 1) := by decide +kernel
theorem dX10_change_66 : decode cX10_change 66 = .ok (.iastore, 1) := by decide +kernel
theorem dX10_change_67 : decode cX10_change 67 = .ok (.iload 4, 2) := by decide +kernel
theorem dX10_change_69 : decode cX10_change 69 = .ok (.ireturn, 1) := by decide +kernel
set_option maxRecDepth 20000 in
theorem ggX10_kindOf_X10_has : GoodIn wsX10_kindOf wsX10_has := goodIn_r _ [12] (by decide +kernel) (by decide +kernel)
set_option maxRecDepth 20000 in
theorem gX10_kindOf_X10_has : GoodIn wsX10_kindOf (va_wsS RX10 91 yX10_has wsX10_has) := goodIn_app (goodIn_of _ (by decide +kernel)) ggX10_kindOf_X10_has
theorem dX10_kindOf_0 : decode cX10_kindOf 0 = .ok (.iconst 0, 1) := by decide +kernel
theorem dX10_kindOf_1 : decode cX10_kindOf 1 = .ok (.istore_n 3, 1) := by decide +kernel
theorem dX10_kindOf_2 : decode cX10_kindOf 2 = .ok (.iconst 0, 1) := by decide +kernel
theorem dX10_kindOf_3 : decode cX10_kindOf 3 = .ok (.istore 4, 2) := by decide +kernel
theorem dX10_kindOf_5 : decode cX10_kindOf 5 = .ok (.iconst 0, 1) := by decide +kernel
theorem dX10_kindOf_6 : decode cX10_kindOf 6 = .ok (.istore 5, 2) := by decide +kernel
theorem dX10_kindOf_8 : decode cX10_kindOf 8 = .ok (.iload 5, 2) := by decide +kernel
theorem dX10_kindOf_10 : decode cX10_kindOf 10 = .ok (.aload_n 0, 1) := by decide +kernel
theorem dX10_kindOf_11 : decode cX10_kindOf 11 = .ok (.getfield 103, 3) := by decide +kernel
theorem dX10_kindOf_14 : decode cX10_kindOf 14 = .ok (.if_icmp .ge 116, 3) := by decide +kernel
theorem dX10_kindOf_17 : decode cX10_kindOf 17 = .ok (.aload_n 0, 1) := by decide +kernel
theorem dX10_kindOf_18 : decode cX10_kindOf 18 = .ok (.getfield 32, 3) := by decide +kernel
theorem dX10_kindOf_21 : decode cX10_kindOf 21 = .ok (.iload 5, 2) := by decide +kernel
theorem dX10_kindOf_23 : decode cX10_kindOf 23 = .ok (.iaload, 1) := by decide +kernel
theorem dX10_kindOf_24 : decode cX10_kindOf 24 = .ok (.iload_n 1, 1) := by decide +kernel
theorem dX10_kindOf_25 : decode cX10_kindOf 25 = .ok (.if_icmp .ne 99, 3) := by decide +kernel
theorem dX10_kindOf_28 : decode cX10_kindOf 28 = .ok (.aload_n 0, 1) := by decide +kernel
theorem dX10_kindOf_29 : decode cX10_kindOf 29 = .ok (.getfield 35, 3) := by decide +kernel
theorem dX10_kindOf_32 : decode cX10_kindOf 32 = .ok (.iload 5, 2) := by decide +kernel
theorem dX10_kindOf_34 : decode cX10_kindOf 34 = .ok (.iaload, 1) := by decide +kernel
theorem dX10_kindOf_35 : decode cX10_kindOf 35 = .ok (.iload_n 2, 1) := by decide +kernel
theorem dX10_kindOf_36 : decode cX10_kindOf 36 = .ok (.if_icmp .ne 88, 3) := by decide +kernel
theorem dX10_kindOf_39 : decode cX10_kindOf 39 = .ok (.aload_n 0, 1) := by decide +kernel
theorem dX10_kindOf_40 : decode cX10_kindOf 40 = .ok (.getfield 106, 3) := by decide +kernel
theorem dX10_kindOf_43 : decode cX10_kindOf 43 = .ok (.aload_n 0, 1) := by decide +kernel
theorem dX10_kindOf_44 : decode cX10_kindOf 44 = .ok (.getfield 38, 3) := by decide +kernel
theorem dX10_kindOf_47 : decode cX10_kindOf 47 = .ok (.iload 5, 2) := by decide +kernel
theorem dX10_kindOf_49 : decode cX10_kindOf 49 = .ok (.iaload, 1) := by decide +kernel
theorem dX10_kindOf_50 : decode cX10_kindOf 50 = .ok (.isub, 1) := by decide +kernel
theorem dX10_kindOf_51 : decode cX10_kindOf 51 = .ok (.istore 6, 2) := by decide +kernel
theorem dX10_kindOf_53 : decode cX10_kindOf 53 = .ok (.iload_n 3, 1) := by decide +kernel
theorem dX10_kindOf_54 : decode cX10_kindOf 54 = .ok (.ifCond .ne 12, 3) := by decide +kernel
theorem dX10_kindOf_57 : decode cX10_kindOf 57 = .ok (.iload 6, 2) := by decide +kernel
theorem dX10_kindOf_59 : decode cX10_kindOf 59 = .ok (.aload_n 0, 1) := by decide +kernel
theorem dX10_kindOf_60 : decode cX10_kindOf 60 = .ok (.getfield 22, 3) := by decide +kernel
theorem dX10_kindOf_63 : decode cX10_kindOf 63 = .ok (.if_icmp .ge 7, 3) := by decide +kernel
theorem dX10_kindOf_66 : decode cX10_kindOf 66 = .ok (.iconst 1, 1) := by decide +kernel
theorem dX10_kindOf_67 : decode cX10_kindOf 67 = .ok (.goto 4, 3) := by decide +kernel
theorem dX10_kindOf_70 : decode cX10_kindOf 70 = .ok (.iconst 0, 1) := by decide +kernel
theorem dX10_kindOf_71 : decode cX10_kindOf 71 = .ok (.istore_n 3, 1) := by decide +kernel
theorem dX10_kindOf_72 : decode cX10_kindOf 72 = .ok (.iconst 0, 1) := by decide +kernel
theorem dX10_kindOf_73 : decode cX10_kindOf 73 = .ok (.istore 7, 2) := by decide +kernel
theorem dX10_kindOf_75 : decode cX10_kindOf 75 = .ok (.iload 7, 2) := by decide +kernel
theorem dX10_kindOf_77 : decode cX10_kindOf 77 = .ok (.aload_n 0, 1) := by decide +kernel
theorem dX10_kindOf_78 : decode cX10_kindOf 78 = .ok (.getfield 22, 3) := by decide +kernel
theorem dX10_kindOf_81 : decode cX10_kindOf 81 = .ok (.if_icmp .ge 43, 3) := by decide +kernel
theorem dX10_kindOf_84 : decode cX10_kindOf 84 = .ok (.iload 6, 2) := by decide +kernel
theorem dX10_kindOf_86 : decode cX10_kindOf 86 = .ok (.aload_n 0, 1) := by decide +kernel
theorem dX10_kindOf_87 : decode cX10_kindOf 87 = .ok (.getfield 22, 3) := by decide +kernel
theorem dX10_kindOf_90 : decode cX10_kindOf 90 = .ok (.if_icmp .lt 34, 3) := by decide +kernel
theorem dX10_kindOf_93 : decode cX10_kindOf 93 = .ok (.iload 4, 2) := by decide +kernel
theorem dX10_kindOf_95 : decode cX10_kindOf 95 = .ok (.ifCond .ne 16, 3) := by decide +kernel
theorem dX10_kindOf_98 : decode cX10_kindOf 98 = .ok (.iload 6, 2) := by decide +kernel
theorem dX10_kindOf_100 : decode cX10_kindOf 100 = .ok (.iload 7, 2) := by decide +kernel
theorem dX10_kindOf_102 : decode cX10_kindOf 102 = .ok (.iadd, 1) := by decide +kernel
theorem dX10_kindOf_103 : decode cX10_kindOf 103 = .ok (.aload_n 0, 1) := by decide +kernel
theorem dX10_kindOf_104 : decode cX10_kindOf 104 = .ok (.getfield 26, 3) := by decide +kernel
theorem dX10_kindOf_107 : decode cX10_kindOf 107 = .ok (.irem, 1) := by decide +kernel
theorem dX10_kindOf_108 : decode cX10_kindOf 108 = .ok (.ifCond .ne 7, 3) := by decide +kernel
theorem dX10_kindOf_111 : decode cX10_kindOf 111 = .ok (.iconst 1, 1) := by decide +kernel
theorem dX10_kindOf_112 : decode cX10_kindOf 112 = .ok (.goto 4, 3) := by decide +kernel
theorem dX10_kindOf_115 : decode cX10_kindOf 115 = .ok (.iconst 0, 1) := by decide +kernel
theorem dX10_kindOf_116 : decode cX10_kindOf 116 = .ok (.istore 4, 2) := by decide +kernel
theorem dX10_kindOf_118 : decode cX10_kindOf 118 = .ok (.iinc 7 1, 3) := by decide +kernel
theorem dX10_kindOf_121 : decode cX10_kindOf 121 = .ok (.goto (-46), 3) := by decide +kernel
theorem dX10_kindOf_124 : decode cX10_kindOf 124 = .ok (.iinc 5 1, 3) := by decide +kernel
theorem dX10_kindOf_127 : decode cX10_kindOf 127 = .ok (.goto (-119), 3) := by decide +kernel
theorem dX10_kindOf_130 : decode cX10_kindOf 130 = .ok (.iload_n 3, 1) := by decide +kernel
theorem dX10_kindOf_131 : decode cX10_kindOf 131 = .ok (.ifCond .eq 7, 3) := by decide +kernel
theorem dX10_kindOf_134 : decode cX10_kindOf 134 = .ok (.iconst 1, 1) := by decide +kernel
theorem dX10_kindOf_135 : decode cX10_kindOf 135 = .ok (.goto 28, 3) := by decide +kernel
theorem dX10_kindOf_138 : decode cX10_kindOf 138 = .ok (.iload 4, 2) := by decide +kernel
theorem dX10_kindOf_140 : decode cX10_kindOf 140 = .ok (.ifCond .eq 7, 3) := by decide +kernel
theorem dX10_kindOf_143 : decode cX10_kindOf 143 = .ok (.iconst 2, 1) := by decide +kernel
theorem dX10_kindOf_144 : decode cX10_kindOf 144 = .ok (.goto 19, 3) := by decide +kernel
theorem dX10_kindOf_147 : decode cX10_kindOf 147 = .ok (.aload_n 0, 1) := by decide +kernel
theorem dX10_kindOf_148 : decode cX10_kindOf 148 = .ok (.getfield 109, 3) := by decide +kernel
theorem dX10_kindOf_151 : decode cX10_kindOf 151 = .ok (.iload_n 2, 1) := by decide +kernel
theorem dX10_kindOf_152 : decode cX10_kindOf 152 = .ok (.invokestatic 91, 3) := by decide +kernel
theorem dX10_kindOf_155 : decode cX10_kindOf 155 = .ok (.ifCond .eq 7, 3) := by decide +kernel
theorem dX10_kindOf_158 : decode cX10_kindOf 158 = .ok (.iconst 3, 1) := by decide +kernel
theorem dX10_kindOf_159 : decode cX10_kindOf 159 = .ok (.goto 4, 3) := by decide +kernel
theorem dX10_kindOf_162 : decode cX10_kindOf 162 = .ok (.iconst 0, 1) := by decide +kernel
theorem dX10_kindOf_163 : decode cX10_kindOf 163 = .ok (.ireturn, 1) := by decide +kernel
set_option maxRecDepth 20000 in
theorem ggX10_keptOf_X10_has : GoodIn wsX10_keptOf wsX10_has := goodIn_r _ [5] (by decide +kernel) (by decide +kernel)
set_option maxRecDepth 20000 in
theorem gX10_keptOf_X10_has : GoodIn wsX10_keptOf (va_wsS RX10 91 yX10_has wsX10_has) := goodIn_app (goodIn_of _ (by decide +kernel)) ggX10_keptOf_X10_has
set_option maxRecDepth 20000 in
theorem ggX10_keptOf_X10_kindOf : GoodIn wsX10_keptOf wsX10_kindOf := goodIn_r _ [9, 10, 11, 12, 13, 14, 15, 16, 17, 2, 3, 4, 5, 18, 19, 20, 21, 22, 23, 24, 25, 26, 27, 28, 29, 30, 31, 32, 33, 34, 35, 36, 37, 38, 39, 40, 41, 42, 43, 44, 45, 46, 47, 48, 49] (by decide +kernel) (by decide +kernel)
set_option maxRecDepth 20000 in
theorem gX10_keptOf_X10_kindOf : GoodIn wsX10_keptOf (wsV RX10 112 RX10 yX10_kindOf wsX10_kindOf) := goodIn_app (goodIn_of _ (by decide +kernel)) ggX10_keptOf_X10_kindOf
theorem dX10_keptOf_0 : decode cX10_keptOf 0 = .ok (.iconst 0, 1) := by decide +kernel
theorem dX10_keptOf_1 : decode cX10_keptOf 1 = .ok (.istore_n 2, 1) := by decide +kernel
theorem dX10_keptOf_2 : decode cX10_keptOf 2 = .ok (.iconst 0, 1) := by decide +kernel
theorem dX10_keptOf_3 : decode cX10_keptOf 3 = .ok (.istore_n 3, 1) := by decide +kernel
theorem dX10_keptOf_4 : decode cX10_keptOf 4 = .ok (.iload_n 3, 1) := by decide +kernel
theorem dX10_keptOf_5 : decode cX10_keptOf 5 = .ok (.bipush 12, 2) := by decide +kernel
theorem dX10_keptOf_7 : decode cX10_keptOf 7 = .ok (.if_icmp .ge 41, 3) := by decide +kernel
theorem dX10_keptOf_10 : decode cX10_keptOf 10 = .ok (.iload_n 2, 1) := by decide +kernel
theorem dX10_keptOf_11 : decode cX10_keptOf 11 = .ok (.aload_n 0, 1) := by decide +kernel
theorem dX10_keptOf_12 : decode cX10_keptOf 12 = .ok (.getfield 16, 3) := by decide +kernel
theorem dX10_keptOf_15 : decode cX10_keptOf 15 = .ok (.iload_n 1, 1) := by decide +kernel
theorem dX10_keptOf_16 : decode cX10_keptOf 16 = .ok (.iaload, 1) := by decide +kernel
theorem dX10_keptOf_17 : decode cX10_keptOf 17 = .ok (.iload_n 3, 1) := by decide +kernel
theorem dX10_keptOf_18 : decode cX10_keptOf 18 = .ok (.invokestatic 91, 3) := by decide +kernel
theorem dX10_keptOf_21 : decode cX10_keptOf 21 = .ok (.ifCond .eq 18, 3) := by decide +kernel
theorem dX10_keptOf_24 : decode cX10_keptOf 24 = .ok (.aload_n 0, 1) := by decide +kernel
theorem dX10_keptOf_25 : decode cX10_keptOf 25 = .ok (.iload_n 1, 1) := by decide +kernel
theorem dX10_keptOf_26 : decode cX10_keptOf 26 = .ok (.iload_n 3, 1) := by decide +kernel
theorem dX10_keptOf_27 : decode cX10_keptOf 27 = .ok (.invokevirtual 112, 3) := by decide +kernel
theorem dX10_keptOf_30 : decode cX10_keptOf 30 = .ok (.ifCond .le 9, 3) := by decide +kernel
theorem dX10_keptOf_33 : decode cX10_keptOf 33 = .ok (.iconst 1, 1) := by decide +kernel
theorem dX10_keptOf_34 : decode cX10_keptOf 34 = .ok (.iload_n 3, 1) := by decide +kernel
theorem dX10_keptOf_35 : decode cX10_keptOf 35 = .ok (.ishl, 1) := by decide +kernel
theorem dX10_keptOf_36 : decode cX10_keptOf 36 = .ok (.goto 4, 3) := by decide +kernel
theorem dX10_keptOf_39 : decode cX10_keptOf 39 = .ok (.iconst 0, 1) := by decide +kernel
theorem dX10_keptOf_40 : decode cX10_keptOf 40 = .ok (.ior, 1) := by decide +kernel
theorem dX10_keptOf_41 : decode cX10_keptOf 41 = .ok (.istore_n 2, 1) := by decide +kernel
theorem dX10_keptOf_42 : decode cX10_keptOf 42 = .ok (.iinc 3 1, 3) := by decide +kernel
theorem dX10_keptOf_45 : decode cX10_keptOf 45 = .ok (.goto (-41), 3) := by decide +kernel
theorem dX10_keptOf_48 : decode cX10_keptOf 48 = .ok (.iload_n 2, 1) := by decide +kernel
theorem dX10_keptOf_49 : decode cX10_keptOf 49 = .ok (.ireturn, 1) := by decide +kernel
set_option maxRecDepth 20000 in
theorem ggX10_tells_X10_keptOf : GoodIn wsX10_tells wsX10_keptOf := goodIn_r _ [10, 2, 11, 12, 9, 13, 14, 15, 16, 17, 4, 5, 18, 19, 20, 21, 22, 23, 24, 25, 26, 27, 28, 29, 30, 31, 32, 33, 34, 35, 36, 37, 38, 39, 40, 41, 42, 43, 44, 45, 46, 47, 48, 49, 50, 51, 52, 53, 54, 55] (by decide +kernel) (by decide +kernel)
set_option maxRecDepth 20000 in
theorem gX10_tells_X10_keptOf : GoodIn wsX10_tells (wsV RX10 115 RX10 yX10_keptOf wsX10_keptOf) := goodIn_app (goodIn_of _ (by decide +kernel)) ggX10_tells_X10_keptOf
theorem dX10_tells_0 : decode cX10_tells 0 = .ok (.iconst 0, 1) := by decide +kernel
theorem dX10_tells_1 : decode cX10_tells 1 = .ok (.istore_n 3, 1) := by decide +kernel
theorem dX10_tells_2 : decode cX10_tells 2 = .ok (.iload_n 2, 1) := by decide +kernel
theorem dX10_tells_3 : decode cX10_tells 3 = .ok (.tableswitch 93 0 3 #[29, 36, 43, 49], 29) := by decide +kernel
theorem dX10_tells_32 : decode cX10_tells 32 = .ok (.aload_n 0, 1) := by decide +kernel
theorem dX10_tells_33 : decode cX10_tells 33 = .ok (.getfield 13, 3) := by decide +kernel
theorem dX10_tells_36 : decode cX10_tells 36 = .ok (.iload_n 1, 1) := by decide +kernel
theorem dX10_tells_37 : decode cX10_tells 37 = .ok (.iaload, 1) := by decide +kernel
theorem dX10_tells_38 : decode cX10_tells 38 = .ok (.ireturn, 1) := by decide +kernel
theorem dX10_tells_39 : decode cX10_tells 39 = .ok (.aload_n 0, 1) := by decide +kernel
theorem dX10_tells_40 : decode cX10_tells 40 = .ok (.getfield 16, 3) := by decide +kernel
theorem dX10_tells_43 : decode cX10_tells 43 = .ok (.iload_n 1, 1) := by decide +kernel
theorem dX10_tells_44 : decode cX10_tells 44 = .ok (.iaload, 1) := by decide +kernel
theorem dX10_tells_45 : decode cX10_tells 45 = .ok (.ireturn, 1) := by decide +kernel
theorem dX10_tells_46 : decode cX10_tells 46 = .ok (.aload_n 0, 1) := by decide +kernel
theorem dX10_tells_47 : decode cX10_tells 47 = .ok (.iload_n 1, 1) := by decide +kernel
theorem dX10_tells_48 : decode cX10_tells 48 = .ok (.invokevirtual 115, 3) := by decide +kernel
theorem dX10_tells_51 : decode cX10_tells 51 = .ok (.ireturn, 1) := by decide +kernel
theorem dX10_tells_52 : decode cX10_tells 52 = .ok (.iconst 0, 1) := by decide +kernel
theorem dX10_tells_53 : decode cX10_tells 53 = .ok (.istore 4, 2) := by decide +kernel
theorem dX10_tells_55 : decode cX10_tells 55 = .ok (.iload 4, 2) := by decide +kernel
theorem dX10_tells_57 : decode cX10_tells 57 = .ok (.bipush 12, 2) := by decide +kernel
theorem dX10_tells_59 : decode cX10_tells 59 = .ok (.if_icmp .ge 35, 3) := by decide +kernel
theorem dX10_tells_62 : decode cX10_tells 62 = .ok (.iload_n 3, 1) := by decide +kernel
theorem dX10_tells_63 : decode cX10_tells 63 = .ok (.aload_n 0, 1) := by decide +kernel
theorem dX10_tells_64 : decode cX10_tells 64 = .ok (.getfield 19, 3) := by decide +kernel
theorem dX10_tells_67 : decode cX10_tells 67 = .ok (.bipush 12, 2) := by decide +kernel
theorem dX10_tells_69 : decode cX10_tells 69 = .ok (.iload_n 1, 1) := by decide +kernel
theorem dX10_tells_70 : decode cX10_tells 70 = .ok (.imul, 1) := by decide +kernel
theorem dX10_tells_71 : decode cX10_tells 71 = .ok (.iload 4, 2) := by decide +kernel
theorem dX10_tells_73 : decode cX10_tells 73 = .ok (.iadd, 1) := by decide +kernel
theorem dX10_tells_74 : decode cX10_tells 74 = .ok (.iaload, 1) := by decide +kernel
theorem dX10_tells_75 : decode cX10_tells 75 = .ok (.ifCond .lt 10, 3) := by decide +kernel
theorem dX10_tells_78 : decode cX10_tells 78 = .ok (.iconst 1, 1) := by decide +kernel
theorem dX10_tells_79 : decode cX10_tells 79 = .ok (.iload 4, 2) := by decide +kernel
theorem dX10_tells_81 : decode cX10_tells 81 = .ok (.ishl, 1) := by decide +kernel
theorem dX10_tells_82 : decode cX10_tells 82 = .ok (.goto 4, 3) := by decide +kernel
theorem dX10_tells_85 : decode cX10_tells 85 = .ok (.iconst 0, 1) := by decide +kernel
theorem dX10_tells_86 : decode cX10_tells 86 = .ok (.ior, 1) := by decide +kernel
theorem dX10_tells_87 : decode cX10_tells 87 = .ok (.istore_n 3, 1) := by decide +kernel
theorem dX10_tells_88 : decode cX10_tells 88 = .ok (.iinc 4 1, 3) := by decide +kernel
theorem dX10_tells_91 : decode cX10_tells 91 = .ok (.goto (-36), 3) := by decide +kernel
theorem dX10_tells_94 : decode cX10_tells 94 = .ok (.iload_n 3, 1) := by decide +kernel
theorem dX10_tells_95 : decode cX10_tells 95 = .ok (.ireturn, 1) := by decide +kernel
theorem dX10_tells_96 : decode cX10_tells 96 = .ok (.iconst 0, 1) := by decide +kernel
theorem dX10_tells_97 : decode cX10_tells 97 = .ok (.istore 4, 2) := by decide +kernel
theorem dX10_tells_99 : decode cX10_tells 99 = .ok (.iload 4, 2) := by decide +kernel
theorem dX10_tells_101 : decode cX10_tells 101 = .ok (.aload_n 0, 1) := by decide +kernel
theorem dX10_tells_102 : decode cX10_tells 102 = .ok (.getfield 103, 3) := by decide +kernel
theorem dX10_tells_105 : decode cX10_tells 105 = .ok (.if_icmp .ge 28, 3) := by decide +kernel
theorem dX10_tells_108 : decode cX10_tells 108 = .ok (.iload_n 3, 1) := by decide +kernel
theorem dX10_tells_109 : decode cX10_tells 109 = .ok (.aload_n 0, 1) := by decide +kernel
theorem dX10_tells_110 : decode cX10_tells 110 = .ok (.getfield 32, 3) := by decide +kernel
theorem dX10_tells_113 : decode cX10_tells 113 = .ok (.iload 4, 2) := by decide +kernel
theorem dX10_tells_115 : decode cX10_tells 115 = .ok (.iaload, 1) := by decide +kernel
theorem dX10_tells_116 : decode cX10_tells 116 = .ok (.iload_n 1, 1) := by decide +kernel
theorem dX10_tells_117 : decode cX10_tells 117 = .ok (.if_icmp .ne 7, 3) := by decide +kernel
theorem dX10_tells_120 : decode cX10_tells 120 = .ok (.iconst 1, 1) := by decide +kernel
theorem dX10_tells_121 : decode cX10_tells 121 = .ok (.goto 4, 3) := by decide +kernel
theorem dX10_tells_124 : decode cX10_tells 124 = .ok (.iconst 0, 1) := by decide +kernel
theorem dX10_tells_125 : decode cX10_tells 125 = .ok (.iadd, 1) := by decide +kernel
theorem dX10_tells_126 : decode cX10_tells 126 = .ok (.istore_n 3, 1) := by decide +kernel
theorem dX10_tells_127 : decode cX10_tells 127 = .ok (.iinc 4 1, 3) := by decide +kernel
theorem dX10_tells_130 : decode cX10_tells 130 = .ok (.goto (-31), 3) := by decide +kernel
theorem dX10_tells_133 : decode cX10_tells 133 = .ok (.iload_n 3, 1) := by decide +kernel
theorem dX10_tells_134 : decode cX10_tells 134 = .ok (.ireturn, 1) := by decide +kernel
set_option maxRecDepth 20000 in
theorem ggX10_told_X10_isPerson : GoodIn wsX10_told wsX10_isPerson := goodIn_r _ [5, 6, 7, 8, 4, 9, 36, 37, 38, 39, 40, 41, 42, 43, 44, 45, 46, 47, 48, 49, 50, 51, 52, 53, 54, 55, 56, 57, 58, 59, 60, 61, 62, 63, 64, 65, 66, 67] (by decide +kernel) (by decide +kernel)
set_option maxRecDepth 20000 in
theorem gX10_told_X10_isPerson : GoodIn wsX10_told (wsV RX10 95 RX10 yX10_isPerson wsX10_isPerson) := goodIn_app (goodIn_of _ (by decide +kernel)) ggX10_told_X10_isPerson
set_option maxRecDepth 20000 in
theorem ggX10_told_X10_in : GoodIn wsX10_told wsX10_in := goodIn_r _ [9] (by decide +kernel) (by decide +kernel)
set_option maxRecDepth 20000 in
theorem gX10_told_X10_in : GoodIn wsX10_told (va_wsS RX10 87 yX10_in wsX10_in) := goodIn_app (goodIn_of _ (by decide +kernel)) ggX10_told_X10_in
set_option maxRecDepth 20000 in
theorem ggX10_told_X10_tells : GoodIn wsX10_told wsX10_tells := goodIn_r _ [13, 14, 15, 16, 17, 18, 19, 20, 21, 4, 22, 23, 24, 25, 26, 27, 28, 29, 30, 31, 32, 33, 34, 35, 36, 37, 38, 39, 40, 41, 42, 43, 44, 45, 46, 47, 48, 49, 50, 51, 52, 53, 54, 55, 56, 57, 58, 59, 60, 61, 62, 63, 64, 65, 66, 67] (by decide +kernel) (by decide +kernel)
set_option maxRecDepth 20000 in
theorem gX10_told_X10_tells : GoodIn wsX10_told (wsV RX10 119 RX10 yX10_tells wsX10_tells) := goodIn_app (goodIn_of _ (by decide +kernel)) ggX10_told_X10_tells
theorem dX10_told_0 : decode cX10_told 0 = .ok (.aload_n 0, 1) := by decide +kernel
theorem dX10_told_1 : decode cX10_told 1 = .ok (.iload_n 1, 1) := by decide +kernel
theorem dX10_told_2 : decode cX10_told 2 = .ok (.invokevirtual 95, 3) := by decide +kernel
theorem dX10_told_5 : decode cX10_told 5 = .ok (.ifCond .eq 21, 3) := by decide +kernel
theorem dX10_told_8 : decode cX10_told 8 = .ok (.iload_n 2, 1) := by decide +kernel
theorem dX10_told_9 : decode cX10_told 9 = .ok (.iconst 0, 1) := by decide +kernel
theorem dX10_told_10 : decode cX10_told 10 = .ok (.iconst 4, 1) := by decide +kernel
theorem dX10_told_11 : decode cX10_told 11 = .ok (.invokestatic 87, 3) := by decide +kernel
theorem dX10_told_14 : decode cX10_told 14 = .ok (.ifCond .eq 12, 3) := by decide +kernel
theorem dX10_told_17 : decode cX10_told 17 = .ok (.aload_n 0, 1) := by decide +kernel
theorem dX10_told_18 : decode cX10_told 18 = .ok (.iload_n 1, 1) := by decide +kernel
theorem dX10_told_19 : decode cX10_told 19 = .ok (.iload_n 2, 1) := by decide +kernel
theorem dX10_told_20 : decode cX10_told 20 = .ok (.invokevirtual 119, 3) := by decide +kernel
theorem dX10_told_23 : decode cX10_told 23 = .ok (.goto 4, 3) := by decide +kernel
theorem dX10_told_26 : decode cX10_told 26 = .ok (.iconst (-1), 1) := by decide +kernel
theorem dX10_told_27 : decode cX10_told 27 = .ok (.ireturn, 1) := by decide +kernel
set_option maxRecDepth 20000 in
theorem ggX10_standby_X10_in : GoodIn wsX10_standby wsX10_in := goodIn_r _ [5] (by decide +kernel) (by decide +kernel)
set_option maxRecDepth 20000 in
theorem gX10_standby_X10_in : GoodIn wsX10_standby (va_wsS RX10 87 yX10_in wsX10_in) := goodIn_app (goodIn_of _ (by decide +kernel)) ggX10_standby_X10_in
theorem dX10_standby_0 : decode cX10_standby 0 = .ok (.iload_n 1, 1) := by decide +kernel
theorem dX10_standby_1 : decode cX10_standby 1 = .ok (.iconst 0, 1) := by decide +kernel
theorem dX10_standby_2 : decode cX10_standby 2 = .ok (.sipush 4095, 3) := by decide +kernel
theorem dX10_standby_5 : decode cX10_standby 5 = .ok (.invokestatic 87, 3) := by decide +kernel
theorem dX10_standby_8 : decode cX10_standby 8 = .ok (.ifCond .ne 5, 3) := by decide +kernel
theorem dX10_standby_11 : decode cX10_standby 11 = .ok (.iconst (-1), 1) := by decide +kernel
theorem dX10_standby_12 : decode cX10_standby 12 = .ok (.ireturn, 1) := by decide +kernel
theorem dX10_standby_13 : decode cX10_standby 13 = .ok (.aload_n 0, 1) := by decide +kernel
theorem dX10_standby_14 : decode cX10_standby 14 = .ok (.getfield 109, 3) := by decide +kernel
theorem dX10_standby_17 : decode cX10_standby 17 = .ok (.istore_n 2, 1) := by decide +kernel
theorem dX10_standby_18 : decode cX10_standby 18 = .ok (.aload_n 0, 1) := by decide +kernel
theorem dX10_standby_19 : decode cX10_standby 19 = .ok (.iload_n 1, 1) := by decide +kernel
theorem dX10_standby_20 : decode cX10_standby 20 = .ok (.putfield 109, 3) := by decide +kernel
theorem dX10_standby_23 : decode cX10_standby 23 = .ok (.iload_n 2, 1) := by decide +kernel
theorem dX10_standby_24 : decode cX10_standby 24 = .ok (.ireturn, 1) := by decide +kernel
set_option maxRecDepth 20000 in
theorem ggX10_rule_X10_in : GoodIn wsX10_rule wsX10_in := goodIn_r _ [7] (by decide +kernel) (by decide +kernel)
set_option maxRecDepth 20000 in
theorem gX10_rule_X10_in : GoodIn wsX10_rule (va_wsS RX10 87 yX10_in wsX10_in) := goodIn_app (goodIn_of _ (by decide +kernel)) ggX10_rule_X10_in
theorem dX10_rule_0 : decode cX10_rule 0 = .ok (.iload_n 1, 1) := by decide +kernel
theorem dX10_rule_1 : decode cX10_rule 1 = .ok (.iconst 1, 1) := by decide +kernel
theorem dX10_rule_2 : decode cX10_rule 2 = .ok (.sipush 999, 3) := by decide +kernel
theorem dX10_rule_5 : decode cX10_rule 5 = .ok (.invokestatic 87, 3) := by decide +kernel
theorem dX10_rule_8 : decode cX10_rule 8 = .ok (.ifCond .eq 25, 3) := by decide +kernel
theorem dX10_rule_11 : decode cX10_rule 11 = .ok (.iload_n 2, 1) := by decide +kernel
theorem dX10_rule_12 : decode cX10_rule 12 = .ok (.iconst 1, 1) := by decide +kernel
theorem dX10_rule_13 : decode cX10_rule 13 = .ok (.sipush 999, 3) := by decide +kernel
theorem dX10_rule_16 : decode cX10_rule 16 = .ok (.invokestatic 87, 3) := by decide +kernel
theorem dX10_rule_19 : decode cX10_rule 19 = .ok (.ifCond .eq 14, 3) := by decide +kernel
theorem dX10_rule_22 : decode cX10_rule 22 = .ok (.iload_n 3, 1) := by decide +kernel
theorem dX10_rule_23 : decode cX10_rule 23 = .ok (.iconst 0, 1) := by decide +kernel
theorem dX10_rule_24 : decode cX10_rule 24 = .ok (.sipush 999, 3) := by decide +kernel
theorem dX10_rule_27 : decode cX10_rule 27 = .ok (.invokestatic 87, 3) := by decide +kernel
theorem dX10_rule_30 : decode cX10_rule 30 = .ok (.ifCond .ne 5, 3) := by decide +kernel
theorem dX10_rule_33 : decode cX10_rule 33 = .ok (.iconst (-1), 1) := by decide +kernel
theorem dX10_rule_34 : decode cX10_rule 34 = .ok (.ireturn, 1) := by decide +kernel
theorem dX10_rule_35 : decode cX10_rule 35 = .ok (.aload_n 0, 1) := by decide +kernel
theorem dX10_rule_36 : decode cX10_rule 36 = .ok (.iload_n 1, 1) := by decide +kernel
theorem dX10_rule_37 : decode cX10_rule 37 = .ok (.putfield 22, 3) := by decide +kernel
theorem dX10_rule_40 : decode cX10_rule 40 = .ok (.aload_n 0, 1) := by decide +kernel
theorem dX10_rule_41 : decode cX10_rule 41 = .ok (.iload_n 2, 1) := by decide +kernel
theorem dX10_rule_42 : decode cX10_rule 42 = .ok (.putfield 26, 3) := by decide +kernel
theorem dX10_rule_45 : decode cX10_rule 45 = .ok (.aload_n 0, 1) := by decide +kernel
theorem dX10_rule_46 : decode cX10_rule 46 = .ok (.iload_n 3, 1) := by decide +kernel
theorem dX10_rule_47 : decode cX10_rule 47 = .ok (.putfield 29, 3) := by decide +kernel
theorem dX10_rule_50 : decode cX10_rule 50 = .ok (.iconst 1, 1) := by decide +kernel
theorem dX10_rule_51 : decode cX10_rule 51 = .ok (.ireturn, 1) := by decide +kernel
theorem dX10_later_0 : decode cX10_later 0 = .ok (.iload_n 1, 1) := by decide +kernel
theorem dX10_later_1 : decode cX10_later 1 = .ok (.ifCond .lt 15, 3) := by decide +kernel
theorem dX10_later_4 : decode cX10_later 4 = .ok (.iload_n 1, 1) := by decide +kernel
theorem dX10_later_5 : decode cX10_later 5 = .ok (.sipush 999, 3) := by decide +kernel
theorem dX10_later_8 : decode cX10_later 8 = .ok (.aload_n 0, 1) := by decide +kernel
theorem dX10_later_9 : decode cX10_later 9 = .ok (.getfield 106, 3) := by decide +kernel
theorem dX10_later_12 : decode cX10_later 12 = .ok (.isub, 1) := by decide +kernel
theorem dX10_later_13 : decode cX10_later 13 = .ok (.if_icmp .le 5, 3) := by decide +kernel
theorem dX10_later_16 : decode cX10_later 16 = .ok (.iconst (-1), 1) := by decide +kernel
theorem dX10_later_17 : decode cX10_later 17 = .ok (.ireturn, 1) := by decide +kernel
theorem dX10_later_18 : decode cX10_later 18 = .ok (.aload_n 0, 1) := by decide +kernel
theorem dX10_later_19 : decode cX10_later 19 = .ok (.dup, 1) := by decide +kernel
theorem dX10_later_20 : decode cX10_later 20 = .ok (.getfield 106, 3) := by decide +kernel
theorem dX10_later_23 : decode cX10_later 23 = .ok (.iload_n 1, 1) := by decide +kernel
theorem dX10_later_24 : decode cX10_later 24 = .ok (.iadd, 1) := by decide +kernel
theorem dX10_later_25 : decode cX10_later 25 = .ok (.putfield 106, 3) := by decide +kernel
theorem dX10_later_28 : decode cX10_later 28 = .ok (.aload_n 0, 1) := by decide +kernel
theorem dX10_later_29 : decode cX10_later 29 = .ok (.getfield 106, 3) := by decide +kernel
theorem dX10_later_32 : decode cX10_later 32 = .ok (.ireturn, 1) := by decide +kernel
set_option maxRecDepth 20000 in
theorem ggX10_use_X10_isPerson : GoodIn wsX10_use wsX10_isPerson := goodIn_r _ [11, 12, 13, 14, 10, 15, 22, 23, 24, 25, 26, 27, 28, 29, 30, 31, 32, 33, 34, 35, 36, 37, 38, 39, 40, 41, 42, 43, 44, 45, 46, 47, 48, 49, 50, 51, 52, 53] (by decide +kernel) (by decide +kernel)
set_option maxRecDepth 20000 in
theorem gX10_use_X10_isPerson : GoodIn wsX10_use (wsV RX10 95 RX10 yX10_isPerson wsX10_isPerson) := goodIn_app (goodIn_of _ (by decide +kernel)) ggX10_use_X10_isPerson
set_option maxRecDepth 20000 in
theorem ggX10_use_X10_isRight : GoodIn wsX10_use wsX10_isRight := goodIn_r _ [18, 13, 14, 10, 15] (by decide +kernel) (by decide +kernel)
set_option maxRecDepth 20000 in
theorem gX10_use_X10_isRight : GoodIn wsX10_use (va_wsS RX10 122 yX10_isRight wsX10_isRight) := goodIn_app (goodIn_of _ (by decide +kernel)) ggX10_use_X10_isRight
set_option maxRecDepth 20000 in
theorem ggX10_use_X10_in : GoodIn wsX10_use wsX10_in := goodIn_r _ [15] (by decide +kernel) (by decide +kernel)
set_option maxRecDepth 20000 in
theorem gX10_use_X10_in : GoodIn wsX10_use (va_wsS RX10 87 yX10_in wsX10_in) := goodIn_app (goodIn_of _ (by decide +kernel)) ggX10_use_X10_in
set_option maxRecDepth 20000 in
theorem ggX10_use_X10_has : GoodIn wsX10_use wsX10_has := goodIn_r _ [21] (by decide +kernel) (by decide +kernel)
set_option maxRecDepth 20000 in
theorem gX10_use_X10_has : GoodIn wsX10_use (va_wsS RX10 91 yX10_has wsX10_has) := goodIn_app (goodIn_of _ (by decide +kernel)) ggX10_use_X10_has
theorem dX10_use_0 : decode cX10_use 0 = .ok (.aload_n 0, 1) := by decide +kernel
theorem dX10_use_1 : decode cX10_use 1 = .ok (.iload_n 1, 1) := by decide +kernel
theorem dX10_use_2 : decode cX10_use 2 = .ok (.invokevirtual 95, 3) := by decide +kernel
theorem dX10_use_5 : decode cX10_use 5 = .ok (.ifCond .eq 22, 3) := by decide +kernel
theorem dX10_use_8 : decode cX10_use 8 = .ok (.iload_n 2, 1) := by decide +kernel
theorem dX10_use_9 : decode cX10_use 9 = .ok (.invokestatic 122, 3) := by decide +kernel
theorem dX10_use_12 : decode cX10_use 12 = .ok (.ifCond .eq 15, 3) := by decide +kernel
theorem dX10_use_15 : decode cX10_use 15 = .ok (.iload_n 3, 1) := by decide +kernel
theorem dX10_use_16 : decode cX10_use 16 = .ok (.iconst 0, 1) := by decide +kernel
theorem dX10_use_17 : decode cX10_use 17 = .ok (.aload_n 0, 1) := by decide +kernel
theorem dX10_use_18 : decode cX10_use 18 = .ok (.getfield 106, 3) := by decide +kernel
theorem dX10_use_21 : decode cX10_use 21 = .ok (.invokestatic 87, 3) := by decide +kernel
theorem dX10_use_24 : decode cX10_use 24 = .ok (.ifCond .ne 5, 3) := by decide +kernel
theorem dX10_use_27 : decode cX10_use 27 = .ok (.iconst (-1), 1) := by decide +kernel
theorem dX10_use_28 : decode cX10_use 28 = .ok (.ireturn, 1) := by decide +kernel
theorem dX10_use_29 : decode cX10_use 29 = .ok (.aload_n 0, 1) := by decide +kernel
theorem dX10_use_30 : decode cX10_use 30 = .ok (.getfield 103, 3) := by decide +kernel
theorem dX10_use_33 : decode cX10_use 33 = .ok (.sipush 400, 3) := by decide +kernel
theorem dX10_use_36 : decode cX10_use 36 = .ok (.if_icmp .ne 6, 3) := by decide +kernel
theorem dX10_use_39 : decode cX10_use 39 = .ok (.bipush (-2), 2) := by decide +kernel
theorem dX10_use_41 : decode cX10_use 41 = .ok (.ireturn, 1) := by decide +kernel
theorem dX10_use_42 : decode cX10_use 42 = .ok (.aload_n 0, 1) := by decide +kernel
theorem dX10_use_43 : decode cX10_use 43 = .ok (.getfield 16, 3) := by decide +kernel
theorem dX10_use_46 : decode cX10_use 46 = .ok (.iload_n 1, 1) := by decide +kernel
theorem dX10_use_47 : decode cX10_use 47 = .ok (.iaload, 1) := by decide +kernel
theorem dX10_use_48 : decode cX10_use 48 = .ok (.iload_n 2, 1) := by decide +kernel
theorem dX10_use_49 : decode cX10_use 49 = .ok (.invokestatic 91, 3) := by decide +kernel
theorem dX10_use_52 : decode cX10_use 52 = .ok (.ifCond .ne 6, 3) := by decide +kernel
theorem dX10_use_55 : decode cX10_use 55 = .ok (.bipush (-4), 2) := by decide +kernel
theorem dX10_use_57 : decode cX10_use 57 = .ok (.ireturn, 1) := by decide +kernel
theorem dX10_use_58 : decode cX10_use 58 = .ok (.aload_n 0, 1) := by decide +kernel
theorem dX10_use_59 : decode cX10_use 59 = .ok (.getfield 32, 3) := by decide +kernel
theorem dX10_use_62 : decode cX10_use 62 = .ok (.aload_n 0, 1) := by decide +kernel
theorem dX10_use_63 : decode cX10_use 63 = .ok (.getfield 103, 3) := by decide +kernel
theorem dX10_use_66 : decode cX10_use 66 = .ok (.iload_n 1, 1) := by decide +kernel
theorem dX10_use_67 : decode cX10_use 67 = .ok (.iastore, 1) := by decide +kernel
theorem dX10_use_68 : decode cX10_use 68 = .ok (.aload_n 0, 1) := by decide +kernel
theorem dX10_use_69 : decode cX10_use 69 = .ok (.getfield 35, 3) := by decide +kernel
theorem dX10_use_72 : decode cX10_use 72 = .ok (.aload_n 0, 1) := by decide +kernel
theorem dX10_use_73 : decode cX10_use 73 = .ok (.getfield 103, 3) := by decide +kernel
theorem dX10_use_76 : decode cX10_use 76 = .ok (.iload_n 2, 1) := by decide +kernel
theorem dX10_use_77 : decode cX10_use 77 = .ok (.iastore, 1) := by decide +kernel
theorem dX10_use_78 : decode cX10_use 78 = .ok (.aload_n 0, 1) := by decide +kernel
theorem dX10_use_79 : decode cX10_use 79 = .ok (.getfield 38, 3) := by decide +kernel
theorem dX10_use_82 : decode cX10_use 82 = .ok (.aload_n 0, 1) := by decide +kernel
theorem dX10_use_83 : decode cX10_use 83 = .ok (.getfield 103, 3) := by decide +kernel
theorem dX10_use_86 : decode cX10_use 86 = .ok (.aload_n 0, 1) := by decide +kernel
theorem dX10_use_87 : decode cX10_use 87 = .ok (.getfield 106, 3) := by decide +kernel
theorem dX10_use_90 : decode cX10_use 90 = .ok (.iload_n 3, 1) := by decide +kernel
theorem dX10_use_91 : decode cX10_use 91 = .ok (.isub, 1) := by decide +kernel
theorem dX10_use_92 : decode cX10_use 92 = .ok (.iastore, 1) := by decide +kernel
theorem dX10_use_93 : decode cX10_use 93 = .ok (.aload_n 0, 1) := by decide +kernel
theorem dX10_use_94 : decode cX10_use 94 = .ok (.dup, 1) := by decide +kernel
theorem dX10_use_95 : decode cX10_use 95 = .ok (.getfield 103, 3) := by decide +kernel
theorem dX10_use_98 : decode cX10_use 98 = .ok (.iconst 1, 1) := by decide +kernel
theorem dX10_use_99 : decode cX10_use 99 = .ok (.iadd, 1) := by decide +kernel
theorem dX10_use_100 : decode cX10_use 100 = .ok (.putfield 103, 3) := by decide +kernel
theorem dX10_use_103 : decode cX10_use 103 = .ok (.aload_n 0, 1) := by decide +kernel
theorem dX10_use_104 : decode cX10_use 104 = .ok (.getfield 103, 3) := by decide +kernel
theorem dX10_use_107 : decode cX10_use 107 = .ok (.ireturn, 1) := by decide +kernel
set_option maxRecDepth 20000 in
theorem ggX10_kind_X10_isPerson : GoodIn wsX10_kind wsX10_isPerson := goodIn_r _ [6, 7, 8, 9, 5, 10, 29, 30, 31, 32, 33, 34, 35, 36, 37, 38, 39, 40, 41, 42, 43, 44, 45, 46, 47, 48, 49, 50, 51, 52, 53, 54, 55, 56, 57, 58, 59, 60] (by decide +kernel) (by decide +kernel)
set_option maxRecDepth 20000 in
theorem gX10_kind_X10_isPerson : GoodIn wsX10_kind (wsV RX10 95 RX10 yX10_isPerson wsX10_isPerson) := goodIn_app (goodIn_of _ (by decide +kernel)) ggX10_kind_X10_isPerson
set_option maxRecDepth 20000 in
theorem ggX10_kind_X10_isRight : GoodIn wsX10_kind wsX10_isRight := goodIn_r _ [13, 8, 9, 5, 10] (by decide +kernel) (by decide +kernel)
set_option maxRecDepth 20000 in
theorem gX10_kind_X10_isRight : GoodIn wsX10_kind (va_wsS RX10 122 yX10_isRight wsX10_isRight) := goodIn_app (goodIn_of _ (by decide +kernel)) ggX10_kind_X10_isRight
set_option maxRecDepth 20000 in
theorem ggX10_kind_X10_has : GoodIn wsX10_kind wsX10_has := goodIn_r _ [16] (by decide +kernel) (by decide +kernel)
set_option maxRecDepth 20000 in
theorem gX10_kind_X10_has : GoodIn wsX10_kind (va_wsS RX10 91 yX10_has wsX10_has) := goodIn_app (goodIn_of _ (by decide +kernel)) ggX10_kind_X10_has
set_option maxRecDepth 20000 in
theorem ggX10_kind_X10_kindOf : GoodIn wsX10_kind wsX10_kindOf := goodIn_r _ [20, 21, 22, 23, 24, 25, 26, 27, 28, 14, 15, 5, 16, 29, 30, 31, 32, 33, 34, 35, 36, 37, 38, 39, 40, 41, 42, 43, 44, 45, 46, 47, 48, 49, 50, 51, 52, 53, 54, 55, 56, 57, 58, 59, 60] (by decide +kernel) (by decide +kernel)
set_option maxRecDepth 20000 in
theorem gX10_kind_X10_kindOf : GoodIn wsX10_kind (wsV RX10 112 RX10 yX10_kindOf wsX10_kindOf) := goodIn_app (goodIn_of _ (by decide +kernel)) ggX10_kind_X10_kindOf
theorem dX10_kind_0 : decode cX10_kind 0 = .ok (.aload_n 0, 1) := by decide +kernel
theorem dX10_kind_1 : decode cX10_kind 1 = .ok (.iload_n 1, 1) := by decide +kernel
theorem dX10_kind_2 : decode cX10_kind 2 = .ok (.invokevirtual 95, 3) := by decide +kernel
theorem dX10_kind_5 : decode cX10_kind 5 = .ok (.ifCond .eq 10, 3) := by decide +kernel
theorem dX10_kind_8 : decode cX10_kind 8 = .ok (.iload_n 2, 1) := by decide +kernel
theorem dX10_kind_9 : decode cX10_kind 9 = .ok (.invokestatic 122, 3) := by decide +kernel
theorem dX10_kind_12 : decode cX10_kind 12 = .ok (.ifCond .ne 5, 3) := by decide +kernel
theorem dX10_kind_15 : decode cX10_kind 15 = .ok (.iconst (-1), 1) := by decide +kernel
theorem dX10_kind_16 : decode cX10_kind 16 = .ok (.ireturn, 1) := by decide +kernel
theorem dX10_kind_17 : decode cX10_kind 17 = .ok (.aload_n 0, 1) := by decide +kernel
theorem dX10_kind_18 : decode cX10_kind 18 = .ok (.getfield 16, 3) := by decide +kernel
theorem dX10_kind_21 : decode cX10_kind 21 = .ok (.iload_n 1, 1) := by decide +kernel
theorem dX10_kind_22 : decode cX10_kind 22 = .ok (.iaload, 1) := by decide +kernel
theorem dX10_kind_23 : decode cX10_kind 23 = .ok (.iload_n 2, 1) := by decide +kernel
theorem dX10_kind_24 : decode cX10_kind 24 = .ok (.invokestatic 91, 3) := by decide +kernel
theorem dX10_kind_27 : decode cX10_kind 27 = .ok (.ifCond .eq 12, 3) := by decide +kernel
theorem dX10_kind_30 : decode cX10_kind 30 = .ok (.aload_n 0, 1) := by decide +kernel
theorem dX10_kind_31 : decode cX10_kind 31 = .ok (.iload_n 1, 1) := by decide +kernel
theorem dX10_kind_32 : decode cX10_kind 32 = .ok (.iload_n 2, 1) := by decide +kernel
theorem dX10_kind_33 : decode cX10_kind 33 = .ok (.invokevirtual 112, 3) := by decide +kernel
theorem dX10_kind_36 : decode cX10_kind 36 = .ok (.goto 5, 3) := by decide +kernel
theorem dX10_kind_39 : decode cX10_kind 39 = .ok (.bipush (-4), 2) := by decide +kernel
theorem dX10_kind_41 : decode cX10_kind 41 = .ok (.ireturn, 1) := by decide +kernel
set_option maxRecDepth 20000 in
theorem ggX10_uses_X10_isPerson : GoodIn wsX10_uses wsX10_isPerson := goodIn_r _ [9, 10, 11, 12, 8, 13, 35, 36, 37, 38, 39, 40, 41, 42, 43, 44, 45, 46, 47, 48, 49, 50, 51, 52, 53, 54, 55, 56, 57, 58, 59, 60, 61, 62, 63, 64, 65, 66] (by decide +kernel) (by decide +kernel)
set_option maxRecDepth 20000 in
theorem gX10_uses_X10_isPerson : GoodIn wsX10_uses (wsV RX10 95 RX10 yX10_isPerson wsX10_isPerson) := goodIn_app (goodIn_of _ (by decide +kernel)) ggX10_uses_X10_isPerson
set_option maxRecDepth 20000 in
theorem ggX10_uses_X10_isRight : GoodIn wsX10_uses wsX10_isRight := goodIn_r _ [16, 11, 12, 8, 13] (by decide +kernel) (by decide +kernel)
set_option maxRecDepth 20000 in
theorem gX10_uses_X10_isRight : GoodIn wsX10_uses (va_wsS RX10 122 yX10_isRight wsX10_isRight) := goodIn_app (goodIn_of _ (by decide +kernel)) ggX10_uses_X10_isRight
set_option maxRecDepth 20000 in
theorem ggX10_uses_X10_in : GoodIn wsX10_uses wsX10_in := goodIn_r _ [13] (by decide +kernel) (by decide +kernel)
set_option maxRecDepth 20000 in
theorem gX10_uses_X10_in : GoodIn wsX10_uses (va_wsS RX10 87 yX10_in wsX10_in) := goodIn_app (goodIn_of _ (by decide +kernel)) ggX10_uses_X10_in
set_option maxRecDepth 20000 in
theorem ggX10_uses_X10_has : GoodIn wsX10_uses wsX10_has := goodIn_r _ [19] (by decide +kernel) (by decide +kernel)
set_option maxRecDepth 20000 in
theorem gX10_uses_X10_has : GoodIn wsX10_uses (va_wsS RX10 91 yX10_has wsX10_has) := goodIn_app (goodIn_of _ (by decide +kernel)) ggX10_uses_X10_has
set_option maxRecDepth 20000 in
theorem ggX10_uses_X10_kindOf : GoodIn wsX10_uses wsX10_kindOf := goodIn_r _ [23, 2, 3, 4, 24, 25, 26, 27, 28, 17, 18, 8, 19, 35, 36, 37, 38, 39, 40, 41, 42, 43, 44, 45, 46, 47, 48, 49, 50, 51, 52, 53, 54, 55, 56, 57, 58, 59, 60, 61, 62, 63, 64, 65, 66] (by decide +kernel) (by decide +kernel)
set_option maxRecDepth 20000 in
theorem gX10_uses_X10_kindOf : GoodIn wsX10_uses (wsV RX10 112 RX10 yX10_kindOf wsX10_kindOf) := goodIn_app (goodIn_of _ (by decide +kernel)) ggX10_uses_X10_kindOf
set_option maxRecDepth 20000 in
theorem ggX10_uses_X10_meets : GoodIn wsX10_uses wsX10_meets := goodIn_r _ [32, 33, 34, 35, 36, 37, 38, 39, 40, 41, 42, 43, 44, 45, 46, 47, 48, 49, 50, 51, 52, 53, 54, 55, 56, 57, 58, 59, 60, 61, 62, 63, 64, 65, 66] (by decide +kernel) (by decide +kernel)
set_option maxRecDepth 20000 in
theorem gX10_uses_X10_meets : GoodIn wsX10_uses (wsV RX10 125 RX10 yX10_meets wsX10_meets) := goodIn_app (goodIn_of _ (by decide +kernel)) ggX10_uses_X10_meets
theorem dX10_uses_0 : decode cX10_uses 0 = .ok (.aload_n 0, 1) := by decide +kernel
theorem dX10_uses_1 : decode cX10_uses 1 = .ok (.iload_n 1, 1) := by decide +kernel
theorem dX10_uses_2 : decode cX10_uses 2 = .ok (.invokevirtual 95, 3) := by decide +kernel
theorem dX10_uses_5 : decode cX10_uses 5 = .ok (.ifCond .eq 19, 3) := by decide +kernel
theorem dX10_uses_8 : decode cX10_uses 8 = .ok (.iload_n 2, 1) := by decide +kernel
theorem dX10_uses_9 : decode cX10_uses 9 = .ok (.invokestatic 122, 3) := by decide +kernel
theorem dX10_uses_12 : decode cX10_uses 12 = .ok (.ifCond .eq 12, 3) := by decide +kernel
theorem dX10_uses_15 : decode cX10_uses 15 = .ok (.iload_n 3, 1) := by decide +kernel
theorem dX10_uses_16 : decode cX10_uses 16 = .ok (.iconst 0, 1) := by decide +kernel
theorem dX10_uses_17 : decode cX10_uses 17 = .ok (.iconst 3, 1) := by decide +kernel
theorem dX10_uses_18 : decode cX10_uses 18 = .ok (.invokestatic 87, 3) := by decide +kernel
theorem dX10_uses_21 : decode cX10_uses 21 = .ok (.ifCond .ne 5, 3) := by decide +kernel
theorem dX10_uses_24 : decode cX10_uses 24 = .ok (.iconst (-1), 1) := by decide +kernel
theorem dX10_uses_25 : decode cX10_uses 25 = .ok (.ireturn, 1) := by decide +kernel
theorem dX10_uses_26 : decode cX10_uses 26 = .ok (.aload_n 0, 1) := by decide +kernel
theorem dX10_uses_27 : decode cX10_uses 27 = .ok (.getfield 16, 3) := by decide +kernel
theorem dX10_uses_30 : decode cX10_uses 30 = .ok (.iload_n 1, 1) := by decide +kernel
theorem dX10_uses_31 : decode cX10_uses 31 = .ok (.iaload, 1) := by decide +kernel
theorem dX10_uses_32 : decode cX10_uses 32 = .ok (.iload_n 2, 1) := by decide +kernel
theorem dX10_uses_33 : decode cX10_uses 33 = .ok (.invokestatic 91, 3) := by decide +kernel
theorem dX10_uses_36 : decode cX10_uses 36 = .ok (.ifCond .ne 6, 3) := by decide +kernel
theorem dX10_uses_39 : decode cX10_uses 39 = .ok (.bipush (-4), 2) := by decide +kernel
theorem dX10_uses_41 : decode cX10_uses 41 = .ok (.ireturn, 1) := by decide +kernel
theorem dX10_uses_42 : decode cX10_uses 42 = .ok (.aload_n 0, 1) := by decide +kernel
theorem dX10_uses_43 : decode cX10_uses 43 = .ok (.iload_n 1, 1) := by decide +kernel
theorem dX10_uses_44 : decode cX10_uses 44 = .ok (.iload_n 2, 1) := by decide +kernel
theorem dX10_uses_45 : decode cX10_uses 45 = .ok (.invokevirtual 112, 3) := by decide +kernel
theorem dX10_uses_48 : decode cX10_uses 48 = .ok (.istore 4, 2) := by decide +kernel
theorem dX10_uses_50 : decode cX10_uses 50 = .ok (.iload_n 3, 1) := by decide +kernel
theorem dX10_uses_51 : decode cX10_uses 51 = .ok (.ifCond .eq 26, 3) := by decide +kernel
theorem dX10_uses_54 : decode cX10_uses 54 = .ok (.iload_n 3, 1) := by decide +kernel
theorem dX10_uses_55 : decode cX10_uses 55 = .ok (.iload 4, 2) := by decide +kernel
theorem dX10_uses_57 : decode cX10_uses 57 = .ok (.if_icmp .eq 20, 3) := by decide +kernel
theorem dX10_uses_60 : decode cX10_uses 60 = .ok (.iload_n 3, 1) := by decide +kernel
theorem dX10_uses_61 : decode cX10_uses 61 = .ok (.iconst 1, 1) := by decide +kernel
theorem dX10_uses_62 : decode cX10_uses 62 = .ok (.if_icmp .ne 9, 3) := by decide +kernel
theorem dX10_uses_65 : decode cX10_uses 65 = .ok (.iload 4, 2) := by decide +kernel
theorem dX10_uses_67 : decode cX10_uses 67 = .ok (.iconst 2, 1) := by decide +kernel
theorem dX10_uses_68 : decode cX10_uses 68 = .ok (.if_icmp .eq 9, 3) := by decide +kernel
theorem dX10_uses_71 : decode cX10_uses 71 = .ok (.aload_n 0, 1) := by decide +kernel
theorem dX10_uses_72 : decode cX10_uses 72 = .ok (.iconst 3, 1) := by decide +kernel
theorem dX10_uses_73 : decode cX10_uses 73 = .ok (.invokevirtual 125, 3) := by decide +kernel
theorem dX10_uses_76 : decode cX10_uses 76 = .ok (.ireturn, 1) := by decide +kernel
theorem dX10_uses_77 : decode cX10_uses 77 = .ok (.iconst 0, 1) := by decide +kernel
theorem dX10_uses_78 : decode cX10_uses 78 = .ok (.istore 5, 2) := by decide +kernel
theorem dX10_uses_80 : decode cX10_uses 80 = .ok (.iconst 0, 1) := by decide +kernel
theorem dX10_uses_81 : decode cX10_uses 81 = .ok (.istore 6, 2) := by decide +kernel
theorem dX10_uses_83 : decode cX10_uses 83 = .ok (.iload 6, 2) := by decide +kernel
theorem dX10_uses_85 : decode cX10_uses 85 = .ok (.aload_n 0, 1) := by decide +kernel
theorem dX10_uses_86 : decode cX10_uses 86 = .ok (.getfield 103, 3) := by decide +kernel
theorem dX10_uses_89 : decode cX10_uses 89 = .ok (.if_icmp .ge 41, 3) := by decide +kernel
theorem dX10_uses_92 : decode cX10_uses 92 = .ok (.iload 5, 2) := by decide +kernel
theorem dX10_uses_94 : decode cX10_uses 94 = .ok (.aload_n 0, 1) := by decide +kernel
theorem dX10_uses_95 : decode cX10_uses 95 = .ok (.getfield 32, 3) := by decide +kernel
theorem dX10_uses_98 : decode cX10_uses 98 = .ok (.iload 6, 2) := by decide +kernel
theorem dX10_uses_100 : decode cX10_uses 100 = .ok (.iaload, 1) := by decide +kernel
theorem dX10_uses_101 : decode cX10_uses 101 = .ok (.iload_n 1, 1) := by decide +kernel
theorem dX10_uses_102 : decode cX10_uses 102 = .ok (.if_icmp .ne 18, 3) := by decide +kernel
theorem dX10_uses_105 : decode cX10_uses 105 = .ok (.aload_n 0, 1) := by decide +kernel
theorem dX10_uses_106 : decode cX10_uses 106 = .ok (.getfield 35, 3) := by decide +kernel
theorem dX10_uses_109 : decode cX10_uses 109 = .ok (.iload 6, 2) := by decide +kernel
theorem dX10_uses_111 : decode cX10_uses 111 = .ok (.iaload, 1) := by decide +kernel
theorem dX10_uses_112 : decode cX10_uses 112 = .ok (.iload_n 2, 1) := by decide +kernel
theorem dX10_uses_113 : decode cX10_uses 113 = .ok (.if_icmp .ne 7, 3) := by decide +kernel
theorem dX10_uses_116 : decode cX10_uses 116 = .ok (.iconst 1, 1) := by decide +kernel
theorem dX10_uses_117 : decode cX10_uses 117 = .ok (.goto 4, 3) := by decide +kernel
theorem dX10_uses_120 : decode cX10_uses 120 = .ok (.iconst 0, 1) := by decide +kernel
theorem dX10_uses_121 : decode cX10_uses 121 = .ok (.iadd, 1) := by decide +kernel
theorem dX10_uses_122 : decode cX10_uses 122 = .ok (.istore 5, 2) := by decide +kernel
theorem dX10_uses_124 : decode cX10_uses 124 = .ok (.iinc 6 1, 3) := by decide +kernel
theorem dX10_uses_127 : decode cX10_uses 127 = .ok (.goto (-44), 3) := by decide +kernel
theorem dX10_uses_130 : decode cX10_uses 130 = .ok (.iload 5, 2) := by decide +kernel
theorem dX10_uses_132 : decode cX10_uses 132 = .ok (.ireturn, 1) := by decide +kernel
set_option maxRecDepth 20000 in
theorem ggX10_strikeBut_X10_has : GoodIn wsX10_strikeBut wsX10_has := goodIn_r _ [7] (by decide +kernel) (by decide +kernel)
set_option maxRecDepth 20000 in
theorem gX10_strikeBut_X10_has : GoodIn wsX10_strikeBut (va_wsS RX10 91 yX10_has wsX10_has) := goodIn_app (goodIn_of _ (by decide +kernel)) ggX10_strikeBut_X10_has
theorem dX10_strikeBut_0 : decode cX10_strikeBut 0 = .ok (.iconst 0, 1) := by decide +kernel
theorem dX10_strikeBut_1 : decode cX10_strikeBut 1 = .ok (.istore_n 3, 1) := by decide +kernel
theorem dX10_strikeBut_2 : decode cX10_strikeBut 2 = .ok (.iconst 0, 1) := by decide +kernel
theorem dX10_strikeBut_3 : decode cX10_strikeBut 3 = .ok (.istore 4, 2) := by decide +kernel
theorem dX10_strikeBut_5 : decode cX10_strikeBut 5 = .ok (.iload 4, 2) := by decide +kernel
theorem dX10_strikeBut_7 : decode cX10_strikeBut 7 = .ok (.bipush 12, 2) := by decide +kernel
theorem dX10_strikeBut_9 : decode cX10_strikeBut 9 = .ok (.if_icmp .ge 51, 3) := by decide +kernel
theorem dX10_strikeBut_12 : decode cX10_strikeBut 12 = .ok (.aload_n 0, 1) := by decide +kernel
theorem dX10_strikeBut_13 : decode cX10_strikeBut 13 = .ok (.getfield 16, 3) := by decide +kernel
theorem dX10_strikeBut_16 : decode cX10_strikeBut 16 = .ok (.iload_n 1, 1) := by decide +kernel
theorem dX10_strikeBut_17 : decode cX10_strikeBut 17 = .ok (.iaload, 1) := by decide +kernel
theorem dX10_strikeBut_18 : decode cX10_strikeBut 18 = .ok (.iload 4, 2) := by decide +kernel
theorem dX10_strikeBut_20 : decode cX10_strikeBut 20 = .ok (.invokestatic 91, 3) := by decide +kernel
theorem dX10_strikeBut_23 : decode cX10_strikeBut 23 = .ok (.ifCond .eq 31, 3) := by decide +kernel
theorem dX10_strikeBut_26 : decode cX10_strikeBut 26 = .ok (.iload_n 2, 1) := by decide +kernel
theorem dX10_strikeBut_27 : decode cX10_strikeBut 27 = .ok (.iload 4, 2) := by decide +kernel
theorem dX10_strikeBut_29 : decode cX10_strikeBut 29 = .ok (.invokestatic 91, 3) := by decide +kernel
theorem dX10_strikeBut_32 : decode cX10_strikeBut 32 = .ok (.ifCond .ne 22, 3) := by decide +kernel
theorem dX10_strikeBut_35 : decode cX10_strikeBut 35 = .ok (.aload_n 0, 1) := by decide +kernel
theorem dX10_strikeBut_36 : decode cX10_strikeBut 36 = .ok (.getfield 19, 3) := by decide +kernel
theorem dX10_strikeBut_39 : decode cX10_strikeBut 39 = .ok (.bipush 12, 2) := by decide +kernel
theorem dX10_strikeBut_41 : decode cX10_strikeBut 41 = .ok (.iload_n 1, 1) := by decide +kernel
theorem dX10_strikeBut_42 : decode cX10_strikeBut 42 = .ok (.imul, 1) := by decide +kernel
theorem dX10_strikeBut_43 : decode cX10_strikeBut 43 = .ok (.iload 4, 2) := by decide +kernel
theorem dX10_strikeBut_45 : decode cX10_strikeBut 45 = .ok (.iadd, 1) := by decide +kernel
theorem dX10_strikeBut_46 : decode cX10_strikeBut 46 = .ok (.aload_n 0, 1) := by decide +kernel
theorem dX10_strikeBut_47 : decode cX10_strikeBut 47 = .ok (.getfield 106, 3) := by decide +kernel
theorem dX10_strikeBut_50 : decode cX10_strikeBut 50 = .ok (.iastore, 1) := by decide +kernel
theorem dX10_strikeBut_51 : decode cX10_strikeBut 51 = .ok (.iinc 3 1, 3) := by decide +kernel
theorem dX10_strikeBut_54 : decode cX10_strikeBut 54 = .ok (.iinc 4 1, 3) := by decide +kernel
theorem dX10_strikeBut_57 : decode cX10_strikeBut 57 = .ok (.goto (-52), 3) := by decide +kernel
theorem dX10_strikeBut_60 : decode cX10_strikeBut 60 = .ok (.aload_n 0, 1) := by decide +kernel
theorem dX10_strikeBut_61 : decode cX10_strikeBut 61 = .ok (.getfield 16, 3) := by decide +kernel
theorem dX10_strikeBut_64 : decode cX10_strikeBut 64 = .ok (.iload_n 1, 1) := by decide +kernel
theorem dX10_strikeBut_65 : decode cX10_strikeBut 65 = .ok (.dup2, 1) := by decide +kernel
theorem dX10_strikeBut_66 : decode cX10_strikeBut 66 = .ok (.iaload, 1) := by decide +kernel
theorem dX10_strikeBut_67 : decode cX10_strikeBut 67 = .ok (.iload_n 2, 1) := by decide +kernel
theorem dX10_strikeBut_68 : decode cX10_strikeBut 68 = .ok (.iand, 1) := by decide +kernel
theorem dX10_strikeBut_69 : decode cX10_strikeBut 69 = .ok (.iastore, 1) := by decide +kernel
theorem dX10_strikeBut_70 : decode cX10_strikeBut 70 = .ok (.iload_n 3, 1) := by decide +kernel
theorem dX10_strikeBut_71 : decode cX10_strikeBut 71 = .ok (.ireturn, 1) := by decide +kernel
set_option maxRecDepth 20000 in
theorem ggX10_strike_X10_isPerson : GoodIn wsX10_strike wsX10_isPerson := goodIn_r _ [5, 6, 7, 8, 4, 9, 35, 36, 37, 38, 39, 40, 41, 42, 43, 44, 45, 46, 47, 48, 49, 50, 51, 52, 53, 54, 55, 56, 57, 58, 59, 60, 61, 62, 63, 64, 65, 66] (by decide +kernel) (by decide +kernel)
set_option maxRecDepth 20000 in
theorem gX10_strike_X10_isPerson : GoodIn wsX10_strike (wsV RX10 95 RX10 yX10_isPerson wsX10_isPerson) := goodIn_app (goodIn_of _ (by decide +kernel)) ggX10_strike_X10_isPerson
set_option maxRecDepth 20000 in
theorem ggX10_strike_X10_keptOf : GoodIn wsX10_strike wsX10_keptOf := goodIn_r _ [13, 14, 15, 16, 4, 17, 18, 19, 20, 21, 22, 23, 24, 25, 26, 27, 28, 29, 35, 36, 37, 38, 39, 40, 41, 42, 43, 44, 45, 46, 47, 48, 49, 50, 51, 52, 53, 54, 55, 56, 57, 58, 59, 60, 61, 62, 63, 64, 65, 66] (by decide +kernel) (by decide +kernel)
set_option maxRecDepth 20000 in
theorem gX10_strike_X10_keptOf : GoodIn wsX10_strike (wsV RX10 115 RX10 yX10_keptOf wsX10_keptOf) := goodIn_app (goodIn_of _ (by decide +kernel)) ggX10_strike_X10_keptOf
set_option maxRecDepth 20000 in
theorem ggX10_strike_X10_strikeBut : GoodIn wsX10_strike wsX10_strikeBut := goodIn_r _ [33, 14, 34, 25, 15, 16, 4, 17, 35, 36, 37, 38, 39, 40, 41, 42, 43, 44, 45, 46, 47, 48, 49, 50, 51, 52, 53, 54, 55, 56, 57, 58, 59, 60, 61, 62, 63, 64, 65, 66] (by decide +kernel) (by decide +kernel)
set_option maxRecDepth 20000 in
theorem gX10_strike_X10_strikeBut : GoodIn wsX10_strike (wsV RX10 128 RX10 yX10_strikeBut wsX10_strikeBut) := goodIn_app (goodIn_of _ (by decide +kernel)) ggX10_strike_X10_strikeBut
theorem dX10_strike_0 : decode cX10_strike 0 = .ok (.aload_n 0, 1) := by decide +kernel
theorem dX10_strike_1 : decode cX10_strike 1 = .ok (.iload_n 1, 1) := by decide +kernel
theorem dX10_strike_2 : decode cX10_strike 2 = .ok (.invokevirtual 95, 3) := by decide +kernel
theorem dX10_strike_5 : decode cX10_strike 5 = .ok (.ifCond .eq 16, 3) := by decide +kernel
theorem dX10_strike_8 : decode cX10_strike 8 = .ok (.aload_n 0, 1) := by decide +kernel
theorem dX10_strike_9 : decode cX10_strike 9 = .ok (.iload_n 1, 1) := by decide +kernel
theorem dX10_strike_10 : decode cX10_strike 10 = .ok (.aload_n 0, 1) := by decide +kernel
theorem dX10_strike_11 : decode cX10_strike 11 = .ok (.iload_n 1, 1) := by decide +kernel
theorem dX10_strike_12 : decode cX10_strike 12 = .ok (.invokevirtual 115, 3) := by decide +kernel
theorem dX10_strike_15 : decode cX10_strike 15 = .ok (.invokevirtual 128, 3) := by decide +kernel
theorem dX10_strike_18 : decode cX10_strike 18 = .ok (.goto 4, 3) := by decide +kernel
theorem dX10_strike_21 : decode cX10_strike 21 = .ok (.iconst (-1), 1) := by decide +kernel
theorem dX10_strike_22 : decode cX10_strike 22 = .ok (.ireturn, 1) := by decide +kernel
set_option maxRecDepth 20000 in
theorem ggX10_ask_X10_isPerson : GoodIn wsX10_ask wsX10_isPerson := goodIn_r _ [10, 11, 12, 13, 9, 14, 21, 22, 23, 24, 25, 26, 27, 28, 29, 30, 31, 32, 33, 34, 35, 36, 37, 38, 39, 40, 41, 42, 43, 44, 45, 46, 47, 48, 49, 50, 51, 52] (by decide +kernel) (by decide +kernel)
set_option maxRecDepth 20000 in
theorem gX10_ask_X10_isPerson : GoodIn wsX10_ask (wsV RX10 95 RX10 yX10_isPerson wsX10_isPerson) := goodIn_app (goodIn_of _ (by decide +kernel)) ggX10_ask_X10_isPerson
set_option maxRecDepth 20000 in
theorem ggX10_ask_X10_isRight : GoodIn wsX10_ask wsX10_isRight := goodIn_r _ [17, 12, 13, 9, 14] (by decide +kernel) (by decide +kernel)
set_option maxRecDepth 20000 in
theorem gX10_ask_X10_isRight : GoodIn wsX10_ask (va_wsS RX10 122 yX10_isRight wsX10_isRight) := goodIn_app (goodIn_of _ (by decide +kernel)) ggX10_ask_X10_isRight
set_option maxRecDepth 20000 in
theorem ggX10_ask_X10_has : GoodIn wsX10_ask wsX10_has := goodIn_r _ [20] (by decide +kernel) (by decide +kernel)
set_option maxRecDepth 20000 in
theorem gX10_ask_X10_has : GoodIn wsX10_ask (va_wsS RX10 91 yX10_has wsX10_has) := goodIn_app (goodIn_of _ (by decide +kernel)) ggX10_ask_X10_has
theorem dX10_ask_0 : decode cX10_ask 0 = .ok (.aload_n 0, 1) := by decide +kernel
theorem dX10_ask_1 : decode cX10_ask 1 = .ok (.iload_n 1, 1) := by decide +kernel
theorem dX10_ask_2 : decode cX10_ask 2 = .ok (.invokevirtual 95, 3) := by decide +kernel
theorem dX10_ask_5 : decode cX10_ask 5 = .ok (.ifCond .eq 10, 3) := by decide +kernel
theorem dX10_ask_8 : decode cX10_ask 8 = .ok (.iload_n 2, 1) := by decide +kernel
theorem dX10_ask_9 : decode cX10_ask 9 = .ok (.invokestatic 122, 3) := by decide +kernel
theorem dX10_ask_12 : decode cX10_ask 12 = .ok (.ifCond .ne 5, 3) := by decide +kernel
theorem dX10_ask_15 : decode cX10_ask 15 = .ok (.iconst (-1), 1) := by decide +kernel
theorem dX10_ask_16 : decode cX10_ask 16 = .ok (.ireturn, 1) := by decide +kernel
theorem dX10_ask_17 : decode cX10_ask 17 = .ok (.aload_n 0, 1) := by decide +kernel
theorem dX10_ask_18 : decode cX10_ask 18 = .ok (.getfield 19, 3) := by decide +kernel
theorem dX10_ask_21 : decode cX10_ask 21 = .ok (.bipush 12, 2) := by decide +kernel
theorem dX10_ask_23 : decode cX10_ask 23 = .ok (.iload_n 1, 1) := by decide +kernel
theorem dX10_ask_24 : decode cX10_ask 24 = .ok (.imul, 1) := by decide +kernel
theorem dX10_ask_25 : decode cX10_ask 25 = .ok (.iload_n 2, 1) := by decide +kernel
theorem dX10_ask_26 : decode cX10_ask 26 = .ok (.iadd, 1) := by decide +kernel
theorem dX10_ask_27 : decode cX10_ask 27 = .ok (.iaload, 1) := by decide +kernel
theorem dX10_ask_28 : decode cX10_ask 28 = .ok (.istore_n 3, 1) := by decide +kernel
theorem dX10_ask_29 : decode cX10_ask 29 = .ok (.aload_n 0, 1) := by decide +kernel
theorem dX10_ask_30 : decode cX10_ask 30 = .ok (.getfield 16, 3) := by decide +kernel
theorem dX10_ask_33 : decode cX10_ask 33 = .ok (.iload_n 1, 1) := by decide +kernel
theorem dX10_ask_34 : decode cX10_ask 34 = .ok (.iaload, 1) := by decide +kernel
theorem dX10_ask_35 : decode cX10_ask 35 = .ok (.iload_n 2, 1) := by decide +kernel
theorem dX10_ask_36 : decode cX10_ask 36 = .ok (.invokestatic 91, 3) := by decide +kernel
theorem dX10_ask_39 : decode cX10_ask 39 = .ok (.ifCond .eq 7, 3) := by decide +kernel
theorem dX10_ask_42 : decode cX10_ask 42 = .ok (.iconst 2, 1) := by decide +kernel
theorem dX10_ask_43 : decode cX10_ask 43 = .ok (.goto 25, 3) := by decide +kernel
theorem dX10_ask_46 : decode cX10_ask 46 = .ok (.iload_n 3, 1) := by decide +kernel
theorem dX10_ask_47 : decode cX10_ask 47 = .ok (.ifCond .lt 20, 3) := by decide +kernel
theorem dX10_ask_50 : decode cX10_ask 50 = .ok (.aload_n 0, 1) := by decide +kernel
theorem dX10_ask_51 : decode cX10_ask 51 = .ok (.getfield 106, 3) := by decide +kernel
theorem dX10_ask_54 : decode cX10_ask 54 = .ok (.iload_n 3, 1) := by decide +kernel
theorem dX10_ask_55 : decode cX10_ask 55 = .ok (.isub, 1) := by decide +kernel
theorem dX10_ask_56 : decode cX10_ask 56 = .ok (.aload_n 0, 1) := by decide +kernel
theorem dX10_ask_57 : decode cX10_ask 57 = .ok (.getfield 29, 3) := by decide +kernel
theorem dX10_ask_60 : decode cX10_ask 60 = .ok (.if_icmp .gt 7, 3) := by decide +kernel
theorem dX10_ask_63 : decode cX10_ask 63 = .ok (.iconst 1, 1) := by decide +kernel
theorem dX10_ask_64 : decode cX10_ask 64 = .ok (.goto 4, 3) := by decide +kernel
theorem dX10_ask_67 : decode cX10_ask 67 = .ok (.iconst 0, 1) := by decide +kernel
theorem dX10_ask_68 : decode cX10_ask 68 = .ok (.istore 4, 2) := by decide +kernel
theorem dX10_ask_70 : decode cX10_ask 70 = .ok (.iload 4, 2) := by decide +kernel
theorem dX10_ask_72 : decode cX10_ask 72 = .ok (.iconst 1, 1) := by decide +kernel
theorem dX10_ask_73 : decode cX10_ask 73 = .ok (.if_icmp .ne 28, 3) := by decide +kernel
theorem dX10_ask_76 : decode cX10_ask 76 = .ok (.aload_n 0, 1) := by decide +kernel
theorem dX10_ask_77 : decode cX10_ask 77 = .ok (.getfield 16, 3) := by decide +kernel
theorem dX10_ask_80 : decode cX10_ask 80 = .ok (.iload_n 1, 1) := by decide +kernel
theorem dX10_ask_81 : decode cX10_ask 81 = .ok (.dup2, 1) := by decide +kernel
theorem dX10_ask_82 : decode cX10_ask 82 = .ok (.iaload, 1) := by decide +kernel
theorem dX10_ask_83 : decode cX10_ask 83 = .ok (.iconst 1, 1) := by decide +kernel
theorem dX10_ask_84 : decode cX10_ask 84 = .ok (.iload_n 2, 1) := by decide +kernel
theorem dX10_ask_85 : decode cX10_ask 85 = .ok (.ishl, 1) := by decide +kernel
theorem dX10_ask_86 : decode cX10_ask 86 = .ok (.ior, 1) := by decide +kernel
theorem dX10_ask_87 : decode cX10_ask 87 = .ok (.iastore, 1) := by decide +kernel
theorem dX10_ask_88 : decode cX10_ask 88 = .ok (.aload_n 0, 1) := by decide +kernel
theorem dX10_ask_89 : decode cX10_ask 89 = .ok (.getfield 19, 3) := by decide +kernel
theorem dX10_ask_92 : decode cX10_ask 92 = .ok (.bipush 12, 2) := by decide +kernel
theorem dX10_ask_94 : decode cX10_ask 94 = .ok (.iload_n 1, 1) := by decide +kernel
theorem dX10_ask_95 : decode cX10_ask 95 = .ok (.imul, 1) := by decide +kernel
theorem dX10_ask_96 : decode cX10_ask 96 = .ok (.iload_n 2, 1) := by decide +kernel
theorem dX10_ask_97 : decode cX10_ask 97 = .ok (.iadd, 1) := by decide +kernel
theorem dX10_ask_98 : decode cX10_ask 98 = .ok (.bipush (-9), 2) := by decide +kernel
theorem dX10_ask_100 : decode cX10_ask 100 = .ok (.iastore, 1) := by decide +kernel
theorem dX10_ask_101 : decode cX10_ask 101 = .ok (.aload_n 0, 1) := by decide +kernel
theorem dX10_ask_102 : decode cX10_ask 102 = .ok (.getfield 41, 3) := by decide +kernel
theorem dX10_ask_105 : decode cX10_ask 105 = .ok (.iload 4, 2) := by decide +kernel
theorem dX10_ask_107 : decode cX10_ask 107 = .ok (.dup2, 1) := by decide +kernel
theorem dX10_ask_108 : decode cX10_ask 108 = .ok (.iaload, 1) := by decide +kernel
theorem dX10_ask_109 : decode cX10_ask 109 = .ok (.iconst 1, 1) := by decide +kernel
theorem dX10_ask_110 : decode cX10_ask 110 = .ok (.iadd, 1) := by decide +kernel
theorem dX10_ask_111 : decode cX10_ask 111 = .ok (.iastore, 1) := by decide +kernel
theorem dX10_ask_112 : decode cX10_ask 112 = .ok (.iload 4, 2) := by decide +kernel
theorem dX10_ask_114 : decode cX10_ask 114 = .ok (.ireturn, 1) := by decide +kernel
set_option maxRecDepth 20000 in
theorem ggX10_asks_X10_in : GoodIn wsX10_asks wsX10_in := goodIn_r _ [5] (by decide +kernel) (by decide +kernel)
set_option maxRecDepth 20000 in
theorem gX10_asks_X10_in : GoodIn wsX10_asks (va_wsS RX10 87 yX10_in wsX10_in) := goodIn_app (goodIn_of _ (by decide +kernel)) ggX10_asks_X10_in
theorem dX10_asks_0 : decode cX10_asks 0 = .ok (.iload_n 1, 1) := by decide +kernel
theorem dX10_asks_1 : decode cX10_asks 1 = .ok (.iconst 0, 1) := by decide +kernel
theorem dX10_asks_2 : decode cX10_asks 2 = .ok (.iconst 2, 1) := by decide +kernel
theorem dX10_asks_3 : decode cX10_asks 3 = .ok (.invokestatic 87, 3) := by decide +kernel
theorem dX10_asks_6 : decode cX10_asks 6 = .ok (.ifCond .eq 12, 3) := by decide +kernel
theorem dX10_asks_9 : decode cX10_asks 9 = .ok (.aload_n 0, 1) := by decide +kernel
theorem dX10_asks_10 : decode cX10_asks 10 = .ok (.getfield 41, 3) := by decide +kernel
theorem dX10_asks_13 : decode cX10_asks 13 = .ok (.iload_n 1, 1) := by decide +kernel
theorem dX10_asks_14 : decode cX10_asks 14 = .ok (.iaload, 1) := by decide +kernel
theorem dX10_asks_15 : decode cX10_asks 15 = .ok (.goto 4, 3) := by decide +kernel
theorem dX10_asks_18 : decode cX10_asks 18 = .ok (.iconst (-1), 1) := by decide +kernel
theorem dX10_asks_19 : decode cX10_asks 19 = .ok (.ireturn, 1) := by decide +kernel
set_option maxRecDepth 20000 in
theorem ggX10_setCandidates_X10_keptOf : GoodIn wsX10_setCandidates wsX10_keptOf := goodIn_r _ [8, 9, 10, 11, 7, 12, 13, 14, 15, 16, 17, 18, 19, 20, 21, 22, 23, 24, 25, 26, 27, 28, 29, 30, 31, 32, 33, 34, 35, 36, 37, 38, 39, 40, 41, 42, 43, 44, 45, 46, 47, 48, 49, 50, 51, 52, 53, 54, 55, 56] (by decide +kernel) (by decide +kernel)
set_option maxRecDepth 20000 in
theorem gX10_setCandidates_X10_keptOf : GoodIn wsX10_setCandidates (wsV RX10 115 RX10 yX10_keptOf wsX10_keptOf) := goodIn_app (goodIn_of _ (by decide +kernel)) ggX10_setCandidates_X10_keptOf
set_option maxRecDepth 20000 in
theorem ggX10_setCandidates_X10_has : GoodIn wsX10_setCandidates wsX10_has := goodIn_r _ [12] (by decide +kernel) (by decide +kernel)
set_option maxRecDepth 20000 in
theorem gX10_setCandidates_X10_has : GoodIn wsX10_setCandidates (va_wsS RX10 91 yX10_has wsX10_has) := goodIn_app (goodIn_of _ (by decide +kernel)) ggX10_setCandidates_X10_has
theorem dX10_setCandidates_0 : decode cX10_setCandidates 0 = .ok (.iconst 0, 1) := by decide +kernel
theorem dX10_setCandidates_1 : decode cX10_setCandidates 1 = .ok (.istore_n 1, 1) := by decide +kernel
theorem dX10_setCandidates_2 : decode cX10_setCandidates 2 = .ok (.iload_n 1, 1) := by decide +kernel
theorem dX10_setCandidates_3 : decode cX10_setCandidates 3 = .ok (.sipush 4096, 3) := by decide +kernel
theorem dX10_setCandidates_6 : decode cX10_setCandidates 6 = .ok (.if_icmp .ge 16, 3) := by decide +kernel
theorem dX10_setCandidates_9 : decode cX10_setCandidates 9 = .ok (.aload_n 0, 1) := by decide +kernel
theorem dX10_setCandidates_10 : decode cX10_setCandidates 10 = .ok (.getfield 47, 3) := by decide +kernel
theorem dX10_setCandidates_13 : decode cX10_setCandidates 13 = .ok (.iload_n 1, 1) := by decide +kernel
theorem dX10_setCandidates_14 : decode cX10_setCandidates 14 = .ok (.iconst 0, 1) := by decide +kernel
theorem dX10_setCandidates_15 : decode cX10_setCandidates 15 = .ok (.bastore, 1) := by decide +kernel
theorem dX10_setCandidates_16 : decode cX10_setCandidates 16 = .ok (.iinc 1 1, 3) := by decide +kernel
theorem dX10_setCandidates_19 : decode cX10_setCandidates 19 = .ok (.goto (-17), 3) := by decide +kernel
theorem dX10_setCandidates_22 : decode cX10_setCandidates 22 = .ok (.iconst 0, 1) := by decide +kernel
theorem dX10_setCandidates_23 : decode cX10_setCandidates 23 = .ok (.istore_n 1, 1) := by decide +kernel
theorem dX10_setCandidates_24 : decode cX10_setCandidates 24 = .ok (.iload_n 1, 1) := by decide +kernel
theorem dX10_setCandidates_25 : decode cX10_setCandidates 25 = .ok (.aload_n 0, 1) := by decide +kernel
theorem dX10_setCandidates_26 : decode cX10_setCandidates 26 = .ok (.getfield 84, 3) := by decide +kernel
theorem dX10_setCandidates_29 : decode cX10_setCandidates 29 = .ok (.if_icmp .ge 20, 3) := by decide +kernel
theorem dX10_setCandidates_32 : decode cX10_setCandidates 32 = .ok (.aload_n 0, 1) := by decide +kernel
theorem dX10_setCandidates_33 : decode cX10_setCandidates 33 = .ok (.getfield 44, 3) := by decide +kernel
theorem dX10_setCandidates_36 : decode cX10_setCandidates 36 = .ok (.iload_n 1, 1) := by decide +kernel
theorem dX10_setCandidates_37 : decode cX10_setCandidates 37 = .ok (.aload_n 0, 1) := by decide +kernel
theorem dX10_setCandidates_38 : decode cX10_setCandidates 38 = .ok (.iload_n 1, 1) := by decide +kernel
theorem dX10_setCandidates_39 : decode cX10_setCandidates 39 = .ok (.invokevirtual 115, 3) := by decide +kernel
theorem dX10_setCandidates_42 : decode cX10_setCandidates 42 = .ok (.iastore, 1) := by decide +kernel
theorem dX10_setCandidates_43 : decode cX10_setCandidates 43 = .ok (.iinc 1 1, 3) := by decide +kernel
theorem dX10_setCandidates_46 : decode cX10_setCandidates 46 = .ok (.goto (-22), 3) := by decide +kernel
theorem dX10_setCandidates_49 : decode cX10_setCandidates 49 = .ok (.iconst 1, 1) := by decide +kernel
theorem dX10_setCandidates_50 : decode cX10_setCandidates 50 = .ok (.istore_n 1, 1) := by decide +kernel
theorem dX10_setCandidates_51 : decode cX10_setCandidates 51 = .ok (.iload_n 1, 1) := by decide +kernel
theorem dX10_setCandidates_52 : decode cX10_setCandidates 52 = .ok (.iconst 1, 1) := by decide +kernel
theorem dX10_setCandidates_53 : decode cX10_setCandidates 53 = .ok (.aload_n 0, 1) := by decide +kernel
theorem dX10_setCandidates_54 : decode cX10_setCandidates 54 = .ok (.getfield 84, 3) := by decide +kernel
theorem dX10_setCandidates_57 : decode cX10_setCandidates 57 = .ok (.ishl, 1) := by decide +kernel
theorem dX10_setCandidates_58 : decode cX10_setCandidates 58 = .ok (.if_icmp .ge 67, 3) := by decide +kernel
theorem dX10_setCandidates_61 : decode cX10_setCandidates 61 = .ok (.sipush 4095, 3) := by decide +kernel
theorem dX10_setCandidates_64 : decode cX10_setCandidates 64 = .ok (.istore_n 2, 1) := by decide +kernel
theorem dX10_setCandidates_65 : decode cX10_setCandidates 65 = .ok (.iconst 0, 1) := by decide +kernel
theorem dX10_setCandidates_66 : decode cX10_setCandidates 66 = .ok (.istore_n 3, 1) := by decide +kernel
theorem dX10_setCandidates_67 : decode cX10_setCandidates 67 = .ok (.iload_n 3, 1) := by decide +kernel
theorem dX10_setCandidates_68 : decode cX10_setCandidates 68 = .ok (.aload_n 0, 1) := by decide +kernel
theorem dX10_setCandidates_69 : decode cX10_setCandidates 69 = .ok (.getfield 84, 3) := by decide +kernel
theorem dX10_setCandidates_72 : decode cX10_setCandidates 72 = .ok (.if_icmp .ge 32, 3) := by decide +kernel
theorem dX10_setCandidates_75 : decode cX10_setCandidates 75 = .ok (.iload_n 2, 1) := by decide +kernel
theorem dX10_setCandidates_76 : decode cX10_setCandidates 76 = .ok (.iload_n 1, 1) := by decide +kernel
theorem dX10_setCandidates_77 : decode cX10_setCandidates 77 = .ok (.iload_n 3, 1) := by decide +kernel
theorem dX10_setCandidates_78 : decode cX10_setCandidates 78 = .ok (.invokestatic 91, 3) := by decide +kernel
theorem dX10_setCandidates_81 : decode cX10_setCandidates 81 = .ok (.ifCond .eq 12, 3) := by decide +kernel
theorem dX10_setCandidates_84 : decode cX10_setCandidates 84 = .ok (.aload_n 0, 1) := by decide +kernel
theorem dX10_setCandidates_85 : decode cX10_setCandidates 85 = .ok (.getfield 44, 3) := by decide +kernel
theorem dX10_setCandidates_88 : decode cX10_setCandidates 88 = .ok (.iload_n 3, 1) := by decide +kernel
theorem dX10_setCandidates_89 : decode cX10_setCandidates 89 = .ok (.iaload, 1) := by decide +kernel
theorem dX10_setCandidates_90 : decode cX10_setCandidates 90 = .ok (.goto 6, 3) := by decide +kernel
theorem dX10_setCandidates_93 : decode cX10_setCandidates 93 = .ok (.sipush 4095, 3) := by decide +kernel
theorem dX10_setCandidates_96 : decode cX10_setCandidates 96 = .ok (.iand, 1) := by decide +kernel
theorem dX10_setCandidates_97 : decode cX10_setCandidates 97 = .ok (.istore_n 2, 1) := by decide +kernel
theorem dX10_setCandidates_98 : decode cX10_setCandidates 98 = .ok (.iinc 3 1, 3) := by decide +kernel
theorem dX10_setCandidates_101 : decode cX10_setCandidates 101 = .ok (.goto (-34), 3) := by decide +kernel
theorem dX10_setCandidates_104 : decode cX10_setCandidates 104 = .ok (.aload_n 0, 1) := by decide +kernel
theorem dX10_setCandidates_105 : decode cX10_setCandidates 105 = .ok (.getfield 47, 3) := by decide +kernel
theorem dX10_setCandidates_108 : decode cX10_setCandidates 108 = .ok (.iload_n 2, 1) := by decide +kernel
theorem dX10_setCandidates_109 : decode cX10_setCandidates 109 = .ok (.iload_n 2, 1) := by decide +kernel
theorem dX10_setCandidates_110 : decode cX10_setCandidates 110 = .ok (.ifCond .eq 7, 3) := by decide +kernel
theorem dX10_setCandidates_113 : decode cX10_setCandidates 113 = .ok (.iconst 1, 1) := by decide +kernel
theorem dX10_setCandidates_114 : decode cX10_setCandidates 114 = .ok (.goto 4, 3) := by decide +kernel
theorem dX10_setCandidates_117 : decode cX10_setCandidates 117 = .ok (.iconst 0, 1) := by decide +kernel
theorem dX10_setCandidates_118 : decode cX10_setCandidates 118 = .ok (.bastore, 1) := by decide +kernel
theorem dX10_setCandidates_119 : decode cX10_setCandidates 119 = .ok (.iinc 1 1, 3) := by decide +kernel
theorem dX10_setCandidates_122 : decode cX10_setCandidates 122 = .ok (.goto (-71), 3) := by decide +kernel
theorem dX10_setCandidates_125 : decode cX10_setCandidates 125 = .ok (.iconst 0, 1) := by decide +kernel
theorem dX10_setCandidates_126 : decode cX10_setCandidates 126 = .ok (.istore_n 1, 1) := by decide +kernel
theorem dX10_setCandidates_127 : decode cX10_setCandidates 127 = .ok (.iconst 1, 1) := by decide +kernel
theorem dX10_setCandidates_128 : decode cX10_setCandidates 128 = .ok (.istore_n 2, 1) := by decide +kernel
theorem dX10_setCandidates_129 : decode cX10_setCandidates 129 = .ok (.iload_n 2, 1) := by decide +kernel
theorem dX10_setCandidates_130 : decode cX10_setCandidates 130 = .ok (.sipush 4096, 3) := by decide +kernel
theorem dX10_setCandidates_133 : decode cX10_setCandidates 133 = .ok (.if_icmp .ge 26, 3) := by decide +kernel
theorem dX10_setCandidates_136 : decode cX10_setCandidates 136 = .ok (.iload_n 1, 1) := by decide +kernel
theorem dX10_setCandidates_137 : decode cX10_setCandidates 137 = .ok (.aload_n 0, 1) := by decide +kernel
theorem dX10_setCandidates_138 : decode cX10_setCandidates 138 = .ok (.getfield 47, 3) := by decide +kernel
theorem dX10_setCandidates_141 : decode cX10_setCandidates 141 = .ok (.iload_n 2, 1) := by decide +kernel
theorem dX10_setCandidates_142 : decode cX10_setCandidates 142 = .ok (.baload, 1) := by decide +kernel
theorem dX10_setCandidates_143 : decode cX10_setCandidates 143 = .ok (.ifCond .eq 7, 3) := by decide +kernel
theorem dX10_setCandidates_146 : decode cX10_setCandidates 146 = .ok (.iconst 1, 1) := by decide +kernel
theorem dX10_setCandidates_147 : decode cX10_setCandidates 147 = .ok (.goto 4, 3) := by decide +kernel
theorem dX10_setCandidates_150 : decode cX10_setCandidates 150 = .ok (.iconst 0, 1) := by decide +kernel
theorem dX10_setCandidates_151 : decode cX10_setCandidates 151 = .ok (.iadd, 1) := by decide +kernel
theorem dX10_setCandidates_152 : decode cX10_setCandidates 152 = .ok (.istore_n 1, 1) := by decide +kernel
theorem dX10_setCandidates_153 : decode cX10_setCandidates 153 = .ok (.iinc 2 1, 3) := by decide +kernel
theorem dX10_setCandidates_156 : decode cX10_setCandidates 156 = .ok (.goto (-27), 3) := by decide +kernel
theorem dX10_setCandidates_159 : decode cX10_setCandidates 159 = .ok (.iload_n 1, 1) := by decide +kernel
theorem dX10_setCandidates_160 : decode cX10_setCandidates 160 = .ok (.ireturn, 1) := by decide +kernel
set_option maxRecDepth 20000 in
theorem ggX10_candidates_X10_setCandidates : GoodIn wsX10_candidates wsX10_setCandidates := goodIn_r _ [5, 6, 7, 8, 9, 10, 11, 4, 12, 13, 14, 15, 16, 17, 18, 19, 20, 21, 22, 23, 24, 25, 26, 27, 28, 29, 30, 31, 32, 33, 34, 35, 36, 37, 38, 39, 40, 41, 42, 43, 44, 45, 46, 47, 48, 49, 50, 51, 52, 53, 54, 55, 56, 57, 58, 59, 60] (by decide +kernel) (by decide +kernel)
set_option maxRecDepth 20000 in
theorem gX10_candidates_X10_setCandidates : GoodIn wsX10_candidates (wsV RX10 131 RX10 yX10_setCandidates wsX10_setCandidates) := goodIn_app (goodIn_of _ (by decide +kernel)) ggX10_candidates_X10_setCandidates
theorem dX10_candidates_0 : decode cX10_candidates 0 = .ok (.aload_n 0, 1) := by decide +kernel
theorem dX10_candidates_1 : decode cX10_candidates 1 = .ok (.invokevirtual 131, 3) := by decide +kernel
theorem dX10_candidates_4 : decode cX10_candidates 4 = .ok (.ireturn, 1) := by decide +kernel
set_option maxRecDepth 20000 in
theorem ggX10_open_X10_has : GoodIn wsX10_open wsX10_has := goodIn_r _ [7] (by decide +kernel) (by decide +kernel)
set_option maxRecDepth 20000 in
theorem gX10_open_X10_has : GoodIn wsX10_open (va_wsS RX10 91 yX10_has wsX10_has) := goodIn_app (goodIn_of _ (by decide +kernel)) ggX10_open_X10_has
theorem dX10_open_0 : decode cX10_open 0 = .ok (.iconst 0, 1) := by decide +kernel
theorem dX10_open_1 : decode cX10_open 1 = .ok (.istore_n 2, 1) := by decide +kernel
theorem dX10_open_2 : decode cX10_open 2 = .ok (.iload_n 2, 1) := by decide +kernel
theorem dX10_open_3 : decode cX10_open 3 = .ok (.aload_n 0, 1) := by decide +kernel
theorem dX10_open_4 : decode cX10_open 4 = .ok (.getfield 84, 3) := by decide +kernel
theorem dX10_open_7 : decode cX10_open 7 = .ok (.if_icmp .ge 101, 3) := by decide +kernel
theorem dX10_open_10 : decode cX10_open 10 = .ok (.iconst 0, 1) := by decide +kernel
theorem dX10_open_11 : decode cX10_open 11 = .ok (.istore_n 3, 1) := by decide +kernel
theorem dX10_open_12 : decode cX10_open 12 = .ok (.iconst 0, 1) := by decide +kernel
theorem dX10_open_13 : decode cX10_open 13 = .ok (.istore 4, 2) := by decide +kernel
theorem dX10_open_15 : decode cX10_open 15 = .ok (.iload 4, 2) := by decide +kernel
theorem dX10_open_17 : decode cX10_open 17 = .ok (.iload_n 1, 1) := by decide +kernel
theorem dX10_open_18 : decode cX10_open 18 = .ok (.if_icmp .ge 42, 3) := by decide +kernel
theorem dX10_open_21 : decode cX10_open 21 = .ok (.iload_n 3, 1) := by decide +kernel
theorem dX10_open_22 : decode cX10_open 22 = .ok (.aload_n 0, 1) := by decide +kernel
theorem dX10_open_23 : decode cX10_open 23 = .ok (.getfield 54, 3) := by decide +kernel
theorem dX10_open_26 : decode cX10_open 26 = .ok (.iload 4, 2) := by decide +kernel
theorem dX10_open_28 : decode cX10_open 28 = .ok (.iaload, 1) := by decide +kernel
theorem dX10_open_29 : decode cX10_open 29 = .ok (.aload_n 0, 1) := by decide +kernel
theorem dX10_open_30 : decode cX10_open 30 = .ok (.getfield 44, 3) := by decide +kernel
theorem dX10_open_33 : decode cX10_open 33 = .ok (.iload_n 2, 1) := by decide +kernel
theorem dX10_open_34 : decode cX10_open 34 = .ok (.iaload, 1) := by decide +kernel
theorem dX10_open_35 : decode cX10_open 35 = .ok (.iconst (-1), 1) := by decide +kernel
theorem dX10_open_36 : decode cX10_open 36 = .ok (.ixor, 1) := by decide +kernel
theorem dX10_open_37 : decode cX10_open 37 = .ok (.iand, 1) := by decide +kernel
theorem dX10_open_38 : decode cX10_open 38 = .ok (.ifCond .ne 13, 3) := by decide +kernel
theorem dX10_open_41 : decode cX10_open 41 = .ok (.aload_n 0, 1) := by decide +kernel
theorem dX10_open_42 : decode cX10_open 42 = .ok (.getfield 54, 3) := by decide +kernel
theorem dX10_open_45 : decode cX10_open 45 = .ok (.iload 4, 2) := by decide +kernel
theorem dX10_open_47 : decode cX10_open 47 = .ok (.iaload, 1) := by decide +kernel
theorem dX10_open_48 : decode cX10_open 48 = .ok (.goto 4, 3) := by decide +kernel
theorem dX10_open_51 : decode cX10_open 51 = .ok (.iconst 0, 1) := by decide +kernel
theorem dX10_open_52 : decode cX10_open 52 = .ok (.ior, 1) := by decide +kernel
theorem dX10_open_53 : decode cX10_open 53 = .ok (.istore_n 3, 1) := by decide +kernel
theorem dX10_open_54 : decode cX10_open 54 = .ok (.iinc 4 1, 3) := by decide +kernel
theorem dX10_open_57 : decode cX10_open 57 = .ok (.goto (-42), 3) := by decide +kernel
theorem dX10_open_60 : decode cX10_open 60 = .ok (.iconst 0, 1) := by decide +kernel
theorem dX10_open_61 : decode cX10_open 61 = .ok (.istore 4, 2) := by decide +kernel
theorem dX10_open_63 : decode cX10_open 63 = .ok (.iload 4, 2) := by decide +kernel
theorem dX10_open_65 : decode cX10_open 65 = .ok (.bipush 12, 2) := by decide +kernel
theorem dX10_open_67 : decode cX10_open 67 = .ok (.if_icmp .ge 35, 3) := by decide +kernel
theorem dX10_open_70 : decode cX10_open 70 = .ok (.aload_n 0, 1) := by decide +kernel
theorem dX10_open_71 : decode cX10_open 71 = .ok (.getfield 44, 3) := by decide +kernel
theorem dX10_open_74 : decode cX10_open 74 = .ok (.iload_n 2, 1) := by decide +kernel
theorem dX10_open_75 : decode cX10_open 75 = .ok (.iaload, 1) := by decide +kernel
theorem dX10_open_76 : decode cX10_open 76 = .ok (.iload_n 3, 1) := by decide +kernel
theorem dX10_open_77 : decode cX10_open 77 = .ok (.iconst (-1), 1) := by decide +kernel
theorem dX10_open_78 : decode cX10_open 78 = .ok (.ixor, 1) := by decide +kernel
theorem dX10_open_79 : decode cX10_open 79 = .ok (.iand, 1) := by decide +kernel
theorem dX10_open_80 : decode cX10_open 80 = .ok (.iload 4, 2) := by decide +kernel
theorem dX10_open_82 : decode cX10_open 82 = .ok (.invokestatic 91, 3) := by decide +kernel
theorem dX10_open_85 : decode cX10_open 85 = .ok (.ifCond .eq 11, 3) := by decide +kernel
theorem dX10_open_88 : decode cX10_open 88 = .ok (.bipush 12, 2) := by decide +kernel
theorem dX10_open_90 : decode cX10_open 90 = .ok (.iload_n 2, 1) := by decide +kernel
theorem dX10_open_91 : decode cX10_open 91 = .ok (.imul, 1) := by decide +kernel
theorem dX10_open_92 : decode cX10_open 92 = .ok (.iload 4, 2) := by decide +kernel
theorem dX10_open_94 : decode cX10_open 94 = .ok (.iadd, 1) := by decide +kernel
theorem dX10_open_95 : decode cX10_open 95 = .ok (.ireturn, 1) := by decide +kernel
theorem dX10_open_96 : decode cX10_open 96 = .ok (.iinc 4 1, 3) := by decide +kernel
theorem dX10_open_99 : decode cX10_open 99 = .ok (.goto (-36), 3) := by decide +kernel
theorem dX10_open_102 : decode cX10_open 102 = .ok (.iinc 2 1, 3) := by decide +kernel
theorem dX10_open_105 : decode cX10_open 105 = .ok (.goto (-103), 3) := by decide +kernel
theorem dX10_open_108 : decode cX10_open 108 = .ok (.bipush (-9), 2) := by decide +kernel
theorem dX10_open_110 : decode cX10_open 110 = .ok (.ireturn, 1) := by decide +kernel
theorem dX10_level_0 : decode cX10_level 0 = .ok (.aload_n 0, 1) := by decide +kernel
theorem dX10_level_1 : decode cX10_level 1 = .ok (.getfield 60, 3) := by decide +kernel
theorem dX10_level_4 : decode cX10_level 4 = .ok (.iload_n 1, 1) := by decide +kernel
theorem dX10_level_5 : decode cX10_level 5 = .ok (.iload_n 2, 1) := by decide +kernel
theorem dX10_level_6 : decode cX10_level 6 = .ok (.bipush 12, 2) := by decide +kernel
theorem dX10_level_8 : decode cX10_level 8 = .ok (.idiv, 1) := by decide +kernel
theorem dX10_level_9 : decode cX10_level 9 = .ok (.iastore, 1) := by decide +kernel
theorem dX10_level_10 : decode cX10_level 10 = .ok (.aload_n 0, 1) := by decide +kernel
theorem dX10_level_11 : decode cX10_level 11 = .ok (.getfield 57, 3) := by decide +kernel
theorem dX10_level_14 : decode cX10_level 14 = .ok (.iload_n 1, 1) := by decide +kernel
theorem dX10_level_15 : decode cX10_level 15 = .ok (.iload_n 2, 1) := by decide +kernel
theorem dX10_level_16 : decode cX10_level 16 = .ok (.bipush 12, 2) := by decide +kernel
theorem dX10_level_18 : decode cX10_level 18 = .ok (.irem, 1) := by decide +kernel
theorem dX10_level_19 : decode cX10_level 19 = .ok (.iastore, 1) := by decide +kernel
theorem dX10_level_20 : decode cX10_level 20 = .ok (.aload_n 0, 1) := by decide +kernel
theorem dX10_level_21 : decode cX10_level 21 = .ok (.getfield 54, 3) := by decide +kernel
theorem dX10_level_24 : decode cX10_level 24 = .ok (.iload_n 1, 1) := by decide +kernel
theorem dX10_level_25 : decode cX10_level 25 = .ok (.iconst 0, 1) := by decide +kernel
theorem dX10_level_26 : decode cX10_level 26 = .ok (.iastore, 1) := by decide +kernel
theorem dX10_level_27 : decode cX10_level 27 = .ok (.return_, 1) := by decide +kernel
set_option maxRecDepth 20000 in
theorem ggX10_isNext_X10_has : GoodIn wsX10_isNext wsX10_has := goodIn_r _ [9] (by decide +kernel) (by decide +kernel)
set_option maxRecDepth 20000 in
theorem gX10_isNext_X10_has : GoodIn wsX10_isNext (va_wsS RX10 91 yX10_has wsX10_has) := goodIn_app (goodIn_of _ (by decide +kernel)) ggX10_isNext_X10_has
theorem dX10_isNext_0 : decode cX10_isNext 0 = .ok (.aload_n 0, 1) := by decide +kernel
theorem dX10_isNext_1 : decode cX10_isNext 1 = .ok (.getfield 54, 3) := by decide +kernel
theorem dX10_isNext_4 : decode cX10_isNext 4 = .ok (.iload_n 1, 1) := by decide +kernel
theorem dX10_isNext_5 : decode cX10_isNext 5 = .ok (.iaload, 1) := by decide +kernel
theorem dX10_isNext_6 : decode cX10_isNext 6 = .ok (.iconst 1, 1) := by decide +kernel
theorem dX10_isNext_7 : decode cX10_isNext 7 = .ok (.iadd, 1) := by decide +kernel
theorem dX10_isNext_8 : decode cX10_isNext 8 = .ok (.istore_n 2, 1) := by decide +kernel
theorem dX10_isNext_9 : decode cX10_isNext 9 = .ok (.iload_n 2, 1) := by decide +kernel
theorem dX10_isNext_10 : decode cX10_isNext 10 = .ok (.sipush 4096, 3) := by decide +kernel
theorem dX10_isNext_13 : decode cX10_isNext 13 = .ok (.if_icmp .ge 49, 3) := by decide +kernel
theorem dX10_isNext_16 : decode cX10_isNext 16 = .ok (.aload_n 0, 1) := by decide +kernel
theorem dX10_isNext_17 : decode cX10_isNext 17 = .ok (.getfield 47, 3) := by decide +kernel
theorem dX10_isNext_20 : decode cX10_isNext 20 = .ok (.iload_n 2, 1) := by decide +kernel
theorem dX10_isNext_21 : decode cX10_isNext 21 = .ok (.baload, 1) := by decide +kernel
theorem dX10_isNext_22 : decode cX10_isNext 22 = .ok (.ifCond .eq 34, 3) := by decide +kernel
theorem dX10_isNext_25 : decode cX10_isNext 25 = .ok (.iload_n 2, 1) := by decide +kernel
theorem dX10_isNext_26 : decode cX10_isNext 26 = .ok (.aload_n 0, 1) := by decide +kernel
theorem dX10_isNext_27 : decode cX10_isNext 27 = .ok (.getfield 57, 3) := by decide +kernel
theorem dX10_isNext_30 : decode cX10_isNext 30 = .ok (.iload_n 1, 1) := by decide +kernel
theorem dX10_isNext_31 : decode cX10_isNext 31 = .ok (.iaload, 1) := by decide +kernel
theorem dX10_isNext_32 : decode cX10_isNext 32 = .ok (.invokestatic 91, 3) := by decide +kernel
theorem dX10_isNext_35 : decode cX10_isNext 35 = .ok (.ifCond .eq 21, 3) := by decide +kernel
theorem dX10_isNext_38 : decode cX10_isNext 38 = .ok (.iload_n 2, 1) := by decide +kernel
theorem dX10_isNext_39 : decode cX10_isNext 39 = .ok (.aload_n 0, 1) := by decide +kernel
theorem dX10_isNext_40 : decode cX10_isNext 40 = .ok (.getfield 44, 3) := by decide +kernel
theorem dX10_isNext_43 : decode cX10_isNext 43 = .ok (.aload_n 0, 1) := by decide +kernel
theorem dX10_isNext_44 : decode cX10_isNext 44 = .ok (.getfield 60, 3) := by decide +kernel
theorem dX10_isNext_47 : decode cX10_isNext 47 = .ok (.iload_n 1, 1) := by decide +kernel
theorem dX10_isNext_48 : decode cX10_isNext 48 = .ok (.iaload, 1) := by decide +kernel
theorem dX10_isNext_49 : decode cX10_isNext 49 = .ok (.iaload, 1) := by decide +kernel
theorem dX10_isNext_50 : decode cX10_isNext 50 = .ok (.iconst (-1), 1) := by decide +kernel
theorem dX10_isNext_51 : decode cX10_isNext 51 = .ok (.ixor, 1) := by decide +kernel
theorem dX10_isNext_52 : decode cX10_isNext 52 = .ok (.iand, 1) := by decide +kernel
theorem dX10_isNext_53 : decode cX10_isNext 53 = .ok (.ifCond .eq 9, 3) := by decide +kernel
theorem dX10_isNext_56 : decode cX10_isNext 56 = .ok (.iinc 2 1, 3) := by decide +kernel
theorem dX10_isNext_59 : decode cX10_isNext 59 = .ok (.goto (-50), 3) := by decide +kernel
theorem dX10_isNext_62 : decode cX10_isNext 62 = .ok (.aload_n 0, 1) := by decide +kernel
theorem dX10_isNext_63 : decode cX10_isNext 63 = .ok (.getfield 54, 3) := by decide +kernel
theorem dX10_isNext_66 : decode cX10_isNext 66 = .ok (.iload_n 1, 1) := by decide +kernel
theorem dX10_isNext_67 : decode cX10_isNext 67 = .ok (.iload_n 2, 1) := by decide +kernel
theorem dX10_isNext_68 : decode cX10_isNext 68 = .ok (.iastore, 1) := by decide +kernel
theorem dX10_isNext_69 : decode cX10_isNext 69 = .ok (.iload_n 2, 1) := by decide +kernel
theorem dX10_isNext_70 : decode cX10_isNext 70 = .ok (.sipush 4096, 3) := by decide +kernel
theorem dX10_isNext_73 : decode cX10_isNext 73 = .ok (.if_icmp .ge 7, 3) := by decide +kernel
theorem dX10_isNext_76 : decode cX10_isNext 76 = .ok (.iconst 1, 1) := by decide +kernel
theorem dX10_isNext_77 : decode cX10_isNext 77 = .ok (.goto 4, 3) := by decide +kernel
theorem dX10_isNext_80 : decode cX10_isNext 80 = .ok (.iconst 0, 1) := by decide +kernel
theorem dX10_isNext_81 : decode cX10_isNext 81 = .ok (.ireturn, 1) := by decide +kernel
set_option maxRecDepth 20000 in
theorem ggX10_roles_X10_in : GoodIn wsX10_roles wsX10_in := goodIn_r _ [9] (by decide +kernel) (by decide +kernel)
set_option maxRecDepth 20000 in
theorem gX10_roles_X10_in : GoodIn wsX10_roles (va_wsS RX10 87 yX10_in wsX10_in) := goodIn_app (goodIn_of _ (by decide +kernel)) ggX10_roles_X10_in
set_option maxRecDepth 20000 in
theorem ggX10_roles_X10_setCandidates : GoodIn wsX10_roles wsX10_setCandidates := goodIn_r _ [13, 14, 15, 16, 17, 18, 19, 8, 20, 21, 22, 23, 24, 25, 26, 27, 28, 29, 30, 31, 32, 33, 34, 35, 36, 51, 52, 53, 54, 55, 56, 57, 58, 59, 60, 61, 62, 63, 64, 65, 66, 67, 68, 69, 70, 71, 72, 73, 74, 75, 76, 77, 78, 79, 80, 81, 82] (by decide +kernel) (by decide +kernel)
set_option maxRecDepth 20000 in
theorem gX10_roles_X10_setCandidates : GoodIn wsX10_roles (wsV RX10 131 RX10 yX10_setCandidates wsX10_setCandidates) := goodIn_app (goodIn_of _ (by decide +kernel)) ggX10_roles_X10_setCandidates
set_option maxRecDepth 20000 in
theorem ggX10_roles_X10_open : GoodIn wsX10_roles wsX10_open := goodIn_r _ [40, 15, 5, 16, 22, 23, 8, 24, 51, 52, 53, 54, 55, 56, 57, 58, 59, 60, 61, 62, 63, 64, 65, 66, 67, 68, 69, 70, 71, 72, 73, 74, 75, 76, 77, 78, 79, 80, 81, 82] (by decide +kernel) (by decide +kernel)
set_option maxRecDepth 20000 in
theorem gX10_roles_X10_open : GoodIn wsX10_roles (wsV RX10 144 RX10 yX10_open wsX10_open) := goodIn_app (goodIn_of _ (by decide +kernel)) ggX10_roles_X10_open
set_option maxRecDepth 20000 in
theorem ggX10_roles_X10_level : GoodIn wsX10_roles wsX10_level := goodIn_r _ [44, 45, 46, 5, 51, 52, 53, 54, 55, 56, 57, 58, 59, 60, 61, 62, 63, 64, 65, 66, 67, 68, 69, 70, 71, 72, 73, 74, 75, 76, 77, 78, 79, 80, 81, 82] (by decide +kernel) (by decide +kernel)
set_option maxRecDepth 20000 in
theorem gX10_roles_X10_level : GoodIn wsX10_roles (wsV RX10 147 RX10 yX10_level wsX10_level) := goodIn_app (goodIn_of _ (by decide +kernel)) ggX10_roles_X10_level
set_option maxRecDepth 20000 in
theorem ggX10_roles_X10_isNext : GoodIn wsX10_roles wsX10_isNext := goodIn_r _ [50, 5, 14, 46, 16, 45, 22, 23, 8, 24, 51, 52, 53, 54, 55, 56, 57, 58, 59, 60, 61, 62, 63, 64, 65, 66, 67, 68, 69, 70, 71, 72, 73, 74, 75, 76, 77, 78, 79, 80, 81, 82] (by decide +kernel) (by decide +kernel)
set_option maxRecDepth 20000 in
theorem gX10_roles_X10_isNext : GoodIn wsX10_roles (wsV RX10 151 RX10 yX10_isNext wsX10_isNext) := goodIn_app (goodIn_of _ (by decide +kernel)) ggX10_roles_X10_isNext
theorem dX10_roles_0 : decode cX10_roles 0 = .ok (.iload_n 1, 1) := by decide +kernel
theorem dX10_roles_1 : decode cX10_roles 1 = .ok (.iconst 1, 1) := by decide +kernel
theorem dX10_roles_2 : decode cX10_roles 2 = .ok (.sipush 20000, 3) := by decide +kernel
theorem dX10_roles_5 : decode cX10_roles 5 = .ok (.invokestatic 87, 3) := by decide +kernel
theorem dX10_roles_8 : decode cX10_roles 8 = .ok (.ifCond .ne 5, 3) := by decide +kernel
theorem dX10_roles_11 : decode cX10_roles 11 = .ok (.iconst (-1), 1) := by decide +kernel
theorem dX10_roles_12 : decode cX10_roles 12 = .ok (.ireturn, 1) := by decide +kernel
theorem dX10_roles_13 : decode cX10_roles 13 = .ok (.aload_n 0, 1) := by decide +kernel
theorem dX10_roles_14 : decode cX10_roles 14 = .ok (.invokevirtual 131, 3) := by decide +kernel
theorem dX10_roles_17 : decode cX10_roles 17 = .ok (.istore_n 2, 1) := by decide +kernel
theorem dX10_roles_18 : decode cX10_roles 18 = .ok (.aload_n 0, 1) := by decide +kernel
theorem dX10_roles_19 : decode cX10_roles 19 = .ok (.iconst 0, 1) := by decide +kernel
theorem dX10_roles_20 : decode cX10_roles 20 = .ok (.putfield 135, 3) := by decide +kernel
theorem dX10_roles_23 : decode cX10_roles 23 = .ok (.aload_n 0, 1) := by decide +kernel
theorem dX10_roles_24 : decode cX10_roles 24 = .ok (.iconst 0, 1) := by decide +kernel
theorem dX10_roles_25 : decode cX10_roles 25 = .ok (.putfield 138, 3) := by decide +kernel
theorem dX10_roles_28 : decode cX10_roles 28 = .ok (.aload_n 0, 1) := by decide +kernel
theorem dX10_roles_29 : decode cX10_roles 29 = .ok (.sipush 1000, 3) := by decide +kernel
theorem dX10_roles_32 : decode cX10_roles 32 = .ok (.putfield 141, 3) := by decide +kernel
theorem dX10_roles_35 : decode cX10_roles 35 = .ok (.iconst 0, 1) := by decide +kernel
theorem dX10_roles_36 : decode cX10_roles 36 = .ok (.istore_n 3, 1) := by decide +kernel
theorem dX10_roles_37 : decode cX10_roles 37 = .ok (.aload_n 0, 1) := by decide +kernel
theorem dX10_roles_38 : decode cX10_roles 38 = .ok (.iconst 0, 1) := by decide +kernel
theorem dX10_roles_39 : decode cX10_roles 39 = .ok (.invokevirtual 144, 3) := by decide +kernel
theorem dX10_roles_42 : decode cX10_roles 42 = .ok (.istore 4, 2) := by decide +kernel
theorem dX10_roles_44 : decode cX10_roles 44 = .ok (.iload 4, 2) := by decide +kernel
theorem dX10_roles_46 : decode cX10_roles 46 = .ok (.ifCond .ge 5, 3) := by decide +kernel
theorem dX10_roles_49 : decode cX10_roles 49 = .ok (.iconst 0, 1) := by decide +kernel
theorem dX10_roles_50 : decode cX10_roles 50 = .ok (.ireturn, 1) := by decide +kernel
theorem dX10_roles_51 : decode cX10_roles 51 = .ok (.aload_n 0, 1) := by decide +kernel
theorem dX10_roles_52 : decode cX10_roles 52 = .ok (.iconst 0, 1) := by decide +kernel
theorem dX10_roles_53 : decode cX10_roles 53 = .ok (.iload 4, 2) := by decide +kernel
theorem dX10_roles_55 : decode cX10_roles 55 = .ok (.invokevirtual 147, 3) := by decide +kernel
theorem dX10_roles_58 : decode cX10_roles 58 = .ok (.iload_n 3, 1) := by decide +kernel
theorem dX10_roles_59 : decode cX10_roles 59 = .ok (.ifCond .lt 141, 3) := by decide +kernel
theorem dX10_roles_62 : decode cX10_roles 62 = .ok (.aload_n 0, 1) := by decide +kernel
theorem dX10_roles_63 : decode cX10_roles 63 = .ok (.iload_n 3, 1) := by decide +kernel
theorem dX10_roles_64 : decode cX10_roles 64 = .ok (.invokevirtual 151, 3) := by decide +kernel
theorem dX10_roles_67 : decode cX10_roles 67 = .ok (.ifCond .ne 9, 3) := by decide +kernel
theorem dX10_roles_70 : decode cX10_roles 70 = .ok (.iinc 3 (-1), 3) := by decide +kernel
theorem dX10_roles_73 : decode cX10_roles 73 = .ok (.goto (-15), 3) := by decide +kernel
theorem dX10_roles_76 : decode cX10_roles 76 = .ok (.aload_n 0, 1) := by decide +kernel
theorem dX10_roles_77 : decode cX10_roles 77 = .ok (.getfield 135, 3) := by decide +kernel
theorem dX10_roles_80 : decode cX10_roles 80 = .ok (.iload_n 1, 1) := by decide +kernel
theorem dX10_roles_81 : decode cX10_roles 81 = .ok (.if_icmp .ne 11, 3) := by decide +kernel
theorem dX10_roles_84 : decode cX10_roles 84 = .ok (.aload_n 0, 1) := by decide +kernel
theorem dX10_roles_85 : decode cX10_roles 85 = .ok (.iconst 0, 1) := by decide +kernel
theorem dX10_roles_86 : decode cX10_roles 86 = .ok (.putfield 138, 3) := by decide +kernel
theorem dX10_roles_89 : decode cX10_roles 89 = .ok (.bipush (-6), 2) := by decide +kernel
theorem dX10_roles_91 : decode cX10_roles 91 = .ok (.ireturn, 1) := by decide +kernel
theorem dX10_roles_92 : decode cX10_roles 92 = .ok (.aload_n 0, 1) := by decide +kernel
theorem dX10_roles_93 : decode cX10_roles 93 = .ok (.dup, 1) := by decide +kernel
theorem dX10_roles_94 : decode cX10_roles 94 = .ok (.getfield 135, 3) := by decide +kernel
theorem dX10_roles_97 : decode cX10_roles 97 = .ok (.iconst 1, 1) := by decide +kernel
theorem dX10_roles_98 : decode cX10_roles 98 = .ok (.iadd, 1) := by decide +kernel
theorem dX10_roles_99 : decode cX10_roles 99 = .ok (.putfield 135, 3) := by decide +kernel
theorem dX10_roles_102 : decode cX10_roles 102 = .ok (.aload_n 0, 1) := by decide +kernel
theorem dX10_roles_103 : decode cX10_roles 103 = .ok (.iload_n 3, 1) := by decide +kernel
theorem dX10_roles_104 : decode cX10_roles 104 = .ok (.iconst 1, 1) := by decide +kernel
theorem dX10_roles_105 : decode cX10_roles 105 = .ok (.iadd, 1) := by decide +kernel
theorem dX10_roles_106 : decode cX10_roles 106 = .ok (.invokevirtual 144, 3) := by decide +kernel
theorem dX10_roles_109 : decode cX10_roles 109 = .ok (.istore 5, 2) := by decide +kernel
theorem dX10_roles_111 : decode cX10_roles 111 = .ok (.iload 5, 2) := by decide +kernel
theorem dX10_roles_113 : decode cX10_roles 113 = .ok (.ifCond .ge 59, 3) := by decide +kernel
theorem dX10_roles_116 : decode cX10_roles 116 = .ok (.iload_n 3, 1) := by decide +kernel
theorem dX10_roles_117 : decode cX10_roles 117 = .ok (.iconst 1, 1) := by decide +kernel
theorem dX10_roles_118 : decode cX10_roles 118 = .ok (.iadd, 1) := by decide +kernel
theorem dX10_roles_119 : decode cX10_roles 119 = .ok (.aload_n 0, 1) := by decide +kernel
theorem dX10_roles_120 : decode cX10_roles 120 = .ok (.getfield 141, 3) := by decide +kernel
theorem dX10_roles_123 : decode cX10_roles 123 = .ok (.if_icmp .ge 49, 3) := by decide +kernel
theorem dX10_roles_126 : decode cX10_roles 126 = .ok (.aload_n 0, 1) := by decide +kernel
theorem dX10_roles_127 : decode cX10_roles 127 = .ok (.iload_n 3, 1) := by decide +kernel
theorem dX10_roles_128 : decode cX10_roles 128 = .ok (.iconst 1, 1) := by decide +kernel
theorem dX10_roles_129 : decode cX10_roles 129 = .ok (.iadd, 1) := by decide +kernel
theorem dX10_roles_130 : decode cX10_roles 130 = .ok (.putfield 141, 3) := by decide +kernel
theorem dX10_roles_133 : decode cX10_roles 133 = .ok (.aload_n 0, 1) := by decide +kernel
theorem dX10_roles_134 : decode cX10_roles 134 = .ok (.iload_n 3, 1) := by decide +kernel
theorem dX10_roles_135 : decode cX10_roles 135 = .ok (.iconst 1, 1) := by decide +kernel
theorem dX10_roles_136 : decode cX10_roles 136 = .ok (.iadd, 1) := by decide +kernel
theorem dX10_roles_137 : decode cX10_roles 137 = .ok (.putfield 138, 3) := by decide +kernel
theorem dX10_roles_140 : decode cX10_roles 140 = .ok (.iconst 0, 1) := by decide +kernel
theorem dX10_roles_141 : decode cX10_roles 141 = .ok (.istore 6, 2) := by decide +kernel
theorem dX10_roles_143 : decode cX10_roles 143 = .ok (.iload 6, 2) := by decide +kernel
theorem dX10_roles_145 : decode cX10_roles 145 = .ok (.iload_n 3, 1) := by decide +kernel
theorem dX10_roles_146 : decode cX10_roles 146 = .ok (.if_icmp .gt 23, 3) := by decide +kernel
theorem dX10_roles_149 : decode cX10_roles 149 = .ok (.aload_n 0, 1) := by decide +kernel
theorem dX10_roles_150 : decode cX10_roles 150 = .ok (.getfield 51, 3) := by decide +kernel
theorem dX10_roles_153 : decode cX10_roles 153 = .ok (.iload 6, 2) := by decide +kernel
theorem dX10_roles_155 : decode cX10_roles 155 = .ok (.aload_n 0, 1) := by decide +kernel
theorem dX10_roles_156 : decode cX10_roles 156 = .ok (.getfield 54, 3) := by decide +kernel
theorem dX10_roles_159 : decode cX10_roles 159 = .ok (.iload 6, 2) := by decide +kernel
theorem dX10_roles_161 : decode cX10_roles 161 = .ok (.iaload, 1) := by decide +kernel
theorem dX10_roles_162 : decode cX10_roles 162 = .ok (.iastore, 1) := by decide +kernel
theorem dX10_roles_163 : decode cX10_roles 163 = .ok (.iinc 6 1, 3) := by decide +kernel
theorem dX10_roles_166 : decode cX10_roles 166 = .ok (.goto (-23), 3) := by decide +kernel
theorem dX10_roles_169 : decode cX10_roles 169 = .ok (.goto 28, 3) := by decide +kernel
theorem dX10_roles_172 : decode cX10_roles 172 = .ok (.iload 5, 2) := by decide +kernel
theorem dX10_roles_174 : decode cX10_roles 174 = .ok (.ifCond .lt 23, 3) := by decide +kernel
theorem dX10_roles_177 : decode cX10_roles 177 = .ok (.iload_n 3, 1) := by decide +kernel
theorem dX10_roles_178 : decode cX10_roles 178 = .ok (.iconst 2, 1) := by decide +kernel
theorem dX10_roles_179 : decode cX10_roles 179 = .ok (.iadd, 1) := by decide +kernel
theorem dX10_roles_180 : decode cX10_roles 180 = .ok (.aload_n 0, 1) := by decide +kernel
theorem dX10_roles_181 : decode cX10_roles 181 = .ok (.getfield 141, 3) := by decide +kernel
theorem dX10_roles_184 : decode cX10_roles 184 = .ok (.if_icmp .ge 13, 3) := by decide +kernel
theorem dX10_roles_187 : decode cX10_roles 187 = .ok (.iinc 3 1, 3) := by decide +kernel
theorem dX10_roles_190 : decode cX10_roles 190 = .ok (.aload_n 0, 1) := by decide +kernel
theorem dX10_roles_191 : decode cX10_roles 191 = .ok (.iload_n 3, 1) := by decide +kernel
theorem dX10_roles_192 : decode cX10_roles 192 = .ok (.iload 5, 2) := by decide +kernel
theorem dX10_roles_194 : decode cX10_roles 194 = .ok (.invokevirtual 147, 3) := by decide +kernel
theorem dX10_roles_197 : decode cX10_roles 197 = .ok (.goto (-139), 3) := by decide +kernel
theorem dX10_roles_200 : decode cX10_roles 200 = .ok (.aload_n 0, 1) := by decide +kernel
theorem dX10_roles_201 : decode cX10_roles 201 = .ok (.getfield 138, 3) := by decide +kernel
theorem dX10_roles_204 : decode cX10_roles 204 = .ok (.ireturn, 1) := by decide +kernel
theorem dX10_tries_0 : decode cX10_tries 0 = .ok (.aload_n 0, 1) := by decide +kernel
theorem dX10_tries_1 : decode cX10_tries 1 = .ok (.getfield 135, 3) := by decide +kernel
theorem dX10_tries_4 : decode cX10_tries 4 = .ok (.ireturn, 1) := by decide +kernel
set_option maxRecDepth 20000 in
theorem ggX10_role_X10_in : GoodIn wsX10_role wsX10_in := goodIn_r _ [6] (by decide +kernel) (by decide +kernel)
set_option maxRecDepth 20000 in
theorem gX10_role_X10_in : GoodIn wsX10_role (va_wsS RX10 87 yX10_in wsX10_in) := goodIn_app (goodIn_of _ (by decide +kernel)) ggX10_role_X10_in
theorem dX10_role_0 : decode cX10_role 0 = .ok (.iload_n 1, 1) := by decide +kernel
theorem dX10_role_1 : decode cX10_role 1 = .ok (.iconst 0, 1) := by decide +kernel
theorem dX10_role_2 : decode cX10_role 2 = .ok (.aload_n 0, 1) := by decide +kernel
theorem dX10_role_3 : decode cX10_role 3 = .ok (.getfield 138, 3) := by decide +kernel
theorem dX10_role_6 : decode cX10_role 6 = .ok (.iconst 1, 1) := by decide +kernel
theorem dX10_role_7 : decode cX10_role 7 = .ok (.isub, 1) := by decide +kernel
theorem dX10_role_8 : decode cX10_role 8 = .ok (.invokestatic 87, 3) := by decide +kernel
theorem dX10_role_11 : decode cX10_role 11 = .ok (.ifCond .eq 12, 3) := by decide +kernel
theorem dX10_role_14 : decode cX10_role 14 = .ok (.aload_n 0, 1) := by decide +kernel
theorem dX10_role_15 : decode cX10_role 15 = .ok (.getfield 51, 3) := by decide +kernel
theorem dX10_role_18 : decode cX10_role 18 = .ok (.iload_n 1, 1) := by decide +kernel
theorem dX10_role_19 : decode cX10_role 19 = .ok (.iaload, 1) := by decide +kernel
theorem dX10_role_20 : decode cX10_role 20 = .ok (.goto 5, 3) := by decide +kernel
theorem dX10_role_23 : decode cX10_role 23 = .ok (.bipush (-9), 2) := by decide +kernel
theorem dX10_role_25 : decode cX10_role 25 = .ok (.ireturn, 1) := by decide +kernel
set_option maxRecDepth 20000 in
theorem ggX10_rolesOf_X10_isPerson : GoodIn wsX10_rolesOf wsX10_isPerson := goodIn_r _ [7, 8, 9, 10, 6, 11, 32, 33, 34, 35, 36, 37, 38, 39, 40, 41, 42, 43, 44, 45, 46, 47, 48, 49, 50, 51, 52, 53, 54, 55, 56, 57, 58, 59, 60, 61, 62, 63] (by decide +kernel) (by decide +kernel)
set_option maxRecDepth 20000 in
theorem gX10_rolesOf_X10_isPerson : GoodIn wsX10_rolesOf (wsV RX10 95 RX10 yX10_isPerson wsX10_isPerson) := goodIn_app (goodIn_of _ (by decide +kernel)) ggX10_rolesOf_X10_isPerson
set_option maxRecDepth 20000 in
theorem ggX10_rolesOf_X10_keptOf : GoodIn wsX10_rolesOf wsX10_keptOf := goodIn_r _ [15, 16, 17, 18, 6, 19, 20, 21, 22, 23, 24, 25, 26, 27, 28, 29, 30, 31, 32, 33, 34, 35, 36, 37, 38, 39, 40, 41, 42, 43, 44, 45, 46, 47, 48, 49, 50, 51, 52, 53, 54, 55, 56, 57, 58, 59, 60, 61, 62, 63] (by decide +kernel) (by decide +kernel)
set_option maxRecDepth 20000 in
theorem gX10_rolesOf_X10_keptOf : GoodIn wsX10_rolesOf (wsV RX10 115 RX10 yX10_keptOf wsX10_keptOf) := goodIn_app (goodIn_of _ (by decide +kernel)) ggX10_rolesOf_X10_keptOf
theorem dX10_rolesOf_0 : decode cX10_rolesOf 0 = .ok (.aload_n 0, 1) := by decide +kernel
theorem dX10_rolesOf_1 : decode cX10_rolesOf 1 = .ok (.iload_n 1, 1) := by decide +kernel
theorem dX10_rolesOf_2 : decode cX10_rolesOf 2 = .ok (.invokevirtual 95, 3) := by decide +kernel
theorem dX10_rolesOf_5 : decode cX10_rolesOf 5 = .ok (.ifCond .ne 5, 3) := by decide +kernel
theorem dX10_rolesOf_8 : decode cX10_rolesOf 8 = .ok (.iconst (-1), 1) := by decide +kernel
theorem dX10_rolesOf_9 : decode cX10_rolesOf 9 = .ok (.ireturn, 1) := by decide +kernel
theorem dX10_rolesOf_10 : decode cX10_rolesOf 10 = .ok (.aload_n 0, 1) := by decide +kernel
theorem dX10_rolesOf_11 : decode cX10_rolesOf 11 = .ok (.iload_n 1, 1) := by decide +kernel
theorem dX10_rolesOf_12 : decode cX10_rolesOf 12 = .ok (.invokevirtual 115, 3) := by decide +kernel
theorem dX10_rolesOf_15 : decode cX10_rolesOf 15 = .ok (.istore_n 2, 1) := by decide +kernel
theorem dX10_rolesOf_16 : decode cX10_rolesOf 16 = .ok (.iconst 0, 1) := by decide +kernel
theorem dX10_rolesOf_17 : decode cX10_rolesOf 17 = .ok (.istore_n 3, 1) := by decide +kernel
theorem dX10_rolesOf_18 : decode cX10_rolesOf 18 = .ok (.iconst 0, 1) := by decide +kernel
theorem dX10_rolesOf_19 : decode cX10_rolesOf 19 = .ok (.istore 4, 2) := by decide +kernel
theorem dX10_rolesOf_21 : decode cX10_rolesOf 21 = .ok (.iload 4, 2) := by decide +kernel
theorem dX10_rolesOf_23 : decode cX10_rolesOf 23 = .ok (.aload_n 0, 1) := by decide +kernel
theorem dX10_rolesOf_24 : decode cX10_rolesOf 24 = .ok (.getfield 138, 3) := by decide +kernel
theorem dX10_rolesOf_27 : decode cX10_rolesOf 27 = .ok (.if_icmp .ge 34, 3) := by decide +kernel
theorem dX10_rolesOf_30 : decode cX10_rolesOf 30 = .ok (.iload_n 3, 1) := by decide +kernel
theorem dX10_rolesOf_31 : decode cX10_rolesOf 31 = .ok (.aload_n 0, 1) := by decide +kernel
theorem dX10_rolesOf_32 : decode cX10_rolesOf 32 = .ok (.getfield 51, 3) := by decide +kernel
