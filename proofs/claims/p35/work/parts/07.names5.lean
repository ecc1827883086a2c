theorem dX10_rolesOf_35 : decode cX10_rolesOf 35 = .ok (.iload 4, 2) := by decide +kernel
theorem dX10_rolesOf_37 : decode cX10_rolesOf 37 = .ok (.iaload, 1) := by decide +kernel
theorem dX10_rolesOf_38 : decode cX10_rolesOf 38 = .ok (.iload_n 2, 1) := by decide +kernel
theorem dX10_rolesOf_39 : decode cX10_rolesOf 39 = .ok (.iconst (-1), 1) := by decide +kernel
theorem dX10_rolesOf_40 : decode cX10_rolesOf 40 = .ok (.ixor, 1) := by decide +kernel
theorem dX10_rolesOf_41 : decode cX10_rolesOf 41 = .ok (.iand, 1) := by decide +kernel
theorem dX10_rolesOf_42 : decode cX10_rolesOf 42 = .ok (.ifCond .ne 10, 3) := by decide +kernel
theorem dX10_rolesOf_45 : decode cX10_rolesOf 45 = .ok (.iconst 1, 1) := by decide +kernel
theorem dX10_rolesOf_46 : decode cX10_rolesOf 46 = .ok (.iload 4, 2) := by decide +kernel
theorem dX10_rolesOf_48 : decode cX10_rolesOf 48 = .ok (.ishl, 1) := by decide +kernel
theorem dX10_rolesOf_49 : decode cX10_rolesOf 49 = .ok (.goto 4, 3) := by decide +kernel
theorem dX10_rolesOf_52 : decode cX10_rolesOf 52 = .ok (.iconst 0, 1) := by decide +kernel
theorem dX10_rolesOf_53 : decode cX10_rolesOf 53 = .ok (.ior, 1) := by decide +kernel
theorem dX10_rolesOf_54 : decode cX10_rolesOf 54 = .ok (.istore_n 3, 1) := by decide +kernel
theorem dX10_rolesOf_55 : decode cX10_rolesOf 55 = .ok (.iinc 4 1, 3) := by decide +kernel
theorem dX10_rolesOf_58 : decode cX10_rolesOf 58 = .ok (.goto (-37), 3) := by decide +kernel
theorem dX10_rolesOf_61 : decode cX10_rolesOf 61 = .ok (.iload_n 3, 1) := by decide +kernel
theorem dX10_rolesOf_62 : decode cX10_rolesOf 62 = .ok (.ireturn, 1) := by decide +kernel
set_option maxRecDepth 20000 in
theorem ggX10_exceptionsTo_X10_has : GoodIn wsX10_exceptionsTo wsX10_has := goodIn_r _ [7] (by decide +kernel) (by decide +kernel)
set_option maxRecDepth 20000 in
theorem gX10_exceptionsTo_X10_has : GoodIn wsX10_exceptionsTo (va_wsS RX10 91 yX10_has wsX10_has) := goodIn_app (goodIn_of _ (by decide +kernel)) ggX10_exceptionsTo_X10_has
theorem dX10_exceptionsTo_0 : decode cX10_exceptionsTo 0 = .ok (.iconst 0, 1) := by decide +kernel
theorem dX10_exceptionsTo_1 : decode cX10_exceptionsTo 1 = .ok (.istore_n 3, 1) := by decide +kernel
theorem dX10_exceptionsTo_2 : decode cX10_exceptionsTo 2 = .ok (.iconst 0, 1) := by decide +kernel
theorem dX10_exceptionsTo_3 : decode cX10_exceptionsTo 3 = .ok (.istore 4, 2) := by decide +kernel
theorem dX10_exceptionsTo_5 : decode cX10_exceptionsTo 5 = .ok (.iload 4, 2) := by decide +kernel
theorem dX10_exceptionsTo_7 : decode cX10_exceptionsTo 7 = .ok (.aload_n 0, 1) := by decide +kernel
theorem dX10_exceptionsTo_8 : decode cX10_exceptionsTo 8 = .ok (.getfield 84, 3) := by decide +kernel
theorem dX10_exceptionsTo_11 : decode cX10_exceptionsTo 11 = .ok (.if_icmp .ge 57, 3) := by decide +kernel
theorem dX10_exceptionsTo_14 : decode cX10_exceptionsTo 14 = .ok (.iload_n 2, 1) := by decide +kernel
theorem dX10_exceptionsTo_15 : decode cX10_exceptionsTo 15 = .ok (.aload_n 0, 1) := by decide +kernel
theorem dX10_exceptionsTo_16 : decode cX10_exceptionsTo 16 = .ok (.getfield 13, 3) := by decide +kernel
theorem dX10_exceptionsTo_19 : decode cX10_exceptionsTo 19 = .ok (.iload 4, 2) := by decide +kernel
theorem dX10_exceptionsTo_21 : decode cX10_exceptionsTo 21 = .ok (.iaload, 1) := by decide +kernel
theorem dX10_exceptionsTo_22 : decode cX10_exceptionsTo 22 = .ok (.iconst (-1), 1) := by decide +kernel
theorem dX10_exceptionsTo_23 : decode cX10_exceptionsTo 23 = .ok (.ixor, 1) := by decide +kernel
theorem dX10_exceptionsTo_24 : decode cX10_exceptionsTo 24 = .ok (.iand, 1) := by decide +kernel
theorem dX10_exceptionsTo_25 : decode cX10_exceptionsTo 25 = .ok (.ifCond .ne 7, 3) := by decide +kernel
theorem dX10_exceptionsTo_28 : decode cX10_exceptionsTo 28 = .ok (.iconst 1, 1) := by decide +kernel
theorem dX10_exceptionsTo_29 : decode cX10_exceptionsTo 29 = .ok (.goto 4, 3) := by decide +kernel
theorem dX10_exceptionsTo_32 : decode cX10_exceptionsTo 32 = .ok (.iconst 0, 1) := by decide +kernel
theorem dX10_exceptionsTo_33 : decode cX10_exceptionsTo 33 = .ok (.istore 5, 2) := by decide +kernel
theorem dX10_exceptionsTo_35 : decode cX10_exceptionsTo 35 = .ok (.iload_n 3, 1) := by decide +kernel
theorem dX10_exceptionsTo_36 : decode cX10_exceptionsTo 36 = .ok (.iload 5, 2) := by decide +kernel
theorem dX10_exceptionsTo_38 : decode cX10_exceptionsTo 38 = .ok (.aload_n 0, 1) := by decide +kernel
theorem dX10_exceptionsTo_39 : decode cX10_exceptionsTo 39 = .ok (.getfield 16, 3) := by decide +kernel
theorem dX10_exceptionsTo_42 : decode cX10_exceptionsTo 42 = .ok (.iload 4, 2) := by decide +kernel
theorem dX10_exceptionsTo_44 : decode cX10_exceptionsTo 44 = .ok (.iaload, 1) := by decide +kernel
theorem dX10_exceptionsTo_45 : decode cX10_exceptionsTo 45 = .ok (.iload_n 1, 1) := by decide +kernel
theorem dX10_exceptionsTo_46 : decode cX10_exceptionsTo 46 = .ok (.invokestatic 91, 3) := by decide +kernel
theorem dX10_exceptionsTo_49 : decode cX10_exceptionsTo 49 = .ok (.if_icmp .eq 10, 3) := by decide +kernel
theorem dX10_exceptionsTo_52 : decode cX10_exceptionsTo 52 = .ok (.iconst 1, 1) := by decide +kernel
theorem dX10_exceptionsTo_53 : decode cX10_exceptionsTo 53 = .ok (.iload 4, 2) := by decide +kernel
theorem dX10_exceptionsTo_55 : decode cX10_exceptionsTo 55 = .ok (.ishl, 1) := by decide +kernel
theorem dX10_exceptionsTo_56 : decode cX10_exceptionsTo 56 = .ok (.goto 4, 3) := by decide +kernel
theorem dX10_exceptionsTo_59 : decode cX10_exceptionsTo 59 = .ok (.iconst 0, 1) := by decide +kernel
theorem dX10_exceptionsTo_60 : decode cX10_exceptionsTo 60 = .ok (.ior, 1) := by decide +kernel
theorem dX10_exceptionsTo_61 : decode cX10_exceptionsTo 61 = .ok (.istore_n 3, 1) := by decide +kernel
theorem dX10_exceptionsTo_62 : decode cX10_exceptionsTo 62 = .ok (.iinc 4 1, 3) := by decide +kernel
theorem dX10_exceptionsTo_65 : decode cX10_exceptionsTo 65 = .ok (.goto (-60), 3) := by decide +kernel
theorem dX10_exceptionsTo_68 : decode cX10_exceptionsTo 68 = .ok (.iload_n 3, 1) := by decide +kernel
theorem dX10_exceptionsTo_69 : decode cX10_exceptionsTo 69 = .ok (.ireturn, 1) := by decide +kernel
set_option maxRecDepth 20000 in
theorem ggX10_marksOf_X10_isRight : GoodIn wsX10_marksOf wsX10_isRight := goodIn_r _ [6, 7, 8, 5, 9] (by decide +kernel) (by decide +kernel)
set_option maxRecDepth 20000 in
theorem gX10_marksOf_X10_isRight : GoodIn wsX10_marksOf (va_wsS RX10 122 yX10_isRight wsX10_isRight) := goodIn_app (goodIn_of _ (by decide +kernel)) ggX10_marksOf_X10_isRight
set_option maxRecDepth 20000 in
theorem ggX10_marksOf_X10_exceptionsTo : GoodIn wsX10_marksOf wsX10_exceptionsTo := goodIn_r _ [13, 1, 14, 15, 16, 17, 5, 18, 22, 23, 24, 25, 26, 27, 28, 29, 30, 31, 32, 33, 34, 35, 36, 37, 38, 39, 40, 41, 42, 43, 44, 45, 46, 47, 48, 49, 50, 51, 52, 53] (by decide +kernel) (by decide +kernel)
set_option maxRecDepth 20000 in
theorem gX10_marksOf_X10_exceptionsTo : GoodIn wsX10_marksOf (wsV RX10 154 RX10 yX10_exceptionsTo wsX10_exceptionsTo) := goodIn_app (goodIn_of _ (by decide +kernel)) ggX10_marksOf_X10_exceptionsTo
set_option maxRecDepth 20000 in
theorem ggX10_marksOf_X10_bits : GoodIn wsX10_marksOf wsX10_bits := goodIn_r _ [21] (by decide +kernel) (by decide +kernel)
set_option maxRecDepth 20000 in
theorem gX10_marksOf_X10_bits : GoodIn wsX10_marksOf (va_wsS RX10 157 yX10_bits wsX10_bits) := goodIn_app (goodIn_of _ (by decide +kernel)) ggX10_marksOf_X10_bits
theorem dX10_marksOf_0 : decode cX10_marksOf 0 = .ok (.iload_n 1, 1) := by decide +kernel
theorem dX10_marksOf_1 : decode cX10_marksOf 1 = .ok (.invokestatic 122, 3) := by decide +kernel
theorem dX10_marksOf_4 : decode cX10_marksOf 4 = .ok (.ifCond .ne 5, 3) := by decide +kernel
theorem dX10_marksOf_7 : decode cX10_marksOf 7 = .ok (.iconst (-1), 1) := by decide +kernel
theorem dX10_marksOf_8 : decode cX10_marksOf 8 = .ok (.ireturn, 1) := by decide +kernel
theorem dX10_marksOf_9 : decode cX10_marksOf 9 = .ok (.aload_n 0, 1) := by decide +kernel
theorem dX10_marksOf_10 : decode cX10_marksOf 10 = .ok (.getfield 84, 3) := by decide +kernel
theorem dX10_marksOf_13 : decode cX10_marksOf 13 = .ok (.ifCond .ne 6, 3) := by decide +kernel
theorem dX10_marksOf_16 : decode cX10_marksOf 16 = .ok (.bipush (-4), 2) := by decide +kernel
theorem dX10_marksOf_18 : decode cX10_marksOf 18 = .ok (.ireturn, 1) := by decide +kernel
theorem dX10_marksOf_19 : decode cX10_marksOf 19 = .ok (.iconst 0, 1) := by decide +kernel
theorem dX10_marksOf_20 : decode cX10_marksOf 20 = .ok (.istore_n 2, 1) := by decide +kernel
theorem dX10_marksOf_21 : decode cX10_marksOf 21 = .ok (.iconst 1, 1) := by decide +kernel
theorem dX10_marksOf_22 : decode cX10_marksOf 22 = .ok (.istore_n 3, 1) := by decide +kernel
theorem dX10_marksOf_23 : decode cX10_marksOf 23 = .ok (.iload_n 3, 1) := by decide +kernel
theorem dX10_marksOf_24 : decode cX10_marksOf 24 = .ok (.sipush 256, 3) := by decide +kernel
theorem dX10_marksOf_27 : decode cX10_marksOf 27 = .ok (.if_icmp .ge 57, 3) := by decide +kernel
theorem dX10_marksOf_30 : decode cX10_marksOf 30 = .ok (.aload_n 0, 1) := by decide +kernel
theorem dX10_marksOf_31 : decode cX10_marksOf 31 = .ok (.iload_n 1, 1) := by decide +kernel
theorem dX10_marksOf_32 : decode cX10_marksOf 32 = .ok (.iload_n 3, 1) := by decide +kernel
theorem dX10_marksOf_33 : decode cX10_marksOf 33 = .ok (.invokevirtual 154, 3) := by decide +kernel
theorem dX10_marksOf_36 : decode cX10_marksOf 36 = .ok (.invokestatic 157, 3) := by decide +kernel
theorem dX10_marksOf_39 : decode cX10_marksOf 39 = .ok (.aload_n 0, 1) := by decide +kernel
theorem dX10_marksOf_40 : decode cX10_marksOf 40 = .ok (.iload_n 1, 1) := by decide +kernel
theorem dX10_marksOf_41 : decode cX10_marksOf 41 = .ok (.iload_n 2, 1) := by decide +kernel
theorem dX10_marksOf_42 : decode cX10_marksOf 42 = .ok (.invokevirtual 154, 3) := by decide +kernel
theorem dX10_marksOf_45 : decode cX10_marksOf 45 = .ok (.invokestatic 157, 3) := by decide +kernel
theorem dX10_marksOf_48 : decode cX10_marksOf 48 = .ok (.isub, 1) := by decide +kernel
theorem dX10_marksOf_49 : decode cX10_marksOf 49 = .ok (.istore 4, 2) := by decide +kernel
theorem dX10_marksOf_51 : decode cX10_marksOf 51 = .ok (.iload 4, 2) := by decide +kernel
theorem dX10_marksOf_53 : decode cX10_marksOf 53 = .ok (.ifCond .lt 19, 3) := by decide +kernel
theorem dX10_marksOf_56 : decode cX10_marksOf 56 = .ok (.iload 4, 2) := by decide +kernel
theorem dX10_marksOf_58 : decode cX10_marksOf 58 = .ok (.ifCond .ne 18, 3) := by decide +kernel
theorem dX10_marksOf_61 : decode cX10_marksOf 61 = .ok (.iload_n 3, 1) := by decide +kernel
theorem dX10_marksOf_62 : decode cX10_marksOf 62 = .ok (.invokestatic 157, 3) := by decide +kernel
theorem dX10_marksOf_65 : decode cX10_marksOf 65 = .ok (.iload_n 2, 1) := by decide +kernel
theorem dX10_marksOf_66 : decode cX10_marksOf 66 = .ok (.invokestatic 157, 3) := by decide +kernel
theorem dX10_marksOf_69 : decode cX10_marksOf 69 = .ok (.if_icmp .ge 7, 3) := by decide +kernel
theorem dX10_marksOf_72 : decode cX10_marksOf 72 = .ok (.iload_n 3, 1) := by decide +kernel
theorem dX10_marksOf_73 : decode cX10_marksOf 73 = .ok (.goto 4, 3) := by decide +kernel
theorem dX10_marksOf_76 : decode cX10_marksOf 76 = .ok (.iload_n 2, 1) := by decide +kernel
theorem dX10_marksOf_77 : decode cX10_marksOf 77 = .ok (.istore_n 2, 1) := by decide +kernel
theorem dX10_marksOf_78 : decode cX10_marksOf 78 = .ok (.iinc 3 1, 3) := by decide +kernel
theorem dX10_marksOf_81 : decode cX10_marksOf 81 = .ok (.goto (-58), 3) := by decide +kernel
theorem dX10_marksOf_84 : decode cX10_marksOf 84 = .ok (.aload_n 0, 1) := by decide +kernel
theorem dX10_marksOf_85 : decode cX10_marksOf 85 = .ok (.aload_n 0, 1) := by decide +kernel
theorem dX10_marksOf_86 : decode cX10_marksOf 86 = .ok (.iload_n 1, 1) := by decide +kernel
theorem dX10_marksOf_87 : decode cX10_marksOf 87 = .ok (.iload_n 2, 1) := by decide +kernel
theorem dX10_marksOf_88 : decode cX10_marksOf 88 = .ok (.invokevirtual 154, 3) := by decide +kernel
theorem dX10_marksOf_91 : decode cX10_marksOf 91 = .ok (.invokestatic 157, 3) := by decide +kernel
theorem dX10_marksOf_94 : decode cX10_marksOf 94 = .ok (.putfield 160, 3) := by decide +kernel
theorem dX10_marksOf_97 : decode cX10_marksOf 97 = .ok (.iload_n 2, 1) := by decide +kernel
theorem dX10_marksOf_98 : decode cX10_marksOf 98 = .ok (.ireturn, 1) := by decide +kernel
set_option maxRecDepth 20000 in
theorem ggX10_exceptions_X10_isRight : GoodIn wsX10_exceptions wsX10_isRight := goodIn_r _ [4, 5, 6, 3, 7] (by decide +kernel) (by decide +kernel)
set_option maxRecDepth 20000 in
theorem gX10_exceptions_X10_isRight : GoodIn wsX10_exceptions (va_wsS RX10 122 yX10_isRight wsX10_isRight) := goodIn_app (goodIn_of _ (by decide +kernel)) ggX10_exceptions_X10_isRight
set_option maxRecDepth 20000 in
theorem ggX10_exceptions_X10_in : GoodIn wsX10_exceptions wsX10_in := goodIn_r _ [7] (by decide +kernel) (by decide +kernel)
set_option maxRecDepth 20000 in
theorem gX10_exceptions_X10_in : GoodIn wsX10_exceptions (va_wsS RX10 87 yX10_in wsX10_in) := goodIn_app (goodIn_of _ (by decide +kernel)) ggX10_exceptions_X10_in
set_option maxRecDepth 20000 in
theorem ggX10_exceptions_X10_exceptionsTo : GoodIn wsX10_exceptions wsX10_exceptionsTo := goodIn_r _ [11, 12, 13, 14, 15, 16, 3, 17, 18, 19, 20, 21, 22, 23, 24, 25, 26, 27, 28, 29, 30, 31, 32, 33, 34, 35, 36, 37, 38, 39, 40, 41, 42, 43, 44, 45, 46, 47, 48, 49] (by decide +kernel) (by decide +kernel)
set_option maxRecDepth 20000 in
theorem gX10_exceptions_X10_exceptionsTo : GoodIn wsX10_exceptions (wsV RX10 154 RX10 yX10_exceptionsTo wsX10_exceptionsTo) := goodIn_app (goodIn_of _ (by decide +kernel)) ggX10_exceptions_X10_exceptionsTo
theorem dX10_exceptions_0 : decode cX10_exceptions 0 = .ok (.iload_n 1, 1) := by decide +kernel
theorem dX10_exceptions_1 : decode cX10_exceptions 1 = .ok (.invokestatic 122, 3) := by decide +kernel
theorem dX10_exceptions_4 : decode cX10_exceptions 4 = .ok (.ifCond .eq 23, 3) := by decide +kernel
theorem dX10_exceptions_7 : decode cX10_exceptions 7 = .ok (.iload_n 2, 1) := by decide +kernel
theorem dX10_exceptions_8 : decode cX10_exceptions 8 = .ok (.iconst 0, 1) := by decide +kernel
theorem dX10_exceptions_9 : decode cX10_exceptions 9 = .ok (.sipush 255, 3) := by decide +kernel
theorem dX10_exceptions_12 : decode cX10_exceptions 12 = .ok (.invokestatic 87, 3) := by decide +kernel
theorem dX10_exceptions_15 : decode cX10_exceptions 15 = .ok (.ifCond .eq 12, 3) := by decide +kernel
theorem dX10_exceptions_18 : decode cX10_exceptions 18 = .ok (.aload_n 0, 1) := by decide +kernel
theorem dX10_exceptions_19 : decode cX10_exceptions 19 = .ok (.iload_n 1, 1) := by decide +kernel
theorem dX10_exceptions_20 : decode cX10_exceptions 20 = .ok (.iload_n 2, 1) := by decide +kernel
theorem dX10_exceptions_21 : decode cX10_exceptions 21 = .ok (.invokevirtual 154, 3) := by decide +kernel
theorem dX10_exceptions_24 : decode cX10_exceptions 24 = .ok (.goto 4, 3) := by decide +kernel
theorem dX10_exceptions_27 : decode cX10_exceptions 27 = .ok (.iconst (-1), 1) := by decide +kernel
theorem dX10_exceptions_28 : decode cX10_exceptions 28 = .ok (.ireturn, 1) := by decide +kernel
set_option maxRecDepth 20000 in
theorem ggX10_ban_X10_isRight : GoodIn wsX10_ban wsX10_isRight := goodIn_r _ [5, 6, 7, 4, 8] (by decide +kernel) (by decide +kernel)
set_option maxRecDepth 20000 in
theorem gX10_ban_X10_isRight : GoodIn wsX10_ban (va_wsS RX10 122 yX10_isRight wsX10_isRight) := goodIn_app (goodIn_of _ (by decide +kernel)) ggX10_ban_X10_isRight
set_option maxRecDepth 20000 in
theorem ggX10_ban_X10_has : GoodIn wsX10_ban wsX10_has := goodIn_r _ [11] (by decide +kernel) (by decide +kernel)
set_option maxRecDepth 20000 in
theorem gX10_ban_X10_has : GoodIn wsX10_ban (va_wsS RX10 91 yX10_has wsX10_has) := goodIn_app (goodIn_of _ (by decide +kernel)) ggX10_ban_X10_has
theorem dX10_ban_0 : decode cX10_ban 0 = .ok (.iload_n 1, 1) := by decide +kernel
theorem dX10_ban_1 : decode cX10_ban 1 = .ok (.invokestatic 122, 3) := by decide +kernel
theorem dX10_ban_4 : decode cX10_ban 4 = .ok (.ifCond .eq 15, 3) := by decide +kernel
theorem dX10_ban_7 : decode cX10_ban 7 = .ok (.iload_n 2, 1) := by decide +kernel
theorem dX10_ban_8 : decode cX10_ban 8 = .ok (.invokestatic 122, 3) := by decide +kernel
theorem dX10_ban_11 : decode cX10_ban 11 = .ok (.ifCond .eq 8, 3) := by decide +kernel
theorem dX10_ban_14 : decode cX10_ban 14 = .ok (.iload_n 1, 1) := by decide +kernel
theorem dX10_ban_15 : decode cX10_ban 15 = .ok (.iload_n 2, 1) := by decide +kernel
theorem dX10_ban_16 : decode cX10_ban 16 = .ok (.if_icmp .ne 5, 3) := by decide +kernel
theorem dX10_ban_19 : decode cX10_ban 19 = .ok (.iconst (-1), 1) := by decide +kernel
theorem dX10_ban_20 : decode cX10_ban 20 = .ok (.ireturn, 1) := by decide +kernel
theorem dX10_ban_21 : decode cX10_ban 21 = .ok (.aload_n 0, 1) := by decide +kernel
theorem dX10_ban_22 : decode cX10_ban 22 = .ok (.getfield 63, 3) := by decide +kernel
theorem dX10_ban_25 : decode cX10_ban 25 = .ok (.iload_n 1, 1) := by decide +kernel
theorem dX10_ban_26 : decode cX10_ban 26 = .ok (.iaload, 1) := by decide +kernel
theorem dX10_ban_27 : decode cX10_ban 27 = .ok (.iload_n 2, 1) := by decide +kernel
theorem dX10_ban_28 : decode cX10_ban 28 = .ok (.invokestatic 91, 3) := by decide +kernel
theorem dX10_ban_31 : decode cX10_ban 31 = .ok (.ifCond .eq 7, 3) := by decide +kernel
theorem dX10_ban_34 : decode cX10_ban 34 = .ok (.iconst 1, 1) := by decide +kernel
theorem dX10_ban_35 : decode cX10_ban 35 = .ok (.goto 4, 3) := by decide +kernel
theorem dX10_ban_38 : decode cX10_ban 38 = .ok (.iconst 0, 1) := by decide +kernel
theorem dX10_ban_39 : decode cX10_ban 39 = .ok (.istore 4, 2) := by decide +kernel
theorem dX10_ban_41 : decode cX10_ban 41 = .ok (.aload_n 0, 1) := by decide +kernel
theorem dX10_ban_42 : decode cX10_ban 42 = .ok (.getfield 63, 3) := by decide +kernel
theorem dX10_ban_45 : decode cX10_ban 45 = .ok (.iload_n 1, 1) := by decide +kernel
theorem dX10_ban_46 : decode cX10_ban 46 = .ok (.iload_n 3, 1) := by decide +kernel
theorem dX10_ban_47 : decode cX10_ban 47 = .ok (.ifCond .eq 16, 3) := by decide +kernel
theorem dX10_ban_50 : decode cX10_ban 50 = .ok (.aload_n 0, 1) := by decide +kernel
theorem dX10_ban_51 : decode cX10_ban 51 = .ok (.getfield 63, 3) := by decide +kernel
theorem dX10_ban_54 : decode cX10_ban 54 = .ok (.iload_n 1, 1) := by decide +kernel
theorem dX10_ban_55 : decode cX10_ban 55 = .ok (.iaload, 1) := by decide +kernel
theorem dX10_ban_56 : decode cX10_ban 56 = .ok (.iconst 1, 1) := by decide +kernel
theorem dX10_ban_57 : decode cX10_ban 57 = .ok (.iload_n 2, 1) := by decide +kernel
theorem dX10_ban_58 : decode cX10_ban 58 = .ok (.ishl, 1) := by decide +kernel
theorem dX10_ban_59 : decode cX10_ban 59 = .ok (.ior, 1) := by decide +kernel
theorem dX10_ban_60 : decode cX10_ban 60 = .ok (.goto 15, 3) := by decide +kernel
theorem dX10_ban_63 : decode cX10_ban 63 = .ok (.aload_n 0, 1) := by decide +kernel
theorem dX10_ban_64 : decode cX10_ban 64 = .ok (.getfield 63, 3) := by decide +kernel
theorem dX10_ban_67 : decode cX10_ban 67 = .ok (.iload_n 1, 1) := by decide +kernel
theorem dX10_ban_68 : decode cX10_ban 68 = .ok (.iaload, 1) := by decide +kernel
theorem dX10_ban_69 : decode cX10_ban 69 = .ok (.iconst 1, 1) := by decide +kernel
theorem dX10_ban_70 : decode cX10_ban 70 = .ok (.iload_n 2, 1) := by decide +kernel
theorem dX10_ban_71 : decode cX10_ban 71 = .ok (.ishl, 1) := by decide +kernel
theorem dX10_ban_72 : decode cX10_ban 72 = .ok (.iconst (-1), 1) := by decide +kernel
theorem dX10_ban_73 : decode cX10_ban 73 = .ok (.ixor, 1) := by decide +kernel
theorem dX10_ban_74 : decode cX10_ban 74 = .ok (.iand, 1) := by decide +kernel
theorem dX10_ban_75 : decode cX10_ban 75 = .ok (.iastore, 1) := by decide +kernel
theorem dX10_ban_76 : decode cX10_ban 76 = .ok (.aload_n 0, 1) := by decide +kernel
theorem dX10_ban_77 : decode cX10_ban 77 = .ok (.getfield 63, 3) := by decide +kernel
theorem dX10_ban_80 : decode cX10_ban 80 = .ok (.iload_n 2, 1) := by decide +kernel
theorem dX10_ban_81 : decode cX10_ban 81 = .ok (.iload_n 3, 1) := by decide +kernel
theorem dX10_ban_82 : decode cX10_ban 82 = .ok (.ifCond .eq 16, 3) := by decide +kernel
theorem dX10_ban_85 : decode cX10_ban 85 = .ok (.aload_n 0, 1) := by decide +kernel
theorem dX10_ban_86 : decode cX10_ban 86 = .ok (.getfield 63, 3) := by decide +kernel
theorem dX10_ban_89 : decode cX10_ban 89 = .ok (.iload_n 2, 1) := by decide +kernel
theorem dX10_ban_90 : decode cX10_ban 90 = .ok (.iaload, 1) := by decide +kernel
theorem dX10_ban_91 : decode cX10_ban 91 = .ok (.iconst 1, 1) := by decide +kernel
theorem dX10_ban_92 : decode cX10_ban 92 = .ok (.iload_n 1, 1) := by decide +kernel
theorem dX10_ban_93 : decode cX10_ban 93 = .ok (.ishl, 1) := by decide +kernel
theorem dX10_ban_94 : decode cX10_ban 94 = .ok (.ior, 1) := by decide +kernel
theorem dX10_ban_95 : decode cX10_ban 95 = .ok (.goto 15, 3) := by decide +kernel
theorem dX10_ban_98 : decode cX10_ban 98 = .ok (.aload_n 0, 1) := by decide +kernel
theorem dX10_ban_99 : decode cX10_ban 99 = .ok (.getfield 63, 3) := by decide +kernel
theorem dX10_ban_102 : decode cX10_ban 102 = .ok (.iload_n 2, 1) := by decide +kernel
theorem dX10_ban_103 : decode cX10_ban 103 = .ok (.iaload, 1) := by decide +kernel
theorem dX10_ban_104 : decode cX10_ban 104 = .ok (.iconst 1, 1) := by decide +kernel
theorem dX10_ban_105 : decode cX10_ban 105 = .ok (.iload_n 1, 1) := by decide +kernel
theorem dX10_ban_106 : decode cX10_ban 106 = .ok (.ishl, 1) := by decide +kernel
theorem dX10_ban_107 : decode cX10_ban 107 = .ok (.iconst (-1), 1) := by decide +kernel
theorem dX10_ban_108 : decode cX10_ban 108 = .ok (.ixor, 1) := by decide +kernel
theorem dX10_ban_109 : decode cX10_ban 109 = .ok (.iand, 1) := by decide +kernel
theorem dX10_ban_110 : decode cX10_ban 110 = .ok (.iastore, 1) := by decide +kernel
theorem dX10_ban_111 : decode cX10_ban 111 = .ok (.iload 4, 2) := by decide +kernel
theorem dX10_ban_113 : decode cX10_ban 113 = .ok (.ireturn, 1) := by decide +kernel
set_option maxRecDepth 20000 in
theorem ggX10_isBad_X10_has : GoodIn wsX10_isBad wsX10_has := goodIn_r _ [5] (by decide +kernel) (by decide +kernel)
set_option maxRecDepth 20000 in
theorem gX10_isBad_X10_has : GoodIn wsX10_isBad (va_wsS RX10 91 yX10_has wsX10_has) := goodIn_app (goodIn_of _ (by decide +kernel)) ggX10_isBad_X10_has
theorem dX10_isBad_0 : decode cX10_isBad 0 = .ok (.iconst 0, 1) := by decide +kernel
theorem dX10_isBad_1 : decode cX10_isBad 1 = .ok (.istore_n 2, 1) := by decide +kernel
theorem dX10_isBad_2 : decode cX10_isBad 2 = .ok (.iconst 0, 1) := by decide +kernel
theorem dX10_isBad_3 : decode cX10_isBad 3 = .ok (.istore_n 3, 1) := by decide +kernel
theorem dX10_isBad_4 : decode cX10_isBad 4 = .ok (.iload_n 3, 1) := by decide +kernel
theorem dX10_isBad_5 : decode cX10_isBad 5 = .ok (.bipush 12, 2) := by decide +kernel
theorem dX10_isBad_7 : decode cX10_isBad 7 = .ok (.if_icmp .ge 38, 3) := by decide +kernel
theorem dX10_isBad_10 : decode cX10_isBad 10 = .ok (.iload_n 2, 1) := by decide +kernel
theorem dX10_isBad_11 : decode cX10_isBad 11 = .ok (.ifCond .ne 22, 3) := by decide +kernel
theorem dX10_isBad_14 : decode cX10_isBad 14 = .ok (.iload_n 1, 1) := by decide +kernel
theorem dX10_isBad_15 : decode cX10_isBad 15 = .ok (.iload_n 3, 1) := by decide +kernel
theorem dX10_isBad_16 : decode cX10_isBad 16 = .ok (.invokestatic 91, 3) := by decide +kernel
theorem dX10_isBad_19 : decode cX10_isBad 19 = .ok (.ifCond .eq 18, 3) := by decide +kernel
theorem dX10_isBad_22 : decode cX10_isBad 22 = .ok (.aload_n 0, 1) := by decide +kernel
theorem dX10_isBad_23 : decode cX10_isBad 23 = .ok (.getfield 63, 3) := by decide +kernel
theorem dX10_isBad_26 : decode cX10_isBad 26 = .ok (.iload_n 3, 1) := by decide +kernel
theorem dX10_isBad_27 : decode cX10_isBad 27 = .ok (.iaload, 1) := by decide +kernel
theorem dX10_isBad_28 : decode cX10_isBad 28 = .ok (.iload_n 1, 1) := by decide +kernel
theorem dX10_isBad_29 : decode cX10_isBad 29 = .ok (.iand, 1) := by decide +kernel
theorem dX10_isBad_30 : decode cX10_isBad 30 = .ok (.ifCond .eq 7, 3) := by decide +kernel
theorem dX10_isBad_33 : decode cX10_isBad 33 = .ok (.iconst 1, 1) := by decide +kernel
theorem dX10_isBad_34 : decode cX10_isBad 34 = .ok (.goto 4, 3) := by decide +kernel
theorem dX10_isBad_37 : decode cX10_isBad 37 = .ok (.iconst 0, 1) := by decide +kernel
theorem dX10_isBad_38 : decode cX10_isBad 38 = .ok (.istore_n 2, 1) := by decide +kernel
theorem dX10_isBad_39 : decode cX10_isBad 39 = .ok (.iinc 3 1, 3) := by decide +kernel
theorem dX10_isBad_42 : decode cX10_isBad 42 = .ok (.goto (-38), 3) := by decide +kernel
theorem dX10_isBad_45 : decode cX10_isBad 45 = .ok (.iload_n 2, 1) := by decide +kernel
theorem dX10_isBad_46 : decode cX10_isBad 46 = .ok (.ireturn, 1) := by decide +kernel
set_option maxRecDepth 20000 in
theorem ggX10_breach_X10_isBad : GoodIn wsX10_breach wsX10_isBad := goodIn_r _ [7, 8, 9, 10, 6, 11, 12, 13, 14, 15, 16, 17, 18, 19, 20, 21, 22, 23, 24, 25, 26, 27, 28, 29, 30, 31, 32, 33, 34, 35, 36, 37, 38, 39, 40, 41, 42, 43] (by decide +kernel) (by decide +kernel)
set_option maxRecDepth 20000 in
theorem gX10_breach_X10_isBad : GoodIn wsX10_breach (wsV RX10 163 RX10 yX10_isBad wsX10_isBad) := goodIn_app (goodIn_of _ (by decide +kernel)) ggX10_breach_X10_isBad
theorem dX10_breach_0 : decode cX10_breach 0 = .ok (.iconst 0, 1) := by decide +kernel
theorem dX10_breach_1 : decode cX10_breach 1 = .ok (.istore_n 1, 1) := by decide +kernel
theorem dX10_breach_2 : decode cX10_breach 2 = .ok (.iconst 0, 1) := by decide +kernel
theorem dX10_breach_3 : decode cX10_breach 3 = .ok (.istore_n 2, 1) := by decide +kernel
theorem dX10_breach_4 : decode cX10_breach 4 = .ok (.iload_n 2, 1) := by decide +kernel
theorem dX10_breach_5 : decode cX10_breach 5 = .ok (.aload_n 0, 1) := by decide +kernel
theorem dX10_breach_6 : decode cX10_breach 6 = .ok (.getfield 84, 3) := by decide +kernel
theorem dX10_breach_9 : decode cX10_breach 9 = .ok (.if_icmp .ge 32, 3) := by decide +kernel
theorem dX10_breach_12 : decode cX10_breach 12 = .ok (.iload_n 1, 1) := by decide +kernel
theorem dX10_breach_13 : decode cX10_breach 13 = .ok (.aload_n 0, 1) := by decide +kernel
theorem dX10_breach_14 : decode cX10_breach 14 = .ok (.aload_n 0, 1) := by decide +kernel
theorem dX10_breach_15 : decode cX10_breach 15 = .ok (.getfield 16, 3) := by decide +kernel
theorem dX10_breach_18 : decode cX10_breach 18 = .ok (.iload_n 2, 1) := by decide +kernel
theorem dX10_breach_19 : decode cX10_breach 19 = .ok (.iaload, 1) := by decide +kernel
theorem dX10_breach_20 : decode cX10_breach 20 = .ok (.invokevirtual 163, 3) := by decide +kernel
theorem dX10_breach_23 : decode cX10_breach 23 = .ok (.ifCond .eq 9, 3) := by decide +kernel
theorem dX10_breach_26 : decode cX10_breach 26 = .ok (.iconst 1, 1) := by decide +kernel
theorem dX10_breach_27 : decode cX10_breach 27 = .ok (.iload_n 2, 1) := by decide +kernel
theorem dX10_breach_28 : decode cX10_breach 28 = .ok (.ishl, 1) := by decide +kernel
theorem dX10_breach_29 : decode cX10_breach 29 = .ok (.goto 4, 3) := by decide +kernel
theorem dX10_breach_32 : decode cX10_breach 32 = .ok (.iconst 0, 1) := by decide +kernel
theorem dX10_breach_33 : decode cX10_breach 33 = .ok (.ior, 1) := by decide +kernel
theorem dX10_breach_34 : decode cX10_breach 34 = .ok (.istore_n 1, 1) := by decide +kernel
theorem dX10_breach_35 : decode cX10_breach 35 = .ok (.iinc 2 1, 3) := by decide +kernel
theorem dX10_breach_38 : decode cX10_breach 38 = .ok (.goto (-34), 3) := by decide +kernel
theorem dX10_breach_41 : decode cX10_breach 41 = .ok (.iload_n 1, 1) := by decide +kernel
theorem dX10_breach_42 : decode cX10_breach 42 = .ok (.ireturn, 1) := by decide +kernel
set_option maxRecDepth 20000 in
theorem ggX10_least_X10_isPerson : GoodIn wsX10_least wsX10_isPerson := goodIn_r _ [6, 7, 8, 9, 5, 10, 38, 39, 40, 41, 42, 43, 44, 45, 46, 47, 48, 49, 50, 51, 52, 53, 54, 55, 56, 57, 58, 59, 60, 61, 62, 63, 64, 65, 66, 67, 68, 69] (by decide +kernel) (by decide +kernel)
set_option maxRecDepth 20000 in
theorem gX10_least_X10_isPerson : GoodIn wsX10_least (wsV RX10 95 RX10 yX10_isPerson wsX10_isPerson) := goodIn_app (goodIn_of _ (by decide +kernel)) ggX10_least_X10_isPerson
set_option maxRecDepth 20000 in
theorem ggX10_least_X10_keptOf : GoodIn wsX10_least wsX10_keptOf := goodIn_r _ [14, 1, 15, 16, 5, 17, 18, 19, 20, 21, 22, 23, 24, 25, 26, 27, 28, 29, 38, 39, 40, 41, 42, 43, 44, 45, 46, 47, 48, 49, 50, 51, 52, 53, 54, 55, 56, 57, 58, 59, 60, 61, 62, 63, 64, 65, 66, 67, 68, 69] (by decide +kernel) (by decide +kernel)
set_option maxRecDepth 20000 in
theorem gX10_least_X10_keptOf : GoodIn wsX10_least (wsV RX10 115 RX10 yX10_keptOf wsX10_keptOf) := goodIn_app (goodIn_of _ (by decide +kernel)) ggX10_least_X10_keptOf
set_option maxRecDepth 20000 in
theorem ggX10_least_X10_isBad : GoodIn wsX10_least wsX10_isBad := goodIn_r _ [33, 34, 15, 16, 5, 17, 38, 39, 40, 41, 42, 43, 44, 45, 46, 47, 48, 49, 50, 51, 52, 53, 54, 55, 56, 57, 58, 59, 60, 61, 62, 63, 64, 65, 66, 67, 68, 69] (by decide +kernel) (by decide +kernel)
set_option maxRecDepth 20000 in
theorem gX10_least_X10_isBad : GoodIn wsX10_least (wsV RX10 163 RX10 yX10_isBad wsX10_isBad) := goodIn_app (goodIn_of _ (by decide +kernel)) ggX10_least_X10_isBad
set_option maxRecDepth 20000 in
theorem ggX10_least_X10_bits : GoodIn wsX10_least wsX10_bits := goodIn_r _ [37] (by decide +kernel) (by decide +kernel)
set_option maxRecDepth 20000 in
theorem gX10_least_X10_bits : GoodIn wsX10_least (va_wsS RX10 157 yX10_bits wsX10_bits) := goodIn_app (goodIn_of _ (by decide +kernel)) ggX10_least_X10_bits
theorem dX10_least_0 : decode cX10_least 0 = .ok (.aload_n 0, 1) := by decide +kernel
theorem dX10_least_1 : decode cX10_least 1 = .ok (.iload_n 1, 1) := by decide +kernel
theorem dX10_least_2 : decode cX10_least 2 = .ok (.invokevirtual 95, 3) := by decide +kernel
theorem dX10_least_5 : decode cX10_least 5 = .ok (.ifCond .ne 5, 3) := by decide +kernel
theorem dX10_least_8 : decode cX10_least 8 = .ok (.iconst (-1), 1) := by decide +kernel
theorem dX10_least_9 : decode cX10_least 9 = .ok (.ireturn, 1) := by decide +kernel
theorem dX10_least_10 : decode cX10_least 10 = .ok (.aload_n 0, 1) := by decide +kernel
theorem dX10_least_11 : decode cX10_least 11 = .ok (.iload_n 1, 1) := by decide +kernel
theorem dX10_least_12 : decode cX10_least 12 = .ok (.invokevirtual 115, 3) := by decide +kernel
theorem dX10_least_15 : decode cX10_least 15 = .ok (.istore_n 2, 1) := by decide +kernel
theorem dX10_least_16 : decode cX10_least 16 = .ok (.aload_n 0, 1) := by decide +kernel
theorem dX10_least_17 : decode cX10_least 17 = .ok (.getfield 16, 3) := by decide +kernel
theorem dX10_least_20 : decode cX10_least 20 = .ok (.iload_n 1, 1) := by decide +kernel
theorem dX10_least_21 : decode cX10_least 21 = .ok (.iaload, 1) := by decide +kernel
theorem dX10_least_22 : decode cX10_least 22 = .ok (.istore_n 3, 1) := by decide +kernel
theorem dX10_least_23 : decode cX10_least 23 = .ok (.iconst 0, 1) := by decide +kernel
theorem dX10_least_24 : decode cX10_least 24 = .ok (.istore 4, 2) := by decide +kernel
theorem dX10_least_26 : decode cX10_least 26 = .ok (.iload 4, 2) := by decide +kernel
theorem dX10_least_28 : decode cX10_least 28 = .ok (.sipush 4095, 3) := by decide +kernel
theorem dX10_least_31 : decode cX10_least 31 = .ok (.if_icmp .gt 102, 3) := by decide +kernel
theorem dX10_least_34 : decode cX10_least 34 = .ok (.iload 4, 2) := by decide +kernel
theorem dX10_least_36 : decode cX10_least 36 = .ok (.aload_n 0, 1) := by decide +kernel
theorem dX10_least_37 : decode cX10_least 37 = .ok (.getfield 16, 3) := by decide +kernel
theorem dX10_least_40 : decode cX10_least 40 = .ok (.iload_n 1, 1) := by decide +kernel
theorem dX10_least_41 : decode cX10_least 41 = .ok (.iaload, 1) := by decide +kernel
theorem dX10_least_42 : decode cX10_least 42 = .ok (.iconst (-1), 1) := by decide +kernel
theorem dX10_least_43 : decode cX10_least 43 = .ok (.ixor, 1) := by decide +kernel
theorem dX10_least_44 : decode cX10_least 44 = .ok (.iand, 1) := by decide +kernel
theorem dX10_least_45 : decode cX10_least 45 = .ok (.ifCond .ne 82, 3) := by decide +kernel
theorem dX10_least_48 : decode cX10_least 48 = .ok (.aload_n 0, 1) := by decide +kernel
theorem dX10_least_49 : decode cX10_least 49 = .ok (.aload_n 0, 1) := by decide +kernel
theorem dX10_least_50 : decode cX10_least 50 = .ok (.getfield 16, 3) := by decide +kernel
theorem dX10_least_53 : decode cX10_least 53 = .ok (.iload_n 1, 1) := by decide +kernel
theorem dX10_least_54 : decode cX10_least 54 = .ok (.iaload, 1) := by decide +kernel
theorem dX10_least_55 : decode cX10_least 55 = .ok (.iload 4, 2) := by decide +kernel
theorem dX10_least_57 : decode cX10_least 57 = .ok (.iconst (-1), 1) := by decide +kernel
theorem dX10_least_58 : decode cX10_least 58 = .ok (.ixor, 1) := by decide +kernel
theorem dX10_least_59 : decode cX10_least 59 = .ok (.iand, 1) := by decide +kernel
theorem dX10_least_60 : decode cX10_least 60 = .ok (.invokevirtual 163, 3) := by decide +kernel
theorem dX10_least_63 : decode cX10_least 63 = .ok (.ifCond .ne 64, 3) := by decide +kernel
theorem dX10_least_66 : decode cX10_least 66 = .ok (.iload 4, 2) := by decide +kernel
theorem dX10_least_68 : decode cX10_least 68 = .ok (.invokestatic 157, 3) := by decide +kernel
theorem dX10_least_71 : decode cX10_least 71 = .ok (.iload_n 3, 1) := by decide +kernel
theorem dX10_least_72 : decode cX10_least 72 = .ok (.invokestatic 157, 3) := by decide +kernel
theorem dX10_least_75 : decode cX10_least 75 = .ok (.isub, 1) := by decide +kernel
theorem dX10_least_76 : decode cX10_least 76 = .ok (.istore 5, 2) := by decide +kernel
theorem dX10_least_78 : decode cX10_least 78 = .ok (.iload 4, 2) := by decide +kernel
theorem dX10_least_80 : decode cX10_least 80 = .ok (.iload_n 2, 1) := by decide +kernel
theorem dX10_least_81 : decode cX10_least 81 = .ok (.iand, 1) := by decide +kernel
theorem dX10_least_82 : decode cX10_least 82 = .ok (.invokestatic 157, 3) := by decide +kernel
theorem dX10_least_85 : decode cX10_least 85 = .ok (.iload_n 3, 1) := by decide +kernel
theorem dX10_least_86 : decode cX10_least 86 = .ok (.iload_n 2, 1) := by decide +kernel
theorem dX10_least_87 : decode cX10_least 87 = .ok (.iand, 1) := by decide +kernel
theorem dX10_least_88 : decode cX10_least 88 = .ok (.invokestatic 157, 3) := by decide +kernel
theorem dX10_least_91 : decode cX10_least 91 = .ok (.isub, 1) := by decide +kernel
theorem dX10_least_92 : decode cX10_least 92 = .ok (.istore 6, 2) := by decide +kernel
theorem dX10_least_94 : decode cX10_least 94 = .ok (.iload 5, 2) := by decide +kernel
theorem dX10_least_96 : decode cX10_least 96 = .ok (.ifCond .lt 24, 3) := by decide +kernel
theorem dX10_least_99 : decode cX10_least 99 = .ok (.iload 5, 2) := by decide +kernel
theorem dX10_least_101 : decode cX10_least 101 = .ok (.ifCond .ne 24, 3) := by decide +kernel
theorem dX10_least_104 : decode cX10_least 104 = .ok (.iload 6, 2) := by decide +kernel
theorem dX10_least_106 : decode cX10_least 106 = .ok (.ifCond .lt 14, 3) := by decide +kernel
theorem dX10_least_109 : decode cX10_least 109 = .ok (.iload 6, 2) := by decide +kernel
theorem dX10_least_111 : decode cX10_least 111 = .ok (.ifCond .ne 14, 3) := by decide +kernel
theorem dX10_least_114 : decode cX10_least 114 = .ok (.iload 4, 2) := by decide +kernel
theorem dX10_least_116 : decode cX10_least 116 = .ok (.iload_n 3, 1) := by decide +kernel
theorem dX10_least_117 : decode cX10_least 117 = .ok (.if_icmp .ge 8, 3) := by decide +kernel
theorem dX10_least_120 : decode cX10_least 120 = .ok (.iload 4, 2) := by decide +kernel
theorem dX10_least_122 : decode cX10_least 122 = .ok (.goto 4, 3) := by decide +kernel
theorem dX10_least_125 : decode cX10_least 125 = .ok (.iload_n 3, 1) := by decide +kernel
theorem dX10_least_126 : decode cX10_least 126 = .ok (.istore_n 3, 1) := by decide +kernel
theorem dX10_least_127 : decode cX10_least 127 = .ok (.iinc 4 1, 3) := by decide +kernel
theorem dX10_least_130 : decode cX10_least 130 = .ok (.goto (-104), 3) := by decide +kernel
theorem dX10_least_133 : decode cX10_least 133 = .ok (.iload_n 3, 1) := by decide +kernel
theorem dX10_least_134 : decode cX10_least 134 = .ok (.ireturn, 1) := by decide +kernel
set_option maxRecDepth 20000 in
theorem ggX10_badRole_X10_isBad : GoodIn wsX10_badRole wsX10_isBad := goodIn_r _ [7, 8, 9, 10, 6, 11, 12, 13, 14, 15, 16, 17, 18, 19, 20, 21, 22, 23, 24, 25, 26, 27, 28, 29, 30, 31, 32, 33, 34, 35, 36, 37, 38, 39, 40, 41, 42, 43] (by decide +kernel) (by decide +kernel)
set_option maxRecDepth 20000 in
theorem gX10_badRole_X10_isBad : GoodIn wsX10_badRole (wsV RX10 163 RX10 yX10_isBad wsX10_isBad) := goodIn_app (goodIn_of _ (by decide +kernel)) ggX10_badRole_X10_isBad
theorem dX10_badRole_0 : decode cX10_badRole 0 = .ok (.iconst 0, 1) := by decide +kernel
theorem dX10_badRole_1 : decode cX10_badRole 1 = .ok (.istore_n 1, 1) := by decide +kernel
theorem dX10_badRole_2 : decode cX10_badRole 2 = .ok (.iload_n 1, 1) := by decide +kernel
theorem dX10_badRole_3 : decode cX10_badRole 3 = .ok (.aload_n 0, 1) := by decide +kernel
theorem dX10_badRole_4 : decode cX10_badRole 4 = .ok (.getfield 138, 3) := by decide +kernel
theorem dX10_badRole_7 : decode cX10_badRole 7 = .ok (.if_icmp .ge 24, 3) := by decide +kernel
theorem dX10_badRole_10 : decode cX10_badRole 10 = .ok (.aload_n 0, 1) := by decide +kernel
theorem dX10_badRole_11 : decode cX10_badRole 11 = .ok (.aload_n 0, 1) := by decide +kernel
theorem dX10_badRole_12 : decode cX10_badRole 12 = .ok (.getfield 51, 3) := by decide +kernel
theorem dX10_badRole_15 : decode cX10_badRole 15 = .ok (.iload_n 1, 1) := by decide +kernel
theorem dX10_badRole_16 : decode cX10_badRole 16 = .ok (.iaload, 1) := by decide +kernel
theorem dX10_badRole_17 : decode cX10_badRole 17 = .ok (.invokevirtual 163, 3) := by decide +kernel
theorem dX10_badRole_20 : decode cX10_badRole 20 = .ok (.ifCond .eq 5, 3) := by decide +kernel
theorem dX10_badRole_23 : decode cX10_badRole 23 = .ok (.iload_n 1, 1) := by decide +kernel
theorem dX10_badRole_24 : decode cX10_badRole 24 = .ok (.ireturn, 1) := by decide +kernel
theorem dX10_badRole_25 : decode cX10_badRole 25 = .ok (.iinc 1 1, 3) := by decide +kernel
theorem dX10_badRole_28 : decode cX10_badRole 28 = .ok (.goto (-26), 3) := by decide +kernel
theorem dX10_badRole_31 : decode cX10_badRole 31 = .ok (.bipush (-9), 2) := by decide +kernel
theorem dX10_badRole_33 : decode cX10_badRole 33 = .ok (.ireturn, 1) := by decide +kernel
set_option maxRecDepth 20000 in
theorem ggX10_plan_X10_keptOf : GoodIn wsX10_plan wsX10_keptOf := goodIn_r _ [9, 4, 10, 11, 8, 12, 13, 14, 15, 16, 17, 18, 19, 20, 21, 22, 23, 24, 28, 29, 30, 31, 32, 33, 34, 35, 36, 37, 38, 39, 40, 41, 42, 43, 44, 45, 46, 47, 48, 49, 50, 51, 52, 53, 54, 55, 56, 57, 58, 59] (by decide +kernel) (by decide +kernel)
set_option maxRecDepth 20000 in
theorem gX10_plan_X10_keptOf : GoodIn wsX10_plan (wsV RX10 115 RX10 yX10_keptOf wsX10_keptOf) := goodIn_app (goodIn_of _ (by decide +kernel)) ggX10_plan_X10_keptOf
set_option maxRecDepth 20000 in
theorem ggX10_plan_X10_bits : GoodIn wsX10_plan wsX10_bits := goodIn_r _ [27] (by decide +kernel) (by decide +kernel)
set_option maxRecDepth 20000 in
theorem gX10_plan_X10_bits : GoodIn wsX10_plan (va_wsS RX10 157 yX10_bits wsX10_bits) := goodIn_app (goodIn_of _ (by decide +kernel)) ggX10_plan_X10_bits
theorem dX10_plan_0 : decode cX10_plan 0 = .ok (.iconst 0, 1) := by decide +kernel
theorem dX10_plan_1 : decode cX10_plan 1 = .ok (.istore_n 2, 1) := by decide +kernel
theorem dX10_plan_2 : decode cX10_plan 2 = .ok (.aload_n 0, 1) := by decide +kernel
theorem dX10_plan_3 : decode cX10_plan 3 = .ok (.aload_n 0, 1) := by decide +kernel
theorem dX10_plan_4 : decode cX10_plan 4 = .ok (.getfield 84, 3) := by decide +kernel
theorem dX10_plan_7 : decode cX10_plan 7 = .ok (.putfield 66, 3) := by decide +kernel
theorem dX10_plan_10 : decode cX10_plan 10 = .ok (.iconst 0, 1) := by decide +kernel
theorem dX10_plan_11 : decode cX10_plan 11 = .ok (.istore_n 3, 1) := by decide +kernel
theorem dX10_plan_12 : decode cX10_plan 12 = .ok (.iload_n 3, 1) := by decide +kernel
theorem dX10_plan_13 : decode cX10_plan 13 = .ok (.aload_n 0, 1) := by decide +kernel
theorem dX10_plan_14 : decode cX10_plan 14 = .ok (.getfield 84, 3) := by decide +kernel
theorem dX10_plan_17 : decode cX10_plan 17 = .ok (.if_icmp .ge 45, 3) := by decide +kernel
theorem dX10_plan_20 : decode cX10_plan 20 = .ok (.aload_n 0, 1) := by decide +kernel
theorem dX10_plan_21 : decode cX10_plan 21 = .ok (.getfield 69, 3) := by decide +kernel
theorem dX10_plan_24 : decode cX10_plan 24 = .ok (.iload_n 3, 1) := by decide +kernel
theorem dX10_plan_25 : decode cX10_plan 25 = .ok (.iload_n 1, 1) := by decide +kernel
theorem dX10_plan_26 : decode cX10_plan 26 = .ok (.ifCond .eq 11, 3) := by decide +kernel
theorem dX10_plan_29 : decode cX10_plan 29 = .ok (.aload_n 0, 1) := by decide +kernel
theorem dX10_plan_30 : decode cX10_plan 30 = .ok (.iload_n 3, 1) := by decide +kernel
theorem dX10_plan_31 : decode cX10_plan 31 = .ok (.invokevirtual 115, 3) := by decide +kernel
theorem dX10_plan_34 : decode cX10_plan 34 = .ok (.goto 9, 3) := by decide +kernel
theorem dX10_plan_37 : decode cX10_plan 37 = .ok (.aload_n 0, 1) := by decide +kernel
theorem dX10_plan_38 : decode cX10_plan 38 = .ok (.getfield 16, 3) := by decide +kernel
theorem dX10_plan_41 : decode cX10_plan 41 = .ok (.iload_n 3, 1) := by decide +kernel
theorem dX10_plan_42 : decode cX10_plan 42 = .ok (.iaload, 1) := by decide +kernel
theorem dX10_plan_43 : decode cX10_plan 43 = .ok (.iastore, 1) := by decide +kernel
theorem dX10_plan_44 : decode cX10_plan 44 = .ok (.iload_n 2, 1) := by decide +kernel
theorem dX10_plan_45 : decode cX10_plan 45 = .ok (.aload_n 0, 1) := by decide +kernel
theorem dX10_plan_46 : decode cX10_plan 46 = .ok (.getfield 69, 3) := by decide +kernel
theorem dX10_plan_49 : decode cX10_plan 49 = .ok (.iload_n 3, 1) := by decide +kernel
theorem dX10_plan_50 : decode cX10_plan 50 = .ok (.iaload, 1) := by decide +kernel
theorem dX10_plan_51 : decode cX10_plan 51 = .ok (.invokestatic 157, 3) := by decide +kernel
theorem dX10_plan_54 : decode cX10_plan 54 = .ok (.iadd, 1) := by decide +kernel
theorem dX10_plan_55 : decode cX10_plan 55 = .ok (.istore_n 2, 1) := by decide +kernel
theorem dX10_plan_56 : decode cX10_plan 56 = .ok (.iinc 3 1, 3) := by decide +kernel
theorem dX10_plan_59 : decode cX10_plan 59 = .ok (.goto (-47), 3) := by decide +kernel
theorem dX10_plan_62 : decode cX10_plan 62 = .ok (.iload_n 2, 1) := by decide +kernel
theorem dX10_plan_63 : decode cX10_plan 63 = .ok (.ireturn, 1) := by decide +kernel
set_option maxRecDepth 20000 in
theorem ggX10_takeOut_X10_isPerson : GoodIn wsX10_takeOut wsX10_isPerson := goodIn_r _ [7, 8, 9, 10, 6, 11, 18, 19, 20, 21, 22, 23, 24, 25, 26, 27, 28, 29, 30, 31, 32, 33, 34, 35, 36, 37, 38, 39, 40, 41, 42, 43, 44, 45, 46, 47, 48, 49] (by decide +kernel) (by decide +kernel)
set_option maxRecDepth 20000 in
theorem gX10_takeOut_X10_isPerson : GoodIn wsX10_takeOut (wsV RX10 95 RX10 yX10_isPerson wsX10_isPerson) := goodIn_app (goodIn_of _ (by decide +kernel)) ggX10_takeOut_X10_isPerson
set_option maxRecDepth 20000 in
theorem ggX10_takeOut_X10_isRight : GoodIn wsX10_takeOut wsX10_isRight := goodIn_r _ [14, 9, 10, 6, 11] (by decide +kernel) (by decide +kernel)
set_option maxRecDepth 20000 in
theorem gX10_takeOut_X10_isRight : GoodIn wsX10_takeOut (va_wsS RX10 122 yX10_isRight wsX10_isRight) := goodIn_app (goodIn_of _ (by decide +kernel)) ggX10_takeOut_X10_isRight
set_option maxRecDepth 20000 in
theorem ggX10_takeOut_X10_has : GoodIn wsX10_takeOut wsX10_has := goodIn_r _ [17] (by decide +kernel) (by decide +kernel)
set_option maxRecDepth 20000 in
theorem gX10_takeOut_X10_has : GoodIn wsX10_takeOut (va_wsS RX10 91 yX10_has wsX10_has) := goodIn_app (goodIn_of _ (by decide +kernel)) ggX10_takeOut_X10_has
theorem dX10_takeOut_0 : decode cX10_takeOut 0 = .ok (.aload_n 0, 1) := by decide +kernel
theorem dX10_takeOut_1 : decode cX10_takeOut 1 = .ok (.iload_n 1, 1) := by decide +kernel
theorem dX10_takeOut_2 : decode cX10_takeOut 2 = .ok (.invokevirtual 95, 3) := by decide +kernel
theorem dX10_takeOut_5 : decode cX10_takeOut 5 = .ok (.ifCond .eq 25, 3) := by decide +kernel
theorem dX10_takeOut_8 : decode cX10_takeOut 8 = .ok (.iload_n 2, 1) := by decide +kernel
theorem dX10_takeOut_9 : decode cX10_takeOut 9 = .ok (.invokestatic 122, 3) := by decide +kernel
theorem dX10_takeOut_12 : decode cX10_takeOut 12 = .ok (.ifCond .eq 18, 3) := by decide +kernel
theorem dX10_takeOut_15 : decode cX10_takeOut 15 = .ok (.aload_n 0, 1) := by decide +kernel
theorem dX10_takeOut_16 : decode cX10_takeOut 16 = .ok (.getfield 66, 3) := by decide +kernel
theorem dX10_takeOut_19 : decode cX10_takeOut 19 = .ok (.ifCond .lt 13, 3) := by decide +kernel
theorem dX10_takeOut_22 : decode cX10_takeOut 22 = .ok (.iload_n 1, 1) := by decide +kernel
theorem dX10_takeOut_23 : decode cX10_takeOut 23 = .ok (.aload_n 0, 1) := by decide +kernel
theorem dX10_takeOut_24 : decode cX10_takeOut 24 = .ok (.getfield 66, 3) := by decide +kernel
theorem dX10_takeOut_27 : decode cX10_takeOut 27 = .ok (.if_icmp .lt 5, 3) := by decide +kernel
theorem dX10_takeOut_30 : decode cX10_takeOut 30 = .ok (.iconst (-1), 1) := by decide +kernel
theorem dX10_takeOut_31 : decode cX10_takeOut 31 = .ok (.ireturn, 1) := by decide +kernel
theorem dX10_takeOut_32 : decode cX10_takeOut 32 = .ok (.aload_n 0, 1) := by decide +kernel
theorem dX10_takeOut_33 : decode cX10_takeOut 33 = .ok (.getfield 66, 3) := by decide +kernel
theorem dX10_takeOut_36 : decode cX10_takeOut 36 = .ok (.ifCond .ge 6, 3) := by decide +kernel
theorem dX10_takeOut_39 : decode cX10_takeOut 39 = .ok (.bipush (-4), 2) := by decide +kernel
theorem dX10_takeOut_41 : decode cX10_takeOut 41 = .ok (.ireturn, 1) := by decide +kernel
theorem dX10_takeOut_42 : decode cX10_takeOut 42 = .ok (.aload_n 0, 1) := by decide +kernel
theorem dX10_takeOut_43 : decode cX10_takeOut 43 = .ok (.getfield 69, 3) := by decide +kernel
theorem dX10_takeOut_46 : decode cX10_takeOut 46 = .ok (.iload_n 1, 1) := by decide +kernel
theorem dX10_takeOut_47 : decode cX10_takeOut 47 = .ok (.iaload, 1) := by decide +kernel
theorem dX10_takeOut_48 : decode cX10_takeOut 48 = .ok (.iload_n 2, 1) := by decide +kernel
theorem dX10_takeOut_49 : decode cX10_takeOut 49 = .ok (.invokestatic 91, 3) := by decide +kernel
theorem dX10_takeOut_52 : decode cX10_takeOut 52 = .ok (.ifCond .eq 7, 3) := by decide +kernel
theorem dX10_takeOut_55 : decode cX10_takeOut 55 = .ok (.iconst 1, 1) := by decide +kernel
theorem dX10_takeOut_56 : decode cX10_takeOut 56 = .ok (.goto 4, 3) := by decide +kernel
theorem dX10_takeOut_59 : decode cX10_takeOut 59 = .ok (.iconst 0, 1) := by decide +kernel
theorem dX10_takeOut_60 : decode cX10_takeOut 60 = .ok (.istore_n 3, 1) := by decide +kernel
theorem dX10_takeOut_61 : decode cX10_takeOut 61 = .ok (.aload_n 0, 1) := by decide +kernel
theorem dX10_takeOut_62 : decode cX10_takeOut 62 = .ok (.getfield 69, 3) := by decide +kernel
theorem dX10_takeOut_65 : decode cX10_takeOut 65 = .ok (.iload_n 1, 1) := by decide +kernel
theorem dX10_takeOut_66 : decode cX10_takeOut 66 = .ok (.dup2, 1) := by decide +kernel
theorem dX10_takeOut_67 : decode cX10_takeOut 67 = .ok (.iaload, 1) := by decide +kernel
theorem dX10_takeOut_68 : decode cX10_takeOut 68 = .ok (.iconst 1, 1) := by decide +kernel
theorem dX10_takeOut_69 : decode cX10_takeOut 69 = .ok (.iload_n 2, 1) := by decide +kernel
theorem dX10_takeOut_70 : decode cX10_takeOut 70 = .ok (.ishl, 1) := by decide +kernel
theorem dX10_takeOut_71 : decode cX10_takeOut 71 = .ok (.iconst (-1), 1) := by decide +kernel
theorem dX10_takeOut_72 : decode cX10_takeOut 72 = .ok (.ixor, 1) := by decide +kernel
theorem dX10_takeOut_73 : decode cX10_takeOut 73 = .ok (.iand, 1) := by decide +kernel
theorem dX10_takeOut_74 : decode cX10_takeOut 74 = .ok (.iastore, 1) := by decide +kernel
theorem dX10_takeOut_75 : decode cX10_takeOut 75 = .ok (.iload_n 3, 1) := by decide +kernel
theorem dX10_takeOut_76 : decode cX10_takeOut 76 = .ok (.ireturn, 1) := by decide +kernel
set_option maxRecDepth 20000 in
theorem ggX10_isStopped_X10_has : GoodIn wsX10_isStopped wsX10_has := goodIn_r _ [10] (by decide +kernel) (by decide +kernel)
set_option maxRecDepth 20000 in
theorem gX10_isStopped_X10_has : GoodIn wsX10_isStopped (va_wsS RX10 91 yX10_has wsX10_has) := goodIn_app (goodIn_of _ (by decide +kernel)) ggX10_isStopped_X10_has
theorem dX10_isStopped_0 : decode cX10_isStopped 0 = .ok (.aload_n 0, 1) := by decide +kernel
theorem dX10_isStopped_1 : decode cX10_isStopped 1 = .ok (.getfield 32, 3) := by decide +kernel
theorem dX10_isStopped_4 : decode cX10_isStopped 4 = .ok (.iload_n 1, 1) := by decide +kernel
theorem dX10_isStopped_5 : decode cX10_isStopped 5 = .ok (.iaload, 1) := by decide +kernel
theorem dX10_isStopped_6 : decode cX10_isStopped 6 = .ok (.istore_n 3, 1) := by decide +kernel
theorem dX10_isStopped_7 : decode cX10_isStopped 7 = .ok (.aload_n 0, 1) := by decide +kernel
theorem dX10_isStopped_8 : decode cX10_isStopped 8 = .ok (.getfield 106, 3) := by decide +kernel
theorem dX10_isStopped_11 : decode cX10_isStopped 11 = .ok (.aload_n 0, 1) := by decide +kernel
theorem dX10_isStopped_12 : decode cX10_isStopped 12 = .ok (.getfield 38, 3) := by decide +kernel
theorem dX10_isStopped_15 : decode cX10_isStopped 15 = .ok (.iload_n 1, 1) := by decide +kernel
theorem dX10_isStopped_16 : decode cX10_isStopped 16 = .ok (.iaload, 1) := by decide +kernel
theorem dX10_isStopped_17 : decode cX10_isStopped 17 = .ok (.isub, 1) := by decide +kernel
theorem dX10_isStopped_18 : decode cX10_isStopped 18 = .ok (.iload_n 2, 1) := by decide +kernel
theorem dX10_isStopped_19 : decode cX10_isStopped 19 = .ok (.if_icmp .ge 33, 3) := by decide +kernel
theorem dX10_isStopped_22 : decode cX10_isStopped 22 = .ok (.iload_n 3, 1) := by decide +kernel
theorem dX10_isStopped_23 : decode cX10_isStopped 23 = .ok (.aload_n 0, 1) := by decide +kernel
theorem dX10_isStopped_24 : decode cX10_isStopped 24 = .ok (.getfield 66, 3) := by decide +kernel
theorem dX10_isStopped_27 : decode cX10_isStopped 27 = .ok (.if_icmp .ge 21, 3) := by decide +kernel
theorem dX10_isStopped_30 : decode cX10_isStopped 30 = .ok (.aload_n 0, 1) := by decide +kernel
theorem dX10_isStopped_31 : decode cX10_isStopped 31 = .ok (.getfield 69, 3) := by decide +kernel
theorem dX10_isStopped_34 : decode cX10_isStopped 34 = .ok (.iload_n 3, 1) := by decide +kernel
theorem dX10_isStopped_35 : decode cX10_isStopped 35 = .ok (.iaload, 1) := by decide +kernel
theorem dX10_isStopped_36 : decode cX10_isStopped 36 = .ok (.aload_n 0, 1) := by decide +kernel
theorem dX10_isStopped_37 : decode cX10_isStopped 37 = .ok (.getfield 35, 3) := by decide +kernel
theorem dX10_isStopped_40 : decode cX10_isStopped 40 = .ok (.iload_n 1, 1) := by decide +kernel
theorem dX10_isStopped_41 : decode cX10_isStopped 41 = .ok (.iaload, 1) := by decide +kernel
theorem dX10_isStopped_42 : decode cX10_isStopped 42 = .ok (.invokestatic 91, 3) := by decide +kernel
theorem dX10_isStopped_45 : decode cX10_isStopped 45 = .ok (.ifCond .ne 7, 3) := by decide +kernel
theorem dX10_isStopped_48 : decode cX10_isStopped 48 = .ok (.iconst 1, 1) := by decide +kernel
theorem dX10_isStopped_49 : decode cX10_isStopped 49 = .ok (.goto 4, 3) := by decide +kernel
theorem dX10_isStopped_52 : decode cX10_isStopped 52 = .ok (.iconst 0, 1) := by decide +kernel
theorem dX10_isStopped_53 : decode cX10_isStopped 53 = .ok (.ireturn, 1) := by decide +kernel
set_option maxRecDepth 20000 in
theorem ggX10_stopped_X10_in : GoodIn wsX10_stopped wsX10_in := goodIn_r _ [6] (by decide +kernel) (by decide +kernel)
set_option maxRecDepth 20000 in
theorem gX10_stopped_X10_in : GoodIn wsX10_stopped (va_wsS RX10 87 yX10_in wsX10_in) := goodIn_app (goodIn_of _ (by decide +kernel)) ggX10_stopped_X10_in
set_option maxRecDepth 20000 in
theorem ggX10_stopped_X10_isStopped : GoodIn wsX10_stopped wsX10_isStopped := goodIn_r _ [10, 11, 12, 13, 1, 14, 15, 16, 17, 5, 18, 19, 20, 21, 22, 23, 24, 25, 26, 27, 28, 29, 30, 31, 32, 33, 34, 35, 36, 37, 38, 39, 40, 41, 42, 43, 44, 45, 46, 47, 48, 49, 50] (by decide +kernel) (by decide +kernel)
set_option maxRecDepth 20000 in
theorem gX10_stopped_X10_isStopped : GoodIn wsX10_stopped (wsV RX10 166 RX10 yX10_isStopped wsX10_isStopped) := goodIn_app (goodIn_of _ (by decide +kernel)) ggX10_stopped_X10_isStopped
theorem dX10_stopped_0 : decode cX10_stopped 0 = .ok (.iload_n 1, 1) := by decide +kernel
theorem dX10_stopped_1 : decode cX10_stopped 1 = .ok (.iconst 1, 1) := by decide +kernel
theorem dX10_stopped_2 : decode cX10_stopped 2 = .ok (.sipush 1000, 3) := by decide +kernel
theorem dX10_stopped_5 : decode cX10_stopped 5 = .ok (.invokestatic 87, 3) := by decide +kernel
theorem dX10_stopped_8 : decode cX10_stopped 8 = .ok (.ifCond .ne 5, 3) := by decide +kernel
theorem dX10_stopped_11 : decode cX10_stopped 11 = .ok (.iconst (-1), 1) := by decide +kernel
theorem dX10_stopped_12 : decode cX10_stopped 12 = .ok (.ireturn, 1) := by decide +kernel
theorem dX10_stopped_13 : decode cX10_stopped 13 = .ok (.aload_n 0, 1) := by decide +kernel
theorem dX10_stopped_14 : decode cX10_stopped 14 = .ok (.getfield 66, 3) := by decide +kernel
theorem dX10_stopped_17 : decode cX10_stopped 17 = .ok (.ifCond .ge 6, 3) := by decide +kernel
theorem dX10_stopped_20 : decode cX10_stopped 20 = .ok (.bipush (-4), 2) := by decide +kernel
theorem dX10_stopped_22 : decode cX10_stopped 22 = .ok (.ireturn, 1) := by decide +kernel
theorem dX10_stopped_23 : decode cX10_stopped 23 = .ok (.iconst 0, 1) := by decide +kernel
theorem dX10_stopped_24 : decode cX10_stopped 24 = .ok (.istore_n 2, 1) := by decide +kernel
theorem dX10_stopped_25 : decode cX10_stopped 25 = .ok (.iconst 0, 1) := by decide +kernel
theorem dX10_stopped_26 : decode cX10_stopped 26 = .ok (.istore_n 3, 1) := by decide +kernel
theorem dX10_stopped_27 : decode cX10_stopped 27 = .ok (.iload_n 3, 1) := by decide +kernel
theorem dX10_stopped_28 : decode cX10_stopped 28 = .ok (.aload_n 0, 1) := by decide +kernel
theorem dX10_stopped_29 : decode cX10_stopped 29 = .ok (.getfield 103, 3) := by decide +kernel
theorem dX10_stopped_32 : decode cX10_stopped 32 = .ok (.if_icmp .ge 26, 3) := by decide +kernel
theorem dX10_stopped_35 : decode cX10_stopped 35 = .ok (.iload_n 2, 1) := by decide +kernel
theorem dX10_stopped_36 : decode cX10_stopped 36 = .ok (.aload_n 0, 1) := by decide +kernel
theorem dX10_stopped_37 : decode cX10_stopped 37 = .ok (.iload_n 3, 1) := by decide +kernel
theorem dX10_stopped_38 : decode cX10_stopped 38 = .ok (.iload_n 1, 1) := by decide +kernel
theorem dX10_stopped_39 : decode cX10_stopped 39 = .ok (.invokevirtual 166, 3) := by decide +kernel
theorem dX10_stopped_42 : decode cX10_stopped 42 = .ok (.ifCond .eq 7, 3) := by decide +kernel
theorem dX10_stopped_45 : decode cX10_stopped 45 = .ok (.iconst 1, 1) := by decide +kernel
theorem dX10_stopped_46 : decode cX10_stopped 46 = .ok (.goto 4, 3) := by decide +kernel
theorem dX10_stopped_49 : decode cX10_stopped 49 = .ok (.iconst 0, 1) := by decide +kernel
theorem dX10_stopped_50 : decode cX10_stopped 50 = .ok (.iadd, 1) := by decide +kernel
theorem dX10_stopped_51 : decode cX10_stopped 51 = .ok (.istore_n 2, 1) := by decide +kernel
theorem dX10_stopped_52 : decode cX10_stopped 52 = .ok (.iinc 3 1, 3) := by decide +kernel
theorem dX10_stopped_55 : decode cX10_stopped 55 = .ok (.goto (-28), 3) := by decide +kernel
theorem dX10_stopped_58 : decode cX10_stopped 58 = .ok (.iload_n 2, 1) := by decide +kernel
theorem dX10_stopped_59 : decode cX10_stopped 59 = .ok (.ireturn, 1) := by decide +kernel
set_option maxRecDepth 20000 in
theorem ggX10_stop_X10_in : GoodIn wsX10_stop wsX10_in := goodIn_r _ [6] (by decide +kernel) (by decide +kernel)
set_option maxRecDepth 20000 in
theorem gX10_stop_X10_in : GoodIn wsX10_stop (va_wsS RX10 87 yX10_in wsX10_in) := goodIn_app (goodIn_of _ (by decide +kernel)) ggX10_stop_X10_in
set_option maxRecDepth 20000 in
theorem ggX10_stop_X10_isStopped : GoodIn wsX10_stop wsX10_isStopped := goodIn_r _ [10, 11, 12, 13, 1, 14, 15, 16, 17, 5, 18, 19, 20, 21, 22, 23, 24, 25, 26, 27, 28, 29, 30, 31, 32, 33, 34, 35, 36, 37, 38, 39, 40, 41, 42, 43, 44, 45, 46, 47, 48, 49, 50] (by decide +kernel) (by decide +kernel)
set_option maxRecDepth 20000 in
theorem gX10_stop_X10_isStopped : GoodIn wsX10_stop (wsV RX10 166 RX10 yX10_isStopped wsX10_isStopped) := goodIn_app (goodIn_of _ (by decide +kernel)) ggX10_stop_X10_isStopped
theorem dX10_stop_0 : decode cX10_stop 0 = .ok (.iload_n 1, 1) := by decide +kernel
theorem dX10_stop_1 : decode cX10_stop 1 = .ok (.iconst 1, 1) := by decide +kernel
theorem dX10_stop_2 : decode cX10_stop 2 = .ok (.sipush 1000, 3) := by decide +kernel
theorem dX10_stop_5 : decode cX10_stop 5 = .ok (.invokestatic 87, 3) := by decide +kernel
theorem dX10_stop_8 : decode cX10_stop 8 = .ok (.ifCond .eq 7, 3) := by decide +kernel
theorem dX10_stop_11 : decode cX10_stop 11 = .ok (.iload_n 2, 1) := by decide +kernel
theorem dX10_stop_12 : decode cX10_stop 12 = .ok (.ifCond .ge 5, 3) := by decide +kernel
theorem dX10_stop_15 : decode cX10_stop 15 = .ok (.iconst (-1), 1) := by decide +kernel
theorem dX10_stop_16 : decode cX10_stop 16 = .ok (.ireturn, 1) := by decide +kernel
theorem dX10_stop_17 : decode cX10_stop 17 = .ok (.aload_n 0, 1) := by decide +kernel
theorem dX10_stop_18 : decode cX10_stop 18 = .ok (.getfield 66, 3) := by decide +kernel
theorem dX10_stop_21 : decode cX10_stop 21 = .ok (.ifCond .ge 6, 3) := by decide +kernel
theorem dX10_stop_24 : decode cX10_stop 24 = .ok (.bipush (-4), 2) := by decide +kernel
theorem dX10_stop_26 : decode cX10_stop 26 = .ok (.ireturn, 1) := by decide +kernel
theorem dX10_stop_27 : decode cX10_stop 27 = .ok (.iload_n 2, 1) := by decide +kernel
theorem dX10_stop_28 : decode cX10_stop 28 = .ok (.istore_n 3, 1) := by decide +kernel
theorem dX10_stop_29 : decode cX10_stop 29 = .ok (.iload_n 3, 1) := by decide +kernel
theorem dX10_stop_30 : decode cX10_stop 30 = .ok (.aload_n 0, 1) := by decide +kernel
theorem dX10_stop_31 : decode cX10_stop 31 = .ok (.getfield 103, 3) := by decide +kernel
theorem dX10_stop_34 : decode cX10_stop 34 = .ok (.if_icmp .ge 20, 3) := by decide +kernel
theorem dX10_stop_37 : decode cX10_stop 37 = .ok (.aload_n 0, 1) := by decide +kernel
theorem dX10_stop_38 : decode cX10_stop 38 = .ok (.iload_n 3, 1) := by decide +kernel
theorem dX10_stop_39 : decode cX10_stop 39 = .ok (.iload_n 1, 1) := by decide +kernel
theorem dX10_stop_40 : decode cX10_stop 40 = .ok (.invokevirtual 166, 3) := by decide +kernel
theorem dX10_stop_43 : decode cX10_stop 43 = .ok (.ifCond .eq 5, 3) := by decide +kernel
theorem dX10_stop_46 : decode cX10_stop 46 = .ok (.iload_n 3, 1) := by decide +kernel
theorem dX10_stop_47 : decode cX10_stop 47 = .ok (.ireturn, 1) := by decide +kernel
theorem dX10_stop_48 : decode cX10_stop 48 = .ok (.iinc 3 1, 3) := by decide +kernel
theorem dX10_stop_51 : decode cX10_stop 51 = .ok (.goto (-22), 3) := by decide +kernel
theorem dX10_stop_54 : decode cX10_stop 54 = .ok (.bipush (-9), 2) := by decide +kernel
theorem dX10_stop_56 : decode cX10_stop 56 = .ok (.ireturn, 1) := by decide +kernel
set_option maxRecDepth 20000 in
theorem ggX10_used_X10_in : GoodIn wsX10_used wsX10_in := goodIn_r _ [8] (by decide +kernel) (by decide +kernel)
set_option maxRecDepth 20000 in
theorem gX10_used_X10_in : GoodIn wsX10_used (va_wsS RX10 87 yX10_in wsX10_in) := goodIn_app (goodIn_of _ (by decide +kernel)) ggX10_used_X10_in
theorem dX10_used_0 : decode cX10_used 0 = .ok (.iload_n 1, 1) := by decide +kernel
theorem dX10_used_1 : decode cX10_used 1 = .ok (.iconst 0, 1) := by decide +kernel
theorem dX10_used_2 : decode cX10_used 2 = .ok (.aload_n 0, 1) := by decide +kernel
theorem dX10_used_3 : decode cX10_used 3 = .ok (.getfield 103, 3) := by decide +kernel
theorem dX10_used_6 : decode cX10_used 6 = .ok (.iconst 1, 1) := by decide +kernel
theorem dX10_used_7 : decode cX10_used 7 = .ok (.isub, 1) := by decide +kernel
theorem dX10_used_8 : decode cX10_used 8 = .ok (.invokestatic 87, 3) := by decide +kernel
theorem dX10_used_11 : decode cX10_used 11 = .ok (.ifCond .eq 12, 3) := by decide +kernel
theorem dX10_used_14 : decode cX10_used 14 = .ok (.iload_n 2, 1) := by decide +kernel
theorem dX10_used_15 : decode cX10_used 15 = .ok (.iconst 0, 1) := by decide +kernel
theorem dX10_used_16 : decode cX10_used 16 = .ok (.iconst 2, 1) := by decide +kernel
theorem dX10_used_17 : decode cX10_used 17 = .ok (.invokestatic 87, 3) := by decide +kernel
theorem dX10_used_20 : decode cX10_used 20 = .ok (.ifCond .ne 5, 3) := by decide +kernel
theorem dX10_used_23 : decode cX10_used 23 = .ok (.iconst (-1), 1) := by decide +kernel
theorem dX10_used_24 : decode cX10_used 24 = .ok (.ireturn, 1) := by decide +kernel
theorem dX10_used_25 : decode cX10_used 25 = .ok (.iload_n 2, 1) := by decide +kernel
theorem dX10_used_26 : decode cX10_used 26 = .ok (.ifCond .ne 12, 3) := by decide +kernel
theorem dX10_used_29 : decode cX10_used 29 = .ok (.aload_n 0, 1) := by decide +kernel
theorem dX10_used_30 : decode cX10_used 30 = .ok (.getfield 32, 3) := by decide +kernel
theorem dX10_used_33 : decode cX10_used 33 = .ok (.iload_n 1, 1) := by decide +kernel
theorem dX10_used_34 : decode cX10_used 34 = .ok (.iaload, 1) := by decide +kernel
theorem dX10_used_35 : decode cX10_used 35 = .ok (.goto 23, 3) := by decide +kernel
theorem dX10_used_38 : decode cX10_used 38 = .ok (.iload_n 2, 1) := by decide +kernel
theorem dX10_used_39 : decode cX10_used 39 = .ok (.iconst 1, 1) := by decide +kernel
theorem dX10_used_40 : decode cX10_used 40 = .ok (.if_icmp .ne 12, 3) := by decide +kernel
theorem dX10_used_43 : decode cX10_used 43 = .ok (.aload_n 0, 1) := by decide +kernel
theorem dX10_used_44 : decode cX10_used 44 = .ok (.getfield 35, 3) := by decide +kernel
theorem dX10_used_47 : decode cX10_used 47 = .ok (.iload_n 1, 1) := by decide +kernel
theorem dX10_used_48 : decode cX10_used 48 = .ok (.iaload, 1) := by decide +kernel
theorem dX10_used_49 : decode cX10_used 49 = .ok (.goto 9, 3) := by decide +kernel
theorem dX10_used_52 : decode cX10_used 52 = .ok (.aload_n 0, 1) := by decide +kernel
theorem dX10_used_53 : decode cX10_used 53 = .ok (.getfield 38, 3) := by decide +kernel
theorem dX10_used_56 : decode cX10_used 56 = .ok (.iload_n 1, 1) := by decide +kernel
theorem dX10_used_57 : decode cX10_used 57 = .ok (.iaload, 1) := by decide +kernel
theorem dX10_used_58 : decode cX10_used 58 = .ok (.ireturn, 1) := by decide +kernel
set_option maxRecDepth 20000 in
theorem ggX10_apply_X10_strikeBut : GoodIn wsX10_apply wsX10_strikeBut := goodIn_r _ [8, 9, 10, 11, 12, 13, 7, 14, 19, 20, 21, 22, 23, 24, 25, 26, 27, 28, 29, 30, 31, 32, 33, 34, 35, 36, 37, 38, 39, 40, 41, 42, 43, 44, 45, 46, 47, 48, 49, 50] (by decide +kernel) (by decide +kernel)
set_option maxRecDepth 20000 in
theorem gX10_apply_X10_strikeBut : GoodIn wsX10_apply (wsV RX10 128 RX10 yX10_strikeBut wsX10_strikeBut) := goodIn_app (goodIn_of _ (by decide +kernel)) ggX10_apply_X10_strikeBut
set_option maxRecDepth 20000 in
theorem ggX10_apply_X10_give : GoodIn wsX10_apply wsX10_give := goodIn_r _ [18, 9, 10, 12, 13, 7, 14, 19, 20, 21, 22, 23, 24, 25, 26, 27, 28, 29, 30, 31, 32, 33, 34, 35, 36, 37, 38, 39, 40, 41, 42, 43, 44, 45, 46, 47, 48, 49, 50] (by decide +kernel) (by decide +kernel)
set_option maxRecDepth 20000 in
theorem gX10_apply_X10_give : GoodIn wsX10_apply (wsV RX10 99 RX10 yX10_give wsX10_give) := goodIn_app (goodIn_of _ (by decide +kernel)) ggX10_apply_X10_give
theorem dX10_apply_0 : decode cX10_apply 0 = .ok (.aload_n 0, 1) := by decide +kernel
theorem dX10_apply_1 : decode cX10_apply 1 = .ok (.getfield 66, 3) := by decide +kernel
theorem dX10_apply_4 : decode cX10_apply 4 = .ok (.aload_n 0, 1) := by decide +kernel
theorem dX10_apply_5 : decode cX10_apply 5 = .ok (.getfield 84, 3) := by decide +kernel
theorem dX10_apply_8 : decode cX10_apply 8 = .ok (.if_icmp .eq 6, 3) := by decide +kernel
theorem dX10_apply_11 : decode cX10_apply 11 = .ok (.bipush (-4), 2) := by decide +kernel
theorem dX10_apply_13 : decode cX10_apply 13 = .ok (.ireturn, 1) := by decide +kernel
theorem dX10_apply_14 : decode cX10_apply 14 = .ok (.iconst 0, 1) := by decide +kernel
theorem dX10_apply_15 : decode cX10_apply 15 = .ok (.istore_n 1, 1) := by decide +kernel
theorem dX10_apply_16 : decode cX10_apply 16 = .ok (.iconst 0, 1) := by decide +kernel
theorem dX10_apply_17 : decode cX10_apply 17 = .ok (.istore_n 2, 1) := by decide +kernel
theorem dX10_apply_18 : decode cX10_apply 18 = .ok (.iload_n 2, 1) := by decide +kernel
theorem dX10_apply_19 : decode cX10_apply 19 = .ok (.aload_n 0, 1) := by decide +kernel
theorem dX10_apply_20 : decode cX10_apply 20 = .ok (.getfield 84, 3) := by decide +kernel
theorem dX10_apply_23 : decode cX10_apply 23 = .ok (.if_icmp .ge 35, 3) := by decide +kernel
theorem dX10_apply_26 : decode cX10_apply 26 = .ok (.iload_n 1, 1) := by decide +kernel
theorem dX10_apply_27 : decode cX10_apply 27 = .ok (.aload_n 0, 1) := by decide +kernel
theorem dX10_apply_28 : decode cX10_apply 28 = .ok (.iload_n 2, 1) := by decide +kernel
theorem dX10_apply_29 : decode cX10_apply 29 = .ok (.aload_n 0, 1) := by decide +kernel
theorem dX10_apply_30 : decode cX10_apply 30 = .ok (.getfield 69, 3) := by decide +kernel
theorem dX10_apply_33 : decode cX10_apply 33 = .ok (.iload_n 2, 1) := by decide +kernel
theorem dX10_apply_34 : decode cX10_apply 34 = .ok (.iaload, 1) := by decide +kernel
theorem dX10_apply_35 : decode cX10_apply 35 = .ok (.invokevirtual 128, 3) := by decide +kernel
theorem dX10_apply_38 : decode cX10_apply 38 = .ok (.iadd, 1) := by decide +kernel
theorem dX10_apply_39 : decode cX10_apply 39 = .ok (.istore_n 1, 1) := by decide +kernel
theorem dX10_apply_40 : decode cX10_apply 40 = .ok (.aload_n 0, 1) := by decide +kernel
theorem dX10_apply_41 : decode cX10_apply 41 = .ok (.iload_n 2, 1) := by decide +kernel
theorem dX10_apply_42 : decode cX10_apply 42 = .ok (.aload_n 0, 1) := by decide +kernel
theorem dX10_apply_43 : decode cX10_apply 43 = .ok (.getfield 69, 3) := by decide +kernel
theorem dX10_apply_46 : decode cX10_apply 46 = .ok (.iload_n 2, 1) := by decide +kernel
theorem dX10_apply_47 : decode cX10_apply 47 = .ok (.iaload, 1) := by decide +kernel
theorem dX10_apply_48 : decode cX10_apply 48 = .ok (.invokevirtual 99, 3) := by decide +kernel
theorem dX10_apply_51 : decode cX10_apply 51 = .ok (.istore_n 3, 1) := by decide +kernel
theorem dX10_apply_52 : decode cX10_apply 52 = .ok (.iinc 2 1, 3) := by decide +kernel
theorem dX10_apply_55 : decode cX10_apply 55 = .ok (.goto (-37), 3) := by decide +kernel
theorem dX10_apply_58 : decode cX10_apply 58 = .ok (.iload_n 1, 1) := by decide +kernel
theorem dX10_apply_59 : decode cX10_apply 59 = .ok (.ireturn, 1) := by decide +kernel
set_option maxRecDepth 20000 in
theorem ggX10_isSheet_X10_in : GoodIn wsX10_isSheet wsX10_in := goodIn_r _ [4] (by decide +kernel) (by decide +kernel)
set_option maxRecDepth 20000 in
theorem gX10_isSheet_X10_in : GoodIn wsX10_isSheet (va_wsS RX10 87 yX10_in wsX10_in) := goodIn_app (goodIn_of _ (by decide +kernel)) ggX10_isSheet_X10_in
theorem dX10_isSheet_0 : decode cX10_isSheet 0 = .ok (.iload_n 0, 1) := by decide +kernel
theorem dX10_isSheet_1 : decode cX10_isSheet 1 = .ok (.iconst 0, 1) := by decide +kernel
theorem dX10_isSheet_2 : decode cX10_isSheet 2 = .ok (.iconst 3, 1) := by decide +kernel
theorem dX10_isSheet_3 : decode cX10_isSheet 3 = .ok (.invokestatic 87, 3) := by decide +kernel
theorem dX10_isSheet_6 : decode cX10_isSheet 6 = .ok (.ireturn, 1) := by decide +kernel
set_option maxRecDepth 20000 in
theorem ggX10_sheet_X10_isSheet : GoodIn wsX10_sheet wsX10_isSheet := goodIn_r _ [6, 7, 8, 5, 9] (by decide +kernel) (by decide +kernel)
set_option maxRecDepth 20000 in
theorem gX10_sheet_X10_isSheet : GoodIn wsX10_sheet (va_wsS RX10 169 yX10_isSheet wsX10_isSheet) := goodIn_app (goodIn_of _ (by decide +kernel)) ggX10_sheet_X10_isSheet
set_option maxRecDepth 20000 in
theorem ggX10_sheet_X10_meets : GoodIn wsX10_sheet wsX10_meets := goodIn_r _ [13, 14, 15, 16, 17, 18, 19, 20, 21, 22, 23, 24, 25, 26, 27, 28, 29, 30, 31, 32, 33, 34, 35, 36, 37, 38, 39, 40, 41, 42, 43, 44, 45, 46, 47] (by decide +kernel) (by decide +kernel)
set_option maxRecDepth 20000 in
theorem gX10_sheet_X10_meets : GoodIn wsX10_sheet (wsV RX10 125 RX10 yX10_meets wsX10_meets) := goodIn_app (goodIn_of _ (by decide +kernel)) ggX10_sheet_X10_meets
theorem dX10_sheet_0 : decode cX10_sheet 0 = .ok (.iload_n 1, 1) := by decide +kernel
theorem dX10_sheet_1 : decode cX10_sheet 1 = .ok (.invokestatic 169, 3) := by decide +kernel
theorem dX10_sheet_4 : decode cX10_sheet 4 = .ok (.ifCond .eq 9, 3) := by decide +kernel
theorem dX10_sheet_7 : decode cX10_sheet 7 = .ok (.iload_n 2, 1) := by decide +kernel
theorem dX10_sheet_8 : decode cX10_sheet 8 = .ok (.bipush 10, 2) := by decide +kernel
theorem dX10_sheet_10 : decode cX10_sheet 10 = .ok (.if_icmp .le 5, 3) := by decide +kernel
theorem dX10_sheet_13 : decode cX10_sheet 13 = .ok (.iconst (-1), 1) := by decide +kernel
theorem dX10_sheet_14 : decode cX10_sheet 14 = .ok (.ireturn, 1) := by decide +kernel
theorem dX10_sheet_15 : decode cX10_sheet 15 = .ok (.iload_n 2, 1) := by decide +kernel
theorem dX10_sheet_16 : decode cX10_sheet 16 = .ok (.ifCond .ge 9, 3) := by decide +kernel
theorem dX10_sheet_19 : decode cX10_sheet 19 = .ok (.aload_n 0, 1) := by decide +kernel
theorem dX10_sheet_20 : decode cX10_sheet 20 = .ok (.iconst 4, 1) := by decide +kernel
theorem dX10_sheet_21 : decode cX10_sheet 21 = .ok (.invokevirtual 125, 3) := by decide +kernel
theorem dX10_sheet_24 : decode cX10_sheet 24 = .ok (.ireturn, 1) := by decide +kernel
theorem dX10_sheet_25 : decode cX10_sheet 25 = .ok (.aload_n 0, 1) := by decide +kernel
theorem dX10_sheet_26 : decode cX10_sheet 26 = .ok (.getfield 72, 3) := by decide +kernel
theorem dX10_sheet_29 : decode cX10_sheet 29 = .ok (.iload_n 1, 1) := by decide +kernel
theorem dX10_sheet_30 : decode cX10_sheet 30 = .ok (.iload_n 2, 1) := by decide +kernel
theorem dX10_sheet_31 : decode cX10_sheet 31 = .ok (.iastore, 1) := by decide +kernel
theorem dX10_sheet_32 : decode cX10_sheet 32 = .ok (.iconst 0, 1) := by decide +kernel
theorem dX10_sheet_33 : decode cX10_sheet 33 = .ok (.istore_n 3, 1) := by decide +kernel
theorem dX10_sheet_34 : decode cX10_sheet 34 = .ok (.iload_n 3, 1) := by decide +kernel
theorem dX10_sheet_35 : decode cX10_sheet 35 = .ok (.bipush 10, 2) := by decide +kernel
theorem dX10_sheet_37 : decode cX10_sheet 37 = .ok (.if_icmp .ge 21, 3) := by decide +kernel
theorem dX10_sheet_40 : decode cX10_sheet 40 = .ok (.aload_n 0, 1) := by decide +kernel
theorem dX10_sheet_41 : decode cX10_sheet 41 = .ok (.getfield 75, 3) := by decide +kernel
theorem dX10_sheet_44 : decode cX10_sheet 44 = .ok (.bipush 10, 2) := by decide +kernel
theorem dX10_sheet_46 : decode cX10_sheet 46 = .ok (.iload_n 1, 1) := by decide +kernel
theorem dX10_sheet_47 : decode cX10_sheet 47 = .ok (.imul, 1) := by decide +kernel
theorem dX10_sheet_48 : decode cX10_sheet 48 = .ok (.iload_n 3, 1) := by decide +kernel
theorem dX10_sheet_49 : decode cX10_sheet 49 = .ok (.iadd, 1) := by decide +kernel
theorem dX10_sheet_50 : decode cX10_sheet 50 = .ok (.iconst 0, 1) := by decide +kernel
theorem dX10_sheet_51 : decode cX10_sheet 51 = .ok (.iastore, 1) := by decide +kernel
theorem dX10_sheet_52 : decode cX10_sheet 52 = .ok (.iinc 3 1, 3) := by decide +kernel
theorem dX10_sheet_55 : decode cX10_sheet 55 = .ok (.goto (-21), 3) := by decide +kernel
theorem dX10_sheet_58 : decode cX10_sheet 58 = .ok (.iload_n 2, 1) := by decide +kernel
theorem dX10_sheet_59 : decode cX10_sheet 59 = .ok (.ireturn, 1) := by decide +kernel
set_option maxRecDepth 20000 in
theorem ggX10_save_X10_isSheet : GoodIn wsX10_save wsX10_isSheet := goodIn_r _ [8, 9, 10, 7, 11] (by decide +kernel) (by decide +kernel)
set_option maxRecDepth 20000 in
theorem gX10_save_X10_isSheet : GoodIn wsX10_save (va_wsS RX10 169 yX10_isSheet wsX10_isSheet) := goodIn_app (goodIn_of _ (by decide +kernel)) ggX10_save_X10_isSheet
set_option maxRecDepth 20000 in
theorem ggX10_save_X10_meets : GoodIn wsX10_save wsX10_meets := goodIn_r _ [15, 16, 17, 18, 19, 20, 21, 22, 23, 24, 25, 26, 27, 28, 29, 30, 31, 32, 33, 34, 35, 36, 37, 38, 39, 40, 41, 42, 43, 44, 45, 46, 47, 48, 49] (by decide +kernel) (by decide +kernel)
set_option maxRecDepth 20000 in
theorem gX10_save_X10_meets : GoodIn wsX10_save (wsV RX10 125 RX10 yX10_meets wsX10_meets) := goodIn_app (goodIn_of _ (by decide +kernel)) ggX10_save_X10_meets
theorem dX10_save_0 : decode cX10_save 0 = .ok (.iload_n 1, 1) := by decide +kernel
theorem dX10_save_1 : decode cX10_save 1 = .ok (.invokestatic 169, 3) := by decide +kernel
theorem dX10_save_4 : decode cX10_save 4 = .ok (.ifCond .ne 5, 3) := by decide +kernel
theorem dX10_save_7 : decode cX10_save 7 = .ok (.iconst (-1), 1) := by decide +kernel
theorem dX10_save_8 : decode cX10_save 8 = .ok (.ireturn, 1) := by decide +kernel
theorem dX10_save_9 : decode cX10_save 9 = .ok (.aload_n 0, 1) := by decide +kernel
theorem dX10_save_10 : decode cX10_save 10 = .ok (.getfield 72, 3) := by decide +kernel
theorem dX10_save_13 : decode cX10_save 13 = .ok (.iload_n 1, 1) := by decide +kernel
theorem dX10_save_14 : decode cX10_save 14 = .ok (.iaload, 1) := by decide +kernel
theorem dX10_save_15 : decode cX10_save 15 = .ok (.ifCond .ge 9, 3) := by decide +kernel
theorem dX10_save_18 : decode cX10_save 18 = .ok (.aload_n 0, 1) := by decide +kernel
theorem dX10_save_19 : decode cX10_save 19 = .ok (.iconst 1, 1) := by decide +kernel
theorem dX10_save_20 : decode cX10_save 20 = .ok (.invokevirtual 125, 3) := by decide +kernel
theorem dX10_save_23 : decode cX10_save 23 = .ok (.ireturn, 1) := by decide +kernel
theorem dX10_save_24 : decode cX10_save 24 = .ok (.aload_n 0, 1) := by decide +kernel
theorem dX10_save_25 : decode cX10_save 25 = .ok (.getfield 84, 3) := by decide +kernel
theorem dX10_save_28 : decode cX10_save 28 = .ok (.aload_n 0, 1) := by decide +kernel
theorem dX10_save_29 : decode cX10_save 29 = .ok (.getfield 72, 3) := by decide +kernel
theorem dX10_save_32 : decode cX10_save 32 = .ok (.iload_n 1, 1) := by decide +kernel
theorem dX10_save_33 : decode cX10_save 33 = .ok (.iaload, 1) := by decide +kernel
theorem dX10_save_34 : decode cX10_save 34 = .ok (.if_icmp .ge 10, 3) := by decide +kernel
theorem dX10_save_37 : decode cX10_save 37 = .ok (.aload_n 0, 1) := by decide +kernel
theorem dX10_save_38 : decode cX10_save 38 = .ok (.getfield 84, 3) := by decide +kernel
theorem dX10_save_41 : decode cX10_save 41 = .ok (.goto 9, 3) := by decide +kernel
theorem dX10_save_44 : decode cX10_save 44 = .ok (.aload_n 0, 1) := by decide +kernel
theorem dX10_save_45 : decode cX10_save 45 = .ok (.getfield 72, 3) := by decide +kernel
theorem dX10_save_48 : decode cX10_save 48 = .ok (.iload_n 1, 1) := by decide +kernel
theorem dX10_save_49 : decode cX10_save 49 = .ok (.iaload, 1) := by decide +kernel
theorem dX10_save_50 : decode cX10_save 50 = .ok (.istore_n 2, 1) := by decide +kernel
theorem dX10_save_51 : decode cX10_save 51 = .ok (.iconst 0, 1) := by decide +kernel
theorem dX10_save_52 : decode cX10_save 52 = .ok (.istore_n 3, 1) := by decide +kernel
theorem dX10_save_53 : decode cX10_save 53 = .ok (.iload_n 3, 1) := by decide +kernel
theorem dX10_save_54 : decode cX10_save 54 = .ok (.iload_n 2, 1) := by decide +kernel
theorem dX10_save_55 : decode cX10_save 55 = .ok (.if_icmp .ge 26, 3) := by decide +kernel
theorem dX10_save_58 : decode cX10_save 58 = .ok (.aload_n 0, 1) := by decide +kernel
theorem dX10_save_59 : decode cX10_save 59 = .ok (.getfield 75, 3) := by decide +kernel
theorem dX10_save_62 : decode cX10_save 62 = .ok (.bipush 10, 2) := by decide +kernel
theorem dX10_save_64 : decode cX10_save 64 = .ok (.iload_n 1, 1) := by decide +kernel
theorem dX10_save_65 : decode cX10_save 65 = .ok (.imul, 1) := by decide +kernel
theorem dX10_save_66 : decode cX10_save 66 = .ok (.iload_n 3, 1) := by decide +kernel
theorem dX10_save_67 : decode cX10_save 67 = .ok (.iadd, 1) := by decide +kernel
theorem dX10_save_68 : decode cX10_save 68 = .ok (.aload_n 0, 1) := by decide +kernel
theorem dX10_save_69 : decode cX10_save 69 = .ok (.getfield 16, 3) := by decide +kernel
theorem dX10_save_72 : decode cX10_save 72 = .ok (.iload_n 3, 1) := by decide +kernel
theorem dX10_save_73 : decode cX10_save 73 = .ok (.iaload, 1) := by decide +kernel
theorem dX10_save_74 : decode cX10_save 74 = .ok (.iastore, 1) := by decide +kernel
theorem dX10_save_75 : decode cX10_save 75 = .ok (.iinc 3 1, 3) := by decide +kernel
theorem dX10_save_78 : decode cX10_save 78 = .ok (.goto (-25), 3) := by decide +kernel
theorem dX10_save_81 : decode cX10_save 81 = .ok (.iload_n 2, 1) := by decide +kernel
theorem dX10_save_82 : decode cX10_save 82 = .ok (.ireturn, 1) := by decide +kernel
set_option maxRecDepth 20000 in
theorem ggX10_load_X10_isSheet : GoodIn wsX10_load wsX10_isSheet := goodIn_r _ [6, 7, 8, 5, 9] (by decide +kernel) (by decide +kernel)
set_option maxRecDepth 20000 in
theorem gX10_load_X10_isSheet : GoodIn wsX10_load (va_wsS RX10 169 yX10_isSheet wsX10_isSheet) := goodIn_app (goodIn_of _ (by decide +kernel)) ggX10_load_X10_isSheet
set_option maxRecDepth 20000 in
theorem ggX10_load_X10_isPerson : GoodIn wsX10_load wsX10_isPerson := goodIn_r _ [13, 14, 7, 8, 5, 9, 30, 31, 32, 33, 34, 35, 36, 37, 38, 39, 40, 41, 42, 43, 44, 45, 46, 47, 48, 49, 50, 51, 52, 53, 54, 55, 56, 57, 58, 59, 60, 61] (by decide +kernel) (by decide +kernel)
set_option maxRecDepth 20000 in
theorem gX10_load_X10_isPerson : GoodIn wsX10_load (wsV RX10 95 RX10 yX10_isPerson wsX10_isPerson) := goodIn_app (goodIn_of _ (by decide +kernel)) ggX10_load_X10_isPerson
set_option maxRecDepth 20000 in
theorem ggX10_load_X10_meets : GoodIn wsX10_load wsX10_meets := goodIn_r _ [18, 19, 20, 30, 31, 32, 33, 34, 35, 36, 37, 38, 39, 40, 41, 42, 43, 44, 45, 46, 47, 48, 49, 50, 51, 52, 53, 54, 55, 56, 57, 58, 59, 60, 61] (by decide +kernel) (by decide +kernel)
set_option maxRecDepth 20000 in
theorem gX10_load_X10_meets : GoodIn wsX10_load (wsV RX10 125 RX10 yX10_meets wsX10_meets) := goodIn_app (goodIn_of _ (by decide +kernel)) ggX10_load_X10_meets
set_option maxRecDepth 20000 in
theorem ggX10_load_X10_in : GoodIn wsX10_load wsX10_in := goodIn_r _ [9] (by decide +kernel) (by decide +kernel)
set_option maxRecDepth 20000 in
theorem gX10_load_X10_in : GoodIn wsX10_load (va_wsS RX10 87 yX10_in wsX10_in) := goodIn_app (goodIn_of _ (by decide +kernel)) ggX10_load_X10_in
set_option maxRecDepth 20000 in
theorem ggX10_load_X10_give : GoodIn wsX10_load wsX10_give := goodIn_r _ [24, 25, 26, 27, 28, 5, 29, 30, 31, 32, 33, 34, 35, 36, 37, 38, 39, 40, 41, 42, 43, 44, 45, 46, 47, 48, 49, 50, 51, 52, 53, 54, 55, 56, 57, 58, 59, 60, 61] (by decide +kernel) (by decide +kernel)
set_option maxRecDepth 20000 in
theorem gX10_load_X10_give : GoodIn wsX10_load (wsV RX10 99 RX10 yX10_give wsX10_give) := goodIn_app (goodIn_of _ (by decide +kernel)) ggX10_load_X10_give
theorem dX10_load_0 : decode cX10_load 0 = .ok (.iload_n 1, 1) := by decide +kernel
theorem dX10_load_1 : decode cX10_load 1 = .ok (.invokestatic 169, 3) := by decide +kernel
theorem dX10_load_4 : decode cX10_load 4 = .ok (.ifCond .eq 11, 3) := by decide +kernel
theorem dX10_load_7 : decode cX10_load 7 = .ok (.aload_n 0, 1) := by decide +kernel
theorem dX10_load_8 : decode cX10_load 8 = .ok (.iload_n 3, 1) := by decide +kernel
theorem dX10_load_9 : decode cX10_load 9 = .ok (.invokevirtual 95, 3) := by decide +kernel
theorem dX10_load_12 : decode cX10_load 12 = .ok (.ifCond .ne 5, 3) := by decide +kernel
theorem dX10_load_15 : decode cX10_load 15 = .ok (.iconst (-1), 1) := by decide +kernel
theorem dX10_load_16 : decode cX10_load 16 = .ok (.ireturn, 1) := by decide +kernel
theorem dX10_load_17 : decode cX10_load 17 = .ok (.aload_n 0, 1) := by decide +kernel
theorem dX10_load_18 : decode cX10_load 18 = .ok (.getfield 72, 3) := by decide +kernel
theorem dX10_load_21 : decode cX10_load 21 = .ok (.iload_n 1, 1) := by decide +kernel
theorem dX10_load_22 : decode cX10_load 22 = .ok (.iaload, 1) := by decide +kernel
theorem dX10_load_23 : decode cX10_load 23 = .ok (.ifCond .ge 9, 3) := by decide +kernel
theorem dX10_load_26 : decode cX10_load 26 = .ok (.aload_n 0, 1) := by decide +kernel
theorem dX10_load_27 : decode cX10_load 27 = .ok (.iconst 1, 1) := by decide +kernel
theorem dX10_load_28 : decode cX10_load 28 = .ok (.invokevirtual 125, 3) := by decide +kernel
theorem dX10_load_31 : decode cX10_load 31 = .ok (.ireturn, 1) := by decide +kernel
theorem dX10_load_32 : decode cX10_load 32 = .ok (.iload_n 2, 1) := by decide +kernel
theorem dX10_load_33 : decode cX10_load 33 = .ok (.iconst 0, 1) := by decide +kernel
theorem dX10_load_34 : decode cX10_load 34 = .ok (.aload_n 0, 1) := by decide +kernel
theorem dX10_load_35 : decode cX10_load 35 = .ok (.getfield 72, 3) := by decide +kernel
theorem dX10_load_38 : decode cX10_load 38 = .ok (.iload_n 1, 1) := by decide +kernel
theorem dX10_load_39 : decode cX10_load 39 = .ok (.iaload, 1) := by decide +kernel
theorem dX10_load_40 : decode cX10_load 40 = .ok (.iconst 1, 1) := by decide +kernel
theorem dX10_load_41 : decode cX10_load 41 = .ok (.isub, 1) := by decide +kernel
theorem dX10_load_42 : decode cX10_load 42 = .ok (.invokestatic 87, 3) := by decide +kernel
theorem dX10_load_45 : decode cX10_load 45 = .ok (.ifCond .ne 9, 3) := by decide +kernel
theorem dX10_load_48 : decode cX10_load 48 = .ok (.aload_n 0, 1) := by decide +kernel
theorem dX10_load_49 : decode cX10_load 49 = .ok (.iconst 2, 1) := by decide +kernel
theorem dX10_load_50 : decode cX10_load 50 = .ok (.invokevirtual 125, 3) := by decide +kernel
theorem dX10_load_53 : decode cX10_load 53 = .ok (.ireturn, 1) := by decide +kernel
theorem dX10_load_54 : decode cX10_load 54 = .ok (.aload_n 0, 1) := by decide +kernel
theorem dX10_load_55 : decode cX10_load 55 = .ok (.iload_n 3, 1) := by decide +kernel
theorem dX10_load_56 : decode cX10_load 56 = .ok (.aload_n 0, 1) := by decide +kernel
theorem dX10_load_57 : decode cX10_load 57 = .ok (.getfield 75, 3) := by decide +kernel
theorem dX10_load_60 : decode cX10_load 60 = .ok (.bipush 10, 2) := by decide +kernel
theorem dX10_load_62 : decode cX10_load 62 = .ok (.iload_n 1, 1) := by decide +kernel
theorem dX10_load_63 : decode cX10_load 63 = .ok (.imul, 1) := by decide +kernel
theorem dX10_load_64 : decode cX10_load 64 = .ok (.iload_n 2, 1) := by decide +kernel
theorem dX10_load_65 : decode cX10_load 65 = .ok (.iadd, 1) := by decide +kernel
theorem dX10_load_66 : decode cX10_load 66 = .ok (.iaload, 1) := by decide +kernel
theorem dX10_load_67 : decode cX10_load 67 = .ok (.invokevirtual 99, 3) := by decide +kernel
theorem dX10_load_70 : decode cX10_load 70 = .ok (.istore 4, 2) := by decide +kernel
theorem dX10_load_72 : decode cX10_load 72 = .ok (.iconst 1, 1) := by decide +kernel
theorem dX10_load_73 : decode cX10_load 73 = .ok (.ireturn, 1) := by decide +kernel
set_option maxRecDepth 20000 in
theorem ggX10_tear_X10_isSheet : GoodIn wsX10_tear wsX10_isSheet := goodIn_r _ [5, 6, 7, 4, 8] (by decide +kernel) (by decide +kernel)
set_option maxRecDepth 20000 in
theorem gX10_tear_X10_isSheet : GoodIn wsX10_tear (va_wsS RX10 169 yX10_isSheet wsX10_isSheet) := goodIn_app (goodIn_of _ (by decide +kernel)) ggX10_tear_X10_isSheet
set_option maxRecDepth 20000 in
theorem ggX10_tear_X10_meets : GoodIn wsX10_tear wsX10_meets := goodIn_r _ [12, 13, 14, 15, 16, 17, 18, 19, 20, 21, 22, 23, 24, 25, 26, 27, 28, 29, 30, 31, 32, 33, 34, 35, 36, 37, 38, 39, 40, 41, 42, 43, 44, 45, 46] (by decide +kernel) (by decide +kernel)
set_option maxRecDepth 20000 in
theorem gX10_tear_X10_meets : GoodIn wsX10_tear (wsV RX10 125 RX10 yX10_meets wsX10_meets) := goodIn_app (goodIn_of _ (by decide +kernel)) ggX10_tear_X10_meets
theorem dX10_tear_0 : decode cX10_tear 0 = .ok (.iload_n 1, 1) := by decide +kernel
theorem dX10_tear_1 : decode cX10_tear 1 = .ok (.invokestatic 169, 3) := by decide +kernel
theorem dX10_tear_4 : decode cX10_tear 4 = .ok (.ifCond .ne 5, 3) := by decide +kernel
theorem dX10_tear_7 : decode cX10_tear 7 = .ok (.iconst (-1), 1) := by decide +kernel
theorem dX10_tear_8 : decode cX10_tear 8 = .ok (.ireturn, 1) := by decide +kernel
theorem dX10_tear_9 : decode cX10_tear 9 = .ok (.aload_n 0, 1) := by decide +kernel
theorem dX10_tear_10 : decode cX10_tear 10 = .ok (.getfield 72, 3) := by decide +kernel
theorem dX10_tear_13 : decode cX10_tear 13 = .ok (.iload_n 1, 1) := by decide +kernel
theorem dX10_tear_14 : decode cX10_tear 14 = .ok (.iaload, 1) := by decide +kernel
theorem dX10_tear_15 : decode cX10_tear 15 = .ok (.ifCond .ge 9, 3) := by decide +kernel
theorem dX10_tear_18 : decode cX10_tear 18 = .ok (.aload_n 0, 1) := by decide +kernel
theorem dX10_tear_19 : decode cX10_tear 19 = .ok (.iconst 1, 1) := by decide +kernel
theorem dX10_tear_20 : decode cX10_tear 20 = .ok (.invokevirtual 125, 3) := by decide +kernel
theorem dX10_tear_23 : decode cX10_tear 23 = .ok (.ireturn, 1) := by decide +kernel
theorem dX10_tear_24 : decode cX10_tear 24 = .ok (.aload_n 0, 1) := by decide +kernel
theorem dX10_tear_25 : decode cX10_tear 25 = .ok (.getfield 72, 3) := by decide +kernel
theorem dX10_tear_28 : decode cX10_tear 28 = .ok (.iload_n 1, 1) := by decide +kernel
theorem dX10_tear_29 : decode cX10_tear 29 = .ok (.bipush (-9), 2) := by decide +kernel
theorem dX10_tear_31 : decode cX10_tear 31 = .ok (.iastore, 1) := by decide +kernel
theorem dX10_tear_32 : decode cX10_tear 32 = .ok (.iconst 1, 1) := by decide +kernel
theorem dX10_tear_33 : decode cX10_tear 33 = .ok (.ireturn, 1) := by decide +kernel
set_option maxRecDepth 20000 in
theorem ggX10_copy_X10_isSheet : GoodIn wsX10_copy wsX10_isSheet := goodIn_r _ [7, 8, 9, 6, 10] (by decide +kernel) (by decide +kernel)
set_option maxRecDepth 20000 in
theorem gX10_copy_X10_isSheet : GoodIn wsX10_copy (va_wsS RX10 169 yX10_isSheet wsX10_isSheet) := goodIn_app (goodIn_of _ (by decide +kernel)) ggX10_copy_X10_isSheet
set_option maxRecDepth 20000 in
theorem ggX10_copy_X10_meets : GoodIn wsX10_copy wsX10_meets := goodIn_r _ [14, 15, 16, 17, 18, 19, 20, 21, 22, 23, 24, 25, 26, 27, 28, 29, 30, 31, 32, 33, 34, 35, 36, 37, 38, 39, 40, 41, 42, 43, 44, 45, 46, 47, 48] (by decide +kernel) (by decide +kernel)
set_option maxRecDepth 20000 in
theorem gX10_copy_X10_meets : GoodIn wsX10_copy (wsV RX10 125 RX10 yX10_meets wsX10_meets) := goodIn_app (goodIn_of _ (by decide +kernel)) ggX10_copy_X10_meets
theorem dX10_copy_0 : decode cX10_copy 0 = .ok (.iload_n 1, 1) := by decide +kernel
theorem dX10_copy_1 : decode cX10_copy 1 = .ok (.invokestatic 169, 3) := by decide +kernel
theorem dX10_copy_4 : decode cX10_copy 4 = .ok (.ifCond .eq 10, 3) := by decide +kernel
theorem dX10_copy_7 : decode cX10_copy 7 = .ok (.iload_n 3, 1) := by decide +kernel
theorem dX10_copy_8 : decode cX10_copy 8 = .ok (.invokestatic 169, 3) := by decide +kernel
theorem dX10_copy_11 : decode cX10_copy 11 = .ok (.ifCond .ne 5, 3) := by decide +kernel
theorem dX10_copy_14 : decode cX10_copy 14 = .ok (.iconst (-1), 1) := by decide +kernel
theorem dX10_copy_15 : decode cX10_copy 15 = .ok (.ireturn, 1) := by decide +kernel
theorem dX10_copy_16 : decode cX10_copy 16 = .ok (.iload 5, 2) := by decide +kernel
theorem dX10_copy_18 : decode cX10_copy 18 = .ok (.ifCond .ge 9, 3) := by decide +kernel
theorem dX10_copy_21 : decode cX10_copy 21 = .ok (.aload_n 0, 1) := by decide +kernel
theorem dX10_copy_22 : decode cX10_copy 22 = .ok (.iconst 4, 1) := by decide +kernel
theorem dX10_copy_23 : decode cX10_copy 23 = .ok (.invokevirtual 125, 3) := by decide +kernel
theorem dX10_copy_26 : decode cX10_copy 26 = .ok (.ireturn, 1) := by decide +kernel
theorem dX10_copy_27 : decode cX10_copy 27 = .ok (.aload_n 0, 1) := by decide +kernel
theorem dX10_copy_28 : decode cX10_copy 28 = .ok (.getfield 72, 3) := by decide +kernel
theorem dX10_copy_31 : decode cX10_copy 31 = .ok (.iload_n 1, 1) := by decide +kernel
theorem dX10_copy_32 : decode cX10_copy 32 = .ok (.iaload, 1) := by decide +kernel
theorem dX10_copy_33 : decode cX10_copy 33 = .ok (.ifCond .lt 12, 3) := by decide +kernel
theorem dX10_copy_36 : decode cX10_copy 36 = .ok (.aload_n 0, 1) := by decide +kernel
theorem dX10_copy_37 : decode cX10_copy 37 = .ok (.getfield 72, 3) := by decide +kernel
theorem dX10_copy_40 : decode cX10_copy 40 = .ok (.iload_n 3, 1) := by decide +kernel
theorem dX10_copy_41 : decode cX10_copy 41 = .ok (.iaload, 1) := by decide +kernel
theorem dX10_copy_42 : decode cX10_copy 42 = .ok (.ifCond .ge 9, 3) := by decide +kernel
theorem dX10_copy_45 : decode cX10_copy 45 = .ok (.aload_n 0, 1) := by decide +kernel
theorem dX10_copy_46 : decode cX10_copy 46 = .ok (.iconst 1, 1) := by decide +kernel
theorem dX10_copy_47 : decode cX10_copy 47 = .ok (.invokevirtual 125, 3) := by decide +kernel
theorem dX10_copy_50 : decode cX10_copy 50 = .ok (.ireturn, 1) := by decide +kernel
theorem dX10_copy_51 : decode cX10_copy 51 = .ok (.iload_n 2, 1) := by decide +kernel
theorem dX10_copy_52 : decode cX10_copy 52 = .ok (.ifCond .lt 43, 3) := by decide +kernel
theorem dX10_copy_55 : decode cX10_copy 55 = .ok (.iload 4, 2) := by decide +kernel
theorem dX10_copy_57 : decode cX10_copy 57 = .ok (.ifCond .lt 38, 3) := by decide +kernel
theorem dX10_copy_60 : decode cX10_copy 60 = .ok (.iload_n 2, 1) := by decide +kernel
theorem dX10_copy_61 : decode cX10_copy 61 = .ok (.i2l, 1) := by decide +kernel
theorem dX10_copy_62 : decode cX10_copy 62 = .ok (.iload 5, 2) := by decide +kernel
theorem dX10_copy_64 : decode cX10_copy 64 = .ok (.i2l, 1) := by decide +kernel
theorem dX10_copy_65 : decode cX10_copy 65 = .ok (.ladd, 1) := by decide +kernel
theorem dX10_copy_66 : decode cX10_copy 66 = .ok (.aload_n 0, 1) := by decide +kernel
theorem dX10_copy_67 : decode cX10_copy 67 = .ok (.getfield 72, 3) := by decide +kernel
theorem dX10_copy_70 : decode cX10_copy 70 = .ok (.iload_n 1, 1) := by decide +kernel
theorem dX10_copy_71 : decode cX10_copy 71 = .ok (.iaload, 1) := by decide +kernel
theorem dX10_copy_72 : decode cX10_copy 72 = .ok (.i2l, 1) := by decide +kernel
theorem dX10_copy_73 : decode cX10_copy 73 = .ok (.lcmp, 1) := by decide +kernel
theorem dX10_copy_74 : decode cX10_copy 74 = .ok (.ifCond .gt 21, 3) := by decide +kernel
theorem dX10_copy_77 : decode cX10_copy 77 = .ok (.iload 4, 2) := by decide +kernel
theorem dX10_copy_79 : decode cX10_copy 79 = .ok (.i2l, 1) := by decide +kernel
theorem dX10_copy_80 : decode cX10_copy 80 = .ok (.iload 5, 2) := by decide +kernel
theorem dX10_copy_82 : decode cX10_copy 82 = .ok (.i2l, 1) := by decide +kernel
theorem dX10_copy_83 : decode cX10_copy 83 = .ok (.ladd, 1) := by decide +kernel
theorem dX10_copy_84 : decode cX10_copy 84 = .ok (.aload_n 0, 1) := by decide +kernel
theorem dX10_copy_85 : decode cX10_copy 85 = .ok (.getfield 72, 3) := by decide +kernel
theorem dX10_copy_88 : decode cX10_copy 88 = .ok (.iload_n 3, 1) := by decide +kernel
theorem dX10_copy_89 : decode cX10_copy 89 = .ok (.iaload, 1) := by decide +kernel
theorem dX10_copy_90 : decode cX10_copy 90 = .ok (.i2l, 1) := by decide +kernel
theorem dX10_copy_91 : decode cX10_copy 91 = .ok (.lcmp, 1) := by decide +kernel
theorem dX10_copy_92 : decode cX10_copy 92 = .ok (.ifCond .le 9, 3) := by decide +kernel
theorem dX10_copy_95 : decode cX10_copy 95 = .ok (.aload_n 0, 1) := by decide +kernel
theorem dX10_copy_96 : decode cX10_copy 96 = .ok (.iconst 2, 1) := by decide +kernel
theorem dX10_copy_97 : decode cX10_copy 97 = .ok (.invokevirtual 125, 3) := by decide +kernel
theorem dX10_copy_100 : decode cX10_copy 100 = .ok (.ireturn, 1) := by decide +kernel
theorem dX10_copy_101 : decode cX10_copy 101 = .ok (.iconst 0, 1) := by decide +kernel
theorem dX10_copy_102 : decode cX10_copy 102 = .ok (.istore 6, 2) := by decide +kernel
theorem dX10_copy_104 : decode cX10_copy 104 = .ok (.iload 6, 2) := by decide +kernel
theorem dX10_copy_106 : decode cX10_copy 106 = .ok (.iload 5, 2) := by decide +kernel
theorem dX10_copy_108 : decode cX10_copy 108 = .ok (.if_icmp .ge 30, 3) := by decide +kernel
theorem dX10_copy_111 : decode cX10_copy 111 = .ok (.aload_n 0, 1) := by decide +kernel
theorem dX10_copy_112 : decode cX10_copy 112 = .ok (.getfield 78, 3) := by decide +kernel
theorem dX10_copy_115 : decode cX10_copy 115 = .ok (.iload 6, 2) := by decide +kernel
theorem dX10_copy_117 : decode cX10_copy 117 = .ok (.aload_n 0, 1) := by decide +kernel
theorem dX10_copy_118 : decode cX10_copy 118 = .ok (.getfield 75, 3) := by decide +kernel
theorem dX10_copy_121 : decode cX10_copy 121 = .ok (.bipush 10, 2) := by decide +kernel
theorem dX10_copy_123 : decode cX10_copy 123 = .ok (.iload_n 1, 1) := by decide +kernel
theorem dX10_copy_124 : decode cX10_copy 124 = .ok (.imul, 1) := by decide +kernel
theorem dX10_copy_125 : decode cX10_copy 125 = .ok (.iload_n 2, 1) := by decide +kernel
theorem dX10_copy_126 : decode cX10_copy 126 = .ok (.iadd, 1) := by decide +kernel
theorem dX10_copy_127 : decode cX10_copy 127 = .ok (.iload 6, 2) := by decide +kernel
theorem dX10_copy_129 : decode cX10_copy 129 = .ok (.iadd, 1) := by decide +kernel
theorem dX10_copy_130 : decode cX10_copy 130 = .ok (.iaload, 1) := by decide +kernel
theorem dX10_copy_131 : decode cX10_copy 131 = .ok (.iastore, 1) := by decide +kernel
theorem dX10_copy_132 : decode cX10_copy 132 = .ok (.iinc 6 1, 3) := by decide +kernel
theorem dX10_copy_135 : decode cX10_copy 135 = .ok (.goto (-31), 3) := by decide +kernel
theorem dX10_copy_138 : decode cX10_copy 138 = .ok (.iconst 0, 1) := by decide +kernel
theorem dX10_copy_139 : decode cX10_copy 139 = .ok (.istore 6, 2) := by decide +kernel
theorem dX10_copy_141 : decode cX10_copy 141 = .ok (.iload 6, 2) := by decide +kernel
theorem dX10_copy_143 : decode cX10_copy 143 = .ok (.iload 5, 2) := by decide +kernel
theorem dX10_copy_145 : decode cX10_copy 145 = .ok (.if_icmp .ge 31, 3) := by decide +kernel
theorem dX10_copy_148 : decode cX10_copy 148 = .ok (.aload_n 0, 1) := by decide +kernel
theorem dX10_copy_149 : decode cX10_copy 149 = .ok (.getfield 75, 3) := by decide +kernel
theorem dX10_copy_152 : decode cX10_copy 152 = .ok (.bipush 10, 2) := by decide +kernel
theorem dX10_copy_154 : decode cX10_copy 154 = .ok (.iload_n 3, 1) := by decide +kernel
theorem dX10_copy_155 : decode cX10_copy 155 = .ok (.imul, 1) := by decide +kernel
theorem dX10_copy_156 : decode cX10_copy 156 = .ok (.iload 4, 2) := by decide +kernel
theorem dX10_copy_158 : decode cX10_copy 158 = .ok (.iadd, 1) := by decide +kernel
theorem dX10_copy_159 : decode cX10_copy 159 = .ok (.iload 6, 2) := by decide +kernel
theorem dX10_copy_161 : decode cX10_copy 161 = .ok (.iadd, 1) := by decide +kernel
theorem dX10_copy_162 : decode cX10_copy 162 = .ok (.aload_n 0, 1) := by decide +kernel
theorem dX10_copy_163 : decode cX10_copy 163 = .ok (.getfield 78, 3) := by decide +kernel
theorem dX10_copy_166 : decode cX10_copy 166 = .ok (.iload 6, 2) := by decide +kernel
theorem dX10_copy_168 : decode cX10_copy 168 = .ok (.iaload, 1) := by decide +kernel
theorem dX10_copy_169 : decode cX10_copy 169 = .ok (.iastore, 1) := by decide +kernel
theorem dX10_copy_170 : decode cX10_copy 170 = .ok (.iinc 6 1, 3) := by decide +kernel
theorem dX10_copy_173 : decode cX10_copy 173 = .ok (.goto (-32), 3) := by decide +kernel
theorem dX10_copy_176 : decode cX10_copy 176 = .ok (.iconst 1, 1) := by decide +kernel
theorem dX10_copy_177 : decode cX10_copy 177 = .ok (.ireturn, 1) := by decide +kernel
theorem dX10_asked_0 : decode cX10_asked 0 = .ok (.aload_n 0, 1) := by decide +kernel
theorem dX10_asked_1 : decode cX10_asked 1 = .ok (.getfield 160, 3) := by decide +kernel
theorem dX10_asked_4 : decode cX10_asked 4 = .ok (.ireturn, 1) := by decide +kernel
set_option maxRecDepth 20000 in
theorem ggX10_count_X10_bits : GoodIn wsX10_count wsX10_bits := goodIn_r _ [9] (by decide +kernel) (by decide +kernel)
set_option maxRecDepth 20000 in
theorem gX10_count_X10_bits : GoodIn wsX10_count (va_wsS RX10 157 yX10_bits wsX10_bits) := goodIn_app (goodIn_of _ (by decide +kernel)) ggX10_count_X10_bits
set_option maxRecDepth 20000 in
theorem ggX10_count_X10_keptOf : GoodIn wsX10_count wsX10_keptOf := goodIn_r _ [13, 4, 14, 15, 8, 16, 17, 18, 19, 20, 3, 21, 22, 2, 23, 24, 25, 26, 27, 28, 29, 30, 31, 32, 33, 34, 35, 36, 37, 38, 39, 40, 41, 42, 43, 44, 45, 46, 47, 48, 49, 50, 51, 52, 53, 54, 55, 56, 57, 58] (by decide +kernel) (by decide +kernel)
set_option maxRecDepth 20000 in
theorem gX10_count_X10_keptOf : GoodIn wsX10_count (wsV RX10 115 RX10 yX10_keptOf wsX10_keptOf) := goodIn_app (goodIn_of _ (by decide +kernel)) ggX10_count_X10_keptOf
theorem dX10_count_0 : decode cX10_count 0 = .ok (.iconst 0, 1) := by decide +kernel
theorem dX10_count_1 : decode cX10_count 1 = .ok (.istore_n 2, 1) := by decide +kernel
theorem dX10_count_2 : decode cX10_count 2 = .ok (.iload_n 1, 1) := by decide +kernel
theorem dX10_count_3 : decode cX10_count 3 = .ok (.tableswitch 141 0 5 #[37, 42, 47, 52, 82, 111], 37) := by decide +kernel
theorem dX10_count_40 : decode cX10_count 40 = .ok (.aload_n 0, 1) := by decide +kernel
theorem dX10_count_41 : decode cX10_count 41 = .ok (.getfield 84, 3) := by decide +kernel
theorem dX10_count_44 : decode cX10_count 44 = .ok (.ireturn, 1) := by decide +kernel
theorem dX10_count_45 : decode cX10_count 45 = .ok (.aload_n 0, 1) := by decide +kernel
theorem dX10_count_46 : decode cX10_count 46 = .ok (.getfield 106, 3) := by decide +kernel
theorem dX10_count_49 : decode cX10_count 49 = .ok (.ireturn, 1) := by decide +kernel
theorem dX10_count_50 : decode cX10_count 50 = .ok (.aload_n 0, 1) := by decide +kernel
theorem dX10_count_51 : decode cX10_count 51 = .ok (.getfield 103, 3) := by decide +kernel
theorem dX10_count_54 : decode cX10_count 54 = .ok (.ireturn, 1) := by decide +kernel
theorem dX10_count_55 : decode cX10_count 55 = .ok (.iconst 0, 1) := by decide +kernel
theorem dX10_count_56 : decode cX10_count 56 = .ok (.istore_n 3, 1) := by decide +kernel
theorem dX10_count_57 : decode cX10_count 57 = .ok (.iload_n 3, 1) := by decide +kernel
theorem dX10_count_58 : decode cX10_count 58 = .ok (.aload_n 0, 1) := by decide +kernel
theorem dX10_count_59 : decode cX10_count 59 = .ok (.getfield 84, 3) := by decide +kernel
theorem dX10_count_62 : decode cX10_count 62 = .ok (.if_icmp .ge 21, 3) := by decide +kernel
theorem dX10_count_65 : decode cX10_count 65 = .ok (.iload_n 2, 1) := by decide +kernel
theorem dX10_count_66 : decode cX10_count 66 = .ok (.aload_n 0, 1) := by decide +kernel
theorem dX10_count_67 : decode cX10_count 67 = .ok (.getfield 16, 3) := by decide +kernel
theorem dX10_count_70 : decode cX10_count 70 = .ok (.iload_n 3, 1) := by decide +kernel
theorem dX10_count_71 : decode cX10_count 71 = .ok (.iaload, 1) := by decide +kernel
theorem dX10_count_72 : decode cX10_count 72 = .ok (.invokestatic 157, 3) := by decide +kernel
theorem dX10_count_75 : decode cX10_count 75 = .ok (.iadd, 1) := by decide +kernel
theorem dX10_count_76 : decode cX10_count 76 = .ok (.istore_n 2, 1) := by decide +kernel
theorem dX10_count_77 : decode cX10_count 77 = .ok (.iinc 3 1, 3) := by decide +kernel
theorem dX10_count_80 : decode cX10_count 80 = .ok (.goto (-23), 3) := by decide +kernel
theorem dX10_count_83 : decode cX10_count 83 = .ok (.iload_n 2, 1) := by decide +kernel
theorem dX10_count_84 : decode cX10_count 84 = .ok (.ireturn, 1) := by decide +kernel
theorem dX10_count_85 : decode cX10_count 85 = .ok (.iconst 0, 1) := by decide +kernel
theorem dX10_count_86 : decode cX10_count 86 = .ok (.istore_n 3, 1) := by decide +kernel
theorem dX10_count_87 : decode cX10_count 87 = .ok (.iload_n 3, 1) := by decide +kernel
theorem dX10_count_88 : decode cX10_count 88 = .ok (.aload_n 0, 1) := by decide +kernel
theorem dX10_count_89 : decode cX10_count 89 = .ok (.getfield 84, 3) := by decide +kernel
theorem dX10_count_92 : decode cX10_count 92 = .ok (.if_icmp .ge 20, 3) := by decide +kernel
theorem dX10_count_95 : decode cX10_count 95 = .ok (.iload_n 2, 1) := by decide +kernel
theorem dX10_count_96 : decode cX10_count 96 = .ok (.aload_n 0, 1) := by decide +kernel
theorem dX10_count_97 : decode cX10_count 97 = .ok (.iload_n 3, 1) := by decide +kernel
theorem dX10_count_98 : decode cX10_count 98 = .ok (.invokevirtual 115, 3) := by decide +kernel
theorem dX10_count_101 : decode cX10_count 101 = .ok (.invokestatic 157, 3) := by decide +kernel
theorem dX10_count_104 : decode cX10_count 104 = .ok (.iadd, 1) := by decide +kernel
theorem dX10_count_105 : decode cX10_count 105 = .ok (.istore_n 2, 1) := by decide +kernel
theorem dX10_count_106 : decode cX10_count 106 = .ok (.iinc 3 1, 3) := by decide +kernel
theorem dX10_count_109 : decode cX10_count 109 = .ok (.goto (-22), 3) := by decide +kernel
theorem dX10_count_112 : decode cX10_count 112 = .ok (.iload_n 2, 1) := by decide +kernel
theorem dX10_count_113 : decode cX10_count 113 = .ok (.ireturn, 1) := by decide +kernel
theorem dX10_count_114 : decode cX10_count 114 = .ok (.iconst 0, 1) := by decide +kernel
theorem dX10_count_115 : decode cX10_count 115 = .ok (.istore_n 3, 1) := by decide +kernel
theorem dX10_count_116 : decode cX10_count 116 = .ok (.iload_n 3, 1) := by decide +kernel
theorem dX10_count_117 : decode cX10_count 117 = .ok (.bipush 12, 2) := by decide +kernel
theorem dX10_count_119 : decode cX10_count 119 = .ok (.if_icmp .ge 21, 3) := by decide +kernel
theorem dX10_count_122 : decode cX10_count 122 = .ok (.iload_n 2, 1) := by decide +kernel
theorem dX10_count_123 : decode cX10_count 123 = .ok (.aload_n 0, 1) := by decide +kernel
theorem dX10_count_124 : decode cX10_count 124 = .ok (.getfield 63, 3) := by decide +kernel
theorem dX10_count_127 : decode cX10_count 127 = .ok (.iload_n 3, 1) := by decide +kernel
theorem dX10_count_128 : decode cX10_count 128 = .ok (.iaload, 1) := by decide +kernel
theorem dX10_count_129 : decode cX10_count 129 = .ok (.invokestatic 157, 3) := by decide +kernel
theorem dX10_count_132 : decode cX10_count 132 = .ok (.iadd, 1) := by decide +kernel
theorem dX10_count_133 : decode cX10_count 133 = .ok (.istore_n 2, 1) := by decide +kernel
theorem dX10_count_134 : decode cX10_count 134 = .ok (.iinc 3 1, 3) := by decide +kernel
theorem dX10_count_137 : decode cX10_count 137 = .ok (.goto (-21), 3) := by decide +kernel
theorem dX10_count_140 : decode cX10_count 140 = .ok (.iload_n 2, 1) := by decide +kernel
theorem dX10_count_141 : decode cX10_count 141 = .ok (.iconst 2, 1) := by decide +kernel
theorem dX10_count_142 : decode cX10_count 142 = .ok (.idiv, 1) := by decide +kernel
theorem dX10_count_143 : decode cX10_count 143 = .ok (.ireturn, 1) := by decide +kernel
theorem dX10_count_144 : decode cX10_count 144 = .ok (.iconst (-1), 1) := by decide +kernel
theorem dX10_count_145 : decode cX10_count 145 = .ok (.ireturn, 1) := by decide +kernel
theorem dX10_finding_0 : decode cX10_finding 0 = .ok (.aload_n 0, 1) := by decide +kernel
theorem dX10_finding_1 : decode cX10_finding 1 = .ok (.getfield 81, 3) := by decide +kernel
theorem dX10_finding_4 : decode cX10_finding 4 = .ok (.ireturn, 1) := by decide +kernel
set_option maxRecDepth 20000 in
theorem ggX10_findings_X10_in : GoodIn wsX10_findings wsX10_in := goodIn_r _ [5] (by decide +kernel) (by decide +kernel)
set_option maxRecDepth 20000 in
theorem gX10_findings_X10_in : GoodIn wsX10_findings (va_wsS RX10 87 yX10_in wsX10_in) := goodIn_app (goodIn_of _ (by decide +kernel)) ggX10_findings_X10_in
theorem dX10_findings_0 : decode cX10_findings 0 = .ok (.iload_n 1, 1) := by decide +kernel
theorem dX10_findings_1 : decode cX10_findings 1 = .ok (.iconst 1, 1) := by decide +kernel
theorem dX10_findings_2 : decode cX10_findings 2 = .ok (.iconst 4, 1) := by decide +kernel
theorem dX10_findings_3 : decode cX10_findings 3 = .ok (.invokestatic 87, 3) := by decide +kernel
theorem dX10_findings_6 : decode cX10_findings 6 = .ok (.ifCond .eq 12, 3) := by decide +kernel
theorem dX10_findings_9 : decode cX10_findings 9 = .ok (.aload_n 0, 1) := by decide +kernel
theorem dX10_findings_10 : decode cX10_findings 10 = .ok (.getfield 7, 3) := by decide +kernel
theorem dX10_findings_13 : decode cX10_findings 13 = .ok (.iload_n 1, 1) := by decide +kernel
theorem dX10_findings_14 : decode cX10_findings 14 = .ok (.iaload, 1) := by decide +kernel
theorem dX10_findings_15 : decode cX10_findings 15 = .ok (.goto 4, 3) := by decide +kernel
theorem dX10_findings_18 : decode cX10_findings 18 = .ok (.iconst (-1), 1) := by decide +kernel
theorem dX10_findings_19 : decode cX10_findings 19 = .ok (.ireturn, 1) := by decide +kernel
set_option maxRecDepth 20000 in
theorem ggX10_digest_X10_tells : GoodIn wsX10_digest wsX10_tells := goodIn_r _ [17, 18, 19, 20, 6, 7, 21, 22, 23, 16, 24, 25, 26, 27, 28, 29, 30, 31, 8, 5, 9, 32, 33, 4, 34, 35, 36, 37, 38, 39, 40, 41, 42, 43, 44, 45, 46, 47, 48, 49, 50, 51, 52, 53, 54, 55, 56, 57, 58, 59, 60, 61, 62, 63, 64, 65] (by decide +kernel) (by decide +kernel)
set_option maxRecDepth 20000 in
theorem gX10_digest_X10_tells : GoodIn wsX10_digest (wsV RX10 119 RX10 yX10_tells wsX10_tells) := goodIn_app (goodIn_of _ (by decide +kernel)) ggX10_digest_X10_tells
theorem dX10_digest_0 : decode cX10_digest 0 = .ok (.ldc2_w 172, 3) := by decide +kernel
theorem dX10_digest_3 : decode cX10_digest 3 = .ok (.lstore_n 1, 1) := by decide +kernel
theorem dX10_digest_4 : decode cX10_digest 4 = .ok (.iconst 0, 1) := by decide +kernel
theorem dX10_digest_5 : decode cX10_digest 5 = .ok (.istore_n 3, 1) := by decide +kernel
theorem dX10_digest_6 : decode cX10_digest 6 = .ok (.iload_n 3, 1) := by decide +kernel
theorem dX10_digest_7 : decode cX10_digest 7 = .ok (.aload_n 0, 1) := by decide +kernel
theorem dX10_digest_8 : decode cX10_digest 8 = .ok (.getfield 84, 3) := by decide +kernel
theorem dX10_digest_11 : decode cX10_digest 11 = .ok (.if_icmp .ge 39, 3) := by decide +kernel
theorem dX10_digest_14 : decode cX10_digest 14 = .ok (.iconst 0, 1) := by decide +kernel
theorem dX10_digest_15 : decode cX10_digest 15 = .ok (.istore 4, 2) := by decide +kernel
theorem dX10_digest_17 : decode cX10_digest 17 = .ok (.iload 4, 2) := by decide +kernel
theorem dX10_digest_19 : decode cX10_digest 19 = .ok (.iconst 4, 1) := by decide +kernel
theorem dX10_digest_20 : decode cX10_digest 20 = .ok (.if_icmp .gt 24, 3) := by decide +kernel
theorem dX10_digest_23 : decode cX10_digest 23 = .ok (.ldc2_w 174, 3) := by decide +kernel
theorem dX10_digest_26 : decode cX10_digest 26 = .ok (.lload_n 1, 1) := by decide +kernel
theorem dX10_digest_27 : decode cX10_digest 27 = .ok (.lmul, 1) := by decide +kernel
theorem dX10_digest_28 : decode cX10_digest 28 = .ok (.aload_n 0, 1) := by decide +kernel
theorem dX10_digest_29 : decode cX10_digest 29 = .ok (.iload_n 3, 1) := by decide +kernel
theorem dX10_digest_30 : decode cX10_digest 30 = .ok (.iload 4, 2) := by decide +kernel
theorem dX10_digest_32 : decode cX10_digest 32 = .ok (.invokevirtual 119, 3) := by decide +kernel
theorem dX10_digest_35 : decode cX10_digest 35 = .ok (.i2l, 1) := by decide +kernel
theorem dX10_digest_36 : decode cX10_digest 36 = .ok (.ladd, 1) := by decide +kernel
theorem dX10_digest_37 : decode cX10_digest 37 = .ok (.lstore_n 1, 1) := by decide +kernel
theorem dX10_digest_38 : decode cX10_digest 38 = .ok (.iinc 4 1, 3) := by decide +kernel
theorem dX10_digest_41 : decode cX10_digest 41 = .ok (.goto (-24), 3) := by decide +kernel
theorem dX10_digest_44 : decode cX10_digest 44 = .ok (.iinc 3 1, 3) := by decide +kernel
theorem dX10_digest_47 : decode cX10_digest 47 = .ok (.goto (-41), 3) := by decide +kernel
theorem dX10_digest_50 : decode cX10_digest 50 = .ok (.ldc2_w 174, 3) := by decide +kernel
theorem dX10_digest_53 : decode cX10_digest 53 = .ok (.ldc2_w 174, 3) := by decide +kernel
theorem dX10_digest_56 : decode cX10_digest 56 = .ok (.lload_n 1, 1) := by decide +kernel
theorem dX10_digest_57 : decode cX10_digest 57 = .ok (.lmul, 1) := by decide +kernel
theorem dX10_digest_58 : decode cX10_digest 58 = .ok (.aload_n 0, 1) := by decide +kernel
theorem dX10_digest_59 : decode cX10_digest 59 = .ok (.getfield 109, 3) := by decide +kernel
theorem dX10_digest_62 : decode cX10_digest 62 = .ok (.i2l, 1) := by decide +kernel
theorem dX10_digest_63 : decode cX10_digest 63 = .ok (.ladd, 1) := by decide +kernel
theorem dX10_digest_64 : decode cX10_digest 64 = .ok (.lmul, 1) := by decide +kernel
theorem dX10_digest_65 : decode cX10_digest 65 = .ok (.aload_n 0, 1) := by decide +kernel
theorem dX10_digest_66 : decode cX10_digest 66 = .ok (.getfield 106, 3) := by decide +kernel
theorem dX10_digest_69 : decode cX10_digest 69 = .ok (.i2l, 1) := by decide +kernel
theorem dX10_digest_70 : decode cX10_digest 70 = .ok (.ladd, 1) := by decide +kernel
theorem dX10_digest_71 : decode cX10_digest 71 = .ok (.lstore_n 1, 1) := by decide +kernel
theorem dX10_digest_72 : decode cX10_digest 72 = .ok (.iconst 0, 1) := by decide +kernel
theorem dX10_digest_73 : decode cX10_digest 73 = .ok (.istore_n 3, 1) := by decide +kernel
theorem dX10_digest_74 : decode cX10_digest 74 = .ok (.iload_n 3, 1) := by decide +kernel
theorem dX10_digest_75 : decode cX10_digest 75 = .ok (.aload_n 0, 1) := by decide +kernel
theorem dX10_digest_76 : decode cX10_digest 76 = .ok (.getfield 103, 3) := by decide +kernel
theorem dX10_digest_79 : decode cX10_digest 79 = .ok (.if_icmp .ge 47, 3) := by decide +kernel
theorem dX10_digest_82 : decode cX10_digest 82 = .ok (.ldc2_w 174, 3) := by decide +kernel
theorem dX10_digest_85 : decode cX10_digest 85 = .ok (.ldc2_w 174, 3) := by decide +kernel
theorem dX10_digest_88 : decode cX10_digest 88 = .ok (.ldc2_w 174, 3) := by decide +kernel
theorem dX10_digest_91 : decode cX10_digest 91 = .ok (.lload_n 1, 1) := by decide +kernel
theorem dX10_digest_92 : decode cX10_digest 92 = .ok (.lmul, 1) := by decide +kernel
