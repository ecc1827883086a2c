theorem dX7_write_22 : decode cX7_write 22 = .ok (.aload_n 0, 1) := by decide +kernel
theorem dX7_write_23 : decode cX7_write 23 = .ok (.getfield 15, 3) := by decide +kernel
theorem dX7_write_26 : decode cX7_write 26 = .ok (.iload_n 1, 1) := by decide +kernel
theorem dX7_write_27 : decode cX7_write 27 = .ok (.bipush 10, 2) := by decide +kernel
theorem dX7_write_29 : decode cX7_write 29 = .ok (.imul, 1) := by decide +kernel
theorem dX7_write_30 : decode cX7_write 30 = .ok (.iload 5, 2) := by decide +kernel
theorem dX7_write_32 : decode cX7_write 32 = .ok (.iadd, 1) := by decide +kernel
theorem dX7_write_33 : decode cX7_write 33 = .ok (.aload_n 2, 1) := by decide +kernel
theorem dX7_write_34 : decode cX7_write 34 = .ok (.iload 5, 2) := by decide +kernel
theorem dX7_write_36 : decode cX7_write 36 = .ok (.iaload, 1) := by decide +kernel
theorem dX7_write_37 : decode cX7_write 37 = .ok (.iastore, 1) := by decide +kernel
theorem dX7_write_38 : decode cX7_write 38 = .ok (.iinc 5 1, 3) := by decide +kernel
theorem dX7_write_41 : decode cX7_write 41 = .ok (.goto (-26), 3) := by decide +kernel
theorem dX7_write_44 : decode cX7_write 44 = .ok (.iload 4, 2) := by decide +kernel
theorem dX7_write_46 : decode cX7_write 46 = .ok (.ireturn, 1) := by decide +kernel
theorem dX7_spans_0 : decode cX7_spans 0 = .ok (.iload_n 2, 1) := by decide +kernel
theorem dX7_spans_1 : decode cX7_spans 1 = .ok (.ifCond .lt 29, 3) := by decide +kernel
theorem dX7_spans_4 : decode cX7_spans 4 = .ok (.iload_n 3, 1) := by decide +kernel
theorem dX7_spans_5 : decode cX7_spans 5 = .ok (.aload_n 0, 1) := by decide +kernel
theorem dX7_spans_6 : decode cX7_spans 6 = .ok (.getfield 11, 3) := by decide +kernel
theorem dX7_spans_9 : decode cX7_spans 9 = .ok (.iload_n 1, 1) := by decide +kernel
theorem dX7_spans_10 : decode cX7_spans 10 = .ok (.iaload, 1) := by decide +kernel
theorem dX7_spans_11 : decode cX7_spans 11 = .ok (.if_icmp .gt 19, 3) := by decide +kernel
theorem dX7_spans_14 : decode cX7_spans 14 = .ok (.iload_n 2, 1) := by decide +kernel
theorem dX7_spans_15 : decode cX7_spans 15 = .ok (.aload_n 0, 1) := by decide +kernel
theorem dX7_spans_16 : decode cX7_spans 16 = .ok (.getfield 11, 3) := by decide +kernel
theorem dX7_spans_19 : decode cX7_spans 19 = .ok (.iload_n 1, 1) := by decide +kernel
theorem dX7_spans_20 : decode cX7_spans 20 = .ok (.iaload, 1) := by decide +kernel
theorem dX7_spans_21 : decode cX7_spans 21 = .ok (.iload_n 3, 1) := by decide +kernel
theorem dX7_spans_22 : decode cX7_spans 22 = .ok (.isub, 1) := by decide +kernel
theorem dX7_spans_23 : decode cX7_spans 23 = .ok (.if_icmp .gt 7, 3) := by decide +kernel
theorem dX7_spans_26 : decode cX7_spans 26 = .ok (.iconst 1, 1) := by decide +kernel
theorem dX7_spans_27 : decode cX7_spans 27 = .ok (.goto 4, 3) := by decide +kernel
theorem dX7_spans_30 : decode cX7_spans 30 = .ok (.iconst 0, 1) := by decide +kernel
theorem dX7_spans_31 : decode cX7_spans 31 = .ok (.ireturn, 1) := by decide +kernel
theorem dX7_move_0 : decode cX7_move 0 = .ok (.aload_n 0, 1) := by decide +kernel
theorem dX7_move_1 : decode cX7_move 1 = .ok (.getfield 15, 3) := by decide +kernel
theorem dX7_move_4 : decode cX7_move 4 = .ok (.iload_n 1, 1) := by decide +kernel
theorem dX7_move_5 : decode cX7_move 5 = .ok (.bipush 10, 2) := by decide +kernel
theorem dX7_move_7 : decode cX7_move 7 = .ok (.imul, 1) := by decide +kernel
theorem dX7_move_8 : decode cX7_move 8 = .ok (.iload_n 2, 1) := by decide +kernel
theorem dX7_move_9 : decode cX7_move 9 = .ok (.iadd, 1) := by decide +kernel
theorem dX7_move_10 : decode cX7_move 10 = .ok (.aload_n 0, 1) := by decide +kernel
theorem dX7_move_11 : decode cX7_move 11 = .ok (.getfield 15, 3) := by decide +kernel
theorem dX7_move_14 : decode cX7_move 14 = .ok (.iload_n 3, 1) := by decide +kernel
theorem dX7_move_15 : decode cX7_move 15 = .ok (.bipush 10, 2) := by decide +kernel
theorem dX7_move_17 : decode cX7_move 17 = .ok (.imul, 1) := by decide +kernel
theorem dX7_move_18 : decode cX7_move 18 = .ok (.iload 4, 2) := by decide +kernel
theorem dX7_move_20 : decode cX7_move 20 = .ok (.iadd, 1) := by decide +kernel
theorem dX7_move_21 : decode cX7_move 21 = .ok (.iload 5, 2) := by decide +kernel
theorem dX7_move_23 : decode cX7_move 23 = .ok (.invokestatic 24, 3) := by decide +kernel
theorem dX7_move_26 : decode cX7_move 26 = .ok (.return_, 1) := by decide +kernel
theorem dX8_init_0 : decode cX8_init 0 = .ok (.aload_n 0, 1) := by decide +kernel
theorem dX8_init_1 : decode cX8_init 1 = .ok (.invokespecial 3, 3) := by decide +kernel
theorem dX8_init_4 : decode cX8_init 4 = .ok (.aload_n 0, 1) := by decide +kernel
theorem dX8_init_5 : decode cX8_init 5 = .ok (.iconst 0, 1) := by decide +kernel
theorem dX8_init_6 : decode cX8_init 6 = .ok (.putfield 9, 3) := by decide +kernel
theorem dX8_init_9 : decode cX8_init 9 = .ok (.aload_n 0, 1) := by decide +kernel
theorem dX8_init_10 : decode cX8_init 10 = .ok (.sipush 400, 3) := by decide +kernel
theorem dX8_init_13 : decode cX8_init 13 = .ok (.newarray .int, 2) := by decide +kernel
theorem dX8_init_15 : decode cX8_init 15 = .ok (.putfield 15, 3) := by decide +kernel
theorem dX8_init_18 : decode cX8_init 18 = .ok (.aload_n 0, 1) := by decide +kernel
theorem dX8_init_19 : decode cX8_init 19 = .ok (.sipush 400, 3) := by decide +kernel
theorem dX8_init_22 : decode cX8_init 22 = .ok (.newarray .int, 2) := by decide +kernel
theorem dX8_init_24 : decode cX8_init 24 = .ok (.putfield 19, 3) := by decide +kernel
theorem dX8_init_27 : decode cX8_init 27 = .ok (.aload_n 0, 1) := by decide +kernel
theorem dX8_init_28 : decode cX8_init 28 = .ok (.sipush 400, 3) := by decide +kernel
theorem dX8_init_31 : decode cX8_init 31 = .ok (.newarray .int, 2) := by decide +kernel
theorem dX8_init_33 : decode cX8_init 33 = .ok (.putfield 22, 3) := by decide +kernel
theorem dX8_init_36 : decode cX8_init 36 = .ok (.return_, 1) := by decide +kernel
theorem dX8_enter_0 : decode cX8_enter 0 = .ok (.aload_n 0, 1) := by decide +kernel
theorem dX8_enter_1 : decode cX8_enter 1 = .ok (.getfield 15, 3) := by decide +kernel
theorem dX8_enter_4 : decode cX8_enter 4 = .ok (.aload_n 0, 1) := by decide +kernel
theorem dX8_enter_5 : decode cX8_enter 5 = .ok (.getfield 9, 3) := by decide +kernel
theorem dX8_enter_8 : decode cX8_enter 8 = .ok (.iload_n 1, 1) := by decide +kernel
theorem dX8_enter_9 : decode cX8_enter 9 = .ok (.iastore, 1) := by decide +kernel
theorem dX8_enter_10 : decode cX8_enter 10 = .ok (.aload_n 0, 1) := by decide +kernel
theorem dX8_enter_11 : decode cX8_enter 11 = .ok (.getfield 19, 3) := by decide +kernel
theorem dX8_enter_14 : decode cX8_enter 14 = .ok (.aload_n 0, 1) := by decide +kernel
theorem dX8_enter_15 : decode cX8_enter 15 = .ok (.getfield 9, 3) := by decide +kernel
theorem dX8_enter_18 : decode cX8_enter 18 = .ok (.iload_n 2, 1) := by decide +kernel
theorem dX8_enter_19 : decode cX8_enter 19 = .ok (.iastore, 1) := by decide +kernel
theorem dX8_enter_20 : decode cX8_enter 20 = .ok (.aload_n 0, 1) := by decide +kernel
theorem dX8_enter_21 : decode cX8_enter 21 = .ok (.getfield 22, 3) := by decide +kernel
theorem dX8_enter_24 : decode cX8_enter 24 = .ok (.aload_n 0, 1) := by decide +kernel
theorem dX8_enter_25 : decode cX8_enter 25 = .ok (.getfield 9, 3) := by decide +kernel
theorem dX8_enter_28 : decode cX8_enter 28 = .ok (.iload_n 3, 1) := by decide +kernel
theorem dX8_enter_29 : decode cX8_enter 29 = .ok (.iastore, 1) := by decide +kernel
theorem dX8_enter_30 : decode cX8_enter 30 = .ok (.aload_n 0, 1) := by decide +kernel
theorem dX8_enter_31 : decode cX8_enter 31 = .ok (.dup, 1) := by decide +kernel
theorem dX8_enter_32 : decode cX8_enter 32 = .ok (.getfield 9, 3) := by decide +kernel
theorem dX8_enter_35 : decode cX8_enter 35 = .ok (.iconst 1, 1) := by decide +kernel
theorem dX8_enter_36 : decode cX8_enter 36 = .ok (.iadd, 1) := by decide +kernel
theorem dX8_enter_37 : decode cX8_enter 37 = .ok (.putfield 9, 3) := by decide +kernel
theorem dX8_enter_40 : decode cX8_enter 40 = .ok (.aload_n 0, 1) := by decide +kernel
theorem dX8_enter_41 : decode cX8_enter 41 = .ok (.getfield 9, 3) := by decide +kernel
theorem dX8_enter_44 : decode cX8_enter 44 = .ok (.ireturn, 1) := by decide +kernel
theorem dX8_ofPerson_0 : decode cX8_ofPerson 0 = .ok (.iconst 0, 1) := by decide +kernel
theorem dX8_ofPerson_1 : decode cX8_ofPerson 1 = .ok (.istore_n 2, 1) := by decide +kernel
theorem dX8_ofPerson_2 : decode cX8_ofPerson 2 = .ok (.iconst 0, 1) := by decide +kernel
theorem dX8_ofPerson_3 : decode cX8_ofPerson 3 = .ok (.istore_n 3, 1) := by decide +kernel
theorem dX8_ofPerson_4 : decode cX8_ofPerson 4 = .ok (.iload_n 3, 1) := by decide +kernel
theorem dX8_ofPerson_5 : decode cX8_ofPerson 5 = .ok (.aload_n 0, 1) := by decide +kernel
theorem dX8_ofPerson_6 : decode cX8_ofPerson 6 = .ok (.getfield 9, 3) := by decide +kernel
theorem dX8_ofPerson_9 : decode cX8_ofPerson 9 = .ok (.if_icmp .ge 22, 3) := by decide +kernel
theorem dX8_ofPerson_12 : decode cX8_ofPerson 12 = .ok (.aload_n 0, 1) := by decide +kernel
theorem dX8_ofPerson_13 : decode cX8_ofPerson 13 = .ok (.getfield 15, 3) := by decide +kernel
theorem dX8_ofPerson_16 : decode cX8_ofPerson 16 = .ok (.iload_n 3, 1) := by decide +kernel
theorem dX8_ofPerson_17 : decode cX8_ofPerson 17 = .ok (.iaload, 1) := by decide +kernel
theorem dX8_ofPerson_18 : decode cX8_ofPerson 18 = .ok (.iload_n 1, 1) := by decide +kernel
theorem dX8_ofPerson_19 : decode cX8_ofPerson 19 = .ok (.if_icmp .ne 6, 3) := by decide +kernel
theorem dX8_ofPerson_22 : decode cX8_ofPerson 22 = .ok (.iinc 2 1, 3) := by decide +kernel
theorem dX8_ofPerson_25 : decode cX8_ofPerson 25 = .ok (.iinc 3 1, 3) := by decide +kernel
theorem dX8_ofPerson_28 : decode cX8_ofPerson 28 = .ok (.goto (-24), 3) := by decide +kernel
theorem dX8_ofPerson_31 : decode cX8_ofPerson 31 = .ok (.iload_n 2, 1) := by decide +kernel
theorem dX8_ofPerson_32 : decode cX8_ofPerson 32 = .ok (.ireturn, 1) := by decide +kernel
theorem dX8_ofHolding_0 : decode cX8_ofHolding 0 = .ok (.iconst 0, 1) := by decide +kernel
theorem dX8_ofHolding_1 : decode cX8_ofHolding 1 = .ok (.istore_n 3, 1) := by decide +kernel
theorem dX8_ofHolding_2 : decode cX8_ofHolding 2 = .ok (.iconst 0, 1) := by decide +kernel
theorem dX8_ofHolding_3 : decode cX8_ofHolding 3 = .ok (.istore 4, 2) := by decide +kernel
theorem dX8_ofHolding_5 : decode cX8_ofHolding 5 = .ok (.iload 4, 2) := by decide +kernel
theorem dX8_ofHolding_7 : decode cX8_ofHolding 7 = .ok (.aload_n 0, 1) := by decide +kernel
theorem dX8_ofHolding_8 : decode cX8_ofHolding 8 = .ok (.getfield 9, 3) := by decide +kernel
theorem dX8_ofHolding_11 : decode cX8_ofHolding 11 = .ok (.if_icmp .ge 34, 3) := by decide +kernel
theorem dX8_ofHolding_14 : decode cX8_ofHolding 14 = .ok (.aload_n 0, 1) := by decide +kernel
theorem dX8_ofHolding_15 : decode cX8_ofHolding 15 = .ok (.getfield 15, 3) := by decide +kernel
theorem dX8_ofHolding_18 : decode cX8_ofHolding 18 = .ok (.iload 4, 2) := by decide +kernel
theorem dX8_ofHolding_20 : decode cX8_ofHolding 20 = .ok (.iaload, 1) := by decide +kernel
theorem dX8_ofHolding_21 : decode cX8_ofHolding 21 = .ok (.iload_n 1, 1) := by decide +kernel
theorem dX8_ofHolding_22 : decode cX8_ofHolding 22 = .ok (.if_icmp .ne 17, 3) := by decide +kernel
theorem dX8_ofHolding_25 : decode cX8_ofHolding 25 = .ok (.aload_n 0, 1) := by decide +kernel
theorem dX8_ofHolding_26 : decode cX8_ofHolding 26 = .ok (.getfield 19, 3) := by decide +kernel
theorem dX8_ofHolding_29 : decode cX8_ofHolding 29 = .ok (.iload 4, 2) := by decide +kernel
theorem dX8_ofHolding_31 : decode cX8_ofHolding 31 = .ok (.iaload, 1) := by decide +kernel
theorem dX8_ofHolding_32 : decode cX8_ofHolding 32 = .ok (.iload_n 2, 1) := by decide +kernel
theorem dX8_ofHolding_33 : decode cX8_ofHolding 33 = .ok (.if_icmp .ne 6, 3) := by decide +kernel
theorem dX8_ofHolding_36 : decode cX8_ofHolding 36 = .ok (.iinc 3 1, 3) := by decide +kernel
theorem dX8_ofHolding_39 : decode cX8_ofHolding 39 = .ok (.iinc 4 1, 3) := by decide +kernel
theorem dX8_ofHolding_42 : decode cX8_ofHolding 42 = .ok (.goto (-37), 3) := by decide +kernel
theorem dX8_ofHolding_45 : decode cX8_ofHolding 45 = .ok (.iload_n 3, 1) := by decide +kernel
theorem dX8_ofHolding_46 : decode cX8_ofHolding 46 = .ok (.ireturn, 1) := by decide +kernel
set_option maxRecDepth 20000 in
theorem ggX8_recent_X2_isWithinLast : GoodIn wsX8_recent wsX2_isWithinLast := goodIn_r _ [9, 10, 15, 16, 17, 18] (by decide +kernel) (by decide +kernel)
set_option maxRecDepth 20000 in
theorem gX8_recent_X2_isWithinLast : GoodIn wsX8_recent (wsV RX8 30 RX2 yX2_isWithinLast wsX2_isWithinLast) := goodIn_app (goodIn_of _ (by decide +kernel)) ggX8_recent_X2_isWithinLast
theorem dX8_recent_0 : decode cX8_recent 0 = .ok (.iconst 0, 1) := by decide +kernel
theorem dX8_recent_1 : decode cX8_recent 1 = .ok (.istore_n 3, 1) := by decide +kernel
theorem dX8_recent_2 : decode cX8_recent 2 = .ok (.iconst 0, 1) := by decide +kernel
theorem dX8_recent_3 : decode cX8_recent 3 = .ok (.istore 4, 2) := by decide +kernel
theorem dX8_recent_5 : decode cX8_recent 5 = .ok (.iload 4, 2) := by decide +kernel
theorem dX8_recent_7 : decode cX8_recent 7 = .ok (.aload_n 0, 1) := by decide +kernel
theorem dX8_recent_8 : decode cX8_recent 8 = .ok (.getfield 9, 3) := by decide +kernel
theorem dX8_recent_11 : decode cX8_recent 11 = .ok (.if_icmp .ge 50, 3) := by decide +kernel
theorem dX8_recent_14 : decode cX8_recent 14 = .ok (.aload_n 0, 1) := by decide +kernel
theorem dX8_recent_15 : decode cX8_recent 15 = .ok (.getfield 15, 3) := by decide +kernel
theorem dX8_recent_18 : decode cX8_recent 18 = .ok (.iload 4, 2) := by decide +kernel
theorem dX8_recent_20 : decode cX8_recent 20 = .ok (.iaload, 1) := by decide +kernel
theorem dX8_recent_21 : decode cX8_recent 21 = .ok (.iload_n 1, 1) := by decide +kernel
theorem dX8_recent_22 : decode cX8_recent 22 = .ok (.if_icmp .ne 33, 3) := by decide +kernel
theorem dX8_recent_25 : decode cX8_recent 25 = .ok (.aload_n 2, 1) := by decide +kernel
theorem dX8_recent_26 : decode cX8_recent 26 = .ok (.aload_n 0, 1) := by decide +kernel
theorem dX8_recent_27 : decode cX8_recent 27 = .ok (.getfield 22, 3) := by decide +kernel
theorem dX8_recent_30 : decode cX8_recent 30 = .ok (.iload 4, 2) := by decide +kernel
theorem dX8_recent_32 : decode cX8_recent 32 = .ok (.iaload, 1) := by decide +kernel
theorem dX8_recent_33 : decode cX8_recent 33 = .ok (.aload_n 2, 1) := by decide +kernel
theorem dX8_recent_34 : decode cX8_recent 34 = .ok (.getfield 25, 3) := by decide +kernel
theorem dX8_recent_37 : decode cX8_recent 37 = .ok (.invokevirtual 30, 3) := by decide +kernel
theorem dX8_recent_40 : decode cX8_recent 40 = .ok (.ifCond .eq 15, 3) := by decide +kernel
theorem dX8_recent_43 : decode cX8_recent 43 = .ok (.iload_n 3, 1) := by decide +kernel
theorem dX8_recent_44 : decode cX8_recent 44 = .ok (.iconst 1, 1) := by decide +kernel
theorem dX8_recent_45 : decode cX8_recent 45 = .ok (.aload_n 0, 1) := by decide +kernel
theorem dX8_recent_46 : decode cX8_recent 46 = .ok (.getfield 19, 3) := by decide +kernel
theorem dX8_recent_49 : decode cX8_recent 49 = .ok (.iload 4, 2) := by decide +kernel
theorem dX8_recent_51 : decode cX8_recent 51 = .ok (.iaload, 1) := by decide +kernel
theorem dX8_recent_52 : decode cX8_recent 52 = .ok (.ishl, 1) := by decide +kernel
theorem dX8_recent_53 : decode cX8_recent 53 = .ok (.ior, 1) := by decide +kernel
theorem dX8_recent_54 : decode cX8_recent 54 = .ok (.istore_n 3, 1) := by decide +kernel
theorem dX8_recent_55 : decode cX8_recent 55 = .ok (.iinc 4 1, 3) := by decide +kernel
theorem dX8_recent_58 : decode cX8_recent 58 = .ok (.goto (-53), 3) := by decide +kernel
theorem dX8_recent_61 : decode cX8_recent 61 = .ok (.iload_n 3, 1) := by decide +kernel
theorem dX8_recent_62 : decode cX8_recent 62 = .ok (.ireturn, 1) := by decide +kernel
set_option maxRecDepth 20000 in
theorem ggX8_seasonal_X2_isWithinLast : GoodIn wsX8_seasonal wsX2_isWithinLast := goodIn_r _ [9, 10, 21, 22, 23, 24] (by decide +kernel) (by decide +kernel)
set_option maxRecDepth 20000 in
theorem gX8_seasonal_X2_isWithinLast : GoodIn wsX8_seasonal (wsV RX8 30 RX2 yX2_isWithinLast wsX2_isWithinLast) := goodIn_app (goodIn_of _ (by decide +kernel)) ggX8_seasonal_X2_isWithinLast
set_option maxRecDepth 20000 in
theorem ggX8_seasonal_X2_comesRound : GoodIn wsX8_seasonal wsX2_comesRound := goodIn_r _ [14, 15, 10, 16, 21, 22, 23, 24] (by decide +kernel) (by decide +kernel)
set_option maxRecDepth 20000 in
theorem gX8_seasonal_X2_comesRound : GoodIn wsX8_seasonal (wsV RX8 34 RX2 yX2_comesRound wsX2_comesRound) := goodIn_app (goodIn_of _ (by decide +kernel)) ggX8_seasonal_X2_comesRound
theorem dX8_seasonal_0 : decode cX8_seasonal 0 = .ok (.iconst 0, 1) := by decide +kernel
theorem dX8_seasonal_1 : decode cX8_seasonal 1 = .ok (.istore_n 3, 1) := by decide +kernel
theorem dX8_seasonal_2 : decode cX8_seasonal 2 = .ok (.iconst 0, 1) := by decide +kernel
theorem dX8_seasonal_3 : decode cX8_seasonal 3 = .ok (.istore 4, 2) := by decide +kernel
theorem dX8_seasonal_5 : decode cX8_seasonal 5 = .ok (.iload 4, 2) := by decide +kernel
theorem dX8_seasonal_7 : decode cX8_seasonal 7 = .ok (.aload_n 0, 1) := by decide +kernel
theorem dX8_seasonal_8 : decode cX8_seasonal 8 = .ok (.getfield 9, 3) := by decide +kernel
theorem dX8_seasonal_11 : decode cX8_seasonal 11 = .ok (.if_icmp .ge 76, 3) := by decide +kernel
theorem dX8_seasonal_14 : decode cX8_seasonal 14 = .ok (.aload_n 0, 1) := by decide +kernel
theorem dX8_seasonal_15 : decode cX8_seasonal 15 = .ok (.getfield 15, 3) := by decide +kernel
theorem dX8_seasonal_18 : decode cX8_seasonal 18 = .ok (.iload 4, 2) := by decide +kernel
theorem dX8_seasonal_20 : decode cX8_seasonal 20 = .ok (.iaload, 1) := by decide +kernel
theorem dX8_seasonal_21 : decode cX8_seasonal 21 = .ok (.iload_n 1, 1) := by decide +kernel
theorem dX8_seasonal_22 : decode cX8_seasonal 22 = .ok (.if_icmp .ne 25, 3) := by decide +kernel
theorem dX8_seasonal_25 : decode cX8_seasonal 25 = .ok (.aload_n 2, 1) := by decide +kernel
theorem dX8_seasonal_26 : decode cX8_seasonal 26 = .ok (.aload_n 0, 1) := by decide +kernel
theorem dX8_seasonal_27 : decode cX8_seasonal 27 = .ok (.getfield 22, 3) := by decide +kernel
theorem dX8_seasonal_30 : decode cX8_seasonal 30 = .ok (.iload 4, 2) := by decide +kernel
theorem dX8_seasonal_32 : decode cX8_seasonal 32 = .ok (.iaload, 1) := by decide +kernel
theorem dX8_seasonal_33 : decode cX8_seasonal 33 = .ok (.aload_n 2, 1) := by decide +kernel
theorem dX8_seasonal_34 : decode cX8_seasonal 34 = .ok (.getfield 25, 3) := by decide +kernel
theorem dX8_seasonal_37 : decode cX8_seasonal 37 = .ok (.invokevirtual 30, 3) := by decide +kernel
theorem dX8_seasonal_40 : decode cX8_seasonal 40 = .ok (.ifCond .ne 7, 3) := by decide +kernel
theorem dX8_seasonal_43 : decode cX8_seasonal 43 = .ok (.iconst 1, 1) := by decide +kernel
theorem dX8_seasonal_44 : decode cX8_seasonal 44 = .ok (.goto 4, 3) := by decide +kernel
theorem dX8_seasonal_47 : decode cX8_seasonal 47 = .ok (.iconst 0, 1) := by decide +kernel
theorem dX8_seasonal_48 : decode cX8_seasonal 48 = .ok (.istore 5, 2) := by decide +kernel
theorem dX8_seasonal_50 : decode cX8_seasonal 50 = .ok (.iload 5, 2) := by decide +kernel
theorem dX8_seasonal_52 : decode cX8_seasonal 52 = .ok (.ifCond .eq 29, 3) := by decide +kernel
theorem dX8_seasonal_55 : decode cX8_seasonal 55 = .ok (.aload_n 2, 1) := by decide +kernel
theorem dX8_seasonal_56 : decode cX8_seasonal 56 = .ok (.aload_n 0, 1) := by decide +kernel
theorem dX8_seasonal_57 : decode cX8_seasonal 57 = .ok (.getfield 22, 3) := by decide +kernel
theorem dX8_seasonal_60 : decode cX8_seasonal 60 = .ok (.iload 4, 2) := by decide +kernel
theorem dX8_seasonal_62 : decode cX8_seasonal 62 = .ok (.iaload, 1) := by decide +kernel
theorem dX8_seasonal_63 : decode cX8_seasonal 63 = .ok (.invokevirtual 34, 3) := by decide +kernel
theorem dX8_seasonal_66 : decode cX8_seasonal 66 = .ok (.ifCond .eq 15, 3) := by decide +kernel
theorem dX8_seasonal_69 : decode cX8_seasonal 69 = .ok (.iload_n 3, 1) := by decide +kernel
theorem dX8_seasonal_70 : decode cX8_seasonal 70 = .ok (.iconst 1, 1) := by decide +kernel
theorem dX8_seasonal_71 : decode cX8_seasonal 71 = .ok (.aload_n 0, 1) := by decide +kernel
theorem dX8_seasonal_72 : decode cX8_seasonal 72 = .ok (.getfield 19, 3) := by decide +kernel
theorem dX8_seasonal_75 : decode cX8_seasonal 75 = .ok (.iload 4, 2) := by decide +kernel
theorem dX8_seasonal_77 : decode cX8_seasonal 77 = .ok (.iaload, 1) := by decide +kernel
theorem dX8_seasonal_78 : decode cX8_seasonal 78 = .ok (.ishl, 1) := by decide +kernel
theorem dX8_seasonal_79 : decode cX8_seasonal 79 = .ok (.ior, 1) := by decide +kernel
theorem dX8_seasonal_80 : decode cX8_seasonal 80 = .ok (.istore_n 3, 1) := by decide +kernel
theorem dX8_seasonal_81 : decode cX8_seasonal 81 = .ok (.iinc 4 1, 3) := by decide +kernel
theorem dX8_seasonal_84 : decode cX8_seasonal 84 = .ok (.goto (-79), 3) := by decide +kernel
theorem dX8_seasonal_87 : decode cX8_seasonal 87 = .ok (.iload_n 3, 1) := by decide +kernel
theorem dX8_seasonal_88 : decode cX8_seasonal 88 = .ok (.ireturn, 1) := by decide +kernel
set_option maxRecDepth 20000 in
theorem ggX9_init_X2_init : GoodIn wsX9_init wsX2_init := goodIn_r _ [46, 47, 2, 3, 48, 49, 50, 51, 106, 107, 108, 109] (by decide +kernel) (by decide +kernel)
set_option maxRecDepth 20000 in
theorem gX9_init_X2_init_n9 : GoodIn wsX9_init (wsX2_init) := ggX9_init_X2_init
set_option maxRecDepth 20000 in
theorem ggX9_init_X5_init : GoodIn wsX9_init wsX5_init := goodIn_r _ [53, 54, 2, 3, 55, 40, 56, 57, 58, 59, 123, 124, 125, 126, 127] (by decide +kernel) (by decide +kernel)
set_option maxRecDepth 20000 in
theorem gX9_init_X5_init_n18 : GoodIn wsX9_init (wsX5_init) := ggX9_init_X5_init
set_option maxRecDepth 20000 in
theorem ggX9_init_X8_init : GoodIn wsX9_init wsX8_init := goodIn_r _ [61, 62, 2, 3, 63, 40, 64, 65, 66, 128, 129, 130, 131] (by decide +kernel) (by decide +kernel)
set_option maxRecDepth 20000 in
theorem gX9_init_X8_init_n25 : GoodIn wsX9_init (wsX8_init) := ggX9_init_X8_init
set_option maxRecDepth 20000 in
theorem ggX9_init_X1_init : GoodIn wsX9_init wsX1_init := goodIn_r _ [68, 69, 2, 3, 70, 40, 71, 72, 73, 132, 133, 134] (by decide +kernel) (by decide +kernel)
set_option maxRecDepth 20000 in
theorem gX9_init_X1_init_n32 : GoodIn wsX9_init (wsX1_init) := ggX9_init_X1_init
set_option maxRecDepth 20000 in
theorem ggX9_init_X6_init : GoodIn wsX9_init wsX6_init := goodIn_r _ [75, 76, 2, 3, 77, 78, 79, 40, 80, 81, 82, 83, 84, 85, 135, 136, 137, 138, 139, 140, 141, 142, 143] (by decide +kernel) (by decide +kernel)
set_option maxRecDepth 20000 in
theorem gX9_init_X6_init_n39 : GoodIn wsX9_init (wsX6_init) := ggX9_init_X6_init
set_option maxRecDepth 20000 in
theorem ggX9_init_X0_init : GoodIn wsX9_init wsX0_init := goodIn_r _ [87, 88, 2, 3, 40, 89, 144] (by decide +kernel) (by decide +kernel)
set_option maxRecDepth 20000 in
theorem gX9_init_X0_init_n46 : GoodIn wsX9_init (wsX0_init) := ggX9_init_X0_init
set_option maxRecDepth 20000 in
theorem ggX9_init_X3_init : GoodIn wsX9_init wsX3_init := goodIn_r _ [91, 92, 2, 3, 93, 94, 40, 95, 145, 146, 147] (by decide +kernel) (by decide +kernel)
set_option maxRecDepth 20000 in
theorem gX9_init_X3_init_n53 : GoodIn wsX9_init (wsX3_init) := ggX9_init_X3_init
set_option maxRecDepth 20000 in
theorem ggX9_init_X7_init : GoodIn wsX9_init wsX7_init := goodIn_r _ [97, 98, 2, 3, 40, 99, 100, 148, 149] (by decide +kernel) (by decide +kernel)
set_option maxRecDepth 20000 in
theorem gX9_init_X7_init_n60 : GoodIn wsX9_init (wsX7_init) := ggX9_init_X7_init
set_option maxRecDepth 20000 in
theorem ggX9_init_X4_init : GoodIn wsX9_init wsX4_init := goodIn_r _ [102, 103, 2, 3, 104, 40, 105, 150, 151] (by decide +kernel) (by decide +kernel)
set_option maxRecDepth 20000 in
theorem gX9_init_X4_init_n67 : GoodIn wsX9_init (wsX4_init) := ggX9_init_X4_init
theorem dX9_init_0 : decode cX9_init 0 = .ok (.aload_n 0, 1) := by decide +kernel
theorem dX9_init_1 : decode cX9_init 1 = .ok (.invokespecial 1, 3) := by decide +kernel
theorem dX9_init_4 : decode cX9_init 4 = .ok (.aload_n 0, 1) := by decide +kernel
theorem dX9_init_5 : decode cX9_init 5 = .ok (.new 7, 3) := by decide +kernel
theorem dX9_init_8 : decode cX9_init 8 = .ok (.dup, 1) := by decide +kernel
theorem dX9_init_9 : decode cX9_init 9 = .ok (.invokespecial 9, 3) := by decide +kernel
theorem dX9_init_12 : decode cX9_init 12 = .ok (.putfield 10, 3) := by decide +kernel
theorem dX9_init_15 : decode cX9_init 15 = .ok (.aload_n 0, 1) := by decide +kernel
theorem dX9_init_16 : decode cX9_init 16 = .ok (.new 16, 3) := by decide +kernel
theorem dX9_init_19 : decode cX9_init 19 = .ok (.dup, 1) := by decide +kernel
theorem dX9_init_20 : decode cX9_init 20 = .ok (.invokespecial 18, 3) := by decide +kernel
theorem dX9_init_23 : decode cX9_init 23 = .ok (.putfield 19, 3) := by decide +kernel
theorem dX9_init_26 : decode cX9_init 26 = .ok (.aload_n 0, 1) := by decide +kernel
theorem dX9_init_27 : decode cX9_init 27 = .ok (.new 23, 3) := by decide +kernel
theorem dX9_init_30 : decode cX9_init 30 = .ok (.dup, 1) := by decide +kernel
theorem dX9_init_31 : decode cX9_init 31 = .ok (.invokespecial 25, 3) := by decide +kernel
theorem dX9_init_34 : decode cX9_init 34 = .ok (.putfield 26, 3) := by decide +kernel
theorem dX9_init_37 : decode cX9_init 37 = .ok (.aload_n 0, 1) := by decide +kernel
theorem dX9_init_38 : decode cX9_init 38 = .ok (.new 30, 3) := by decide +kernel
theorem dX9_init_41 : decode cX9_init 41 = .ok (.dup, 1) := by decide +kernel
theorem dX9_init_42 : decode cX9_init 42 = .ok (.invokespecial 32, 3) := by decide +kernel
theorem dX9_init_45 : decode cX9_init 45 = .ok (.putfield 33, 3) := by decide +kernel
theorem dX9_init_48 : decode cX9_init 48 = .ok (.aload_n 0, 1) := by decide +kernel
theorem dX9_init_49 : decode cX9_init 49 = .ok (.new 37, 3) := by decide +kernel
theorem dX9_init_52 : decode cX9_init 52 = .ok (.dup, 1) := by decide +kernel
theorem dX9_init_53 : decode cX9_init 53 = .ok (.invokespecial 39, 3) := by decide +kernel
theorem dX9_init_56 : decode cX9_init 56 = .ok (.putfield 40, 3) := by decide +kernel
theorem dX9_init_59 : decode cX9_init 59 = .ok (.aload_n 0, 1) := by decide +kernel
theorem dX9_init_60 : decode cX9_init 60 = .ok (.new 44, 3) := by decide +kernel
theorem dX9_init_63 : decode cX9_init 63 = .ok (.dup, 1) := by decide +kernel
theorem dX9_init_64 : decode cX9_init 64 = .ok (.invokespecial 46, 3) := by decide +kernel
theorem dX9_init_67 : decode cX9_init 67 = .ok (.putfield 47, 3) := by decide +kernel
theorem dX9_init_70 : decode cX9_init 70 = .ok (.aload_n 0, 1) := by decide +kernel
theorem dX9_init_71 : decode cX9_init 71 = .ok (.new 51, 3) := by decide +kernel
theorem dX9_init_74 : decode cX9_init 74 = .ok (.dup, 1) := by decide +kernel
theorem dX9_init_75 : decode cX9_init 75 = .ok (.invokespecial 53, 3) := by decide +kernel
theorem dX9_init_78 : decode cX9_init 78 = .ok (.putfield 54, 3) := by decide +kernel
theorem dX9_init_81 : decode cX9_init 81 = .ok (.aload_n 0, 1) := by decide +kernel
theorem dX9_init_82 : decode cX9_init 82 = .ok (.new 58, 3) := by decide +kernel
theorem dX9_init_85 : decode cX9_init 85 = .ok (.dup, 1) := by decide +kernel
theorem dX9_init_86 : decode cX9_init 86 = .ok (.invokespecial 60, 3) := by decide +kernel
theorem dX9_init_89 : decode cX9_init 89 = .ok (.putfield 61, 3) := by decide +kernel
theorem dX9_init_92 : decode cX9_init 92 = .ok (.aload_n 0, 1) := by decide +kernel
theorem dX9_init_93 : decode cX9_init 93 = .ok (.new 65, 3) := by decide +kernel
theorem dX9_init_96 : decode cX9_init 96 = .ok (.dup, 1) := by decide +kernel
theorem dX9_init_97 : decode cX9_init 97 = .ok (.invokespecial 67, 3) := by decide +kernel
theorem dX9_init_100 : decode cX9_init 100 = .ok (.putfield 68, 3) := by decide +kernel
theorem dX9_init_103 : decode cX9_init 103 = .ok (.aload_n 0, 1) := by decide +kernel
theorem dX9_init_104 : decode cX9_init 104 = .ok (.bipush 10, 2) := by decide +kernel
theorem dX9_init_106 : decode cX9_init 106 = .ok (.newarray .int, 2) := by decide +kernel
theorem dX9_init_108 : decode cX9_init 108 = .ok (.putfield 72, 3) := by decide +kernel
theorem dX9_init_111 : decode cX9_init 111 = .ok (.aload_n 0, 1) := by decide +kernel
theorem dX9_init_112 : decode cX9_init 112 = .ok (.iconst 3, 1) := by decide +kernel
theorem dX9_init_113 : decode cX9_init 113 = .ok (.newarray .int, 2) := by decide +kernel
theorem dX9_init_115 : decode cX9_init 115 = .ok (.putfield 76, 3) := by decide +kernel
theorem dX9_init_118 : decode cX9_init 118 = .ok (.aload_n 0, 1) := by decide +kernel
theorem dX9_init_119 : decode cX9_init 119 = .ok (.iconst 0, 1) := by decide +kernel
theorem dX9_init_120 : decode cX9_init 120 = .ok (.putfield 79, 3) := by decide +kernel
theorem dX9_init_123 : decode cX9_init 123 = .ok (.aload_n 0, 1) := by decide +kernel
theorem dX9_init_124 : decode cX9_init 124 = .ok (.iconst 0, 1) := by decide +kernel
theorem dX9_init_125 : decode cX9_init 125 = .ok (.putfield 83, 3) := by decide +kernel
theorem dX9_init_128 : decode cX9_init 128 = .ok (.return_, 1) := by decide +kernel
set_option maxRecDepth 20000 in
theorem ggX9_person_X9_noMarkSet : GoodIn wsX9_person wsX9_noMarkSet := goodIn_r _ [5] (by decide +kernel) (by decide +kernel)
set_option maxRecDepth 20000 in
theorem gX9_person_X9_noMarkSet : GoodIn wsX9_person (va_wsS RX9 86 yX9_noMarkSet wsX9_noMarkSet) := goodIn_app (goodIn_of _ (by decide +kernel)) ggX9_person_X9_noMarkSet
set_option maxRecDepth 20000 in
theorem ggX9_person_X9_noRightSet : GoodIn wsX9_person wsX9_noRightSet := goodIn_r _ [8] (by decide +kernel) (by decide +kernel)
set_option maxRecDepth 20000 in
theorem gX9_person_X9_noRightSet : GoodIn wsX9_person (va_wsS RX9 90 yX9_noRightSet wsX9_noRightSet) := goodIn_app (goodIn_of _ (by decide +kernel)) ggX9_person_X9_noRightSet
set_option maxRecDepth 20000 in
theorem ggX9_person_X5_join : GoodIn wsX9_person wsX5_join := goodIn_r _ [13, 14, 15, 16, 30, 31, 32, 33, 34] (by decide +kernel) (by decide +kernel)
set_option maxRecDepth 20000 in
theorem gX9_person_X5_join : GoodIn wsX9_person (wsV RX9 96 RX5 yX5_join wsX5_join) := goodIn_app (goodIn_of _ (by decide +kernel)) ggX9_person_X5_join
theorem dX9_person_0 : decode cX9_person 0 = .ok (.iload_n 1, 1) := by decide +kernel
theorem dX9_person_1 : decode cX9_person 1 = .ok (.invokestatic 86, 3) := by decide +kernel
theorem dX9_person_4 : decode cX9_person 4 = .ok (.ifCond .ne 10, 3) := by decide +kernel
theorem dX9_person_7 : decode cX9_person 7 = .ok (.iload_n 2, 1) := by decide +kernel
theorem dX9_person_8 : decode cX9_person 8 = .ok (.invokestatic 90, 3) := by decide +kernel
theorem dX9_person_11 : decode cX9_person 11 = .ok (.ifCond .eq 5, 3) := by decide +kernel
theorem dX9_person_14 : decode cX9_person 14 = .ok (.iconst (-1), 1) := by decide +kernel
theorem dX9_person_15 : decode cX9_person 15 = .ok (.ireturn, 1) := by decide +kernel
theorem dX9_person_16 : decode cX9_person 16 = .ok (.aload_n 0, 1) := by decide +kernel
theorem dX9_person_17 : decode cX9_person 17 = .ok (.getfield 19, 3) := by decide +kernel
theorem dX9_person_20 : decode cX9_person 20 = .ok (.getfield 93, 3) := by decide +kernel
theorem dX9_person_23 : decode cX9_person 23 = .ok (.bipush 10, 2) := by decide +kernel
theorem dX9_person_25 : decode cX9_person 25 = .ok (.if_icmp .lt 6, 3) := by decide +kernel
theorem dX9_person_28 : decode cX9_person 28 = .ok (.bipush (-2), 2) := by decide +kernel
theorem dX9_person_30 : decode cX9_person 30 = .ok (.ireturn, 1) := by decide +kernel
theorem dX9_person_31 : decode cX9_person 31 = .ok (.aload_n 0, 1) := by decide +kernel
theorem dX9_person_32 : decode cX9_person 32 = .ok (.getfield 19, 3) := by decide +kernel
theorem dX9_person_35 : decode cX9_person 35 = .ok (.iload_n 1, 1) := by decide +kernel
theorem dX9_person_36 : decode cX9_person 36 = .ok (.iload_n 2, 1) := by decide +kernel
theorem dX9_person_37 : decode cX9_person 37 = .ok (.invokevirtual 96, 3) := by decide +kernel
theorem dX9_person_40 : decode cX9_person 40 = .ok (.ireturn, 1) := by decide +kernel
set_option maxRecDepth 20000 in
theorem ggX9_change_X9_noPerson : GoodIn wsX9_change wsX9_noPerson := goodIn_r _ [6, 1, 25, 26, 27, 28, 29, 30, 31, 32, 33, 34, 35, 36, 37, 38, 39, 40, 41, 42] (by decide +kernel) (by decide +kernel)
set_option maxRecDepth 20000 in
theorem gX9_change_X9_noPerson : GoodIn wsX9_change (wsV RX9 100 RX9 yX9_noPerson wsX9_noPerson) := goodIn_app (goodIn_of _ (by decide +kernel)) ggX9_change_X9_noPerson
set_option maxRecDepth 20000 in
theorem ggX9_change_X9_noMarkSet : GoodIn wsX9_change wsX9_noMarkSet := goodIn_r _ [9] (by decide +kernel) (by decide +kernel)
set_option maxRecDepth 20000 in
theorem gX9_change_X9_noMarkSet : GoodIn wsX9_change (va_wsS RX9 86 yX9_noMarkSet wsX9_noMarkSet) := goodIn_app (goodIn_of _ (by decide +kernel)) ggX9_change_X9_noMarkSet
set_option maxRecDepth 20000 in
theorem ggX9_change_X5_remark : GoodIn wsX9_change wsX5_remark := goodIn_r _ [14, 15, 38, 39, 40, 41, 42] (by decide +kernel) (by decide +kernel)
set_option maxRecDepth 20000 in
theorem gX9_change_X5_remark : GoodIn wsX9_change (wsV RX9 103 RX5 yX5_remark wsX5_remark) := goodIn_app (goodIn_of _ (by decide +kernel)) ggX9_change_X5_remark
set_option maxRecDepth 20000 in
theorem ggX9_change_X9_noRightSet : GoodIn wsX9_change wsX9_noRightSet := goodIn_r _ [18] (by decide +kernel) (by decide +kernel)
set_option maxRecDepth 20000 in
theorem gX9_change_X9_noRightSet : GoodIn wsX9_change (va_wsS RX9 90 yX9_noRightSet wsX9_noRightSet) := goodIn_app (goodIn_of _ (by decide +kernel)) ggX9_change_X9_noRightSet
set_option maxRecDepth 20000 in
theorem ggX9_change_X5_give : GoodIn wsX9_change wsX5_give := goodIn_r _ [22, 23, 24, 38, 39, 40, 41, 42] (by decide +kernel) (by decide +kernel)
set_option maxRecDepth 20000 in
theorem gX9_change_X5_give : GoodIn wsX9_change (wsV RX9 106 RX5 yX5_give wsX5_give) := goodIn_app (goodIn_of _ (by decide +kernel)) ggX9_change_X5_give
theorem dX9_change_0 : decode cX9_change 0 = .ok (.aload_n 0, 1) := by decide +kernel
theorem dX9_change_1 : decode cX9_change 1 = .ok (.iload_n 1, 1) := by decide +kernel
theorem dX9_change_2 : decode cX9_change 2 = .ok (.invokevirtual 100, 3) := by decide +kernel
theorem dX9_change_5 : decode cX9_change 5 = .ok (.ifCond .eq 5, 3) := by decide +kernel
theorem dX9_change_8 : decode cX9_change 8 = .ok (.iconst (-1), 1) := by decide +kernel
theorem dX9_change_9 : decode cX9_change 9 = .ok (.ireturn, 1) := by decide +kernel
theorem dX9_change_10 : decode cX9_change 10 = .ok (.iload_n 2, 1) := by decide +kernel
theorem dX9_change_11 : decode cX9_change 11 = .ok (.ifCond .ne 24, 3) := by decide +kernel
theorem dX9_change_14 : decode cX9_change 14 = .ok (.iload_n 3, 1) := by decide +kernel
theorem dX9_change_15 : decode cX9_change 15 = .ok (.invokestatic 86, 3) := by decide +kernel
theorem dX9_change_18 : decode cX9_change 18 = .ok (.ifCond .eq 7, 3) := by decide +kernel
theorem dX9_change_21 : decode cX9_change 21 = .ok (.iconst (-1), 1) := by decide +kernel
theorem dX9_change_22 : decode cX9_change 22 = .ok (.goto 12, 3) := by decide +kernel
theorem dX9_change_25 : decode cX9_change 25 = .ok (.aload_n 0, 1) := by decide +kernel
theorem dX9_change_26 : decode cX9_change 26 = .ok (.getfield 19, 3) := by decide +kernel
theorem dX9_change_29 : decode cX9_change 29 = .ok (.iload_n 1, 1) := by decide +kernel
theorem dX9_change_30 : decode cX9_change 30 = .ok (.iload_n 3, 1) := by decide +kernel
theorem dX9_change_31 : decode cX9_change 31 = .ok (.invokevirtual 103, 3) := by decide +kernel
theorem dX9_change_34 : decode cX9_change 34 = .ok (.ireturn, 1) := by decide +kernel
theorem dX9_change_35 : decode cX9_change 35 = .ok (.iload_n 2, 1) := by decide +kernel
theorem dX9_change_36 : decode cX9_change 36 = .ok (.iconst 1, 1) := by decide +kernel
theorem dX9_change_37 : decode cX9_change 37 = .ok (.if_icmp .ne 24, 3) := by decide +kernel
theorem dX9_change_40 : decode cX9_change 40 = .ok (.iload_n 3, 1) := by decide +kernel
theorem dX9_change_41 : decode cX9_change 41 = .ok (.invokestatic 90, 3) := by decide +kernel
theorem dX9_change_44 : decode cX9_change 44 = .ok (.ifCond .eq 7, 3) := by decide +kernel
theorem dX9_change_47 : decode cX9_change 47 = .ok (.iconst (-1), 1) := by decide +kernel
theorem dX9_change_48 : decode cX9_change 48 = .ok (.goto 12, 3) := by decide +kernel
theorem dX9_change_51 : decode cX9_change 51 = .ok (.aload_n 0, 1) := by decide +kernel
theorem dX9_change_52 : decode cX9_change 52 = .ok (.getfield 19, 3) := by decide +kernel
theorem dX9_change_55 : decode cX9_change 55 = .ok (.iload_n 1, 1) := by decide +kernel
theorem dX9_change_56 : decode cX9_change 56 = .ok (.iload_n 3, 1) := by decide +kernel
theorem dX9_change_57 : decode cX9_change 57 = .ok (.invokevirtual 106, 3) := by decide +kernel
theorem dX9_change_60 : decode cX9_change 60 = .ok (.ireturn, 1) := by decide +kernel
theorem dX9_change_61 : decode cX9_change 61 = .ok (.iconst (-1), 1) := by decide +kernel
theorem dX9_change_62 : decode cX9_change 62 = .ok (.ireturn, 1) := by decide +kernel
set_option maxRecDepth 20000 in
theorem ggX9_told_X9_noPerson : GoodIn wsX9_told wsX9_noPerson := goodIn_r _ [7, 1, 43, 44, 45, 46, 47, 48, 49, 50, 51, 52, 53, 54, 55, 56, 57, 58, 59, 60] (by decide +kernel) (by decide +kernel)
set_option maxRecDepth 20000 in
theorem gX9_told_X9_noPerson : GoodIn wsX9_told (wsV RX9 100 RX9 yX9_noPerson wsX9_noPerson) := goodIn_app (goodIn_of _ (by decide +kernel)) ggX9_told_X9_noPerson
set_option maxRecDepth 20000 in
theorem ggX9_told_X9_keptOf : GoodIn wsX9_told wsX9_keptOf := goodIn_r _ [11, 2, 12, 13, 1, 14, 15, 16, 17, 18, 19, 20, 21, 22, 23, 24, 25, 26, 27, 28, 29, 30, 31, 32, 33, 34, 35, 36, 37, 38, 43, 44, 45, 46, 47, 48, 49, 50, 51, 52, 53, 54, 55, 56, 57, 58, 59, 60, 61, 62, 63, 64, 65, 66, 67, 68] (by decide +kernel) (by decide +kernel)
set_option maxRecDepth 20000 in
theorem gX9_told_X9_keptOf : GoodIn wsX9_told (wsV RX9 115 RX9 yX9_keptOf wsX9_keptOf) := goodIn_app (goodIn_of _ (by decide +kernel)) ggX9_told_X9_keptOf
set_option maxRecDepth 20000 in
theorem ggX9_told_X8_ofPerson : GoodIn wsX9_told wsX8_ofPerson := goodIn_r _ [42, 19, 20, 61, 62, 63, 64] (by decide +kernel) (by decide +kernel)
set_option maxRecDepth 20000 in
theorem gX9_told_X8_ofPerson : GoodIn wsX9_told (wsV RX9 122 RX8 yX8_ofPerson wsX8_ofPerson) := goodIn_app (goodIn_of _ (by decide +kernel)) ggX9_told_X8_ofPerson
theorem dX9_told_0 : decode cX9_told 0 = .ok (.aload_n 0, 1) := by decide +kernel
theorem dX9_told_1 : decode cX9_told 1 = .ok (.iload_n 1, 1) := by decide +kernel
theorem dX9_told_2 : decode cX9_told 2 = .ok (.invokevirtual 100, 3) := by decide +kernel
theorem dX9_told_5 : decode cX9_told 5 = .ok (.ifCond .eq 5, 3) := by decide +kernel
theorem dX9_told_8 : decode cX9_told 8 = .ok (.iconst (-1), 1) := by decide +kernel
theorem dX9_told_9 : decode cX9_told 9 = .ok (.ireturn, 1) := by decide +kernel
theorem dX9_told_10 : decode cX9_told 10 = .ok (.iload_n 2, 1) := by decide +kernel
theorem dX9_told_11 : decode cX9_told 11 = .ok (.tableswitch 78 0 4 #[33, 43, 53, 59, 69], 33) := by decide +kernel
theorem dX9_told_44 : decode cX9_told 44 = .ok (.aload_n 0, 1) := by decide +kernel
theorem dX9_told_45 : decode cX9_told 45 = .ok (.getfield 19, 3) := by decide +kernel
theorem dX9_told_48 : decode cX9_told 48 = .ok (.getfield 109, 3) := by decide +kernel
theorem dX9_told_51 : decode cX9_told 51 = .ok (.iload_n 1, 1) := by decide +kernel
theorem dX9_told_52 : decode cX9_told 52 = .ok (.iaload, 1) := by decide +kernel
theorem dX9_told_53 : decode cX9_told 53 = .ok (.ireturn, 1) := by decide +kernel
theorem dX9_told_54 : decode cX9_told 54 = .ok (.aload_n 0, 1) := by decide +kernel
theorem dX9_told_55 : decode cX9_told 55 = .ok (.getfield 19, 3) := by decide +kernel
theorem dX9_told_58 : decode cX9_told 58 = .ok (.getfield 112, 3) := by decide +kernel
theorem dX9_told_61 : decode cX9_told 61 = .ok (.iload_n 1, 1) := by decide +kernel
theorem dX9_told_62 : decode cX9_told 62 = .ok (.iaload, 1) := by decide +kernel
theorem dX9_told_63 : decode cX9_told 63 = .ok (.ireturn, 1) := by decide +kernel
theorem dX9_told_64 : decode cX9_told 64 = .ok (.aload_n 0, 1) := by decide +kernel
theorem dX9_told_65 : decode cX9_told 65 = .ok (.iload_n 1, 1) := by decide +kernel
theorem dX9_told_66 : decode cX9_told 66 = .ok (.invokevirtual 115, 3) := by decide +kernel
theorem dX9_told_69 : decode cX9_told 69 = .ok (.ireturn, 1) := by decide +kernel
theorem dX9_told_70 : decode cX9_told 70 = .ok (.aload_n 0, 1) := by decide +kernel
theorem dX9_told_71 : decode cX9_told 71 = .ok (.getfield 19, 3) := by decide +kernel
theorem dX9_told_74 : decode cX9_told 74 = .ok (.getfield 119, 3) := by decide +kernel
theorem dX9_told_77 : decode cX9_told 77 = .ok (.iload_n 1, 1) := by decide +kernel
theorem dX9_told_78 : decode cX9_told 78 = .ok (.iaload, 1) := by decide +kernel
theorem dX9_told_79 : decode cX9_told 79 = .ok (.ireturn, 1) := by decide +kernel
theorem dX9_told_80 : decode cX9_told 80 = .ok (.aload_n 0, 1) := by decide +kernel
theorem dX9_told_81 : decode cX9_told 81 = .ok (.getfield 26, 3) := by decide +kernel
theorem dX9_told_84 : decode cX9_told 84 = .ok (.iload_n 1, 1) := by decide +kernel
theorem dX9_told_85 : decode cX9_told 85 = .ok (.invokevirtual 122, 3) := by decide +kernel
theorem dX9_told_88 : decode cX9_told 88 = .ok (.ireturn, 1) := by decide +kernel
theorem dX9_told_89 : decode cX9_told 89 = .ok (.iconst (-1), 1) := by decide +kernel
theorem dX9_told_90 : decode cX9_told 90 = .ok (.ireturn, 1) := by decide +kernel
set_option maxRecDepth 20000 in
theorem ggX9_standby_X9_noRightSet : GoodIn wsX9_standby wsX9_noRightSet := goodIn_r _ [5] (by decide +kernel) (by decide +kernel)
set_option maxRecDepth 20000 in
theorem gX9_standby_X9_noRightSet : GoodIn wsX9_standby (va_wsS RX9 90 yX9_noRightSet wsX9_noRightSet) := goodIn_app (goodIn_of _ (by decide +kernel)) ggX9_standby_X9_noRightSet
theorem dX9_standby_0 : decode cX9_standby 0 = .ok (.iload_n 1, 1) := by decide +kernel
theorem dX9_standby_1 : decode cX9_standby 1 = .ok (.invokestatic 90, 3) := by decide +kernel
theorem dX9_standby_4 : decode cX9_standby 4 = .ok (.ifCond .eq 5, 3) := by decide +kernel
theorem dX9_standby_7 : decode cX9_standby 7 = .ok (.iconst (-1), 1) := by decide +kernel
theorem dX9_standby_8 : decode cX9_standby 8 = .ok (.ireturn, 1) := by decide +kernel
theorem dX9_standby_9 : decode cX9_standby 9 = .ok (.aload_n 0, 1) := by decide +kernel
theorem dX9_standby_10 : decode cX9_standby 10 = .ok (.getfield 79, 3) := by decide +kernel
theorem dX9_standby_13 : decode cX9_standby 13 = .ok (.istore_n 2, 1) := by decide +kernel
theorem dX9_standby_14 : decode cX9_standby 14 = .ok (.aload_n 0, 1) := by decide +kernel
theorem dX9_standby_15 : decode cX9_standby 15 = .ok (.iload_n 1, 1) := by decide +kernel
theorem dX9_standby_16 : decode cX9_standby 16 = .ok (.putfield 79, 3) := by decide +kernel
theorem dX9_standby_19 : decode cX9_standby 19 = .ok (.iload_n 2, 1) := by decide +kernel
theorem dX9_standby_20 : decode cX9_standby 20 = .ok (.ireturn, 1) := by decide +kernel
theorem dX9_rule_0 : decode cX9_rule 0 = .ok (.iload_n 1, 1) := by decide +kernel
theorem dX9_rule_1 : decode cX9_rule 1 = .ok (.iconst 1, 1) := by decide +kernel
theorem dX9_rule_2 : decode cX9_rule 2 = .ok (.if_icmp .lt 22, 3) := by decide +kernel
theorem dX9_rule_5 : decode cX9_rule 5 = .ok (.iload_n 1, 1) := by decide +kernel
theorem dX9_rule_6 : decode cX9_rule 6 = .ok (.sipush 999, 3) := by decide +kernel
theorem dX9_rule_9 : decode cX9_rule 9 = .ok (.if_icmp .gt 15, 3) := by decide +kernel
theorem dX9_rule_12 : decode cX9_rule 12 = .ok (.iload_n 2, 1) := by decide +kernel
theorem dX9_rule_13 : decode cX9_rule 13 = .ok (.iconst 1, 1) := by decide +kernel
theorem dX9_rule_14 : decode cX9_rule 14 = .ok (.if_icmp .lt 10, 3) := by decide +kernel
theorem dX9_rule_17 : decode cX9_rule 17 = .ok (.iload_n 2, 1) := by decide +kernel
theorem dX9_rule_18 : decode cX9_rule 18 = .ok (.sipush 999, 3) := by decide +kernel
theorem dX9_rule_21 : decode cX9_rule 21 = .ok (.if_icmp .le 5, 3) := by decide +kernel
theorem dX9_rule_24 : decode cX9_rule 24 = .ok (.iconst (-1), 1) := by decide +kernel
theorem dX9_rule_25 : decode cX9_rule 25 = .ok (.ireturn, 1) := by decide +kernel
theorem dX9_rule_26 : decode cX9_rule 26 = .ok (.iload_n 3, 1) := by decide +kernel
theorem dX9_rule_27 : decode cX9_rule 27 = .ok (.ifCond .lt 10, 3) := by decide +kernel
theorem dX9_rule_30 : decode cX9_rule 30 = .ok (.iload_n 3, 1) := by decide +kernel
theorem dX9_rule_31 : decode cX9_rule 31 = .ok (.sipush 999, 3) := by decide +kernel
theorem dX9_rule_34 : decode cX9_rule 34 = .ok (.if_icmp .le 5, 3) := by decide +kernel
theorem dX9_rule_37 : decode cX9_rule 37 = .ok (.iconst (-1), 1) := by decide +kernel
theorem dX9_rule_38 : decode cX9_rule 38 = .ok (.ireturn, 1) := by decide +kernel
theorem dX9_rule_39 : decode cX9_rule 39 = .ok (.aload_n 0, 1) := by decide +kernel
theorem dX9_rule_40 : decode cX9_rule 40 = .ok (.getfield 10, 3) := by decide +kernel
theorem dX9_rule_43 : decode cX9_rule 43 = .ok (.iload_n 1, 1) := by decide +kernel
theorem dX9_rule_44 : decode cX9_rule 44 = .ok (.putfield 125, 3) := by decide +kernel
theorem dX9_rule_47 : decode cX9_rule 47 = .ok (.aload_n 0, 1) := by decide +kernel
theorem dX9_rule_48 : decode cX9_rule 48 = .ok (.getfield 10, 3) := by decide +kernel
theorem dX9_rule_51 : decode cX9_rule 51 = .ok (.iload_n 2, 1) := by decide +kernel
theorem dX9_rule_52 : decode cX9_rule 52 = .ok (.putfield 128, 3) := by decide +kernel
theorem dX9_rule_55 : decode cX9_rule 55 = .ok (.aload_n 0, 1) := by decide +kernel
theorem dX9_rule_56 : decode cX9_rule 56 = .ok (.getfield 10, 3) := by decide +kernel
theorem dX9_rule_59 : decode cX9_rule 59 = .ok (.iload_n 3, 1) := by decide +kernel
theorem dX9_rule_60 : decode cX9_rule 60 = .ok (.putfield 131, 3) := by decide +kernel
theorem dX9_rule_63 : decode cX9_rule 63 = .ok (.iconst 1, 1) := by decide +kernel
theorem dX9_rule_64 : decode cX9_rule 64 = .ok (.ireturn, 1) := by decide +kernel
theorem dX9_later_0 : decode cX9_later 0 = .ok (.iload_n 1, 1) := by decide +kernel
theorem dX9_later_1 : decode cX9_later 1 = .ok (.ifCond .lt 18, 3) := by decide +kernel
theorem dX9_later_4 : decode cX9_later 4 = .ok (.iload_n 1, 1) := by decide +kernel
theorem dX9_later_5 : decode cX9_later 5 = .ok (.sipush 999, 3) := by decide +kernel
theorem dX9_later_8 : decode cX9_later 8 = .ok (.aload_n 0, 1) := by decide +kernel
theorem dX9_later_9 : decode cX9_later 9 = .ok (.getfield 10, 3) := by decide +kernel
theorem dX9_later_12 : decode cX9_later 12 = .ok (.getfield 134, 3) := by decide +kernel
theorem dX9_later_15 : decode cX9_later 15 = .ok (.isub, 1) := by decide +kernel
theorem dX9_later_16 : decode cX9_later 16 = .ok (.if_icmp .le 5, 3) := by decide +kernel
theorem dX9_later_19 : decode cX9_later 19 = .ok (.iconst (-1), 1) := by decide +kernel
theorem dX9_later_20 : decode cX9_later 20 = .ok (.ireturn, 1) := by decide +kernel
theorem dX9_later_21 : decode cX9_later 21 = .ok (.aload_n 0, 1) := by decide +kernel
theorem dX9_later_22 : decode cX9_later 22 = .ok (.getfield 10, 3) := by decide +kernel
theorem dX9_later_25 : decode cX9_later 25 = .ok (.dup, 1) := by decide +kernel
theorem dX9_later_26 : decode cX9_later 26 = .ok (.getfield 134, 3) := by decide +kernel
theorem dX9_later_29 : decode cX9_later 29 = .ok (.iload_n 1, 1) := by decide +kernel
theorem dX9_later_30 : decode cX9_later 30 = .ok (.iadd, 1) := by decide +kernel
theorem dX9_later_31 : decode cX9_later 31 = .ok (.putfield 134, 3) := by decide +kernel
theorem dX9_later_34 : decode cX9_later 34 = .ok (.aload_n 0, 1) := by decide +kernel
theorem dX9_later_35 : decode cX9_later 35 = .ok (.getfield 10, 3) := by decide +kernel
theorem dX9_later_38 : decode cX9_later 38 = .ok (.getfield 134, 3) := by decide +kernel
theorem dX9_later_41 : decode cX9_later 41 = .ok (.ireturn, 1) := by decide +kernel
set_option maxRecDepth 20000 in
theorem ggX9_use_X9_noPerson : GoodIn wsX9_use wsX9_noPerson := goodIn_r _ [8, 3, 27, 28, 29, 30, 31, 32, 33, 34, 35, 36, 37, 38, 39, 48, 49, 50, 51, 52] (by decide +kernel) (by decide +kernel)
set_option maxRecDepth 20000 in
theorem gX9_use_X9_noPerson : GoodIn wsX9_use (wsV RX9 100 RX9 yX9_noPerson wsX9_noPerson) := goodIn_app (goodIn_of _ (by decide +kernel)) ggX9_use_X9_noPerson
set_option maxRecDepth 20000 in
theorem ggX9_use_X9_noRight : GoodIn wsX9_use wsX9_noRight := goodIn_r _ [11] (by decide +kernel) (by decide +kernel)
set_option maxRecDepth 20000 in
theorem gX9_use_X9_noRight : GoodIn wsX9_use (va_wsS RX9 137 yX9_noRight wsX9_noRight) := goodIn_app (goodIn_of _ (by decide +kernel)) ggX9_use_X9_noRight
set_option maxRecDepth 20000 in
theorem ggX9_use_X5_has : GoodIn wsX9_use wsX5_has := goodIn_r _ [16, 17, 48, 49, 50, 51, 52] (by decide +kernel) (by decide +kernel)
set_option maxRecDepth 20000 in
theorem gX9_use_X5_has : GoodIn wsX9_use (wsV RX9 141 RX5 yX5_has wsX5_has) := goodIn_app (goodIn_of _ (by decide +kernel)) ggX9_use_X5_has
set_option maxRecDepth 20000 in
theorem ggX9_use_X8_enter : GoodIn wsX9_use wsX8_enter := goodIn_r _ [22, 23, 24, 25, 26, 44, 45, 46, 47] (by decide +kernel) (by decide +kernel)
set_option maxRecDepth 20000 in
theorem gX9_use_X8_enter : GoodIn wsX9_use (wsV RX9 145 RX8 yX8_enter wsX8_enter) := goodIn_app (goodIn_of _ (by decide +kernel)) ggX9_use_X8_enter
theorem dX9_use_0 : decode cX9_use 0 = .ok (.aload_n 0, 1) := by decide +kernel
theorem dX9_use_1 : decode cX9_use 1 = .ok (.iload_n 1, 1) := by decide +kernel
theorem dX9_use_2 : decode cX9_use 2 = .ok (.invokevirtual 100, 3) := by decide +kernel
theorem dX9_use_5 : decode cX9_use 5 = .ok (.ifCond .ne 25, 3) := by decide +kernel
theorem dX9_use_8 : decode cX9_use 8 = .ok (.iload_n 2, 1) := by decide +kernel
theorem dX9_use_9 : decode cX9_use 9 = .ok (.invokestatic 137, 3) := by decide +kernel
theorem dX9_use_12 : decode cX9_use 12 = .ok (.ifCond .ne 18, 3) := by decide +kernel
theorem dX9_use_15 : decode cX9_use 15 = .ok (.iload_n 3, 1) := by decide +kernel
theorem dX9_use_16 : decode cX9_use 16 = .ok (.ifCond .lt 14, 3) := by decide +kernel
theorem dX9_use_19 : decode cX9_use 19 = .ok (.iload_n 3, 1) := by decide +kernel
theorem dX9_use_20 : decode cX9_use 20 = .ok (.aload_n 0, 1) := by decide +kernel
theorem dX9_use_21 : decode cX9_use 21 = .ok (.getfield 10, 3) := by decide +kernel
theorem dX9_use_24 : decode cX9_use 24 = .ok (.getfield 134, 3) := by decide +kernel
theorem dX9_use_27 : decode cX9_use 27 = .ok (.if_icmp .le 5, 3) := by decide +kernel
theorem dX9_use_30 : decode cX9_use 30 = .ok (.iconst (-1), 1) := by decide +kernel
theorem dX9_use_31 : decode cX9_use 31 = .ok (.ireturn, 1) := by decide +kernel
theorem dX9_use_32 : decode cX9_use 32 = .ok (.aload_n 0, 1) := by decide +kernel
theorem dX9_use_33 : decode cX9_use 33 = .ok (.getfield 26, 3) := by decide +kernel
theorem dX9_use_36 : decode cX9_use 36 = .ok (.getfield 140, 3) := by decide +kernel
theorem dX9_use_39 : decode cX9_use 39 = .ok (.sipush 400, 3) := by decide +kernel
theorem dX9_use_42 : decode cX9_use 42 = .ok (.if_icmp .lt 6, 3) := by decide +kernel
theorem dX9_use_45 : decode cX9_use 45 = .ok (.bipush (-2), 2) := by decide +kernel
theorem dX9_use_47 : decode cX9_use 47 = .ok (.ireturn, 1) := by decide +kernel
theorem dX9_use_48 : decode cX9_use 48 = .ok (.aload_n 0, 1) := by decide +kernel
theorem dX9_use_49 : decode cX9_use 49 = .ok (.getfield 19, 3) := by decide +kernel
theorem dX9_use_52 : decode cX9_use 52 = .ok (.iload_n 1, 1) := by decide +kernel
theorem dX9_use_53 : decode cX9_use 53 = .ok (.iload_n 2, 1) := by decide +kernel
theorem dX9_use_54 : decode cX9_use 54 = .ok (.invokevirtual 141, 3) := by decide +kernel
theorem dX9_use_57 : decode cX9_use 57 = .ok (.ifCond .ne 6, 3) := by decide +kernel
theorem dX9_use_60 : decode cX9_use 60 = .ok (.bipush (-4), 2) := by decide +kernel
theorem dX9_use_62 : decode cX9_use 62 = .ok (.ireturn, 1) := by decide +kernel
theorem dX9_use_63 : decode cX9_use 63 = .ok (.aload_n 0, 1) := by decide +kernel
theorem dX9_use_64 : decode cX9_use 64 = .ok (.getfield 26, 3) := by decide +kernel
theorem dX9_use_67 : decode cX9_use 67 = .ok (.iload_n 1, 1) := by decide +kernel
theorem dX9_use_68 : decode cX9_use 68 = .ok (.iload_n 2, 1) := by decide +kernel
theorem dX9_use_69 : decode cX9_use 69 = .ok (.aload_n 0, 1) := by decide +kernel
theorem dX9_use_70 : decode cX9_use 70 = .ok (.getfield 10, 3) := by decide +kernel
theorem dX9_use_73 : decode cX9_use 73 = .ok (.getfield 134, 3) := by decide +kernel
theorem dX9_use_76 : decode cX9_use 76 = .ok (.iload_n 3, 1) := by decide +kernel
theorem dX9_use_77 : decode cX9_use 77 = .ok (.isub, 1) := by decide +kernel
theorem dX9_use_78 : decode cX9_use 78 = .ok (.invokevirtual 145, 3) := by decide +kernel
theorem dX9_use_81 : decode cX9_use 81 = .ok (.ireturn, 1) := by decide +kernel
set_option maxRecDepth 20000 in
theorem ggX9_kind_X9_noPerson : GoodIn wsX9_kind wsX9_noPerson := goodIn_r _ [6, 1, 48, 49, 50, 51, 52, 53, 54, 55, 56, 57, 58, 59, 60, 61, 62, 63, 64, 65] (by decide +kernel) (by decide +kernel)
set_option maxRecDepth 20000 in
theorem gX9_kind_X9_noPerson : GoodIn wsX9_kind (wsV RX9 100 RX9 yX9_noPerson wsX9_noPerson) := goodIn_app (goodIn_of _ (by decide +kernel)) ggX9_kind_X9_noPerson
set_option maxRecDepth 20000 in
theorem ggX9_kind_X9_noRight : GoodIn wsX9_kind wsX9_noRight := goodIn_r _ [9] (by decide +kernel) (by decide +kernel)
set_option maxRecDepth 20000 in
theorem gX9_kind_X9_noRight : GoodIn wsX9_kind (va_wsS RX9 137 yX9_noRight wsX9_noRight) := goodIn_app (goodIn_of _ (by decide +kernel)) ggX9_kind_X9_noRight
set_option maxRecDepth 20000 in
theorem ggX9_kind_X5_has : GoodIn wsX9_kind wsX5_has := goodIn_r _ [14, 15, 61, 62, 63, 64, 65] (by decide +kernel) (by decide +kernel)
set_option maxRecDepth 20000 in
theorem gX9_kind_X5_has : GoodIn wsX9_kind (wsV RX9 141 RX5 yX5_has wsX5_has) := goodIn_app (goodIn_of _ (by decide +kernel)) ggX9_kind_X5_has
set_option maxRecDepth 20000 in
theorem ggX9_kind_X9_kindOf : GoodIn wsX9_kind wsX9_kindOf := goodIn_r _ [19, 20, 21, 22, 23, 24, 25, 26, 27, 28, 29, 30, 31, 32, 33, 34, 35, 36, 37, 38, 39, 40, 41, 42, 43, 44, 45, 46, 47, 48, 49, 50, 51, 52, 53, 54, 55, 56, 57, 58, 59, 60, 66, 67, 68, 69, 70, 71, 72, 73] (by decide +kernel) (by decide +kernel)
set_option maxRecDepth 20000 in
theorem gX9_kind_X9_kindOf : GoodIn wsX9_kind (wsV RX9 149 RX9 yX9_kindOf wsX9_kindOf) := goodIn_app (goodIn_of _ (by decide +kernel)) ggX9_kind_X9_kindOf
theorem dX9_kind_0 : decode cX9_kind 0 = .ok (.aload_n 0, 1) := by decide +kernel
theorem dX9_kind_1 : decode cX9_kind 1 = .ok (.iload_n 1, 1) := by decide +kernel
theorem dX9_kind_2 : decode cX9_kind 2 = .ok (.invokevirtual 100, 3) := by decide +kernel
theorem dX9_kind_5 : decode cX9_kind 5 = .ok (.ifCond .ne 10, 3) := by decide +kernel
theorem dX9_kind_8 : decode cX9_kind 8 = .ok (.iload_n 2, 1) := by decide +kernel
theorem dX9_kind_9 : decode cX9_kind 9 = .ok (.invokestatic 137, 3) := by decide +kernel
theorem dX9_kind_12 : decode cX9_kind 12 = .ok (.ifCond .eq 5, 3) := by decide +kernel
theorem dX9_kind_15 : decode cX9_kind 15 = .ok (.iconst (-1), 1) := by decide +kernel
theorem dX9_kind_16 : decode cX9_kind 16 = .ok (.ireturn, 1) := by decide +kernel
theorem dX9_kind_17 : decode cX9_kind 17 = .ok (.aload_n 0, 1) := by decide +kernel
theorem dX9_kind_18 : decode cX9_kind 18 = .ok (.getfield 19, 3) := by decide +kernel
theorem dX9_kind_21 : decode cX9_kind 21 = .ok (.iload_n 1, 1) := by decide +kernel
theorem dX9_kind_22 : decode cX9_kind 22 = .ok (.iload_n 2, 1) := by decide +kernel
theorem dX9_kind_23 : decode cX9_kind 23 = .ok (.invokevirtual 141, 3) := by decide +kernel
theorem dX9_kind_26 : decode cX9_kind 26 = .ok (.ifCond .ne 6, 3) := by decide +kernel
theorem dX9_kind_29 : decode cX9_kind 29 = .ok (.bipush (-4), 2) := by decide +kernel
theorem dX9_kind_31 : decode cX9_kind 31 = .ok (.ireturn, 1) := by decide +kernel
theorem dX9_kind_32 : decode cX9_kind 32 = .ok (.aload_n 0, 1) := by decide +kernel
theorem dX9_kind_33 : decode cX9_kind 33 = .ok (.iload_n 1, 1) := by decide +kernel
theorem dX9_kind_34 : decode cX9_kind 34 = .ok (.iload_n 2, 1) := by decide +kernel
theorem dX9_kind_35 : decode cX9_kind 35 = .ok (.invokevirtual 149, 3) := by decide +kernel
theorem dX9_kind_38 : decode cX9_kind 38 = .ok (.ireturn, 1) := by decide +kernel
set_option maxRecDepth 20000 in
theorem ggX9_uses_X9_noPerson : GoodIn wsX9_uses wsX9_noPerson := goodIn_r _ [8, 1, 63, 64, 65, 66, 67, 68, 69, 70, 71, 72, 73, 74, 75, 76, 77, 78, 79, 80] (by decide +kernel) (by decide +kernel)
set_option maxRecDepth 20000 in
theorem gX9_uses_X9_noPerson : GoodIn wsX9_uses (wsV RX9 100 RX9 yX9_noPerson wsX9_noPerson) := goodIn_app (goodIn_of _ (by decide +kernel)) ggX9_uses_X9_noPerson
set_option maxRecDepth 20000 in
theorem ggX9_uses_X9_noRight : GoodIn wsX9_uses wsX9_noRight := goodIn_r _ [11] (by decide +kernel) (by decide +kernel)
set_option maxRecDepth 20000 in
theorem gX9_uses_X9_noRight : GoodIn wsX9_uses (va_wsS RX9 137 yX9_noRight wsX9_noRight) := goodIn_app (goodIn_of _ (by decide +kernel)) ggX9_uses_X9_noRight
set_option maxRecDepth 20000 in
theorem ggX9_uses_X5_has : GoodIn wsX9_uses wsX5_has := goodIn_r _ [16, 17, 76, 77, 78, 79, 80] (by decide +kernel) (by decide +kernel)
set_option maxRecDepth 20000 in
theorem gX9_uses_X5_has : GoodIn wsX9_uses (wsV RX9 141 RX5 yX5_has wsX5_has) := goodIn_app (goodIn_of _ (by decide +kernel)) ggX9_uses_X5_has
set_option maxRecDepth 20000 in
theorem ggX9_uses_X9_kindOf : GoodIn wsX9_uses wsX9_kindOf := goodIn_r _ [21, 3, 22, 23, 24, 25, 26, 27, 28, 29, 30, 31, 32, 33, 34, 35, 36, 37, 38, 39, 40, 41, 42, 43, 44, 45, 46, 47, 48, 63, 64, 65, 66, 67, 68, 69, 70, 71, 72, 73, 74, 75, 81, 82, 83, 84, 85, 86, 87, 88] (by decide +kernel) (by decide +kernel)
set_option maxRecDepth 20000 in
theorem gX9_uses_X9_kindOf : GoodIn wsX9_uses (wsV RX9 149 RX9 yX9_kindOf wsX9_kindOf) := goodIn_app (goodIn_of _ (by decide +kernel)) ggX9_uses_X9_kindOf
set_option maxRecDepth 20000 in
theorem ggX9_uses_X9_isOfKind : GoodIn wsX9_uses wsX9_isOfKind := goodIn_r _ [51] (by decide +kernel) (by decide +kernel)
set_option maxRecDepth 20000 in
theorem gX9_uses_X9_isOfKind : GoodIn wsX9_uses (va_wsS RX9 152 yX9_isOfKind wsX9_isOfKind) := goodIn_app (goodIn_of _ (by decide +kernel)) ggX9_uses_X9_isOfKind
set_option maxRecDepth 20000 in
theorem ggX9_uses_X4_answer : GoodIn wsX9_uses wsX4_answer := goodIn_r _ [56, 57, 58, 89, 90] (by decide +kernel) (by decide +kernel)
set_option maxRecDepth 20000 in
theorem gX9_uses_X4_answer : GoodIn wsX9_uses (wsV RX9 155 RX4 yX4_answer wsX4_answer) := goodIn_app (goodIn_of _ (by decide +kernel)) ggX9_uses_X4_answer
set_option maxRecDepth 20000 in
theorem ggX9_uses_X8_ofHolding : GoodIn wsX9_uses wsX8_ofHolding := goodIn_r _ [62, 29, 30, 32, 81, 82, 83, 84] (by decide +kernel) (by decide +kernel)
set_option maxRecDepth 20000 in
theorem gX9_uses_X8_ofHolding : GoodIn wsX9_uses (wsV RX9 158 RX8 yX8_ofHolding wsX8_ofHolding) := goodIn_app (goodIn_of _ (by decide +kernel)) ggX9_uses_X8_ofHolding
theorem dX9_uses_0 : decode cX9_uses 0 = .ok (.aload_n 0, 1) := by decide +kernel
theorem dX9_uses_1 : decode cX9_uses 1 = .ok (.iload_n 1, 1) := by decide +kernel
theorem dX9_uses_2 : decode cX9_uses 2 = .ok (.invokevirtual 100, 3) := by decide +kernel
theorem dX9_uses_5 : decode cX9_uses 5 = .ok (.ifCond .ne 19, 3) := by decide +kernel
theorem dX9_uses_8 : decode cX9_uses 8 = .ok (.iload_n 2, 1) := by decide +kernel
theorem dX9_uses_9 : decode cX9_uses 9 = .ok (.invokestatic 137, 3) := by decide +kernel
theorem dX9_uses_12 : decode cX9_uses 12 = .ok (.ifCond .ne 12, 3) := by decide +kernel
theorem dX9_uses_15 : decode cX9_uses 15 = .ok (.iload_n 3, 1) := by decide +kernel
theorem dX9_uses_16 : decode cX9_uses 16 = .ok (.ifCond .lt 8, 3) := by decide +kernel
theorem dX9_uses_19 : decode cX9_uses 19 = .ok (.iload_n 3, 1) := by decide +kernel
theorem dX9_uses_20 : decode cX9_uses 20 = .ok (.iconst 3, 1) := by decide +kernel
theorem dX9_uses_21 : decode cX9_uses 21 = .ok (.if_icmp .le 5, 3) := by decide +kernel
theorem dX9_uses_24 : decode cX9_uses 24 = .ok (.iconst (-1), 1) := by decide +kernel
theorem dX9_uses_25 : decode cX9_uses 25 = .ok (.ireturn, 1) := by decide +kernel
theorem dX9_uses_26 : decode cX9_uses 26 = .ok (.aload_n 0, 1) := by decide +kernel
theorem dX9_uses_27 : decode cX9_uses 27 = .ok (.getfield 19, 3) := by decide +kernel
theorem dX9_uses_30 : decode cX9_uses 30 = .ok (.iload_n 1, 1) := by decide +kernel
theorem dX9_uses_31 : decode cX9_uses 31 = .ok (.iload_n 2, 1) := by decide +kernel
theorem dX9_uses_32 : decode cX9_uses 32 = .ok (.invokevirtual 141, 3) := by decide +kernel
theorem dX9_uses_35 : decode cX9_uses 35 = .ok (.ifCond .ne 6, 3) := by decide +kernel
theorem dX9_uses_38 : decode cX9_uses 38 = .ok (.bipush (-4), 2) := by decide +kernel
theorem dX9_uses_40 : decode cX9_uses 40 = .ok (.ireturn, 1) := by decide +kernel
theorem dX9_uses_41 : decode cX9_uses 41 = .ok (.aload_n 0, 1) := by decide +kernel
theorem dX9_uses_42 : decode cX9_uses 42 = .ok (.iload_n 1, 1) := by decide +kernel
theorem dX9_uses_43 : decode cX9_uses 43 = .ok (.iload_n 2, 1) := by decide +kernel
theorem dX9_uses_44 : decode cX9_uses 44 = .ok (.invokevirtual 149, 3) := by decide +kernel
theorem dX9_uses_47 : decode cX9_uses 47 = .ok (.iload_n 3, 1) := by decide +kernel
theorem dX9_uses_48 : decode cX9_uses 48 = .ok (.invokestatic 152, 3) := by decide +kernel
theorem dX9_uses_51 : decode cX9_uses 51 = .ok (.ifCond .ne 12, 3) := by decide +kernel
theorem dX9_uses_54 : decode cX9_uses 54 = .ok (.aload_n 0, 1) := by decide +kernel
theorem dX9_uses_55 : decode cX9_uses 55 = .ok (.getfield 68, 3) := by decide +kernel
theorem dX9_uses_58 : decode cX9_uses 58 = .ok (.iconst 3, 1) := by decide +kernel
theorem dX9_uses_59 : decode cX9_uses 59 = .ok (.invokevirtual 155, 3) := by decide +kernel
theorem dX9_uses_62 : decode cX9_uses 62 = .ok (.ireturn, 1) := by decide +kernel
theorem dX9_uses_63 : decode cX9_uses 63 = .ok (.aload_n 0, 1) := by decide +kernel
theorem dX9_uses_64 : decode cX9_uses 64 = .ok (.getfield 26, 3) := by decide +kernel
theorem dX9_uses_67 : decode cX9_uses 67 = .ok (.iload_n 1, 1) := by decide +kernel
theorem dX9_uses_68 : decode cX9_uses 68 = .ok (.iload_n 2, 1) := by decide +kernel
theorem dX9_uses_69 : decode cX9_uses 69 = .ok (.invokevirtual 158, 3) := by decide +kernel
theorem dX9_uses_72 : decode cX9_uses 72 = .ok (.ireturn, 1) := by decide +kernel
set_option maxRecDepth 20000 in
theorem ggX9_strike_X9_noPerson : GoodIn wsX9_strike wsX9_noPerson := goodIn_r _ [7, 1, 54, 55, 56, 57, 58, 59, 60, 61, 62, 63, 64, 65, 66, 71, 72, 73, 74, 75] (by decide +kernel) (by decide +kernel)
set_option maxRecDepth 20000 in
theorem gX9_strike_X9_noPerson : GoodIn wsX9_strike (wsV RX9 100 RX9 yX9_noPerson wsX9_noPerson) := goodIn_app (goodIn_of _ (by decide +kernel)) ggX9_strike_X9_noPerson
set_option maxRecDepth 20000 in
theorem ggX9_strike_X9_keptOf : GoodIn wsX9_strike wsX9_keptOf := goodIn_r _ [11, 12, 2, 13, 1, 14, 15, 16, 17, 18, 19, 20, 21, 22, 23, 24, 25, 26, 27, 28, 29, 30, 31, 32, 33, 34, 35, 36, 37, 38, 54, 55, 56, 57, 58, 59, 60, 61, 62, 63, 64, 65, 66, 71, 72, 73, 74, 75, 76, 77, 78, 79, 67, 68, 69, 70] (by decide +kernel) (by decide +kernel)
set_option maxRecDepth 20000 in
theorem gX9_strike_X9_keptOf : GoodIn wsX9_strike (wsV RX9 115 RX9 yX9_keptOf wsX9_keptOf) := goodIn_app (goodIn_of _ (by decide +kernel)) ggX9_strike_X9_keptOf
set_option maxRecDepth 20000 in
theorem ggX9_strike_X5_leave : GoodIn wsX9_strike wsX5_leave := goodIn_r _ [43, 44, 45, 46, 47, 48, 49, 50, 51, 52, 53, 71, 72, 73, 74, 75] (by decide +kernel) (by decide +kernel)
set_option maxRecDepth 20000 in
theorem gX9_strike_X5_leave : GoodIn wsX9_strike (wsV RX9 161 RX5 yX5_leave wsX5_leave) := goodIn_app (goodIn_of _ (by decide +kernel)) ggX9_strike_X5_leave
theorem dX9_strike_0 : decode cX9_strike 0 = .ok (.aload_n 0, 1) := by decide +kernel
theorem dX9_strike_1 : decode cX9_strike 1 = .ok (.iload_n 1, 1) := by decide +kernel
theorem dX9_strike_2 : decode cX9_strike 2 = .ok (.invokevirtual 100, 3) := by decide +kernel
theorem dX9_strike_5 : decode cX9_strike 5 = .ok (.ifCond .eq 5, 3) := by decide +kernel
theorem dX9_strike_8 : decode cX9_strike 8 = .ok (.iconst (-1), 1) := by decide +kernel
theorem dX9_strike_9 : decode cX9_strike 9 = .ok (.ireturn, 1) := by decide +kernel
theorem dX9_strike_10 : decode cX9_strike 10 = .ok (.aload_n 0, 1) := by decide +kernel
theorem dX9_strike_11 : decode cX9_strike 11 = .ok (.getfield 19, 3) := by decide +kernel
theorem dX9_strike_14 : decode cX9_strike 14 = .ok (.iload_n 1, 1) := by decide +kernel
theorem dX9_strike_15 : decode cX9_strike 15 = .ok (.aload_n 0, 1) := by decide +kernel
theorem dX9_strike_16 : decode cX9_strike 16 = .ok (.iload_n 1, 1) := by decide +kernel
theorem dX9_strike_17 : decode cX9_strike 17 = .ok (.invokevirtual 115, 3) := by decide +kernel
theorem dX9_strike_20 : decode cX9_strike 20 = .ok (.aload_n 0, 1) := by decide +kernel
theorem dX9_strike_21 : decode cX9_strike 21 = .ok (.getfield 10, 3) := by decide +kernel
theorem dX9_strike_24 : decode cX9_strike 24 = .ok (.getfield 134, 3) := by decide +kernel
theorem dX9_strike_27 : decode cX9_strike 27 = .ok (.invokevirtual 161, 3) := by decide +kernel
theorem dX9_strike_30 : decode cX9_strike 30 = .ok (.ireturn, 1) := by decide +kernel
set_option maxRecDepth 20000 in
theorem ggX9_ask_X9_noPerson : GoodIn wsX9_ask wsX9_noPerson := goodIn_r _ [8, 1, 27, 28, 29, 30, 31, 32, 33, 34, 35, 36, 37, 38, 39, 40, 41, 42, 43, 44] (by decide +kernel) (by decide +kernel)
set_option maxRecDepth 20000 in
theorem gX9_ask_X9_noPerson : GoodIn wsX9_ask (wsV RX9 100 RX9 yX9_noPerson wsX9_noPerson) := goodIn_app (goodIn_of _ (by decide +kernel)) ggX9_ask_X9_noPerson
set_option maxRecDepth 20000 in
theorem ggX9_ask_X9_noRight : GoodIn wsX9_ask wsX9_noRight := goodIn_r _ [11] (by decide +kernel) (by decide +kernel)
set_option maxRecDepth 20000 in
theorem gX9_ask_X9_noRight : GoodIn wsX9_ask (va_wsS RX9 137 yX9_noRight wsX9_noRight) := goodIn_app (goodIn_of _ (by decide +kernel)) ggX9_ask_X9_noRight
set_option maxRecDepth 20000 in
theorem ggX9_ask_X5_request : GoodIn wsX9_ask wsX5_request := goodIn_r _ [16, 17, 18, 19, 20, 21, 22, 23, 24, 25, 26, 40, 41, 42, 43, 44, 45, 46, 47, 48] (by decide +kernel) (by decide +kernel)
set_option maxRecDepth 20000 in
theorem gX9_ask_X5_request : GoodIn wsX9_ask (wsV RX9 164 RX5 yX5_request wsX5_request) := goodIn_app (goodIn_of _ (by decide +kernel)) ggX9_ask_X5_request
theorem dX9_ask_0 : decode cX9_ask 0 = .ok (.aload_n 0, 1) := by decide +kernel
theorem dX9_ask_1 : decode cX9_ask 1 = .ok (.iload_n 1, 1) := by decide +kernel
theorem dX9_ask_2 : decode cX9_ask 2 = .ok (.invokevirtual 100, 3) := by decide +kernel
theorem dX9_ask_5 : decode cX9_ask 5 = .ok (.ifCond .ne 10, 3) := by decide +kernel
theorem dX9_ask_8 : decode cX9_ask 8 = .ok (.iload_n 2, 1) := by decide +kernel
theorem dX9_ask_9 : decode cX9_ask 9 = .ok (.invokestatic 137, 3) := by decide +kernel
theorem dX9_ask_12 : decode cX9_ask 12 = .ok (.ifCond .eq 5, 3) := by decide +kernel
theorem dX9_ask_15 : decode cX9_ask 15 = .ok (.iconst (-1), 1) := by decide +kernel
theorem dX9_ask_16 : decode cX9_ask 16 = .ok (.ireturn, 1) := by decide +kernel
theorem dX9_ask_17 : decode cX9_ask 17 = .ok (.aload_n 0, 1) := by decide +kernel
theorem dX9_ask_18 : decode cX9_ask 18 = .ok (.getfield 19, 3) := by decide +kernel
theorem dX9_ask_21 : decode cX9_ask 21 = .ok (.iload_n 1, 1) := by decide +kernel
theorem dX9_ask_22 : decode cX9_ask 22 = .ok (.iload_n 2, 1) := by decide +kernel
theorem dX9_ask_23 : decode cX9_ask 23 = .ok (.aload_n 0, 1) := by decide +kernel
theorem dX9_ask_24 : decode cX9_ask 24 = .ok (.getfield 10, 3) := by decide +kernel
theorem dX9_ask_27 : decode cX9_ask 27 = .ok (.invokevirtual 164, 3) := by decide +kernel
theorem dX9_ask_30 : decode cX9_ask 30 = .ok (.istore_n 3, 1) := by decide +kernel
theorem dX9_ask_31 : decode cX9_ask 31 = .ok (.aload_n 0, 1) := by decide +kernel
theorem dX9_ask_32 : decode cX9_ask 32 = .ok (.getfield 76, 3) := by decide +kernel
theorem dX9_ask_35 : decode cX9_ask 35 = .ok (.iload_n 3, 1) := by decide +kernel
theorem dX9_ask_36 : decode cX9_ask 36 = .ok (.dup2, 1) := by decide +kernel
theorem dX9_ask_37 : decode cX9_ask 37 = .ok (.iaload, 1) := by decide +kernel
theorem dX9_ask_38 : decode cX9_ask 38 = .ok (.iconst 1, 1) := by decide +kernel
theorem dX9_ask_39 : decode cX9_ask 39 = .ok (.iadd, 1) := by decide +kernel
theorem dX9_ask_40 : decode cX9_ask 40 = .ok (.iastore, 1) := by decide +kernel
theorem dX9_ask_41 : decode cX9_ask 41 = .ok (.iload_n 3, 1) := by decide +kernel
theorem dX9_ask_42 : decode cX9_ask 42 = .ok (.ireturn, 1) := by decide +kernel
theorem dX9_asks_0 : decode cX9_asks 0 = .ok (.iload_n 1, 1) := by decide +kernel
theorem dX9_asks_1 : decode cX9_asks 1 = .ok (.ifCond .lt 12, 3) := by decide +kernel
theorem dX9_asks_4 : decode cX9_asks 4 = .ok (.iload_n 1, 1) := by decide +kernel
theorem dX9_asks_5 : decode cX9_asks 5 = .ok (.aload_n 0, 1) := by decide +kernel
theorem dX9_asks_6 : decode cX9_asks 6 = .ok (.getfield 76, 3) := by decide +kernel
theorem dX9_asks_9 : decode cX9_asks 9 = .ok (.arraylength, 1) := by decide +kernel
theorem dX9_asks_10 : decode cX9_asks 10 = .ok (.if_icmp .lt 5, 3) := by decide +kernel
theorem dX9_asks_13 : decode cX9_asks 13 = .ok (.iconst (-1), 1) := by decide +kernel
theorem dX9_asks_14 : decode cX9_asks 14 = .ok (.ireturn, 1) := by decide +kernel
theorem dX9_asks_15 : decode cX9_asks 15 = .ok (.aload_n 0, 1) := by decide +kernel
theorem dX9_asks_16 : decode cX9_asks 16 = .ok (.getfield 76, 3) := by decide +kernel
theorem dX9_asks_19 : decode cX9_asks 19 = .ok (.iload_n 1, 1) := by decide +kernel
theorem dX9_asks_20 : decode cX9_asks 20 = .ok (.iaload, 1) := by decide +kernel
theorem dX9_asks_21 : decode cX9_asks 21 = .ok (.ireturn, 1) := by decide +kernel
set_option maxRecDepth 20000 in
theorem ggX9_candidates_X9_lookAtKept : GoodIn wsX9_candidates wsX9_lookAtKept := goodIn_r _ [8, 3, 2, 9, 10, 11, 7, 12, 13, 14, 15, 16, 17, 18, 19, 20, 21, 22, 23, 24, 25, 26, 27, 28, 29, 30, 31, 32, 33, 34, 35, 36, 37, 38, 39, 40, 61, 62, 63, 64, 65, 66, 67, 68, 69, 70, 71, 72, 73, 74, 75, 76, 77, 78, 82, 83, 84, 85, 86, 87, 88, 89] (by decide +kernel) (by decide +kernel)
set_option maxRecDepth 20000 in
theorem gX9_candidates_X9_lookAtKept : GoodIn wsX9_candidates (wsV RX9 168 RX9 yX9_lookAtKept wsX9_lookAtKept) := goodIn_app (goodIn_of _ (by decide +kernel)) ggX9_candidates_X9_lookAtKept
set_option maxRecDepth 20000 in
theorem ggX9_candidates_X1_gather : GoodIn wsX9_candidates wsX1_gather := goodIn_r _ [45, 46, 47, 48, 49, 50, 51, 44, 52, 53, 54, 55, 56, 57, 58, 59, 60, 79, 80, 81] (by decide +kernel) (by decide +kernel)
set_option maxRecDepth 20000 in
theorem gX9_candidates_X1_gather : GoodIn wsX9_candidates (wsV RX9 171 RX1 yX1_gather wsX1_gather) := goodIn_app (goodIn_of _ (by decide +kernel)) ggX9_candidates_X1_gather
theorem dX9_candidates_0 : decode cX9_candidates 0 = .ok (.aload_n 0, 1) := by decide +kernel
theorem dX9_candidates_1 : decode cX9_candidates 1 = .ok (.invokevirtual 168, 3) := by decide +kernel
theorem dX9_candidates_4 : decode cX9_candidates 4 = .ok (.aload_n 0, 1) := by decide +kernel
theorem dX9_candidates_5 : decode cX9_candidates 5 = .ok (.getfield 33, 3) := by decide +kernel
theorem dX9_candidates_8 : decode cX9_candidates 8 = .ok (.aload_n 0, 1) := by decide +kernel
theorem dX9_candidates_9 : decode cX9_candidates 9 = .ok (.getfield 72, 3) := by decide +kernel
theorem dX9_candidates_12 : decode cX9_candidates 12 = .ok (.aload_n 0, 1) := by decide +kernel
theorem dX9_candidates_13 : decode cX9_candidates 13 = .ok (.getfield 19, 3) := by decide +kernel
theorem dX9_candidates_16 : decode cX9_candidates 16 = .ok (.getfield 93, 3) := by decide +kernel
theorem dX9_candidates_19 : decode cX9_candidates 19 = .ok (.invokevirtual 171, 3) := by decide +kernel
theorem dX9_candidates_22 : decode cX9_candidates 22 = .ok (.aload_n 0, 1) := by decide +kernel
theorem dX9_candidates_23 : decode cX9_candidates 23 = .ok (.getfield 33, 3) := by decide +kernel
theorem dX9_candidates_26 : decode cX9_candidates 26 = .ok (.getfield 175, 3) := by decide +kernel
theorem dX9_candidates_29 : decode cX9_candidates 29 = .ok (.ireturn, 1) := by decide +kernel
set_option maxRecDepth 20000 in
theorem ggX9_roles_X9_lookAtKept : GoodIn wsX9_roles wsX9_lookAtKept := goodIn_r _ [9, 3, 2, 10, 11, 12, 8, 13, 14, 15, 16, 17, 18, 19, 20, 21, 22, 23, 24, 25, 26, 27, 28, 29, 30, 31, 32, 33, 34, 35, 36, 37, 38, 39, 40, 41, 97, 98, 99, 100, 101, 102, 103, 104, 105, 106, 107, 108, 109, 110, 111, 112, 113, 114, 124, 125, 126, 127, 128, 129, 130, 131] (by decide +kernel) (by decide +kernel)
set_option maxRecDepth 20000 in
theorem gX9_roles_X9_lookAtKept : GoodIn wsX9_roles (wsV RX9 168 RX9 yX9_lookAtKept wsX9_lookAtKept) := goodIn_app (goodIn_of _ (by decide +kernel)) ggX9_roles_X9_lookAtKept
set_option maxRecDepth 20000 in
theorem ggX9_roles_X1_gather : GoodIn wsX9_roles wsX1_gather := goodIn_r _ [46, 47, 48, 49, 50, 51, 52, 45, 53, 54, 55, 56, 57, 58, 59, 60, 61, 132, 133, 134] (by decide +kernel) (by decide +kernel)
set_option maxRecDepth 20000 in
theorem gX9_roles_X1_gather : GoodIn wsX9_roles (wsV RX9 171 RX1 yX1_gather wsX1_gather) := goodIn_app (goodIn_of _ (by decide +kernel)) ggX9_roles_X1_gather
set_option maxRecDepth 20000 in
theorem ggX9_roles_X6_search : GoodIn wsX9_roles wsX6_search := goodIn_r _ [66, 67, 68, 69, 70, 71, 72, 73, 74, 65, 75, 76, 77, 78, 79, 80, 81, 82, 83, 84, 85, 86, 87, 88, 89, 90, 91, 92, 93, 94, 95, 96, 115, 116, 117, 118, 119, 120, 121, 122, 123, 132, 133, 134] (by decide +kernel) (by decide +kernel)
set_option maxRecDepth 20000 in
theorem gX9_roles_X6_search : GoodIn wsX9_roles (wsV RX9 176 RX6 yX6_search wsX6_search) := goodIn_app (goodIn_of _ (by decide +kernel)) ggX9_roles_X6_search
theorem dX9_roles_0 : decode cX9_roles 0 = .ok (.iload_n 1, 1) := by decide +kernel
theorem dX9_roles_1 : decode cX9_roles 1 = .ok (.iconst 1, 1) := by decide +kernel
theorem dX9_roles_2 : decode cX9_roles 2 = .ok (.if_icmp .lt 10, 3) := by decide +kernel
theorem dX9_roles_5 : decode cX9_roles 5 = .ok (.iload_n 1, 1) := by decide +kernel
theorem dX9_roles_6 : decode cX9_roles 6 = .ok (.sipush 20000, 3) := by decide +kernel
theorem dX9_roles_9 : decode cX9_roles 9 = .ok (.if_icmp .le 5, 3) := by decide +kernel
theorem dX9_roles_12 : decode cX9_roles 12 = .ok (.iconst (-1), 1) := by decide +kernel
theorem dX9_roles_13 : decode cX9_roles 13 = .ok (.ireturn, 1) := by decide +kernel
theorem dX9_roles_14 : decode cX9_roles 14 = .ok (.aload_n 0, 1) := by decide +kernel
theorem dX9_roles_15 : decode cX9_roles 15 = .ok (.invokevirtual 168, 3) := by decide +kernel
theorem dX9_roles_18 : decode cX9_roles 18 = .ok (.aload_n 0, 1) := by decide +kernel
theorem dX9_roles_19 : decode cX9_roles 19 = .ok (.getfield 33, 3) := by decide +kernel
theorem dX9_roles_22 : decode cX9_roles 22 = .ok (.aload_n 0, 1) := by decide +kernel
theorem dX9_roles_23 : decode cX9_roles 23 = .ok (.getfield 72, 3) := by decide +kernel
theorem dX9_roles_26 : decode cX9_roles 26 = .ok (.aload_n 0, 1) := by decide +kernel
theorem dX9_roles_27 : decode cX9_roles 27 = .ok (.getfield 19, 3) := by decide +kernel
theorem dX9_roles_30 : decode cX9_roles 30 = .ok (.getfield 93, 3) := by decide +kernel
theorem dX9_roles_33 : decode cX9_roles 33 = .ok (.invokevirtual 171, 3) := by decide +kernel
theorem dX9_roles_36 : decode cX9_roles 36 = .ok (.aload_n 0, 1) := by decide +kernel
theorem dX9_roles_37 : decode cX9_roles 37 = .ok (.getfield 40, 3) := by decide +kernel
theorem dX9_roles_40 : decode cX9_roles 40 = .ok (.aload_n 0, 1) := by decide +kernel
theorem dX9_roles_41 : decode cX9_roles 41 = .ok (.getfield 72, 3) := by decide +kernel
theorem dX9_roles_44 : decode cX9_roles 44 = .ok (.aload_n 0, 1) := by decide +kernel
theorem dX9_roles_45 : decode cX9_roles 45 = .ok (.getfield 19, 3) := by decide +kernel
theorem dX9_roles_48 : decode cX9_roles 48 = .ok (.getfield 93, 3) := by decide +kernel
theorem dX9_roles_51 : decode cX9_roles 51 = .ok (.aload_n 0, 1) := by decide +kernel
theorem dX9_roles_52 : decode cX9_roles 52 = .ok (.getfield 33, 3) := by decide +kernel
theorem dX9_roles_55 : decode cX9_roles 55 = .ok (.iload_n 1, 1) := by decide +kernel
theorem dX9_roles_56 : decode cX9_roles 56 = .ok (.invokevirtual 176, 3) := by decide +kernel
theorem dX9_roles_59 : decode cX9_roles 59 = .ok (.ifCond .eq 13, 3) := by decide +kernel
theorem dX9_roles_62 : decode cX9_roles 62 = .ok (.aload_n 0, 1) := by decide +kernel
theorem dX9_roles_63 : decode cX9_roles 63 = .ok (.getfield 40, 3) := by decide +kernel
theorem dX9_roles_66 : decode cX9_roles 66 = .ok (.getfield 180, 3) := by decide +kernel
theorem dX9_roles_69 : decode cX9_roles 69 = .ok (.goto 5, 3) := by decide +kernel
theorem dX9_roles_72 : decode cX9_roles 72 = .ok (.bipush (-6), 2) := by decide +kernel
theorem dX9_roles_74 : decode cX9_roles 74 = .ok (.ireturn, 1) := by decide +kernel
theorem dX9_tries_0 : decode cX9_tries 0 = .ok (.aload_n 0, 1) := by decide +kernel
theorem dX9_tries_1 : decode cX9_tries 1 = .ok (.getfield 40, 3) := by decide +kernel
theorem dX9_tries_4 : decode cX9_tries 4 = .ok (.getfield 181, 3) := by decide +kernel
theorem dX9_tries_7 : decode cX9_tries 7 = .ok (.ireturn, 1) := by decide +kernel
theorem dX9_role_0 : decode cX9_role 0 = .ok (.iload_n 1, 1) := by decide +kernel
theorem dX9_role_1 : decode cX9_role 1 = .ok (.ifCond .lt 14, 3) := by decide +kernel
theorem dX9_role_4 : decode cX9_role 4 = .ok (.iload_n 1, 1) := by decide +kernel
theorem dX9_role_5 : decode cX9_role 5 = .ok (.aload_n 0, 1) := by decide +kernel
theorem dX9_role_6 : decode cX9_role 6 = .ok (.getfield 40, 3) := by decide +kernel
theorem dX9_role_9 : decode cX9_role 9 = .ok (.getfield 180, 3) := by decide +kernel
theorem dX9_role_12 : decode cX9_role 12 = .ok (.if_icmp .lt 6, 3) := by decide +kernel
theorem dX9_role_15 : decode cX9_role 15 = .ok (.bipush (-9), 2) := by decide +kernel
theorem dX9_role_17 : decode cX9_role 17 = .ok (.ireturn, 1) := by decide +kernel
theorem dX9_role_18 : decode cX9_role 18 = .ok (.aload_n 0, 1) := by decide +kernel
theorem dX9_role_19 : decode cX9_role 19 = .ok (.getfield 40, 3) := by decide +kernel
theorem dX9_role_22 : decode cX9_role 22 = .ok (.getfield 184, 3) := by decide +kernel
theorem dX9_role_25 : decode cX9_role 25 = .ok (.iload_n 1, 1) := by decide +kernel
theorem dX9_role_26 : decode cX9_role 26 = .ok (.iaload, 1) := by decide +kernel
theorem dX9_role_27 : decode cX9_role 27 = .ok (.ireturn, 1) := by decide +kernel
set_option maxRecDepth 20000 in
theorem ggX9_rolesOf_X9_noPerson : GoodIn wsX9_rolesOf wsX9_noPerson := goodIn_r _ [6, 7, 47, 48, 49, 50, 51, 52, 53, 54, 55, 56, 57, 58, 59, 60, 61, 62, 63, 64] (by decide +kernel) (by decide +kernel)
set_option maxRecDepth 20000 in
theorem gX9_rolesOf_X9_noPerson : GoodIn wsX9_rolesOf (wsV RX9 100 RX9 yX9_noPerson wsX9_noPerson) := goodIn_app (goodIn_of _ (by decide +kernel)) ggX9_rolesOf_X9_noPerson
set_option maxRecDepth 20000 in
theorem ggX9_rolesOf_X9_keptOf : GoodIn wsX9_rolesOf wsX9_keptOf := goodIn_r _ [11, 12, 13, 14, 7, 15, 16, 17, 18, 19, 20, 21, 22, 23, 24, 25, 26, 27, 28, 29, 30, 31, 32, 33, 34, 35, 36, 37, 38, 39, 47, 48, 49, 50, 51, 52, 53, 54, 55, 56, 57, 58, 59, 60, 61, 62, 63, 64, 65, 66, 67, 68, 69, 70, 71, 72] (by decide +kernel) (by decide +kernel)
set_option maxRecDepth 20000 in
theorem gX9_rolesOf_X9_keptOf : GoodIn wsX9_rolesOf (wsV RX9 115 RX9 yX9_keptOf wsX9_keptOf) := goodIn_app (goodIn_of _ (by decide +kernel)) ggX9_rolesOf_X9_keptOf
set_option maxRecDepth 20000 in
theorem ggX9_rolesOf_X6_rolesWithin : GoodIn wsX9_rolesOf wsX6_rolesWithin := goodIn_r _ [44, 45, 46, 73, 74, 75, 76, 77, 78, 79, 80, 81] (by decide +kernel) (by decide +kernel)
set_option maxRecDepth 20000 in
theorem gX9_rolesOf_X6_rolesWithin : GoodIn wsX9_rolesOf (wsV RX9 187 RX6 yX6_rolesWithin wsX6_rolesWithin) := goodIn_app (goodIn_of _ (by decide +kernel)) ggX9_rolesOf_X6_rolesWithin
theorem dX9_rolesOf_0 : decode cX9_rolesOf 0 = .ok (.aload_n 0, 1) := by decide +kernel
theorem dX9_rolesOf_1 : decode cX9_rolesOf 1 = .ok (.iload_n 1, 1) := by decide +kernel
theorem dX9_rolesOf_2 : decode cX9_rolesOf 2 = .ok (.invokevirtual 100, 3) := by decide +kernel
theorem dX9_rolesOf_5 : decode cX9_rolesOf 5 = .ok (.ifCond .eq 5, 3) := by decide +kernel
theorem dX9_rolesOf_8 : decode cX9_rolesOf 8 = .ok (.iconst (-1), 1) := by decide +kernel
theorem dX9_rolesOf_9 : decode cX9_rolesOf 9 = .ok (.ireturn, 1) := by decide +kernel
theorem dX9_rolesOf_10 : decode cX9_rolesOf 10 = .ok (.aload_n 0, 1) := by decide +kernel
theorem dX9_rolesOf_11 : decode cX9_rolesOf 11 = .ok (.getfield 40, 3) := by decide +kernel
theorem dX9_rolesOf_14 : decode cX9_rolesOf 14 = .ok (.aload_n 0, 1) := by decide +kernel
theorem dX9_rolesOf_15 : decode cX9_rolesOf 15 = .ok (.iload_n 1, 1) := by decide +kernel
theorem dX9_rolesOf_16 : decode cX9_rolesOf 16 = .ok (.invokevirtual 115, 3) := by decide +kernel
theorem dX9_rolesOf_19 : decode cX9_rolesOf 19 = .ok (.invokevirtual 187, 3) := by decide +kernel
theorem dX9_rolesOf_22 : decode cX9_rolesOf 22 = .ok (.ireturn, 1) := by decide +kernel
set_option maxRecDepth 20000 in
theorem ggX9_marksOf_X9_noRight : GoodIn wsX9_marksOf wsX9_noRight := goodIn_r _ [6] (by decide +kernel) (by decide +kernel)
set_option maxRecDepth 20000 in
theorem gX9_marksOf_X9_noRight : GoodIn wsX9_marksOf (va_wsS RX9 137 yX9_noRight wsX9_noRight) := goodIn_app (goodIn_of _ (by decide +kernel)) ggX9_marksOf_X9_noRight
set_option maxRecDepth 20000 in
theorem ggX9_marksOf_X5_mistold : GoodIn wsX9_marksOf wsX5_mistold := goodIn_r _ [11, 12, 13, 14, 15, 16, 10, 17, 18, 39, 40, 41, 42, 43] (by decide +kernel) (by decide +kernel)
set_option maxRecDepth 20000 in
theorem gX9_marksOf_X5_mistold : GoodIn wsX9_marksOf (wsV RX9 190 RX5 yX5_mistold wsX5_mistold) := goodIn_app (goodIn_of _ (by decide +kernel)) ggX9_marksOf_X5_mistold
set_option maxRecDepth 20000 in
theorem ggX9_marksOf_J6_bitCount_0f7a4 : GoodIn wsX9_marksOf wsJ6_bitCount_0f7a4 := goodIn_r _ [22, 23, 24, 25] (by decide +kernel) (by decide +kernel)
set_option maxRecDepth 20000 in
theorem gX9_marksOf_J6_bitCount_0f7a4 : GoodIn wsX9_marksOf (va_wsS RX9 193 yJ6_bitCount_0f7a4 wsJ6_bitCount_0f7a4) := goodIn_app (goodIn_of _ (by decide +kernel)) ggX9_marksOf_J6_bitCount_0f7a4
theorem dX9_marksOf_0 : decode cX9_marksOf 0 = .ok (.iload_n 1, 1) := by decide +kernel
theorem dX9_marksOf_1 : decode cX9_marksOf 1 = .ok (.invokestatic 137, 3) := by decide +kernel
theorem dX9_marksOf_4 : decode cX9_marksOf 4 = .ok (.ifCond .eq 5, 3) := by decide +kernel
theorem dX9_marksOf_7 : decode cX9_marksOf 7 = .ok (.iconst (-1), 1) := by decide +kernel
theorem dX9_marksOf_8 : decode cX9_marksOf 8 = .ok (.ireturn, 1) := by decide +kernel
theorem dX9_marksOf_9 : decode cX9_marksOf 9 = .ok (.aload_n 0, 1) := by decide +kernel
theorem dX9_marksOf_10 : decode cX9_marksOf 10 = .ok (.getfield 19, 3) := by decide +kernel
theorem dX9_marksOf_13 : decode cX9_marksOf 13 = .ok (.getfield 93, 3) := by decide +kernel
theorem dX9_marksOf_16 : decode cX9_marksOf 16 = .ok (.ifCond .ne 6, 3) := by decide +kernel
theorem dX9_marksOf_19 : decode cX9_marksOf 19 = .ok (.bipush (-4), 2) := by decide +kernel
theorem dX9_marksOf_21 : decode cX9_marksOf 21 = .ok (.ireturn, 1) := by decide +kernel
theorem dX9_marksOf_22 : decode cX9_marksOf 22 = .ok (.iconst 0, 1) := by decide +kernel
theorem dX9_marksOf_23 : decode cX9_marksOf 23 = .ok (.istore_n 2, 1) := by decide +kernel
theorem dX9_marksOf_24 : decode cX9_marksOf 24 = .ok (.aload_n 0, 1) := by decide +kernel
theorem dX9_marksOf_25 : decode cX9_marksOf 25 = .ok (.getfield 19, 3) := by decide +kernel
theorem dX9_marksOf_28 : decode cX9_marksOf 28 = .ok (.iload_n 1, 1) := by decide +kernel
theorem dX9_marksOf_29 : decode cX9_marksOf 29 = .ok (.iload_n 2, 1) := by decide +kernel
theorem dX9_marksOf_30 : decode cX9_marksOf 30 = .ok (.invokevirtual 190, 3) := by decide +kernel
theorem dX9_marksOf_33 : decode cX9_marksOf 33 = .ok (.invokestatic 193, 3) := by decide +kernel
theorem dX9_marksOf_36 : decode cX9_marksOf 36 = .ok (.istore_n 3, 1) := by decide +kernel
theorem dX9_marksOf_37 : decode cX9_marksOf 37 = .ok (.iconst 1, 1) := by decide +kernel
theorem dX9_marksOf_38 : decode cX9_marksOf 38 = .ok (.istore 4, 2) := by decide +kernel
theorem dX9_marksOf_40 : decode cX9_marksOf 40 = .ok (.iload 4, 2) := by decide +kernel
theorem dX9_marksOf_42 : decode cX9_marksOf 42 = .ok (.sipush 256, 3) := by decide +kernel
theorem dX9_marksOf_45 : decode cX9_marksOf 45 = .ok (.if_icmp .ge 66, 3) := by decide +kernel
theorem dX9_marksOf_48 : decode cX9_marksOf 48 = .ok (.aload_n 0, 1) := by decide +kernel
theorem dX9_marksOf_49 : decode cX9_marksOf 49 = .ok (.getfield 19, 3) := by decide +kernel
theorem dX9_marksOf_52 : decode cX9_marksOf 52 = .ok (.iload_n 1, 1) := by decide +kernel
theorem dX9_marksOf_53 : decode cX9_marksOf 53 = .ok (.iload 4, 2) := by decide +kernel
theorem dX9_marksOf_55 : decode cX9_marksOf 55 = .ok (.invokevirtual 190, 3) := by decide +kernel
theorem dX9_marksOf_58 : decode cX9_marksOf 58 = .ok (.invokestatic 193, 3) := by decide +kernel
theorem dX9_marksOf_61 : decode cX9_marksOf 61 = .ok (.istore 5, 2) := by decide +kernel
theorem dX9_marksOf_63 : decode cX9_marksOf 63 = .ok (.iload 4, 2) := by decide +kernel
theorem dX9_marksOf_65 : decode cX9_marksOf 65 = .ok (.invokestatic 193, 3) := by decide +kernel
theorem dX9_marksOf_68 : decode cX9_marksOf 68 = .ok (.iload_n 2, 1) := by decide +kernel
theorem dX9_marksOf_69 : decode cX9_marksOf 69 = .ok (.invokestatic 193, 3) := by decide +kernel
theorem dX9_marksOf_72 : decode cX9_marksOf 72 = .ok (.if_icmp .ge 7, 3) := by decide +kernel
theorem dX9_marksOf_75 : decode cX9_marksOf 75 = .ok (.iconst 1, 1) := by decide +kernel
theorem dX9_marksOf_76 : decode cX9_marksOf 76 = .ok (.goto 4, 3) := by decide +kernel
theorem dX9_marksOf_79 : decode cX9_marksOf 79 = .ok (.iconst 0, 1) := by decide +kernel
theorem dX9_marksOf_80 : decode cX9_marksOf 80 = .ok (.istore 6, 2) := by decide +kernel
theorem dX9_marksOf_82 : decode cX9_marksOf 82 = .ok (.iload 5, 2) := by decide +kernel
theorem dX9_marksOf_84 : decode cX9_marksOf 84 = .ok (.iload_n 3, 1) := by decide +kernel
theorem dX9_marksOf_85 : decode cX9_marksOf 85 = .ok (.if_icmp .lt 14, 3) := by decide +kernel
theorem dX9_marksOf_88 : decode cX9_marksOf 88 = .ok (.iload 5, 2) := by decide +kernel
theorem dX9_marksOf_90 : decode cX9_marksOf 90 = .ok (.iload_n 3, 1) := by decide +kernel
theorem dX9_marksOf_91 : decode cX9_marksOf 91 = .ok (.if_icmp .ne 14, 3) := by decide +kernel
theorem dX9_marksOf_94 : decode cX9_marksOf 94 = .ok (.iload 6, 2) := by decide +kernel
theorem dX9_marksOf_96 : decode cX9_marksOf 96 = .ok (.ifCond .eq 9, 3) := by decide +kernel
theorem dX9_marksOf_99 : decode cX9_marksOf 99 = .ok (.iload 4, 2) := by decide +kernel
theorem dX9_marksOf_101 : decode cX9_marksOf 101 = .ok (.istore_n 2, 1) := by decide +kernel
theorem dX9_marksOf_102 : decode cX9_marksOf 102 = .ok (.iload 5, 2) := by decide +kernel
theorem dX9_marksOf_104 : decode cX9_marksOf 104 = .ok (.istore_n 3, 1) := by decide +kernel
theorem dX9_marksOf_105 : decode cX9_marksOf 105 = .ok (.iinc 4 1, 3) := by decide +kernel
theorem dX9_marksOf_108 : decode cX9_marksOf 108 = .ok (.goto (-68), 3) := by decide +kernel
theorem dX9_marksOf_111 : decode cX9_marksOf 111 = .ok (.aload_n 0, 1) := by decide +kernel
theorem dX9_marksOf_112 : decode cX9_marksOf 112 = .ok (.iload_n 3, 1) := by decide +kernel
theorem dX9_marksOf_113 : decode cX9_marksOf 113 = .ok (.putfield 83, 3) := by decide +kernel
theorem dX9_marksOf_116 : decode cX9_marksOf 116 = .ok (.iload_n 2, 1) := by decide +kernel
theorem dX9_marksOf_117 : decode cX9_marksOf 117 = .ok (.ireturn, 1) := by decide +kernel
set_option maxRecDepth 20000 in
theorem ggX9_exceptions_X9_noRight : GoodIn wsX9_exceptions wsX9_noRight := goodIn_r _ [5] (by decide +kernel) (by decide +kernel)
set_option maxRecDepth 20000 in
theorem gX9_exceptions_X9_noRight : GoodIn wsX9_exceptions (va_wsS RX9 137 yX9_noRight wsX9_noRight) := goodIn_app (goodIn_of _ (by decide +kernel)) ggX9_exceptions_X9_noRight
set_option maxRecDepth 20000 in
theorem ggX9_exceptions_X9_noMarkSet : GoodIn wsX9_exceptions wsX9_noMarkSet := goodIn_r _ [8] (by decide +kernel) (by decide +kernel)
set_option maxRecDepth 20000 in
theorem gX9_exceptions_X9_noMarkSet : GoodIn wsX9_exceptions (va_wsS RX9 86 yX9_noMarkSet wsX9_noMarkSet) := goodIn_app (goodIn_of _ (by decide +kernel)) ggX9_exceptions_X9_noMarkSet
set_option maxRecDepth 20000 in
theorem ggX9_exceptions_X5_mistold : GoodIn wsX9_exceptions wsX5_mistold := goodIn_r _ [13, 14, 15, 16, 17, 18, 12, 19, 20, 34, 35, 36, 37, 38] (by decide +kernel) (by decide +kernel)
set_option maxRecDepth 20000 in
theorem gX9_exceptions_X5_mistold : GoodIn wsX9_exceptions (wsV RX9 190 RX5 yX5_mistold wsX5_mistold) := goodIn_app (goodIn_of _ (by decide +kernel)) ggX9_exceptions_X5_mistold
theorem dX9_exceptions_0 : decode cX9_exceptions 0 = .ok (.iload_n 1, 1) := by decide +kernel
theorem dX9_exceptions_1 : decode cX9_exceptions 1 = .ok (.invokestatic 137, 3) := by decide +kernel
theorem dX9_exceptions_4 : decode cX9_exceptions 4 = .ok (.ifCond .ne 10, 3) := by decide +kernel
theorem dX9_exceptions_7 : decode cX9_exceptions 7 = .ok (.iload_n 2, 1) := by decide +kernel
theorem dX9_exceptions_8 : decode cX9_exceptions 8 = .ok (.invokestatic 86, 3) := by decide +kernel
theorem dX9_exceptions_11 : decode cX9_exceptions 11 = .ok (.ifCond .eq 5, 3) := by decide +kernel
theorem dX9_exceptions_14 : decode cX9_exceptions 14 = .ok (.iconst (-1), 1) := by decide +kernel
theorem dX9_exceptions_15 : decode cX9_exceptions 15 = .ok (.ireturn, 1) := by decide +kernel
theorem dX9_exceptions_16 : decode cX9_exceptions 16 = .ok (.aload_n 0, 1) := by decide +kernel
theorem dX9_exceptions_17 : decode cX9_exceptions 17 = .ok (.getfield 19, 3) := by decide +kernel
theorem dX9_exceptions_20 : decode cX9_exceptions 20 = .ok (.iload_n 1, 1) := by decide +kernel
theorem dX9_exceptions_21 : decode cX9_exceptions 21 = .ok (.iload_n 2, 1) := by decide +kernel
theorem dX9_exceptions_22 : decode cX9_exceptions 22 = .ok (.invokevirtual 190, 3) := by decide +kernel
theorem dX9_exceptions_25 : decode cX9_exceptions 25 = .ok (.ireturn, 1) := by decide +kernel
set_option maxRecDepth 20000 in
theorem ggX9_ban_X9_noRight : GoodIn wsX9_ban wsX9_noRight := goodIn_r _ [5] (by decide +kernel) (by decide +kernel)
set_option maxRecDepth 20000 in
theorem gX9_ban_X9_noRight : GoodIn wsX9_ban (va_wsS RX9 137 yX9_noRight wsX9_noRight) := goodIn_app (goodIn_of _ (by decide +kernel)) ggX9_ban_X9_noRight
set_option maxRecDepth 20000 in
theorem ggX9_ban_X0_put : GoodIn wsX9_ban wsX0_put := goodIn_r _ [10, 11, 25] (by decide +kernel) (by decide +kernel)
set_option maxRecDepth 20000 in
theorem gX9_ban_X0_put : GoodIn wsX9_ban (wsV RX9 198 RX0 yX0_put wsX0_put) := goodIn_app (goodIn_of _ (by decide +kernel)) ggX9_ban_X0_put
theorem dX9_ban_0 : decode cX9_ban 0 = .ok (.iload_n 1, 1) := by decide +kernel
theorem dX9_ban_1 : decode cX9_ban 1 = .ok (.invokestatic 137, 3) := by decide +kernel
theorem dX9_ban_4 : decode cX9_ban 4 = .ok (.ifCond .ne 15, 3) := by decide +kernel
theorem dX9_ban_7 : decode cX9_ban 7 = .ok (.iload_n 2, 1) := by decide +kernel
theorem dX9_ban_8 : decode cX9_ban 8 = .ok (.invokestatic 137, 3) := by decide +kernel
theorem dX9_ban_11 : decode cX9_ban 11 = .ok (.ifCond .ne 8, 3) := by decide +kernel
theorem dX9_ban_14 : decode cX9_ban 14 = .ok (.iload_n 1, 1) := by decide +kernel
theorem dX9_ban_15 : decode cX9_ban 15 = .ok (.iload_n 2, 1) := by decide +kernel
theorem dX9_ban_16 : decode cX9_ban 16 = .ok (.if_icmp .ne 5, 3) := by decide +kernel
theorem dX9_ban_19 : decode cX9_ban 19 = .ok (.iconst (-1), 1) := by decide +kernel
theorem dX9_ban_20 : decode cX9_ban 20 = .ok (.ireturn, 1) := by decide +kernel
theorem dX9_ban_21 : decode cX9_ban 21 = .ok (.aload_n 0, 1) := by decide +kernel
theorem dX9_ban_22 : decode cX9_ban 22 = .ok (.getfield 47, 3) := by decide +kernel
theorem dX9_ban_25 : decode cX9_ban 25 = .ok (.iload_n 1, 1) := by decide +kernel
theorem dX9_ban_26 : decode cX9_ban 26 = .ok (.iload_n 2, 1) := by decide +kernel
theorem dX9_ban_27 : decode cX9_ban 27 = .ok (.iload_n 3, 1) := by decide +kernel
theorem dX9_ban_28 : decode cX9_ban 28 = .ok (.invokevirtual 198, 3) := by decide +kernel
theorem dX9_ban_31 : decode cX9_ban 31 = .ok (.ireturn, 1) := by decide +kernel
set_option maxRecDepth 20000 in
theorem ggX9_breach_X0_clashing : GoodIn wsX9_breach wsX0_clashing := goodIn_r _ [7, 8, 27] (by decide +kernel) (by decide +kernel)
set_option maxRecDepth 20000 in
theorem gX9_breach_X0_clashing : GoodIn wsX9_breach (wsV RX9 202 RX0 yX0_clashing wsX0_clashing) := goodIn_app (goodIn_of _ (by decide +kernel)) ggX9_breach_X0_clashing
theorem dX9_breach_0 : decode cX9_breach 0 = .ok (.iconst 0, 1) := by decide +kernel
theorem dX9_breach_1 : decode cX9_breach 1 = .ok (.istore_n 1, 1) := by decide +kernel
theorem dX9_breach_2 : decode cX9_breach 2 = .ok (.iconst 0, 1) := by decide +kernel
theorem dX9_breach_3 : decode cX9_breach 3 = .ok (.istore_n 2, 1) := by decide +kernel
theorem dX9_breach_4 : decode cX9_breach 4 = .ok (.iload_n 2, 1) := by decide +kernel
theorem dX9_breach_5 : decode cX9_breach 5 = .ok (.aload_n 0, 1) := by decide +kernel
theorem dX9_breach_6 : decode cX9_breach 6 = .ok (.getfield 19, 3) := by decide +kernel
theorem dX9_breach_9 : decode cX9_breach 9 = .ok (.getfield 93, 3) := by decide +kernel
theorem dX9_breach_12 : decode cX9_breach 12 = .ok (.if_icmp .ge 34, 3) := by decide +kernel
theorem dX9_breach_15 : decode cX9_breach 15 = .ok (.aload_n 0, 1) := by decide +kernel
theorem dX9_breach_16 : decode cX9_breach 16 = .ok (.getfield 47, 3) := by decide +kernel
theorem dX9_breach_19 : decode cX9_breach 19 = .ok (.aload_n 0, 1) := by decide +kernel
theorem dX9_breach_20 : decode cX9_breach 20 = .ok (.getfield 19, 3) := by decide +kernel
theorem dX9_breach_23 : decode cX9_breach 23 = .ok (.getfield 112, 3) := by decide +kernel
theorem dX9_breach_26 : decode cX9_breach 26 = .ok (.iload_n 2, 1) := by decide +kernel
theorem dX9_breach_27 : decode cX9_breach 27 = .ok (.iaload, 1) := by decide +kernel
theorem dX9_breach_28 : decode cX9_breach 28 = .ok (.invokevirtual 202, 3) := by decide +kernel
theorem dX9_breach_31 : decode cX9_breach 31 = .ok (.ifCond .eq 9, 3) := by decide +kernel
theorem dX9_breach_34 : decode cX9_breach 34 = .ok (.iload_n 1, 1) := by decide +kernel
theorem dX9_breach_35 : decode cX9_breach 35 = .ok (.iconst 1, 1) := by decide +kernel
theorem dX9_breach_36 : decode cX9_breach 36 = .ok (.iload_n 2, 1) := by decide +kernel
theorem dX9_breach_37 : decode cX9_breach 37 = .ok (.ishl, 1) := by decide +kernel
theorem dX9_breach_38 : decode cX9_breach 38 = .ok (.ior, 1) := by decide +kernel
theorem dX9_breach_39 : decode cX9_breach 39 = .ok (.istore_n 1, 1) := by decide +kernel
theorem dX9_breach_40 : decode cX9_breach 40 = .ok (.iinc 2 1, 3) := by decide +kernel
theorem dX9_breach_43 : decode cX9_breach 43 = .ok (.goto (-39), 3) := by decide +kernel
theorem dX9_breach_46 : decode cX9_breach 46 = .ok (.iload_n 1, 1) := by decide +kernel
theorem dX9_breach_47 : decode cX9_breach 47 = .ok (.ireturn, 1) := by decide +kernel
set_option maxRecDepth 20000 in
theorem ggX9_least_X9_noPerson : GoodIn wsX9_least wsX9_noPerson := goodIn_r _ [7, 1, 56, 57, 58, 59, 60, 61, 62, 63, 64, 65, 66, 67, 68, 69, 70, 71, 72, 73] (by decide +kernel) (by decide +kernel)
set_option maxRecDepth 20000 in
theorem gX9_least_X9_noPerson : GoodIn wsX9_least (wsV RX9 100 RX9 yX9_noPerson wsX9_noPerson) := goodIn_app (goodIn_of _ (by decide +kernel)) ggX9_least_X9_noPerson
set_option maxRecDepth 20000 in
theorem ggX9_least_X0_clashing : GoodIn wsX9_least wsX0_clashing := goodIn_r _ [12, 13, 74] (by decide +kernel) (by decide +kernel)
set_option maxRecDepth 20000 in
theorem gX9_least_X0_clashing : GoodIn wsX9_least (wsV RX9 202 RX0 yX0_clashing wsX0_clashing) := goodIn_app (goodIn_of _ (by decide +kernel)) ggX9_least_X0_clashing
set_option maxRecDepth 20000 in
theorem ggX9_least_X9_keptOf : GoodIn wsX9_least wsX9_keptOf := goodIn_r _ [17, 18, 19, 20, 1, 21, 22, 23, 24, 25, 26, 27, 28, 29, 30, 31, 32, 33, 34, 35, 36, 37, 38, 39, 40, 41, 42, 43, 44, 45, 56, 57, 58, 59, 60, 61, 62, 63, 64, 65, 66, 67, 68, 69, 70, 71, 72, 73, 75, 76, 77, 78, 79, 80, 81, 82] (by decide +kernel) (by decide +kernel)
set_option maxRecDepth 20000 in
theorem gX9_least_X9_keptOf : GoodIn wsX9_least (wsV RX9 115 RX9 yX9_keptOf wsX9_keptOf) := goodIn_app (goodIn_of _ (by decide +kernel)) ggX9_least_X9_keptOf
set_option maxRecDepth 20000 in
theorem ggX9_least_X9_isLighter : GoodIn wsX9_least wsX9_isLighter := goodIn_r _ [48, 49, 50, 51, 52, 53, 54, 55] (by decide +kernel) (by decide +kernel)
set_option maxRecDepth 20000 in
theorem gX9_least_X9_isLighter : GoodIn wsX9_least (va_wsS RX9 205 yX9_isLighter wsX9_isLighter) := goodIn_app (goodIn_of _ (by decide +kernel)) ggX9_least_X9_isLighter
theorem dX9_least_0 : decode cX9_least 0 = .ok (.aload_n 0, 1) := by decide +kernel
theorem dX9_least_1 : decode cX9_least 1 = .ok (.iload_n 1, 1) := by decide +kernel
theorem dX9_least_2 : decode cX9_least 2 = .ok (.invokevirtual 100, 3) := by decide +kernel
theorem dX9_least_5 : decode cX9_least 5 = .ok (.ifCond .eq 5, 3) := by decide +kernel
theorem dX9_least_8 : decode cX9_least 8 = .ok (.iconst (-1), 1) := by decide +kernel
theorem dX9_least_9 : decode cX9_least 9 = .ok (.ireturn, 1) := by decide +kernel
theorem dX9_least_10 : decode cX9_least 10 = .ok (.aload_n 0, 1) := by decide +kernel
theorem dX9_least_11 : decode cX9_least 11 = .ok (.getfield 19, 3) := by decide +kernel
theorem dX9_least_14 : decode cX9_least 14 = .ok (.getfield 112, 3) := by decide +kernel
theorem dX9_least_17 : decode cX9_least 17 = .ok (.iload_n 1, 1) := by decide +kernel
theorem dX9_least_18 : decode cX9_least 18 = .ok (.iaload, 1) := by decide +kernel
theorem dX9_least_19 : decode cX9_least 19 = .ok (.istore_n 2, 1) := by decide +kernel
theorem dX9_least_20 : decode cX9_least 20 = .ok (.aload_n 0, 1) := by decide +kernel
theorem dX9_least_21 : decode cX9_least 21 = .ok (.getfield 47, 3) := by decide +kernel
theorem dX9_least_24 : decode cX9_least 24 = .ok (.iload_n 2, 1) := by decide +kernel
theorem dX9_least_25 : decode cX9_least 25 = .ok (.invokevirtual 202, 3) := by decide +kernel
theorem dX9_least_28 : decode cX9_least 28 = .ok (.istore_n 3, 1) := by decide +kernel
theorem dX9_least_29 : decode cX9_least 29 = .ok (.iload_n 3, 1) := by decide +kernel
theorem dX9_least_30 : decode cX9_least 30 = .ok (.ifCond .ne 5, 3) := by decide +kernel
theorem dX9_least_33 : decode cX9_least 33 = .ok (.iconst 0, 1) := by decide +kernel
theorem dX9_least_34 : decode cX9_least 34 = .ok (.ireturn, 1) := by decide +kernel
theorem dX9_least_35 : decode cX9_least 35 = .ok (.aload_n 0, 1) := by decide +kernel
theorem dX9_least_36 : decode cX9_least 36 = .ok (.iload_n 1, 1) := by decide +kernel
theorem dX9_least_37 : decode cX9_least 37 = .ok (.invokevirtual 115, 3) := by decide +kernel
theorem dX9_least_40 : decode cX9_least 40 = .ok (.istore 4, 2) := by decide +kernel
theorem dX9_least_42 : decode cX9_least 42 = .ok (.iload_n 3, 1) := by decide +kernel
theorem dX9_least_43 : decode cX9_least 43 = .ok (.istore 5, 2) := by decide +kernel
theorem dX9_least_45 : decode cX9_least 45 = .ok (.iconst 1, 1) := by decide +kernel
theorem dX9_least_46 : decode cX9_least 46 = .ok (.istore 6, 2) := by decide +kernel
theorem dX9_least_48 : decode cX9_least 48 = .ok (.iload 6, 2) := by decide +kernel
theorem dX9_least_50 : decode cX9_least 50 = .ok (.iload_n 3, 1) := by decide +kernel
theorem dX9_least_51 : decode cX9_least 51 = .ok (.if_icmp .ge 50, 3) := by decide +kernel
theorem dX9_least_54 : decode cX9_least 54 = .ok (.iload 6, 2) := by decide +kernel
theorem dX9_least_56 : decode cX9_least 56 = .ok (.iload_n 3, 1) := by decide +kernel
theorem dX9_least_57 : decode cX9_least 57 = .ok (.iconst (-1), 1) := by decide +kernel
theorem dX9_least_58 : decode cX9_least 58 = .ok (.ixor, 1) := by decide +kernel
theorem dX9_least_59 : decode cX9_least 59 = .ok (.iand, 1) := by decide +kernel
theorem dX9_least_60 : decode cX9_least 60 = .ok (.ifCond .ne 35, 3) := by decide +kernel
theorem dX9_least_63 : decode cX9_least 63 = .ok (.iload 6, 2) := by decide +kernel
theorem dX9_least_65 : decode cX9_least 65 = .ok (.iload 5, 2) := by decide +kernel
theorem dX9_least_67 : decode cX9_least 67 = .ok (.iload 4, 2) := by decide +kernel
theorem dX9_least_69 : decode cX9_least 69 = .ok (.invokestatic 205, 3) := by decide +kernel
theorem dX9_least_72 : decode cX9_least 72 = .ok (.ifCond .eq 23, 3) := by decide +kernel
theorem dX9_least_75 : decode cX9_least 75 = .ok (.aload_n 0, 1) := by decide +kernel
theorem dX9_least_76 : decode cX9_least 76 = .ok (.getfield 47, 3) := by decide +kernel
theorem dX9_least_79 : decode cX9_least 79 = .ok (.iload_n 2, 1) := by decide +kernel
theorem dX9_least_80 : decode cX9_least 80 = .ok (.iload 6, 2) := by decide +kernel
theorem dX9_least_82 : decode cX9_least 82 = .ok (.iconst (-1), 1) := by decide +kernel
theorem dX9_least_83 : decode cX9_least 83 = .ok (.ixor, 1) := by decide +kernel
theorem dX9_least_84 : decode cX9_least 84 = .ok (.iand, 1) := by decide +kernel
theorem dX9_least_85 : decode cX9_least 85 = .ok (.invokevirtual 202, 3) := by decide +kernel
theorem dX9_least_88 : decode cX9_least 88 = .ok (.ifCond .ne 7, 3) := by decide +kernel
theorem dX9_least_91 : decode cX9_least 91 = .ok (.iload 6, 2) := by decide +kernel
theorem dX9_least_93 : decode cX9_least 93 = .ok (.istore 5, 2) := by decide +kernel
theorem dX9_least_95 : decode cX9_least 95 = .ok (.iinc 6 1, 3) := by decide +kernel
theorem dX9_least_98 : decode cX9_least 98 = .ok (.goto (-50), 3) := by decide +kernel
theorem dX9_least_101 : decode cX9_least 101 = .ok (.iload 5, 2) := by decide +kernel
theorem dX9_least_103 : decode cX9_least 103 = .ok (.ireturn, 1) := by decide +kernel
set_option maxRecDepth 20000 in
theorem ggX9_badRole_X0_clashing : GoodIn wsX9_badRole wsX0_clashing := goodIn_r _ [7, 8, 31] (by decide +kernel) (by decide +kernel)
set_option maxRecDepth 20000 in
theorem gX9_badRole_X0_clashing : GoodIn wsX9_badRole (wsV RX9 202 RX0 yX0_clashing wsX0_clashing) := goodIn_app (goodIn_of _ (by decide +kernel)) ggX9_badRole_X0_clashing
theorem dX9_badRole_0 : decode cX9_badRole 0 = .ok (.iconst 0, 1) := by decide +kernel
theorem dX9_badRole_1 : decode cX9_badRole 1 = .ok (.istore_n 1, 1) := by decide +kernel
theorem dX9_badRole_2 : decode cX9_badRole 2 = .ok (.iload_n 1, 1) := by decide +kernel
theorem dX9_badRole_3 : decode cX9_badRole 3 = .ok (.aload_n 0, 1) := by decide +kernel
theorem dX9_badRole_4 : decode cX9_badRole 4 = .ok (.getfield 40, 3) := by decide +kernel
theorem dX9_badRole_7 : decode cX9_badRole 7 = .ok (.getfield 180, 3) := by decide +kernel
theorem dX9_badRole_10 : decode cX9_badRole 10 = .ok (.if_icmp .ge 30, 3) := by decide +kernel
theorem dX9_badRole_13 : decode cX9_badRole 13 = .ok (.aload_n 0, 1) := by decide +kernel
theorem dX9_badRole_14 : decode cX9_badRole 14 = .ok (.getfield 47, 3) := by decide +kernel
theorem dX9_badRole_17 : decode cX9_badRole 17 = .ok (.aload_n 0, 1) := by decide +kernel
theorem dX9_badRole_18 : decode cX9_badRole 18 = .ok (.getfield 40, 3) := by decide +kernel
theorem dX9_badRole_21 : decode cX9_badRole 21 = .ok (.getfield 184, 3) := by decide +kernel
theorem dX9_badRole_24 : decode cX9_badRole 24 = .ok (.iload_n 1, 1) := by decide +kernel
theorem dX9_badRole_25 : decode cX9_badRole 25 = .ok (.iaload, 1) := by decide +kernel
theorem dX9_badRole_26 : decode cX9_badRole 26 = .ok (.invokevirtual 202, 3) := by decide +kernel
theorem dX9_badRole_29 : decode cX9_badRole 29 = .ok (.ifCond .eq 5, 3) := by decide +kernel
theorem dX9_badRole_32 : decode cX9_badRole 32 = .ok (.iload_n 1, 1) := by decide +kernel
theorem dX9_badRole_33 : decode cX9_badRole 33 = .ok (.ireturn, 1) := by decide +kernel
theorem dX9_badRole_34 : decode cX9_badRole 34 = .ok (.iinc 1 1, 3) := by decide +kernel
theorem dX9_badRole_37 : decode cX9_badRole 37 = .ok (.goto (-35), 3) := by decide +kernel
theorem dX9_badRole_40 : decode cX9_badRole 40 = .ok (.bipush (-9), 2) := by decide +kernel
theorem dX9_badRole_42 : decode cX9_badRole 42 = .ok (.ireturn, 1) := by decide +kernel
set_option maxRecDepth 20000 in
theorem ggX9_plan_X9_lookAtKept : GoodIn wsX9_plan wsX9_lookAtKept := goodIn_r _ [8, 3, 2, 9, 10, 11, 7, 12, 13, 14, 15, 16, 17, 18, 19, 20, 21, 22, 23, 24, 25, 26, 27, 28, 29, 30, 31, 32, 33, 34, 35, 36, 37, 38, 39, 40, 58, 59, 60, 61, 62, 63, 64, 65, 66, 67, 68, 69, 70, 71, 72, 73, 74, 75, 76, 77, 78, 79, 80, 81, 82, 83] (by decide +kernel) (by decide +kernel)
set_option maxRecDepth 20000 in
theorem gX9_plan_X9_lookAtKept : GoodIn wsX9_plan (wsV RX9 168 RX9 yX9_lookAtKept wsX9_lookAtKept) := goodIn_app (goodIn_of _ (by decide +kernel)) ggX9_plan_X9_lookAtKept
set_option maxRecDepth 20000 in
theorem ggX9_plan_X3_make : GoodIn wsX9_plan wsX3_make := goodIn_r _ [45, 46, 47, 48, 49, 7, 50, 51, 52, 53, 54, 55, 56, 57, 84, 85, 86] (by decide +kernel) (by decide +kernel)
set_option maxRecDepth 20000 in
theorem gX9_plan_X3_make : GoodIn wsX9_plan (wsV RX9 209 RX3 yX3_make wsX3_make) := goodIn_app (goodIn_of _ (by decide +kernel)) ggX9_plan_X3_make
theorem dX9_plan_0 : decode cX9_plan 0 = .ok (.iload_n 1, 1) := by decide +kernel
theorem dX9_plan_1 : decode cX9_plan 1 = .ok (.ifCond .eq 7, 3) := by decide +kernel
theorem dX9_plan_4 : decode cX9_plan 4 = .ok (.aload_n 0, 1) := by decide +kernel
theorem dX9_plan_5 : decode cX9_plan 5 = .ok (.invokevirtual 168, 3) := by decide +kernel
theorem dX9_plan_8 : decode cX9_plan 8 = .ok (.aload_n 0, 1) := by decide +kernel
theorem dX9_plan_9 : decode cX9_plan 9 = .ok (.getfield 54, 3) := by decide +kernel
theorem dX9_plan_12 : decode cX9_plan 12 = .ok (.iload_n 1, 1) := by decide +kernel
theorem dX9_plan_13 : decode cX9_plan 13 = .ok (.ifCond .eq 10, 3) := by decide +kernel
theorem dX9_plan_16 : decode cX9_plan 16 = .ok (.aload_n 0, 1) := by decide +kernel
theorem dX9_plan_17 : decode cX9_plan 17 = .ok (.getfield 72, 3) := by decide +kernel
theorem dX9_plan_20 : decode cX9_plan 20 = .ok (.goto 10, 3) := by decide +kernel
theorem dX9_plan_23 : decode cX9_plan 23 = .ok (.aload_n 0, 1) := by decide +kernel
theorem dX9_plan_24 : decode cX9_plan 24 = .ok (.getfield 19, 3) := by decide +kernel
theorem dX9_plan_27 : decode cX9_plan 27 = .ok (.getfield 112, 3) := by decide +kernel
theorem dX9_plan_30 : decode cX9_plan 30 = .ok (.aload_n 0, 1) := by decide +kernel
theorem dX9_plan_31 : decode cX9_plan 31 = .ok (.getfield 19, 3) := by decide +kernel
theorem dX9_plan_34 : decode cX9_plan 34 = .ok (.getfield 93, 3) := by decide +kernel
theorem dX9_plan_37 : decode cX9_plan 37 = .ok (.invokevirtual 209, 3) := by decide +kernel
theorem dX9_plan_40 : decode cX9_plan 40 = .ok (.ireturn, 1) := by decide +kernel
set_option maxRecDepth 20000 in
theorem ggX9_takeOut_X9_noPerson : GoodIn wsX9_takeOut wsX9_noPerson := goodIn_r _ [6, 7, 17, 18, 19, 20, 21, 22, 23, 24, 25, 26, 27, 28, 29, 33, 34, 35, 36, 37] (by decide +kernel) (by decide +kernel)
set_option maxRecDepth 20000 in
theorem gX9_takeOut_X9_noPerson : GoodIn wsX9_takeOut (wsV RX9 100 RX9 yX9_noPerson wsX9_noPerson) := goodIn_app (goodIn_of _ (by decide +kernel)) ggX9_takeOut_X9_noPerson
set_option maxRecDepth 20000 in
theorem ggX9_takeOut_X9_noRight : GoodIn wsX9_takeOut wsX9_noRight := goodIn_r _ [10] (by decide +kernel) (by decide +kernel)
set_option maxRecDepth 20000 in
theorem gX9_takeOut_X9_noRight : GoodIn wsX9_takeOut (va_wsS RX9 137 yX9_noRight wsX9_noRight) := goodIn_app (goodIn_of _ (by decide +kernel)) ggX9_takeOut_X9_noRight
set_option maxRecDepth 20000 in
theorem ggX9_takeOut_X3_drop : GoodIn wsX9_takeOut wsX3_drop := goodIn_r _ [15, 16, 30, 31, 32] (by decide +kernel) (by decide +kernel)
set_option maxRecDepth 20000 in
theorem gX9_takeOut_X3_drop : GoodIn wsX9_takeOut (wsV RX9 218 RX3 yX3_drop wsX3_drop) := goodIn_app (goodIn_of _ (by decide +kernel)) ggX9_takeOut_X3_drop
theorem dX9_takeOut_0 : decode cX9_takeOut 0 = .ok (.aload_n 0, 1) := by decide +kernel
theorem dX9_takeOut_1 : decode cX9_takeOut 1 = .ok (.iload_n 1, 1) := by decide +kernel
theorem dX9_takeOut_2 : decode cX9_takeOut 2 = .ok (.invokevirtual 100, 3) := by decide +kernel
theorem dX9_takeOut_5 : decode cX9_takeOut 5 = .ok (.ifCond .ne 31, 3) := by decide +kernel
theorem dX9_takeOut_8 : decode cX9_takeOut 8 = .ok (.iload_n 2, 1) := by decide +kernel
theorem dX9_takeOut_9 : decode cX9_takeOut 9 = .ok (.invokestatic 137, 3) := by decide +kernel
theorem dX9_takeOut_12 : decode cX9_takeOut 12 = .ok (.ifCond .ne 24, 3) := by decide +kernel
theorem dX9_takeOut_15 : decode cX9_takeOut 15 = .ok (.aload_n 0, 1) := by decide +kernel
theorem dX9_takeOut_16 : decode cX9_takeOut 16 = .ok (.getfield 54, 3) := by decide +kernel
theorem dX9_takeOut_19 : decode cX9_takeOut 19 = .ok (.getfield 213, 3) := by decide +kernel
theorem dX9_takeOut_22 : decode cX9_takeOut 22 = .ok (.ifCond .eq 16, 3) := by decide +kernel
theorem dX9_takeOut_25 : decode cX9_takeOut 25 = .ok (.iload_n 1, 1) := by decide +kernel
theorem dX9_takeOut_26 : decode cX9_takeOut 26 = .ok (.aload_n 0, 1) := by decide +kernel
theorem dX9_takeOut_27 : decode cX9_takeOut 27 = .ok (.getfield 54, 3) := by decide +kernel
theorem dX9_takeOut_30 : decode cX9_takeOut 30 = .ok (.getfield 217, 3) := by decide +kernel
theorem dX9_takeOut_33 : decode cX9_takeOut 33 = .ok (.if_icmp .lt 5, 3) := by decide +kernel
theorem dX9_takeOut_36 : decode cX9_takeOut 36 = .ok (.iconst (-1), 1) := by decide +kernel
theorem dX9_takeOut_37 : decode cX9_takeOut 37 = .ok (.ireturn, 1) := by decide +kernel
theorem dX9_takeOut_38 : decode cX9_takeOut 38 = .ok (.aload_n 0, 1) := by decide +kernel
theorem dX9_takeOut_39 : decode cX9_takeOut 39 = .ok (.getfield 54, 3) := by decide +kernel
theorem dX9_takeOut_42 : decode cX9_takeOut 42 = .ok (.getfield 213, 3) := by decide +kernel
theorem dX9_takeOut_45 : decode cX9_takeOut 45 = .ok (.ifCond .ne 6, 3) := by decide +kernel
theorem dX9_takeOut_48 : decode cX9_takeOut 48 = .ok (.bipush (-4), 2) := by decide +kernel
theorem dX9_takeOut_50 : decode cX9_takeOut 50 = .ok (.ireturn, 1) := by decide +kernel
theorem dX9_takeOut_51 : decode cX9_takeOut 51 = .ok (.aload_n 0, 1) := by decide +kernel
theorem dX9_takeOut_52 : decode cX9_takeOut 52 = .ok (.getfield 54, 3) := by decide +kernel
theorem dX9_takeOut_55 : decode cX9_takeOut 55 = .ok (.iload_n 1, 1) := by decide +kernel
theorem dX9_takeOut_56 : decode cX9_takeOut 56 = .ok (.iload_n 2, 1) := by decide +kernel
theorem dX9_takeOut_57 : decode cX9_takeOut 57 = .ok (.invokevirtual 218, 3) := by decide +kernel
theorem dX9_takeOut_60 : decode cX9_takeOut 60 = .ok (.ireturn, 1) := by decide +kernel
set_option maxRecDepth 20000 in
theorem ggX9_stopped_X9_noLastDays : GoodIn wsX9_stopped wsX9_noLastDays := goodIn_r _ [6] (by decide +kernel) (by decide +kernel)
set_option maxRecDepth 20000 in
theorem gX9_stopped_X9_noLastDays : GoodIn wsX9_stopped (va_wsS RX9 221 yX9_noLastDays wsX9_noLastDays) := goodIn_app (goodIn_of _ (by decide +kernel)) ggX9_stopped_X9_noLastDays
set_option maxRecDepth 20000 in
theorem ggX9_stopped_X9_isStopped : GoodIn wsX9_stopped wsX9_isStopped := goodIn_r _ [10, 11, 2, 1, 12, 13, 14, 15, 16, 17, 18, 19, 20, 21, 22, 23, 24, 25, 26, 27, 28, 29, 30, 31, 32, 33, 34, 35, 36, 37, 41, 42, 43, 44, 45, 46, 47, 48, 38, 39, 40] (by decide +kernel) (by decide +kernel)
set_option maxRecDepth 20000 in
theorem gX9_stopped_X9_isStopped : GoodIn wsX9_stopped (wsV RX9 224 RX9 yX9_isStopped wsX9_isStopped) := goodIn_app (goodIn_of _ (by decide +kernel)) ggX9_stopped_X9_isStopped
theorem dX9_stopped_0 : decode cX9_stopped 0 = .ok (.iload_n 1, 1) := by decide +kernel
theorem dX9_stopped_1 : decode cX9_stopped 1 = .ok (.invokestatic 221, 3) := by decide +kernel
theorem dX9_stopped_4 : decode cX9_stopped 4 = .ok (.ifCond .eq 5, 3) := by decide +kernel
theorem dX9_stopped_7 : decode cX9_stopped 7 = .ok (.iconst (-1), 1) := by decide +kernel
theorem dX9_stopped_8 : decode cX9_stopped 8 = .ok (.ireturn, 1) := by decide +kernel
theorem dX9_stopped_9 : decode cX9_stopped 9 = .ok (.aload_n 0, 1) := by decide +kernel
theorem dX9_stopped_10 : decode cX9_stopped 10 = .ok (.getfield 54, 3) := by decide +kernel
theorem dX9_stopped_13 : decode cX9_stopped 13 = .ok (.getfield 213, 3) := by decide +kernel
