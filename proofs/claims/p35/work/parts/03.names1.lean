theorem dX0_init_0 : decode cX0_init 0 = .ok (.aload_n 0, 1) := by decide +kernel
theorem dX0_init_1 : decode cX0_init 1 = .ok (.invokespecial 3, 3) := by decide +kernel
theorem dX0_init_4 : decode cX0_init 4 = .ok (.aload_n 0, 1) := by decide +kernel
theorem dX0_init_5 : decode cX0_init 5 = .ok (.bipush 12, 2) := by decide +kernel
theorem dX0_init_7 : decode cX0_init 7 = .ok (.newarray .int, 2) := by decide +kernel
theorem dX0_init_9 : decode cX0_init 9 = .ok (.putfield 9, 3) := by decide +kernel
theorem dX0_init_12 : decode cX0_init 12 = .ok (.return_, 1) := by decide +kernel
theorem dX0_put_0 : decode cX0_put 0 = .ok (.aload_n 0, 1) := by decide +kernel
theorem dX0_put_1 : decode cX0_put 1 = .ok (.getfield 9, 3) := by decide +kernel
theorem dX0_put_4 : decode cX0_put 4 = .ok (.iload_n 1, 1) := by decide +kernel
theorem dX0_put_5 : decode cX0_put 5 = .ok (.iaload, 1) := by decide +kernel
theorem dX0_put_6 : decode cX0_put 6 = .ok (.iload_n 2, 1) := by decide +kernel
theorem dX0_put_7 : decode cX0_put 7 = .ok (.ishr, 1) := by decide +kernel
theorem dX0_put_8 : decode cX0_put 8 = .ok (.iconst 1, 1) := by decide +kernel
theorem dX0_put_9 : decode cX0_put 9 = .ok (.iand, 1) := by decide +kernel
theorem dX0_put_10 : decode cX0_put 10 = .ok (.istore 4, 2) := by decide +kernel
theorem dX0_put_12 : decode cX0_put 12 = .ok (.iload_n 3, 1) := by decide +kernel
theorem dX0_put_13 : decode cX0_put 13 = .ok (.ifCond .eq 30, 3) := by decide +kernel
theorem dX0_put_16 : decode cX0_put 16 = .ok (.aload_n 0, 1) := by decide +kernel
theorem dX0_put_17 : decode cX0_put 17 = .ok (.getfield 9, 3) := by decide +kernel
theorem dX0_put_20 : decode cX0_put 20 = .ok (.iload_n 1, 1) := by decide +kernel
theorem dX0_put_21 : decode cX0_put 21 = .ok (.dup2, 1) := by decide +kernel
theorem dX0_put_22 : decode cX0_put 22 = .ok (.iaload, 1) := by decide +kernel
theorem dX0_put_23 : decode cX0_put 23 = .ok (.iconst 1, 1) := by decide +kernel
theorem dX0_put_24 : decode cX0_put 24 = .ok (.iload_n 2, 1) := by decide +kernel
theorem dX0_put_25 : decode cX0_put 25 = .ok (.ishl, 1) := by decide +kernel
theorem dX0_put_26 : decode cX0_put 26 = .ok (.ior, 1) := by decide +kernel
theorem dX0_put_27 : decode cX0_put 27 = .ok (.iastore, 1) := by decide +kernel
theorem dX0_put_28 : decode cX0_put 28 = .ok (.aload_n 0, 1) := by decide +kernel
theorem dX0_put_29 : decode cX0_put 29 = .ok (.getfield 9, 3) := by decide +kernel
theorem dX0_put_32 : decode cX0_put 32 = .ok (.iload_n 2, 1) := by decide +kernel
theorem dX0_put_33 : decode cX0_put 33 = .ok (.dup2, 1) := by decide +kernel
theorem dX0_put_34 : decode cX0_put 34 = .ok (.iaload, 1) := by decide +kernel
theorem dX0_put_35 : decode cX0_put 35 = .ok (.iconst 1, 1) := by decide +kernel
theorem dX0_put_36 : decode cX0_put 36 = .ok (.iload_n 1, 1) := by decide +kernel
theorem dX0_put_37 : decode cX0_put 37 = .ok (.ishl, 1) := by decide +kernel
theorem dX0_put_38 : decode cX0_put 38 = .ok (.ior, 1) := by decide +kernel
theorem dX0_put_39 : decode cX0_put 39 = .ok (.iastore, 1) := by decide +kernel
theorem dX0_put_40 : decode cX0_put 40 = .ok (.goto 31, 3) := by decide +kernel
theorem dX0_put_43 : decode cX0_put 43 = .ok (.aload_n 0, 1) := by decide +kernel
theorem dX0_put_44 : decode cX0_put 44 = .ok (.getfield 9, 3) := by decide +kernel
theorem dX0_put_47 : decode cX0_put 47 = .ok (.iload_n 1, 1) := by decide +kernel
theorem dX0_put_48 : decode cX0_put 48 = .ok (.dup2, 1) := by decide +kernel
theorem dX0_put_49 : decode cX0_put 49 = .ok (.iaload, 1) := by decide +kernel
theorem dX0_put_50 : decode cX0_put 50 = .ok (.iconst 1, 1) := by decide +kernel
theorem dX0_put_51 : decode cX0_put 51 = .ok (.iload_n 2, 1) := by decide +kernel
theorem dX0_put_52 : decode cX0_put 52 = .ok (.ishl, 1) := by decide +kernel
theorem dX0_put_53 : decode cX0_put 53 = .ok (.iconst (-1), 1) := by decide +kernel
theorem dX0_put_54 : decode cX0_put 54 = .ok (.ixor, 1) := by decide +kernel
theorem dX0_put_55 : decode cX0_put 55 = .ok (.iand, 1) := by decide +kernel
theorem dX0_put_56 : decode cX0_put 56 = .ok (.iastore, 1) := by decide +kernel
theorem dX0_put_57 : decode cX0_put 57 = .ok (.aload_n 0, 1) := by decide +kernel
theorem dX0_put_58 : decode cX0_put 58 = .ok (.getfield 9, 3) := by decide +kernel
theorem dX0_put_61 : decode cX0_put 61 = .ok (.iload_n 2, 1) := by decide +kernel
theorem dX0_put_62 : decode cX0_put 62 = .ok (.dup2, 1) := by decide +kernel
theorem dX0_put_63 : decode cX0_put 63 = .ok (.iaload, 1) := by decide +kernel
theorem dX0_put_64 : decode cX0_put 64 = .ok (.iconst 1, 1) := by decide +kernel
theorem dX0_put_65 : decode cX0_put 65 = .ok (.iload_n 1, 1) := by decide +kernel
theorem dX0_put_66 : decode cX0_put 66 = .ok (.ishl, 1) := by decide +kernel
theorem dX0_put_67 : decode cX0_put 67 = .ok (.iconst (-1), 1) := by decide +kernel
theorem dX0_put_68 : decode cX0_put 68 = .ok (.ixor, 1) := by decide +kernel
theorem dX0_put_69 : decode cX0_put 69 = .ok (.iand, 1) := by decide +kernel
theorem dX0_put_70 : decode cX0_put 70 = .ok (.iastore, 1) := by decide +kernel
theorem dX0_put_71 : decode cX0_put 71 = .ok (.iload 4, 2) := by decide +kernel
theorem dX0_put_73 : decode cX0_put 73 = .ok (.ireturn, 1) := by decide +kernel
theorem dX0_clashing_0 : decode cX0_clashing 0 = .ok (.iconst 0, 1) := by decide +kernel
theorem dX0_clashing_1 : decode cX0_clashing 1 = .ok (.istore_n 2, 1) := by decide +kernel
theorem dX0_clashing_2 : decode cX0_clashing 2 = .ok (.iconst 0, 1) := by decide +kernel
theorem dX0_clashing_3 : decode cX0_clashing 3 = .ok (.istore_n 3, 1) := by decide +kernel
theorem dX0_clashing_4 : decode cX0_clashing 4 = .ok (.iload_n 3, 1) := by decide +kernel
theorem dX0_clashing_5 : decode cX0_clashing 5 = .ok (.bipush 12, 2) := by decide +kernel
theorem dX0_clashing_7 : decode cX0_clashing 7 = .ok (.if_icmp .ge 34, 3) := by decide +kernel
theorem dX0_clashing_10 : decode cX0_clashing 10 = .ok (.iload_n 1, 1) := by decide +kernel
theorem dX0_clashing_11 : decode cX0_clashing 11 = .ok (.iconst 1, 1) := by decide +kernel
theorem dX0_clashing_12 : decode cX0_clashing 12 = .ok (.iload_n 3, 1) := by decide +kernel
theorem dX0_clashing_13 : decode cX0_clashing 13 = .ok (.ishl, 1) := by decide +kernel
theorem dX0_clashing_14 : decode cX0_clashing 14 = .ok (.iand, 1) := by decide +kernel
theorem dX0_clashing_15 : decode cX0_clashing 15 = .ok (.ifCond .eq 20, 3) := by decide +kernel
theorem dX0_clashing_18 : decode cX0_clashing 18 = .ok (.iload_n 1, 1) := by decide +kernel
theorem dX0_clashing_19 : decode cX0_clashing 19 = .ok (.aload_n 0, 1) := by decide +kernel
theorem dX0_clashing_20 : decode cX0_clashing 20 = .ok (.getfield 9, 3) := by decide +kernel
theorem dX0_clashing_23 : decode cX0_clashing 23 = .ok (.iload_n 3, 1) := by decide +kernel
theorem dX0_clashing_24 : decode cX0_clashing 24 = .ok (.iaload, 1) := by decide +kernel
theorem dX0_clashing_25 : decode cX0_clashing 25 = .ok (.iand, 1) := by decide +kernel
theorem dX0_clashing_26 : decode cX0_clashing 26 = .ok (.ifCond .eq 9, 3) := by decide +kernel
theorem dX0_clashing_29 : decode cX0_clashing 29 = .ok (.iload_n 2, 1) := by decide +kernel
theorem dX0_clashing_30 : decode cX0_clashing 30 = .ok (.iconst 1, 1) := by decide +kernel
theorem dX0_clashing_31 : decode cX0_clashing 31 = .ok (.iload_n 3, 1) := by decide +kernel
theorem dX0_clashing_32 : decode cX0_clashing 32 = .ok (.ishl, 1) := by decide +kernel
theorem dX0_clashing_33 : decode cX0_clashing 33 = .ok (.ior, 1) := by decide +kernel
theorem dX0_clashing_34 : decode cX0_clashing 34 = .ok (.istore_n 2, 1) := by decide +kernel
theorem dX0_clashing_35 : decode cX0_clashing 35 = .ok (.iinc 3 1, 3) := by decide +kernel
theorem dX0_clashing_38 : decode cX0_clashing 38 = .ok (.goto (-34), 3) := by decide +kernel
theorem dX0_clashing_41 : decode cX0_clashing 41 = .ok (.iload_n 2, 1) := by decide +kernel
theorem dX0_clashing_42 : decode cX0_clashing 42 = .ok (.ireturn, 1) := by decide +kernel
theorem dX1_init_0 : decode cX1_init 0 = .ok (.aload_n 0, 1) := by decide +kernel
theorem dX1_init_1 : decode cX1_init 1 = .ok (.invokespecial 3, 3) := by decide +kernel
theorem dX1_init_4 : decode cX1_init 4 = .ok (.aload_n 0, 1) := by decide +kernel
theorem dX1_init_5 : decode cX1_init 5 = .ok (.iconst 0, 1) := by decide +kernel
theorem dX1_init_6 : decode cX1_init 6 = .ok (.putfield 9, 3) := by decide +kernel
theorem dX1_init_9 : decode cX1_init 9 = .ok (.aload_n 0, 1) := by decide +kernel
theorem dX1_init_10 : decode cX1_init 10 = .ok (.sipush 1023, 3) := by decide +kernel
theorem dX1_init_13 : decode cX1_init 13 = .ok (.newarray .int, 2) := by decide +kernel
theorem dX1_init_15 : decode cX1_init 15 = .ok (.putfield 15, 3) := by decide +kernel
theorem dX1_init_18 : decode cX1_init 18 = .ok (.aload_n 0, 1) := by decide +kernel
theorem dX1_init_19 : decode cX1_init 19 = .ok (.bipush 64, 2) := by decide +kernel
theorem dX1_init_21 : decode cX1_init 21 = .ok (.newarray .long, 2) := by decide +kernel
theorem dX1_init_23 : decode cX1_init 23 = .ok (.putfield 19, 3) := by decide +kernel
theorem dX1_init_26 : decode cX1_init 26 = .ok (.return_, 1) := by decide +kernel
set_option maxRecDepth 20000 in
theorem ggX1_gather_X1_note : GoodIn wsX1_gather wsX1_note := goodIn_r _ [8, 2, 3, 1, 9, 10, 11, 7, 12, 17, 18, 19] (by decide +kernel) (by decide +kernel)
set_option maxRecDepth 20000 in
theorem gX1_gather_X1_note : GoodIn wsX1_gather (wsV RX1 23 RX1 yX1_note wsX1_note) := goodIn_app (goodIn_of _ (by decide +kernel)) ggX1_gather_X1_note
set_option maxRecDepth 20000 in
theorem ggX1_gather_X1_putInOrder : GoodIn wsX1_gather wsX1_putInOrder := goodIn_r _ [16, 2, 3, 9, 10, 11, 7, 12, 1, 17, 18, 19] (by decide +kernel) (by decide +kernel)
set_option maxRecDepth 20000 in
theorem gX1_gather_X1_putInOrder : GoodIn wsX1_gather (wsV RX1 27 RX1 yX1_putInOrder wsX1_putInOrder) := goodIn_app (goodIn_of _ (by decide +kernel)) ggX1_gather_X1_putInOrder
theorem dX1_gather_0 : decode cX1_gather 0 = .ok (.iconst 0, 1) := by decide +kernel
theorem dX1_gather_1 : decode cX1_gather 1 = .ok (.istore_n 3, 1) := by decide +kernel
theorem dX1_gather_2 : decode cX1_gather 2 = .ok (.iload_n 3, 1) := by decide +kernel
theorem dX1_gather_3 : decode cX1_gather 3 = .ok (.aload_n 0, 1) := by decide +kernel
theorem dX1_gather_4 : decode cX1_gather 4 = .ok (.getfield 19, 3) := by decide +kernel
theorem dX1_gather_7 : decode cX1_gather 7 = .ok (.arraylength, 1) := by decide +kernel
theorem dX1_gather_8 : decode cX1_gather 8 = .ok (.if_icmp .ge 16, 3) := by decide +kernel
theorem dX1_gather_11 : decode cX1_gather 11 = .ok (.aload_n 0, 1) := by decide +kernel
theorem dX1_gather_12 : decode cX1_gather 12 = .ok (.getfield 19, 3) := by decide +kernel
theorem dX1_gather_15 : decode cX1_gather 15 = .ok (.iload_n 3, 1) := by decide +kernel
theorem dX1_gather_16 : decode cX1_gather 16 = .ok (.lconst 0, 1) := by decide +kernel
theorem dX1_gather_17 : decode cX1_gather 17 = .ok (.lastore, 1) := by decide +kernel
theorem dX1_gather_18 : decode cX1_gather 18 = .ok (.iinc 3 1, 3) := by decide +kernel
theorem dX1_gather_21 : decode cX1_gather 21 = .ok (.goto (-19), 3) := by decide +kernel
theorem dX1_gather_24 : decode cX1_gather 24 = .ok (.aload_n 0, 1) := by decide +kernel
theorem dX1_gather_25 : decode cX1_gather 25 = .ok (.iconst 0, 1) := by decide +kernel
theorem dX1_gather_26 : decode cX1_gather 26 = .ok (.putfield 9, 3) := by decide +kernel
theorem dX1_gather_29 : decode cX1_gather 29 = .ok (.iconst 0, 1) := by decide +kernel
theorem dX1_gather_30 : decode cX1_gather 30 = .ok (.istore_n 3, 1) := by decide +kernel
theorem dX1_gather_31 : decode cX1_gather 31 = .ok (.iload_n 3, 1) := by decide +kernel
theorem dX1_gather_32 : decode cX1_gather 32 = .ok (.iload_n 2, 1) := by decide +kernel
theorem dX1_gather_33 : decode cX1_gather 33 = .ok (.if_icmp .ge 53, 3) := by decide +kernel
theorem dX1_gather_36 : decode cX1_gather 36 = .ok (.aload_n 0, 1) := by decide +kernel
theorem dX1_gather_37 : decode cX1_gather 37 = .ok (.getfield 9, 3) := by decide +kernel
theorem dX1_gather_40 : decode cX1_gather 40 = .ok (.istore 4, 2) := by decide +kernel
theorem dX1_gather_42 : decode cX1_gather 42 = .ok (.iconst 0, 1) := by decide +kernel
theorem dX1_gather_43 : decode cX1_gather 43 = .ok (.istore 5, 2) := by decide +kernel
theorem dX1_gather_45 : decode cX1_gather 45 = .ok (.iload 5, 2) := by decide +kernel
theorem dX1_gather_47 : decode cX1_gather 47 = .ok (.iload 4, 2) := by decide +kernel
theorem dX1_gather_49 : decode cX1_gather 49 = .ok (.if_icmp .ge 24, 3) := by decide +kernel
theorem dX1_gather_52 : decode cX1_gather 52 = .ok (.aload_n 0, 1) := by decide +kernel
theorem dX1_gather_53 : decode cX1_gather 53 = .ok (.aload_n 0, 1) := by decide +kernel
theorem dX1_gather_54 : decode cX1_gather 54 = .ok (.getfield 15, 3) := by decide +kernel
theorem dX1_gather_57 : decode cX1_gather 57 = .ok (.iload 5, 2) := by decide +kernel
theorem dX1_gather_59 : decode cX1_gather 59 = .ok (.iaload, 1) := by decide +kernel
theorem dX1_gather_60 : decode cX1_gather 60 = .ok (.aload_n 1, 1) := by decide +kernel
theorem dX1_gather_61 : decode cX1_gather 61 = .ok (.iload_n 3, 1) := by decide +kernel
theorem dX1_gather_62 : decode cX1_gather 62 = .ok (.iaload, 1) := by decide +kernel
theorem dX1_gather_63 : decode cX1_gather 63 = .ok (.iand, 1) := by decide +kernel
theorem dX1_gather_64 : decode cX1_gather 64 = .ok (.invokevirtual 23, 3) := by decide +kernel
theorem dX1_gather_67 : decode cX1_gather 67 = .ok (.iinc 5 1, 3) := by decide +kernel
theorem dX1_gather_70 : decode cX1_gather 70 = .ok (.goto (-25), 3) := by decide +kernel
theorem dX1_gather_73 : decode cX1_gather 73 = .ok (.aload_n 0, 1) := by decide +kernel
theorem dX1_gather_74 : decode cX1_gather 74 = .ok (.aload_n 1, 1) := by decide +kernel
theorem dX1_gather_75 : decode cX1_gather 75 = .ok (.iload_n 3, 1) := by decide +kernel
theorem dX1_gather_76 : decode cX1_gather 76 = .ok (.iaload, 1) := by decide +kernel
theorem dX1_gather_77 : decode cX1_gather 77 = .ok (.invokevirtual 23, 3) := by decide +kernel
theorem dX1_gather_80 : decode cX1_gather 80 = .ok (.iinc 3 1, 3) := by decide +kernel
theorem dX1_gather_83 : decode cX1_gather 83 = .ok (.goto (-52), 3) := by decide +kernel
theorem dX1_gather_86 : decode cX1_gather 86 = .ok (.aload_n 0, 1) := by decide +kernel
theorem dX1_gather_87 : decode cX1_gather 87 = .ok (.invokevirtual 27, 3) := by decide +kernel
theorem dX1_gather_90 : decode cX1_gather 90 = .ok (.return_, 1) := by decide +kernel
set_option maxRecDepth 20000 in
theorem ggX1_note_X1_isNoted : GoodIn wsX1_note wsX1_isNoted := goodIn_r _ [8, 3, 9, 10, 11] (by decide +kernel) (by decide +kernel)
set_option maxRecDepth 20000 in
theorem gX1_note_X1_isNoted : GoodIn wsX1_note (wsV RX1 30 RX1 yX1_isNoted wsX1_isNoted) := goodIn_app (goodIn_of _ (by decide +kernel)) ggX1_note_X1_isNoted
theorem dX1_note_0 : decode cX1_note 0 = .ok (.iload_n 1, 1) := by decide +kernel
theorem dX1_note_1 : decode cX1_note 1 = .ok (.ifCond .eq 23, 3) := by decide +kernel
theorem dX1_note_4 : decode cX1_note 4 = .ok (.aload_n 0, 1) := by decide +kernel
theorem dX1_note_5 : decode cX1_note 5 = .ok (.iload_n 1, 1) := by decide +kernel
theorem dX1_note_6 : decode cX1_note 6 = .ok (.invokevirtual 30, 3) := by decide +kernel
theorem dX1_note_9 : decode cX1_note 9 = .ok (.ifCond .ne 15, 3) := by decide +kernel
theorem dX1_note_12 : decode cX1_note 12 = .ok (.aload_n 0, 1) := by decide +kernel
theorem dX1_note_13 : decode cX1_note 13 = .ok (.getfield 9, 3) := by decide +kernel
theorem dX1_note_16 : decode cX1_note 16 = .ok (.aload_n 0, 1) := by decide +kernel
theorem dX1_note_17 : decode cX1_note 17 = .ok (.getfield 15, 3) := by decide +kernel
theorem dX1_note_20 : decode cX1_note 20 = .ok (.arraylength, 1) := by decide +kernel
theorem dX1_note_21 : decode cX1_note 21 = .ok (.if_icmp .lt 4, 3) := by decide +kernel
theorem dX1_note_24 : decode cX1_note 24 = .ok (.return_, 1) := by decide +kernel
theorem dX1_note_25 : decode cX1_note 25 = .ok (.aload_n 0, 1) := by decide +kernel
theorem dX1_note_26 : decode cX1_note 26 = .ok (.getfield 19, 3) := by decide +kernel
theorem dX1_note_29 : decode cX1_note 29 = .ok (.iload_n 1, 1) := by decide +kernel
theorem dX1_note_30 : decode cX1_note 30 = .ok (.bipush 64, 2) := by decide +kernel
theorem dX1_note_32 : decode cX1_note 32 = .ok (.idiv, 1) := by decide +kernel
theorem dX1_note_33 : decode cX1_note 33 = .ok (.dup2, 1) := by decide +kernel
theorem dX1_note_34 : decode cX1_note 34 = .ok (.laload, 1) := by decide +kernel
theorem dX1_note_35 : decode cX1_note 35 = .ok (.lconst 1, 1) := by decide +kernel
theorem dX1_note_36 : decode cX1_note 36 = .ok (.iload_n 1, 1) := by decide +kernel
theorem dX1_note_37 : decode cX1_note 37 = .ok (.bipush 64, 2) := by decide +kernel
theorem dX1_note_39 : decode cX1_note 39 = .ok (.irem, 1) := by decide +kernel
theorem dX1_note_40 : decode cX1_note 40 = .ok (.lshl, 1) := by decide +kernel
theorem dX1_note_41 : decode cX1_note 41 = .ok (.lor, 1) := by decide +kernel
theorem dX1_note_42 : decode cX1_note 42 = .ok (.lastore, 1) := by decide +kernel
theorem dX1_note_43 : decode cX1_note 43 = .ok (.aload_n 0, 1) := by decide +kernel
theorem dX1_note_44 : decode cX1_note 44 = .ok (.getfield 15, 3) := by decide +kernel
theorem dX1_note_47 : decode cX1_note 47 = .ok (.aload_n 0, 1) := by decide +kernel
theorem dX1_note_48 : decode cX1_note 48 = .ok (.getfield 9, 3) := by decide +kernel
theorem dX1_note_51 : decode cX1_note 51 = .ok (.iload_n 1, 1) := by decide +kernel
theorem dX1_note_52 : decode cX1_note 52 = .ok (.iastore, 1) := by decide +kernel
theorem dX1_note_53 : decode cX1_note 53 = .ok (.aload_n 0, 1) := by decide +kernel
theorem dX1_note_54 : decode cX1_note 54 = .ok (.dup, 1) := by decide +kernel
theorem dX1_note_55 : decode cX1_note 55 = .ok (.getfield 9, 3) := by decide +kernel
theorem dX1_note_58 : decode cX1_note 58 = .ok (.iconst 1, 1) := by decide +kernel
theorem dX1_note_59 : decode cX1_note 59 = .ok (.iadd, 1) := by decide +kernel
theorem dX1_note_60 : decode cX1_note 60 = .ok (.putfield 9, 3) := by decide +kernel
theorem dX1_note_63 : decode cX1_note 63 = .ok (.return_, 1) := by decide +kernel
theorem dX1_isNoted_0 : decode cX1_isNoted 0 = .ok (.aload_n 0, 1) := by decide +kernel
theorem dX1_isNoted_1 : decode cX1_isNoted 1 = .ok (.getfield 19, 3) := by decide +kernel
theorem dX1_isNoted_4 : decode cX1_isNoted 4 = .ok (.iload_n 1, 1) := by decide +kernel
theorem dX1_isNoted_5 : decode cX1_isNoted 5 = .ok (.bipush 64, 2) := by decide +kernel
theorem dX1_isNoted_7 : decode cX1_isNoted 7 = .ok (.idiv, 1) := by decide +kernel
theorem dX1_isNoted_8 : decode cX1_isNoted 8 = .ok (.laload, 1) := by decide +kernel
theorem dX1_isNoted_9 : decode cX1_isNoted 9 = .ok (.lconst 1, 1) := by decide +kernel
theorem dX1_isNoted_10 : decode cX1_isNoted 10 = .ok (.iload_n 1, 1) := by decide +kernel
theorem dX1_isNoted_11 : decode cX1_isNoted 11 = .ok (.bipush 64, 2) := by decide +kernel
theorem dX1_isNoted_13 : decode cX1_isNoted 13 = .ok (.irem, 1) := by decide +kernel
theorem dX1_isNoted_14 : decode cX1_isNoted 14 = .ok (.lshl, 1) := by decide +kernel
theorem dX1_isNoted_15 : decode cX1_isNoted 15 = .ok (.land, 1) := by decide +kernel
theorem dX1_isNoted_16 : decode cX1_isNoted 16 = .ok (.lconst 0, 1) := by decide +kernel
theorem dX1_isNoted_17 : decode cX1_isNoted 17 = .ok (.lcmp, 1) := by decide +kernel
theorem dX1_isNoted_18 : decode cX1_isNoted 18 = .ok (.ifCond .eq 7, 3) := by decide +kernel
theorem dX1_isNoted_21 : decode cX1_isNoted 21 = .ok (.iconst 1, 1) := by decide +kernel
theorem dX1_isNoted_22 : decode cX1_isNoted 22 = .ok (.goto 4, 3) := by decide +kernel
theorem dX1_isNoted_25 : decode cX1_isNoted 25 = .ok (.iconst 0, 1) := by decide +kernel
theorem dX1_isNoted_26 : decode cX1_isNoted 26 = .ok (.ireturn, 1) := by decide +kernel
set_option maxRecDepth 20000 in
theorem ggX1_putInOrder_X1_isNoted : GoodIn wsX1_putInOrder wsX1_isNoted := goodIn_r _ [7, 8, 9, 10, 11] (by decide +kernel) (by decide +kernel)
set_option maxRecDepth 20000 in
theorem gX1_putInOrder_X1_isNoted : GoodIn wsX1_putInOrder (wsV RX1 30 RX1 yX1_isNoted wsX1_isNoted) := goodIn_app (goodIn_of _ (by decide +kernel)) ggX1_putInOrder_X1_isNoted
theorem dX1_putInOrder_0 : decode cX1_putInOrder 0 = .ok (.iconst 0, 1) := by decide +kernel
theorem dX1_putInOrder_1 : decode cX1_putInOrder 1 = .ok (.istore_n 1, 1) := by decide +kernel
theorem dX1_putInOrder_2 : decode cX1_putInOrder 2 = .ok (.iconst 1, 1) := by decide +kernel
theorem dX1_putInOrder_3 : decode cX1_putInOrder 3 = .ok (.istore_n 2, 1) := by decide +kernel
theorem dX1_putInOrder_4 : decode cX1_putInOrder 4 = .ok (.iload_n 2, 1) := by decide +kernel
theorem dX1_putInOrder_5 : decode cX1_putInOrder 5 = .ok (.sipush 4096, 3) := by decide +kernel
theorem dX1_putInOrder_8 : decode cX1_putInOrder 8 = .ok (.if_icmp .ge 35, 3) := by decide +kernel
theorem dX1_putInOrder_11 : decode cX1_putInOrder 11 = .ok (.iload_n 1, 1) := by decide +kernel
theorem dX1_putInOrder_12 : decode cX1_putInOrder 12 = .ok (.aload_n 0, 1) := by decide +kernel
theorem dX1_putInOrder_13 : decode cX1_putInOrder 13 = .ok (.getfield 9, 3) := by decide +kernel
theorem dX1_putInOrder_16 : decode cX1_putInOrder 16 = .ok (.if_icmp .ge 27, 3) := by decide +kernel
theorem dX1_putInOrder_19 : decode cX1_putInOrder 19 = .ok (.aload_n 0, 1) := by decide +kernel
theorem dX1_putInOrder_20 : decode cX1_putInOrder 20 = .ok (.iload_n 2, 1) := by decide +kernel
theorem dX1_putInOrder_21 : decode cX1_putInOrder 21 = .ok (.invokevirtual 30, 3) := by decide +kernel
theorem dX1_putInOrder_24 : decode cX1_putInOrder 24 = .ok (.ifCond .eq 13, 3) := by decide +kernel
theorem dX1_putInOrder_27 : decode cX1_putInOrder 27 = .ok (.aload_n 0, 1) := by decide +kernel
theorem dX1_putInOrder_28 : decode cX1_putInOrder 28 = .ok (.getfield 15, 3) := by decide +kernel
theorem dX1_putInOrder_31 : decode cX1_putInOrder 31 = .ok (.iload_n 1, 1) := by decide +kernel
theorem dX1_putInOrder_32 : decode cX1_putInOrder 32 = .ok (.iload_n 2, 1) := by decide +kernel
theorem dX1_putInOrder_33 : decode cX1_putInOrder 33 = .ok (.iastore, 1) := by decide +kernel
theorem dX1_putInOrder_34 : decode cX1_putInOrder 34 = .ok (.iinc 1 1, 3) := by decide +kernel
theorem dX1_putInOrder_37 : decode cX1_putInOrder 37 = .ok (.iinc 2 1, 3) := by decide +kernel
theorem dX1_putInOrder_40 : decode cX1_putInOrder 40 = .ok (.goto (-36), 3) := by decide +kernel
theorem dX1_putInOrder_43 : decode cX1_putInOrder 43 = .ok (.return_, 1) := by decide +kernel
theorem dX2_init_0 : decode cX2_init 0 = .ok (.aload_n 0, 1) := by decide +kernel
theorem dX2_init_1 : decode cX2_init 1 = .ok (.invokespecial 1, 3) := by decide +kernel
theorem dX2_init_4 : decode cX2_init 4 = .ok (.aload_n 0, 1) := by decide +kernel
theorem dX2_init_5 : decode cX2_init 5 = .ok (.iconst 0, 1) := by decide +kernel
theorem dX2_init_6 : decode cX2_init 6 = .ok (.putfield 7, 3) := by decide +kernel
theorem dX2_init_9 : decode cX2_init 9 = .ok (.aload_n 0, 1) := by decide +kernel
theorem dX2_init_10 : decode cX2_init 10 = .ok (.bipush 30, 2) := by decide +kernel
theorem dX2_init_12 : decode cX2_init 12 = .ok (.putfield 13, 3) := by decide +kernel
theorem dX2_init_15 : decode cX2_init 15 = .ok (.aload_n 0, 1) := by decide +kernel
theorem dX2_init_16 : decode cX2_init 16 = .ok (.bipush 100, 2) := by decide +kernel
theorem dX2_init_18 : decode cX2_init 18 = .ok (.putfield 16, 3) := by decide +kernel
theorem dX2_init_21 : decode cX2_init 21 = .ok (.aload_n 0, 1) := by decide +kernel
theorem dX2_init_22 : decode cX2_init 22 = .ok (.bipush 60, 2) := by decide +kernel
theorem dX2_init_24 : decode cX2_init 24 = .ok (.putfield 19, 3) := by decide +kernel
theorem dX2_init_27 : decode cX2_init 27 = .ok (.return_, 1) := by decide +kernel
theorem dX2_isWithinLast_0 : decode cX2_isWithinLast 0 = .ok (.aload_n 0, 1) := by decide +kernel
theorem dX2_isWithinLast_1 : decode cX2_isWithinLast 1 = .ok (.getfield 7, 3) := by decide +kernel
theorem dX2_isWithinLast_4 : decode cX2_isWithinLast 4 = .ok (.iload_n 1, 1) := by decide +kernel
theorem dX2_isWithinLast_5 : decode cX2_isWithinLast 5 = .ok (.isub, 1) := by decide +kernel
theorem dX2_isWithinLast_6 : decode cX2_isWithinLast 6 = .ok (.iload_n 2, 1) := by decide +kernel
theorem dX2_isWithinLast_7 : decode cX2_isWithinLast 7 = .ok (.if_icmp .ge 7, 3) := by decide +kernel
theorem dX2_isWithinLast_10 : decode cX2_isWithinLast 10 = .ok (.iconst 1, 1) := by decide +kernel
theorem dX2_isWithinLast_11 : decode cX2_isWithinLast 11 = .ok (.goto 4, 3) := by decide +kernel
theorem dX2_isWithinLast_14 : decode cX2_isWithinLast 14 = .ok (.iconst 0, 1) := by decide +kernel
theorem dX2_isWithinLast_15 : decode cX2_isWithinLast 15 = .ok (.ireturn, 1) := by decide +kernel
theorem dX2_comesRound_0 : decode cX2_comesRound 0 = .ok (.aload_n 0, 1) := by decide +kernel
theorem dX2_comesRound_1 : decode cX2_comesRound 1 = .ok (.getfield 16, 3) := by decide +kernel
theorem dX2_comesRound_4 : decode cX2_comesRound 4 = .ok (.iconst 1, 1) := by decide +kernel
theorem dX2_comesRound_5 : decode cX2_comesRound 5 = .ok (.if_icmp .ge 5, 3) := by decide +kernel
theorem dX2_comesRound_8 : decode cX2_comesRound 8 = .ok (.iconst 0, 1) := by decide +kernel
theorem dX2_comesRound_9 : decode cX2_comesRound 9 = .ok (.ireturn, 1) := by decide +kernel
theorem dX2_comesRound_10 : decode cX2_comesRound 10 = .ok (.aload_n 0, 1) := by decide +kernel
theorem dX2_comesRound_11 : decode cX2_comesRound 11 = .ok (.getfield 7, 3) := by decide +kernel
theorem dX2_comesRound_14 : decode cX2_comesRound 14 = .ok (.iload_n 1, 1) := by decide +kernel
theorem dX2_comesRound_15 : decode cX2_comesRound 15 = .ok (.isub, 1) := by decide +kernel
theorem dX2_comesRound_16 : decode cX2_comesRound 16 = .ok (.istore_n 2, 1) := by decide +kernel
theorem dX2_comesRound_17 : decode cX2_comesRound 17 = .ok (.iload_n 2, 1) := by decide +kernel
theorem dX2_comesRound_18 : decode cX2_comesRound 18 = .ok (.aload_n 0, 1) := by decide +kernel
theorem dX2_comesRound_19 : decode cX2_comesRound 19 = .ok (.getfield 13, 3) := by decide +kernel
theorem dX2_comesRound_22 : decode cX2_comesRound 22 = .ok (.iadd, 1) := by decide +kernel
theorem dX2_comesRound_23 : decode cX2_comesRound 23 = .ok (.iconst 1, 1) := by decide +kernel
theorem dX2_comesRound_24 : decode cX2_comesRound 24 = .ok (.isub, 1) := by decide +kernel
theorem dX2_comesRound_25 : decode cX2_comesRound 25 = .ok (.istore_n 3, 1) := by decide +kernel
theorem dX2_comesRound_26 : decode cX2_comesRound 26 = .ok (.iload_n 3, 1) := by decide +kernel
theorem dX2_comesRound_27 : decode cX2_comesRound 27 = .ok (.aload_n 0, 1) := by decide +kernel
theorem dX2_comesRound_28 : decode cX2_comesRound 28 = .ok (.getfield 16, 3) := by decide +kernel
theorem dX2_comesRound_31 : decode cX2_comesRound 31 = .ok (.idiv, 1) := by decide +kernel
theorem dX2_comesRound_32 : decode cX2_comesRound 32 = .ok (.aload_n 0, 1) := by decide +kernel
theorem dX2_comesRound_33 : decode cX2_comesRound 33 = .ok (.getfield 16, 3) := by decide +kernel
theorem dX2_comesRound_36 : decode cX2_comesRound 36 = .ok (.imul, 1) := by decide +kernel
theorem dX2_comesRound_37 : decode cX2_comesRound 37 = .ok (.iload_n 2, 1) := by decide +kernel
theorem dX2_comesRound_38 : decode cX2_comesRound 38 = .ok (.if_icmp .lt 7, 3) := by decide +kernel
theorem dX2_comesRound_41 : decode cX2_comesRound 41 = .ok (.iconst 1, 1) := by decide +kernel
theorem dX2_comesRound_42 : decode cX2_comesRound 42 = .ok (.goto 4, 3) := by decide +kernel
theorem dX2_comesRound_45 : decode cX2_comesRound 45 = .ok (.iconst 0, 1) := by decide +kernel
theorem dX2_comesRound_46 : decode cX2_comesRound 46 = .ok (.ireturn, 1) := by decide +kernel
theorem dX2_isInGrace_0 : decode cX2_isInGrace 0 = .ok (.aload_n 0, 1) := by decide +kernel
theorem dX2_isInGrace_1 : decode cX2_isInGrace 1 = .ok (.getfield 7, 3) := by decide +kernel
theorem dX2_isInGrace_4 : decode cX2_isInGrace 4 = .ok (.iload_n 1, 1) := by decide +kernel
theorem dX2_isInGrace_5 : decode cX2_isInGrace 5 = .ok (.isub, 1) := by decide +kernel
theorem dX2_isInGrace_6 : decode cX2_isInGrace 6 = .ok (.aload_n 0, 1) := by decide +kernel
theorem dX2_isInGrace_7 : decode cX2_isInGrace 7 = .ok (.getfield 19, 3) := by decide +kernel
theorem dX2_isInGrace_10 : decode cX2_isInGrace 10 = .ok (.if_icmp .gt 7, 3) := by decide +kernel
theorem dX2_isInGrace_13 : decode cX2_isInGrace 13 = .ok (.iconst 1, 1) := by decide +kernel
theorem dX2_isInGrace_14 : decode cX2_isInGrace 14 = .ok (.goto 4, 3) := by decide +kernel
theorem dX2_isInGrace_17 : decode cX2_isInGrace 17 = .ok (.iconst 0, 1) := by decide +kernel
theorem dX2_isInGrace_18 : decode cX2_isInGrace 18 = .ok (.ireturn, 1) := by decide +kernel
theorem dX3_init_0 : decode cX3_init 0 = .ok (.aload_n 0, 1) := by decide +kernel
theorem dX3_init_1 : decode cX3_init 1 = .ok (.invokespecial 3, 3) := by decide +kernel
theorem dX3_init_4 : decode cX3_init 4 = .ok (.aload_n 0, 1) := by decide +kernel
theorem dX3_init_5 : decode cX3_init 5 = .ok (.iconst 0, 1) := by decide +kernel
theorem dX3_init_6 : decode cX3_init 6 = .ok (.putfield 9, 3) := by decide +kernel
theorem dX3_init_9 : decode cX3_init 9 = .ok (.aload_n 0, 1) := by decide +kernel
theorem dX3_init_10 : decode cX3_init 10 = .ok (.iconst 0, 1) := by decide +kernel
theorem dX3_init_11 : decode cX3_init 11 = .ok (.putfield 15, 3) := by decide +kernel
theorem dX3_init_14 : decode cX3_init 14 = .ok (.aload_n 0, 1) := by decide +kernel
theorem dX3_init_15 : decode cX3_init 15 = .ok (.bipush 10, 2) := by decide +kernel
theorem dX3_init_17 : decode cX3_init 17 = .ok (.newarray .int, 2) := by decide +kernel
theorem dX3_init_19 : decode cX3_init 19 = .ok (.putfield 19, 3) := by decide +kernel
theorem dX3_init_22 : decode cX3_init 22 = .ok (.return_, 1) := by decide +kernel
set_option maxRecDepth 20000 in
theorem ggX3_make_X9_totalOf : GoodIn wsX3_make wsX9_totalOf := goodIn_r _ [6, 7, 8, 9, 10, 11, 12, 13] (by decide +kernel) (by decide +kernel)
set_option maxRecDepth 20000 in
theorem gX3_make_X9_totalOf_n23 : GoodIn wsX3_make (wsX9_totalOf) := ggX3_make_X9_totalOf
theorem dX3_make_0 : decode cX3_make 0 = .ok (.aload_n 0, 1) := by decide +kernel
theorem dX3_make_1 : decode cX3_make 1 = .ok (.iconst 1, 1) := by decide +kernel
theorem dX3_make_2 : decode cX3_make 2 = .ok (.putfield 9, 3) := by decide +kernel
theorem dX3_make_5 : decode cX3_make 5 = .ok (.aload_n 0, 1) := by decide +kernel
theorem dX3_make_6 : decode cX3_make 6 = .ok (.iload_n 2, 1) := by decide +kernel
theorem dX3_make_7 : decode cX3_make 7 = .ok (.putfield 15, 3) := by decide +kernel
theorem dX3_make_10 : decode cX3_make 10 = .ok (.iconst 0, 1) := by decide +kernel
theorem dX3_make_11 : decode cX3_make 11 = .ok (.istore_n 3, 1) := by decide +kernel
theorem dX3_make_12 : decode cX3_make 12 = .ok (.iload_n 3, 1) := by decide +kernel
theorem dX3_make_13 : decode cX3_make 13 = .ok (.iload_n 2, 1) := by decide +kernel
theorem dX3_make_14 : decode cX3_make 14 = .ok (.if_icmp .ge 18, 3) := by decide +kernel
theorem dX3_make_17 : decode cX3_make 17 = .ok (.aload_n 0, 1) := by decide +kernel
theorem dX3_make_18 : decode cX3_make 18 = .ok (.getfield 19, 3) := by decide +kernel
theorem dX3_make_21 : decode cX3_make 21 = .ok (.iload_n 3, 1) := by decide +kernel
theorem dX3_make_22 : decode cX3_make 22 = .ok (.aload_n 1, 1) := by decide +kernel
theorem dX3_make_23 : decode cX3_make 23 = .ok (.iload_n 3, 1) := by decide +kernel
theorem dX3_make_24 : decode cX3_make 24 = .ok (.iaload, 1) := by decide +kernel
theorem dX3_make_25 : decode cX3_make 25 = .ok (.iastore, 1) := by decide +kernel
theorem dX3_make_26 : decode cX3_make 26 = .ok (.iinc 3 1, 3) := by decide +kernel
theorem dX3_make_29 : decode cX3_make 29 = .ok (.goto (-17), 3) := by decide +kernel
theorem dX3_make_32 : decode cX3_make 32 = .ok (.aload_n 0, 1) := by decide +kernel
theorem dX3_make_33 : decode cX3_make 33 = .ok (.getfield 19, 3) := by decide +kernel
theorem dX3_make_36 : decode cX3_make 36 = .ok (.aload_n 0, 1) := by decide +kernel
theorem dX3_make_37 : decode cX3_make 37 = .ok (.getfield 15, 3) := by decide +kernel
theorem dX3_make_40 : decode cX3_make 40 = .ok (.invokestatic 23, 3) := by decide +kernel
theorem dX3_make_43 : decode cX3_make 43 = .ok (.ireturn, 1) := by decide +kernel
theorem dX3_drop_0 : decode cX3_drop 0 = .ok (.aload_n 0, 1) := by decide +kernel
theorem dX3_drop_1 : decode cX3_drop 1 = .ok (.getfield 19, 3) := by decide +kernel
theorem dX3_drop_4 : decode cX3_drop 4 = .ok (.iload_n 1, 1) := by decide +kernel
theorem dX3_drop_5 : decode cX3_drop 5 = .ok (.iaload, 1) := by decide +kernel
theorem dX3_drop_6 : decode cX3_drop 6 = .ok (.iload_n 2, 1) := by decide +kernel
theorem dX3_drop_7 : decode cX3_drop 7 = .ok (.ishr, 1) := by decide +kernel
theorem dX3_drop_8 : decode cX3_drop 8 = .ok (.iconst 1, 1) := by decide +kernel
theorem dX3_drop_9 : decode cX3_drop 9 = .ok (.iand, 1) := by decide +kernel
theorem dX3_drop_10 : decode cX3_drop 10 = .ok (.istore_n 3, 1) := by decide +kernel
theorem dX3_drop_11 : decode cX3_drop 11 = .ok (.aload_n 0, 1) := by decide +kernel
theorem dX3_drop_12 : decode cX3_drop 12 = .ok (.getfield 19, 3) := by decide +kernel
theorem dX3_drop_15 : decode cX3_drop 15 = .ok (.iload_n 1, 1) := by decide +kernel
theorem dX3_drop_16 : decode cX3_drop 16 = .ok (.dup2, 1) := by decide +kernel
theorem dX3_drop_17 : decode cX3_drop 17 = .ok (.iaload, 1) := by decide +kernel
theorem dX3_drop_18 : decode cX3_drop 18 = .ok (.iconst 1, 1) := by decide +kernel
theorem dX3_drop_19 : decode cX3_drop 19 = .ok (.iload_n 2, 1) := by decide +kernel
theorem dX3_drop_20 : decode cX3_drop 20 = .ok (.ishl, 1) := by decide +kernel
theorem dX3_drop_21 : decode cX3_drop 21 = .ok (.iconst (-1), 1) := by decide +kernel
theorem dX3_drop_22 : decode cX3_drop 22 = .ok (.ixor, 1) := by decide +kernel
theorem dX3_drop_23 : decode cX3_drop 23 = .ok (.iand, 1) := by decide +kernel
theorem dX3_drop_24 : decode cX3_drop 24 = .ok (.iastore, 1) := by decide +kernel
theorem dX3_drop_25 : decode cX3_drop 25 = .ok (.iload_n 3, 1) := by decide +kernel
theorem dX3_drop_26 : decode cX3_drop 26 = .ok (.ireturn, 1) := by decide +kernel
theorem dX3_allows_0 : decode cX3_allows 0 = .ok (.iload_n 1, 1) := by decide +kernel
theorem dX3_allows_1 : decode cX3_allows 1 = .ok (.aload_n 0, 1) := by decide +kernel
theorem dX3_allows_2 : decode cX3_allows 2 = .ok (.getfield 15, 3) := by decide +kernel
theorem dX3_allows_5 : decode cX3_allows 5 = .ok (.if_icmp .ge 20, 3) := by decide +kernel
theorem dX3_allows_8 : decode cX3_allows 8 = .ok (.aload_n 0, 1) := by decide +kernel
theorem dX3_allows_9 : decode cX3_allows 9 = .ok (.getfield 19, 3) := by decide +kernel
theorem dX3_allows_12 : decode cX3_allows 12 = .ok (.iload_n 1, 1) := by decide +kernel
theorem dX3_allows_13 : decode cX3_allows 13 = .ok (.iaload, 1) := by decide +kernel
theorem dX3_allows_14 : decode cX3_allows 14 = .ok (.iconst 1, 1) := by decide +kernel
theorem dX3_allows_15 : decode cX3_allows 15 = .ok (.iload_n 2, 1) := by decide +kernel
theorem dX3_allows_16 : decode cX3_allows 16 = .ok (.ishl, 1) := by decide +kernel
theorem dX3_allows_17 : decode cX3_allows 17 = .ok (.iand, 1) := by decide +kernel
theorem dX3_allows_18 : decode cX3_allows 18 = .ok (.ifCond .eq 7, 3) := by decide +kernel
theorem dX3_allows_21 : decode cX3_allows 21 = .ok (.iconst 1, 1) := by decide +kernel
theorem dX3_allows_22 : decode cX3_allows 22 = .ok (.goto 4, 3) := by decide +kernel
theorem dX3_allows_25 : decode cX3_allows 25 = .ok (.iconst 0, 1) := by decide +kernel
theorem dX3_allows_26 : decode cX3_allows 26 = .ok (.ireturn, 1) := by decide +kernel
theorem dX4_init_0 : decode cX4_init 0 = .ok (.aload_n 0, 1) := by decide +kernel
theorem dX4_init_1 : decode cX4_init 1 = .ok (.invokespecial 3, 3) := by decide +kernel
theorem dX4_init_4 : decode cX4_init 4 = .ok (.aload_n 0, 1) := by decide +kernel
theorem dX4_init_5 : decode cX4_init 5 = .ok (.iconst 0, 1) := by decide +kernel
theorem dX4_init_6 : decode cX4_init 6 = .ok (.putfield 9, 3) := by decide +kernel
theorem dX4_init_9 : decode cX4_init 9 = .ok (.aload_n 0, 1) := by decide +kernel
theorem dX4_init_10 : decode cX4_init 10 = .ok (.iconst 5, 1) := by decide +kernel
theorem dX4_init_11 : decode cX4_init 11 = .ok (.newarray .int, 2) := by decide +kernel
theorem dX4_init_13 : decode cX4_init 13 = .ok (.putfield 15, 3) := by decide +kernel
theorem dX4_init_16 : decode cX4_init 16 = .ok (.return_, 1) := by decide +kernel
theorem dX4_answer_0 : decode cX4_answer 0 = .ok (.aload_n 0, 1) := by decide +kernel
theorem dX4_answer_1 : decode cX4_answer 1 = .ok (.iload_n 1, 1) := by decide +kernel
theorem dX4_answer_2 : decode cX4_answer 2 = .ok (.putfield 9, 3) := by decide +kernel
theorem dX4_answer_5 : decode cX4_answer 5 = .ok (.aload_n 0, 1) := by decide +kernel
theorem dX4_answer_6 : decode cX4_answer 6 = .ok (.getfield 15, 3) := by decide +kernel
theorem dX4_answer_9 : decode cX4_answer 9 = .ok (.iload_n 1, 1) := by decide +kernel
theorem dX4_answer_10 : decode cX4_answer 10 = .ok (.dup2, 1) := by decide +kernel
theorem dX4_answer_11 : decode cX4_answer 11 = .ok (.iaload, 1) := by decide +kernel
theorem dX4_answer_12 : decode cX4_answer 12 = .ok (.iconst 1, 1) := by decide +kernel
theorem dX4_answer_13 : decode cX4_answer 13 = .ok (.iadd, 1) := by decide +kernel
theorem dX4_answer_14 : decode cX4_answer 14 = .ok (.iastore, 1) := by decide +kernel
theorem dX4_answer_15 : decode cX4_answer 15 = .ok (.bipush (-3), 2) := by decide +kernel
theorem dX4_answer_17 : decode cX4_answer 17 = .ok (.ireturn, 1) := by decide +kernel
theorem dX5_init_0 : decode cX5_init 0 = .ok (.aload_n 0, 1) := by decide +kernel
theorem dX5_init_1 : decode cX5_init 1 = .ok (.invokespecial 3, 3) := by decide +kernel
theorem dX5_init_4 : decode cX5_init 4 = .ok (.aload_n 0, 1) := by decide +kernel
theorem dX5_init_5 : decode cX5_init 5 = .ok (.iconst 0, 1) := by decide +kernel
theorem dX5_init_6 : decode cX5_init 6 = .ok (.putfield 9, 3) := by decide +kernel
theorem dX5_init_9 : decode cX5_init 9 = .ok (.aload_n 0, 1) := by decide +kernel
theorem dX5_init_10 : decode cX5_init 10 = .ok (.bipush 10, 2) := by decide +kernel
theorem dX5_init_12 : decode cX5_init 12 = .ok (.newarray .int, 2) := by decide +kernel
theorem dX5_init_14 : decode cX5_init 14 = .ok (.putfield 15, 3) := by decide +kernel
theorem dX5_init_17 : decode cX5_init 17 = .ok (.aload_n 0, 1) := by decide +kernel
theorem dX5_init_18 : decode cX5_init 18 = .ok (.bipush 10, 2) := by decide +kernel
theorem dX5_init_20 : decode cX5_init 20 = .ok (.newarray .int, 2) := by decide +kernel
theorem dX5_init_22 : decode cX5_init 22 = .ok (.putfield 19, 3) := by decide +kernel
theorem dX5_init_25 : decode cX5_init 25 = .ok (.aload_n 0, 1) := by decide +kernel
theorem dX5_init_26 : decode cX5_init 26 = .ok (.bipush 10, 2) := by decide +kernel
theorem dX5_init_28 : decode cX5_init 28 = .ok (.newarray .int, 2) := by decide +kernel
theorem dX5_init_30 : decode cX5_init 30 = .ok (.putfield 22, 3) := by decide +kernel
theorem dX5_init_33 : decode cX5_init 33 = .ok (.aload_n 0, 1) := by decide +kernel
theorem dX5_init_34 : decode cX5_init 34 = .ok (.bipush 120, 2) := by decide +kernel
theorem dX5_init_36 : decode cX5_init 36 = .ok (.newarray .int, 2) := by decide +kernel
theorem dX5_init_38 : decode cX5_init 38 = .ok (.putfield 25, 3) := by decide +kernel
theorem dX5_init_41 : decode cX5_init 41 = .ok (.return_, 1) := by decide +kernel
theorem dX5_join_0 : decode cX5_join 0 = .ok (.aload_n 0, 1) := by decide +kernel
theorem dX5_join_1 : decode cX5_join 1 = .ok (.getfield 15, 3) := by decide +kernel
theorem dX5_join_4 : decode cX5_join 4 = .ok (.aload_n 0, 1) := by decide +kernel
theorem dX5_join_5 : decode cX5_join 5 = .ok (.getfield 9, 3) := by decide +kernel
theorem dX5_join_8 : decode cX5_join 8 = .ok (.iload_n 1, 1) := by decide +kernel
theorem dX5_join_9 : decode cX5_join 9 = .ok (.iastore, 1) := by decide +kernel
theorem dX5_join_10 : decode cX5_join 10 = .ok (.aload_n 0, 1) := by decide +kernel
theorem dX5_join_11 : decode cX5_join 11 = .ok (.getfield 19, 3) := by decide +kernel
theorem dX5_join_14 : decode cX5_join 14 = .ok (.aload_n 0, 1) := by decide +kernel
theorem dX5_join_15 : decode cX5_join 15 = .ok (.getfield 9, 3) := by decide +kernel
theorem dX5_join_18 : decode cX5_join 18 = .ok (.iload_n 2, 1) := by decide +kernel
theorem dX5_join_19 : decode cX5_join 19 = .ok (.iastore, 1) := by decide +kernel
theorem dX5_join_20 : decode cX5_join 20 = .ok (.aload_n 0, 1) := by decide +kernel
theorem dX5_join_21 : decode cX5_join 21 = .ok (.dup, 1) := by decide +kernel
theorem dX5_join_22 : decode cX5_join 22 = .ok (.getfield 9, 3) := by decide +kernel
theorem dX5_join_25 : decode cX5_join 25 = .ok (.iconst 1, 1) := by decide +kernel
theorem dX5_join_26 : decode cX5_join 26 = .ok (.iadd, 1) := by decide +kernel
theorem dX5_join_27 : decode cX5_join 27 = .ok (.putfield 9, 3) := by decide +kernel
theorem dX5_join_30 : decode cX5_join 30 = .ok (.aload_n 0, 1) := by decide +kernel
theorem dX5_join_31 : decode cX5_join 31 = .ok (.getfield 9, 3) := by decide +kernel
theorem dX5_join_34 : decode cX5_join 34 = .ok (.iconst 1, 1) := by decide +kernel
theorem dX5_join_35 : decode cX5_join 35 = .ok (.isub, 1) := by decide +kernel
theorem dX5_join_36 : decode cX5_join 36 = .ok (.ireturn, 1) := by decide +kernel
theorem dX5_has_0 : decode cX5_has 0 = .ok (.aload_n 0, 1) := by decide +kernel
theorem dX5_has_1 : decode cX5_has 1 = .ok (.getfield 19, 3) := by decide +kernel
theorem dX5_has_4 : decode cX5_has 4 = .ok (.iload_n 1, 1) := by decide +kernel
theorem dX5_has_5 : decode cX5_has 5 = .ok (.iaload, 1) := by decide +kernel
theorem dX5_has_6 : decode cX5_has 6 = .ok (.iconst 1, 1) := by decide +kernel
theorem dX5_has_7 : decode cX5_has 7 = .ok (.iload_n 2, 1) := by decide +kernel
theorem dX5_has_8 : decode cX5_has 8 = .ok (.ishl, 1) := by decide +kernel
theorem dX5_has_9 : decode cX5_has 9 = .ok (.iand, 1) := by decide +kernel
theorem dX5_has_10 : decode cX5_has 10 = .ok (.ifCond .eq 7, 3) := by decide +kernel
theorem dX5_has_13 : decode cX5_has 13 = .ok (.iconst 1, 1) := by decide +kernel
theorem dX5_has_14 : decode cX5_has 14 = .ok (.goto 4, 3) := by decide +kernel
theorem dX5_has_17 : decode cX5_has 17 = .ok (.iconst 0, 1) := by decide +kernel
theorem dX5_has_18 : decode cX5_has 18 = .ok (.ireturn, 1) := by decide +kernel
theorem dX5_remark_0 : decode cX5_remark 0 = .ok (.aload_n 0, 1) := by decide +kernel
theorem dX5_remark_1 : decode cX5_remark 1 = .ok (.getfield 15, 3) := by decide +kernel
theorem dX5_remark_4 : decode cX5_remark 4 = .ok (.iload_n 1, 1) := by decide +kernel
theorem dX5_remark_5 : decode cX5_remark 5 = .ok (.iaload, 1) := by decide +kernel
theorem dX5_remark_6 : decode cX5_remark 6 = .ok (.istore_n 3, 1) := by decide +kernel
theorem dX5_remark_7 : decode cX5_remark 7 = .ok (.aload_n 0, 1) := by decide +kernel
theorem dX5_remark_8 : decode cX5_remark 8 = .ok (.getfield 15, 3) := by decide +kernel
theorem dX5_remark_11 : decode cX5_remark 11 = .ok (.iload_n 1, 1) := by decide +kernel
theorem dX5_remark_12 : decode cX5_remark 12 = .ok (.iload_n 2, 1) := by decide +kernel
theorem dX5_remark_13 : decode cX5_remark 13 = .ok (.iastore, 1) := by decide +kernel
theorem dX5_remark_14 : decode cX5_remark 14 = .ok (.iload_n 3, 1) := by decide +kernel
theorem dX5_remark_15 : decode cX5_remark 15 = .ok (.ireturn, 1) := by decide +kernel
theorem dX5_give_0 : decode cX5_give 0 = .ok (.aload_n 0, 1) := by decide +kernel
theorem dX5_give_1 : decode cX5_give 1 = .ok (.getfield 19, 3) := by decide +kernel
theorem dX5_give_4 : decode cX5_give 4 = .ok (.iload_n 1, 1) := by decide +kernel
theorem dX5_give_5 : decode cX5_give 5 = .ok (.iaload, 1) := by decide +kernel
theorem dX5_give_6 : decode cX5_give 6 = .ok (.istore_n 3, 1) := by decide +kernel
theorem dX5_give_7 : decode cX5_give 7 = .ok (.aload_n 0, 1) := by decide +kernel
theorem dX5_give_8 : decode cX5_give 8 = .ok (.getfield 19, 3) := by decide +kernel
theorem dX5_give_11 : decode cX5_give 11 = .ok (.iload_n 1, 1) := by decide +kernel
theorem dX5_give_12 : decode cX5_give 12 = .ok (.iload_n 2, 1) := by decide +kernel
theorem dX5_give_13 : decode cX5_give 13 = .ok (.iastore, 1) := by decide +kernel
theorem dX5_give_14 : decode cX5_give 14 = .ok (.aload_n 0, 1) := by decide +kernel
theorem dX5_give_15 : decode cX5_give 15 = .ok (.getfield 22, 3) := by decide +kernel
theorem dX5_give_18 : decode cX5_give 18 = .ok (.iload_n 1, 1) := by decide +kernel
theorem dX5_give_19 : decode cX5_give 19 = .ok (.dup2, 1) := by decide +kernel
theorem dX5_give_20 : decode cX5_give 20 = .ok (.iaload, 1) := by decide +kernel
theorem dX5_give_21 : decode cX5_give 21 = .ok (.iload_n 2, 1) := by decide +kernel
theorem dX5_give_22 : decode cX5_give 22 = .ok (.iconst (-1), 1) := by decide +kernel
theorem dX5_give_23 : decode cX5_give 23 = .ok (.ixor, 1) := by decide +kernel
theorem dX5_give_24 : decode cX5_give 24 = .ok (.iand, 1) := by decide +kernel
theorem dX5_give_25 : decode cX5_give 25 = .ok (.iastore, 1) := by decide +kernel
theorem dX5_give_26 : decode cX5_give 26 = .ok (.iload_n 3, 1) := by decide +kernel
theorem dX5_give_27 : decode cX5_give 27 = .ok (.ireturn, 1) := by decide +kernel
set_option maxRecDepth 20000 in
theorem ggX5_leave_J6_bitCount_0f7a4 : GoodIn wsX5_leave wsJ6_bitCount_0f7a4 := goodIn_r _ [7, 8, 9, 10] (by decide +kernel) (by decide +kernel)
set_option maxRecDepth 20000 in
theorem gX5_leave_J6_bitCount_0f7a4 : GoodIn wsX5_leave (va_wsS RX5 28 yJ6_bitCount_0f7a4 wsJ6_bitCount_0f7a4) := goodIn_app (goodIn_of _ (by decide +kernel)) ggX5_leave_J6_bitCount_0f7a4
theorem dX5_leave_0 : decode cX5_leave 0 = .ok (.aload_n 0, 1) := by decide +kernel
theorem dX5_leave_1 : decode cX5_leave 1 = .ok (.getfield 19, 3) := by decide +kernel
theorem dX5_leave_4 : decode cX5_leave 4 = .ok (.iload_n 1, 1) := by decide +kernel
theorem dX5_leave_5 : decode cX5_leave 5 = .ok (.iaload, 1) := by decide +kernel
theorem dX5_leave_6 : decode cX5_leave 6 = .ok (.iload_n 2, 1) := by decide +kernel
theorem dX5_leave_7 : decode cX5_leave 7 = .ok (.iconst (-1), 1) := by decide +kernel
theorem dX5_leave_8 : decode cX5_leave 8 = .ok (.ixor, 1) := by decide +kernel
theorem dX5_leave_9 : decode cX5_leave 9 = .ok (.iand, 1) := by decide +kernel
theorem dX5_leave_10 : decode cX5_leave 10 = .ok (.istore 4, 2) := by decide +kernel
theorem dX5_leave_12 : decode cX5_leave 12 = .ok (.aload_n 0, 1) := by decide +kernel
theorem dX5_leave_13 : decode cX5_leave 13 = .ok (.getfield 19, 3) := by decide +kernel
theorem dX5_leave_16 : decode cX5_leave 16 = .ok (.iload_n 1, 1) := by decide +kernel
theorem dX5_leave_17 : decode cX5_leave 17 = .ok (.iload_n 2, 1) := by decide +kernel
theorem dX5_leave_18 : decode cX5_leave 18 = .ok (.iastore, 1) := by decide +kernel
theorem dX5_leave_19 : decode cX5_leave 19 = .ok (.aload_n 0, 1) := by decide +kernel
theorem dX5_leave_20 : decode cX5_leave 20 = .ok (.getfield 22, 3) := by decide +kernel
theorem dX5_leave_23 : decode cX5_leave 23 = .ok (.iload_n 1, 1) := by decide +kernel
theorem dX5_leave_24 : decode cX5_leave 24 = .ok (.dup2, 1) := by decide +kernel
theorem dX5_leave_25 : decode cX5_leave 25 = .ok (.iaload, 1) := by decide +kernel
theorem dX5_leave_26 : decode cX5_leave 26 = .ok (.iload 4, 2) := by decide +kernel
theorem dX5_leave_28 : decode cX5_leave 28 = .ok (.ior, 1) := by decide +kernel
theorem dX5_leave_29 : decode cX5_leave 29 = .ok (.iastore, 1) := by decide +kernel
theorem dX5_leave_30 : decode cX5_leave 30 = .ok (.iconst 0, 1) := by decide +kernel
theorem dX5_leave_31 : decode cX5_leave 31 = .ok (.istore 5, 2) := by decide +kernel
theorem dX5_leave_33 : decode cX5_leave 33 = .ok (.iload 5, 2) := by decide +kernel
theorem dX5_leave_35 : decode cX5_leave 35 = .ok (.bipush 12, 2) := by decide +kernel
theorem dX5_leave_37 : decode cX5_leave 37 = .ok (.if_icmp .ge 32, 3) := by decide +kernel
theorem dX5_leave_40 : decode cX5_leave 40 = .ok (.iload 4, 2) := by decide +kernel
theorem dX5_leave_42 : decode cX5_leave 42 = .ok (.iconst 1, 1) := by decide +kernel
theorem dX5_leave_43 : decode cX5_leave 43 = .ok (.iload 5, 2) := by decide +kernel
theorem dX5_leave_45 : decode cX5_leave 45 = .ok (.ishl, 1) := by decide +kernel
theorem dX5_leave_46 : decode cX5_leave 46 = .ok (.iand, 1) := by decide +kernel
theorem dX5_leave_47 : decode cX5_leave 47 = .ok (.ifCond .eq 16, 3) := by decide +kernel
theorem dX5_leave_50 : decode cX5_leave 50 = .ok (.aload_n 0, 1) := by decide +kernel
theorem dX5_leave_51 : decode cX5_leave 51 = .ok (.getfield 25, 3) := by decide +kernel
theorem dX5_leave_54 : decode cX5_leave 54 = .ok (.iload_n 1, 1) := by decide +kernel
theorem dX5_leave_55 : decode cX5_leave 55 = .ok (.bipush 12, 2) := by decide +kernel
theorem dX5_leave_57 : decode cX5_leave 57 = .ok (.imul, 1) := by decide +kernel
theorem dX5_leave_58 : decode cX5_leave 58 = .ok (.iload 5, 2) := by decide +kernel
theorem dX5_leave_60 : decode cX5_leave 60 = .ok (.iadd, 1) := by decide +kernel
theorem dX5_leave_61 : decode cX5_leave 61 = .ok (.iload_n 3, 1) := by decide +kernel
theorem dX5_leave_62 : decode cX5_leave 62 = .ok (.iastore, 1) := by decide +kernel
theorem dX5_leave_63 : decode cX5_leave 63 = .ok (.iinc 5 1, 3) := by decide +kernel
theorem dX5_leave_66 : decode cX5_leave 66 = .ok (.goto (-33), 3) := by decide +kernel
theorem dX5_leave_69 : decode cX5_leave 69 = .ok (.iload 4, 2) := by decide +kernel
theorem dX5_leave_71 : decode cX5_leave 71 = .ok (.invokestatic 28, 3) := by decide +kernel
theorem dX5_leave_74 : decode cX5_leave 74 = .ok (.ireturn, 1) := by decide +kernel
set_option maxRecDepth 20000 in
theorem ggX5_request_X2_isInGrace : GoodIn wsX5_request wsX2_isInGrace := goodIn_r _ [8, 9, 10, 16, 17, 18, 19] (by decide +kernel) (by decide +kernel)
set_option maxRecDepth 20000 in
theorem gX5_request_X2_isInGrace : GoodIn wsX5_request (wsV RX5 34 RX2 yX2_isInGrace wsX2_isInGrace) := goodIn_app (goodIn_of _ (by decide +kernel)) ggX5_request_X2_isInGrace
theorem dX5_request_0 : decode cX5_request 0 = .ok (.iconst 1, 1) := by decide +kernel
theorem dX5_request_1 : decode cX5_request 1 = .ok (.iload_n 2, 1) := by decide +kernel
theorem dX5_request_2 : decode cX5_request 2 = .ok (.ishl, 1) := by decide +kernel
theorem dX5_request_3 : decode cX5_request 3 = .ok (.istore 4, 2) := by decide +kernel
theorem dX5_request_5 : decode cX5_request 5 = .ok (.aload_n 0, 1) := by decide +kernel
theorem dX5_request_6 : decode cX5_request 6 = .ok (.getfield 19, 3) := by decide +kernel
theorem dX5_request_9 : decode cX5_request 9 = .ok (.iload_n 1, 1) := by decide +kernel
theorem dX5_request_10 : decode cX5_request 10 = .ok (.iaload, 1) := by decide +kernel
theorem dX5_request_11 : decode cX5_request 11 = .ok (.iload 4, 2) := by decide +kernel
theorem dX5_request_13 : decode cX5_request 13 = .ok (.iand, 1) := by decide +kernel
theorem dX5_request_14 : decode cX5_request 14 = .ok (.ifCond .eq 5, 3) := by decide +kernel
theorem dX5_request_17 : decode cX5_request 17 = .ok (.iconst 2, 1) := by decide +kernel
theorem dX5_request_18 : decode cX5_request 18 = .ok (.ireturn, 1) := by decide +kernel
theorem dX5_request_19 : decode cX5_request 19 = .ok (.aload_n 0, 1) := by decide +kernel
theorem dX5_request_20 : decode cX5_request 20 = .ok (.getfield 22, 3) := by decide +kernel
theorem dX5_request_23 : decode cX5_request 23 = .ok (.iload_n 1, 1) := by decide +kernel
theorem dX5_request_24 : decode cX5_request 24 = .ok (.iaload, 1) := by decide +kernel
theorem dX5_request_25 : decode cX5_request 25 = .ok (.iload 4, 2) := by decide +kernel
theorem dX5_request_27 : decode cX5_request 27 = .ok (.iand, 1) := by decide +kernel
theorem dX5_request_28 : decode cX5_request 28 = .ok (.ifCond .eq 21, 3) := by decide +kernel
theorem dX5_request_31 : decode cX5_request 31 = .ok (.aload_n 3, 1) := by decide +kernel
theorem dX5_request_32 : decode cX5_request 32 = .ok (.aload_n 0, 1) := by decide +kernel
theorem dX5_request_33 : decode cX5_request 33 = .ok (.getfield 25, 3) := by decide +kernel
theorem dX5_request_36 : decode cX5_request 36 = .ok (.iload_n 1, 1) := by decide +kernel
theorem dX5_request_37 : decode cX5_request 37 = .ok (.bipush 12, 2) := by decide +kernel
theorem dX5_request_39 : decode cX5_request 39 = .ok (.imul, 1) := by decide +kernel
theorem dX5_request_40 : decode cX5_request 40 = .ok (.iload_n 2, 1) := by decide +kernel
theorem dX5_request_41 : decode cX5_request 41 = .ok (.iadd, 1) := by decide +kernel
theorem dX5_request_42 : decode cX5_request 42 = .ok (.iaload, 1) := by decide +kernel
theorem dX5_request_43 : decode cX5_request 43 = .ok (.invokevirtual 34, 3) := by decide +kernel
theorem dX5_request_46 : decode cX5_request 46 = .ok (.ifCond .ne 5, 3) := by decide +kernel
theorem dX5_request_49 : decode cX5_request 49 = .ok (.iconst 0, 1) := by decide +kernel
theorem dX5_request_50 : decode cX5_request 50 = .ok (.ireturn, 1) := by decide +kernel
theorem dX5_request_51 : decode cX5_request 51 = .ok (.aload_n 0, 1) := by decide +kernel
theorem dX5_request_52 : decode cX5_request 52 = .ok (.getfield 19, 3) := by decide +kernel
theorem dX5_request_55 : decode cX5_request 55 = .ok (.iload_n 1, 1) := by decide +kernel
theorem dX5_request_56 : decode cX5_request 56 = .ok (.dup2, 1) := by decide +kernel
theorem dX5_request_57 : decode cX5_request 57 = .ok (.iaload, 1) := by decide +kernel
theorem dX5_request_58 : decode cX5_request 58 = .ok (.iload 4, 2) := by decide +kernel
theorem dX5_request_60 : decode cX5_request 60 = .ok (.ior, 1) := by decide +kernel
theorem dX5_request_61 : decode cX5_request 61 = .ok (.iastore, 1) := by decide +kernel
theorem dX5_request_62 : decode cX5_request 62 = .ok (.aload_n 0, 1) := by decide +kernel
theorem dX5_request_63 : decode cX5_request 63 = .ok (.getfield 22, 3) := by decide +kernel
theorem dX5_request_66 : decode cX5_request 66 = .ok (.iload_n 1, 1) := by decide +kernel
theorem dX5_request_67 : decode cX5_request 67 = .ok (.dup2, 1) := by decide +kernel
theorem dX5_request_68 : decode cX5_request 68 = .ok (.iaload, 1) := by decide +kernel
theorem dX5_request_69 : decode cX5_request 69 = .ok (.iload 4, 2) := by decide +kernel
theorem dX5_request_71 : decode cX5_request 71 = .ok (.iconst (-1), 1) := by decide +kernel
theorem dX5_request_72 : decode cX5_request 72 = .ok (.ixor, 1) := by decide +kernel
theorem dX5_request_73 : decode cX5_request 73 = .ok (.iand, 1) := by decide +kernel
theorem dX5_request_74 : decode cX5_request 74 = .ok (.iastore, 1) := by decide +kernel
theorem dX5_request_75 : decode cX5_request 75 = .ok (.iconst 1, 1) := by decide +kernel
theorem dX5_request_76 : decode cX5_request 76 = .ok (.ireturn, 1) := by decide +kernel
set_option maxRecDepth 20000 in
theorem ggX5_mistold_X5_has : GoodIn wsX5_mistold wsX5_has := goodIn_r _ [7, 8, 9, 10, 11, 12, 13] (by decide +kernel) (by decide +kernel)
set_option maxRecDepth 20000 in
theorem gX5_mistold_X5_has : GoodIn wsX5_mistold (wsV RX5 40 RX5 yX5_has wsX5_has) := goodIn_app (goodIn_of _ (by decide +kernel)) ggX5_mistold_X5_has
theorem dX5_mistold_0 : decode cX5_mistold 0 = .ok (.iconst 0, 1) := by decide +kernel
theorem dX5_mistold_1 : decode cX5_mistold 1 = .ok (.istore_n 3, 1) := by decide +kernel
theorem dX5_mistold_2 : decode cX5_mistold 2 = .ok (.iconst 0, 1) := by decide +kernel
theorem dX5_mistold_3 : decode cX5_mistold 3 = .ok (.istore 4, 2) := by decide +kernel
theorem dX5_mistold_5 : decode cX5_mistold 5 = .ok (.iload 4, 2) := by decide +kernel
theorem dX5_mistold_7 : decode cX5_mistold 7 = .ok (.aload_n 0, 1) := by decide +kernel
theorem dX5_mistold_8 : decode cX5_mistold 8 = .ok (.getfield 9, 3) := by decide +kernel
theorem dX5_mistold_11 : decode cX5_mistold 11 = .ok (.if_icmp .ge 48, 3) := by decide +kernel
theorem dX5_mistold_14 : decode cX5_mistold 14 = .ok (.aload_n 0, 1) := by decide +kernel
theorem dX5_mistold_15 : decode cX5_mistold 15 = .ok (.getfield 15, 3) := by decide +kernel
theorem dX5_mistold_18 : decode cX5_mistold 18 = .ok (.iload 4, 2) := by decide +kernel
theorem dX5_mistold_20 : decode cX5_mistold 20 = .ok (.iaload, 1) := by decide +kernel
theorem dX5_mistold_21 : decode cX5_mistold 21 = .ok (.iload_n 2, 1) := by decide +kernel
theorem dX5_mistold_22 : decode cX5_mistold 22 = .ok (.iand, 1) := by decide +kernel
theorem dX5_mistold_23 : decode cX5_mistold 23 = .ok (.iload_n 2, 1) := by decide +kernel
theorem dX5_mistold_24 : decode cX5_mistold 24 = .ok (.if_icmp .ne 7, 3) := by decide +kernel
theorem dX5_mistold_27 : decode cX5_mistold 27 = .ok (.iconst 1, 1) := by decide +kernel
theorem dX5_mistold_28 : decode cX5_mistold 28 = .ok (.goto 4, 3) := by decide +kernel
theorem dX5_mistold_31 : decode cX5_mistold 31 = .ok (.iconst 0, 1) := by decide +kernel
theorem dX5_mistold_32 : decode cX5_mistold 32 = .ok (.istore 5, 2) := by decide +kernel
theorem dX5_mistold_34 : decode cX5_mistold 34 = .ok (.iload 5, 2) := by decide +kernel
theorem dX5_mistold_36 : decode cX5_mistold 36 = .ok (.aload_n 0, 1) := by decide +kernel
theorem dX5_mistold_37 : decode cX5_mistold 37 = .ok (.iload 4, 2) := by decide +kernel
theorem dX5_mistold_39 : decode cX5_mistold 39 = .ok (.iload_n 1, 1) := by decide +kernel
theorem dX5_mistold_40 : decode cX5_mistold 40 = .ok (.invokevirtual 40, 3) := by decide +kernel
theorem dX5_mistold_43 : decode cX5_mistold 43 = .ok (.if_icmp .eq 10, 3) := by decide +kernel
theorem dX5_mistold_46 : decode cX5_mistold 46 = .ok (.iload_n 3, 1) := by decide +kernel
theorem dX5_mistold_47 : decode cX5_mistold 47 = .ok (.iconst 1, 1) := by decide +kernel
theorem dX5_mistold_48 : decode cX5_mistold 48 = .ok (.iload 4, 2) := by decide +kernel
theorem dX5_mistold_50 : decode cX5_mistold 50 = .ok (.ishl, 1) := by decide +kernel
theorem dX5_mistold_51 : decode cX5_mistold 51 = .ok (.ior, 1) := by decide +kernel
theorem dX5_mistold_52 : decode cX5_mistold 52 = .ok (.istore_n 3, 1) := by decide +kernel
theorem dX5_mistold_53 : decode cX5_mistold 53 = .ok (.iinc 4 1, 3) := by decide +kernel
theorem dX5_mistold_56 : decode cX5_mistold 56 = .ok (.goto (-51), 3) := by decide +kernel
theorem dX5_mistold_59 : decode cX5_mistold 59 = .ok (.iload_n 3, 1) := by decide +kernel
theorem dX5_mistold_60 : decode cX5_mistold 60 = .ok (.ireturn, 1) := by decide +kernel
theorem dX6_init_0 : decode cX6_init 0 = .ok (.aload_n 0, 1) := by decide +kernel
theorem dX6_init_1 : decode cX6_init 1 = .ok (.invokespecial 5, 3) := by decide +kernel
theorem dX6_init_4 : decode cX6_init 4 = .ok (.aload_n 0, 1) := by decide +kernel
theorem dX6_init_5 : decode cX6_init 5 = .ok (.iconst 0, 1) := by decide +kernel
theorem dX6_init_6 : decode cX6_init 6 = .ok (.putfield 11, 3) := by decide +kernel
theorem dX6_init_9 : decode cX6_init 9 = .ok (.aload_n 0, 1) := by decide +kernel
theorem dX6_init_10 : decode cX6_init 10 = .ok (.iconst 0, 1) := by decide +kernel
theorem dX6_init_11 : decode cX6_init 11 = .ok (.putfield 15, 3) := by decide +kernel
theorem dX6_init_14 : decode cX6_init 14 = .ok (.aload_n 0, 1) := by decide +kernel
theorem dX6_init_15 : decode cX6_init 15 = .ok (.bipush 122, 2) := by decide +kernel
theorem dX6_init_17 : decode cX6_init 17 = .ok (.putfield 18, 3) := by decide +kernel
theorem dX6_init_20 : decode cX6_init 20 = .ok (.aload_n 0, 1) := by decide +kernel
theorem dX6_init_21 : decode cX6_init 21 = .ok (.bipush 120, 2) := by decide +kernel
theorem dX6_init_23 : decode cX6_init 23 = .ok (.newarray .int, 2) := by decide +kernel
theorem dX6_init_25 : decode cX6_init 25 = .ok (.putfield 21, 3) := by decide +kernel
theorem dX6_init_28 : decode cX6_init 28 = .ok (.aload_n 0, 1) := by decide +kernel
theorem dX6_init_29 : decode cX6_init 29 = .ok (.bipush 120, 2) := by decide +kernel
theorem dX6_init_31 : decode cX6_init 31 = .ok (.newarray .int, 2) := by decide +kernel
theorem dX6_init_33 : decode cX6_init 33 = .ok (.putfield 25, 3) := by decide +kernel
theorem dX6_init_36 : decode cX6_init 36 = .ok (.aload_n 0, 1) := by decide +kernel
theorem dX6_init_37 : decode cX6_init 37 = .ok (.bipush 121, 2) := by decide +kernel
theorem dX6_init_39 : decode cX6_init 39 = .ok (.newarray .int, 2) := by decide +kernel
theorem dX6_init_41 : decode cX6_init 41 = .ok (.putfield 28, 3) := by decide +kernel
theorem dX6_init_44 : decode cX6_init 44 = .ok (.aload_n 0, 1) := by decide +kernel
theorem dX6_init_45 : decode cX6_init 45 = .ok (.bipush 121, 2) := by decide +kernel
theorem dX6_init_47 : decode cX6_init 47 = .ok (.newarray .int, 2) := by decide +kernel
theorem dX6_init_49 : decode cX6_init 49 = .ok (.putfield 31, 3) := by decide +kernel
theorem dX6_init_52 : decode cX6_init 52 = .ok (.aload_n 0, 1) := by decide +kernel
theorem dX6_init_53 : decode cX6_init 53 = .ok (.bipush 121, 2) := by decide +kernel
theorem dX6_init_55 : decode cX6_init 55 = .ok (.newarray .int, 2) := by decide +kernel
theorem dX6_init_57 : decode cX6_init 57 = .ok (.putfield 34, 3) := by decide +kernel
theorem dX6_init_60 : decode cX6_init 60 = .ok (.aload_n 0, 1) := by decide +kernel
theorem dX6_init_61 : decode cX6_init 61 = .ok (.sipush 1210, 3) := by decide +kernel
theorem dX6_init_64 : decode cX6_init 64 = .ok (.newarray .int, 2) := by decide +kernel
theorem dX6_init_66 : decode cX6_init 66 = .ok (.putfield 37, 3) := by decide +kernel
theorem dX6_init_69 : decode cX6_init 69 = .ok (.return_, 1) := by decide +kernel
set_option maxRecDepth 20000 in
theorem ggX6_search_X6_begin : GoodIn wsX6_search wsX6_begin := goodIn_r _ [10, 5, 3, 1, 11, 32, 33, 34, 35, 36, 37, 38, 39, 40] (by decide +kernel) (by decide +kernel)
set_option maxRecDepth 20000 in
theorem gX6_search_X6_begin : GoodIn wsX6_search (wsV RX6 40 RX6 yX6_begin wsX6_begin) := goodIn_app (goodIn_of _ (by decide +kernel)) ggX6_search_X6_begin
set_option maxRecDepth 20000 in
theorem ggX6_search_X6_openPlace : GoodIn wsX6_search wsX6_openPlace := goodIn_r _ [15, 11, 16, 17, 18, 32, 33, 34, 35, 36, 37, 38, 39, 40] (by decide +kernel) (by decide +kernel)
set_option maxRecDepth 20000 in
theorem gX6_search_X6_openPlace : GoodIn wsX6_search (wsV RX6 43 RX6 yX6_openPlace wsX6_openPlace) := goodIn_app (goodIn_of _ (by decide +kernel)) ggX6_search_X6_openPlace
set_option maxRecDepth 20000 in
theorem ggX6_search_X6_nextOf : GoodIn wsX6_search wsX6_nextOf := goodIn_r _ [22, 18, 16, 17, 32, 33, 34, 35, 36, 37, 38, 39, 40, 41, 42, 43] (by decide +kernel) (by decide +kernel)
set_option maxRecDepth 20000 in
theorem gX6_search_X6_nextOf : GoodIn wsX6_search (wsV RX6 48 RX6 yX6_nextOf wsX6_nextOf) := goodIn_app (goodIn_of _ (by decide +kernel)) ggX6_search_X6_nextOf
set_option maxRecDepth 20000 in
theorem ggX6_search_X6_cover : GoodIn wsX6_search wsX6_cover := goodIn_r _ [26, 11, 32, 33, 34, 35, 36, 37, 38, 39, 40] (by decide +kernel) (by decide +kernel)
set_option maxRecDepth 20000 in
theorem gX6_search_X6_cover : GoodIn wsX6_search (wsV RX6 52 RX6 yX6_cover wsX6_cover) := goodIn_app (goodIn_of _ (by decide +kernel)) ggX6_search_X6_cover
set_option maxRecDepth 20000 in
theorem ggX6_search_X6_keepIfFewer : GoodIn wsX6_search wsX6_keepIfFewer := goodIn_r _ [30, 1, 31, 4, 32, 33, 34, 35, 36, 37, 38, 39, 40] (by decide +kernel) (by decide +kernel)
set_option maxRecDepth 20000 in
theorem gX6_search_X6_keepIfFewer : GoodIn wsX6_search (wsV RX6 56 RX6 yX6_keepIfFewer wsX6_keepIfFewer) := goodIn_app (goodIn_of _ (by decide +kernel)) ggX6_search_X6_keepIfFewer
theorem dX6_search_0 : decode cX6_search 0 = .ok (.aload_n 0, 1) := by decide +kernel
theorem dX6_search_1 : decode cX6_search 1 = .ok (.invokevirtual 40, 3) := by decide +kernel
theorem dX6_search_4 : decode cX6_search 4 = .ok (.aload_n 0, 1) := by decide +kernel
theorem dX6_search_5 : decode cX6_search 5 = .ok (.iconst 0, 1) := by decide +kernel
theorem dX6_search_6 : decode cX6_search 6 = .ok (.aload_n 1, 1) := by decide +kernel
theorem dX6_search_7 : decode cX6_search 7 = .ok (.iload_n 2, 1) := by decide +kernel
theorem dX6_search_8 : decode cX6_search 8 = .ok (.invokevirtual 43, 3) := by decide +kernel
theorem dX6_search_11 : decode cX6_search 11 = .ok (.ifCond .eq 7, 3) := by decide +kernel
theorem dX6_search_14 : decode cX6_search 14 = .ok (.iconst 0, 1) := by decide +kernel
theorem dX6_search_15 : decode cX6_search 15 = .ok (.goto 4, 3) := by decide +kernel
theorem dX6_search_18 : decode cX6_search 18 = .ok (.iconst (-1), 1) := by decide +kernel
theorem dX6_search_19 : decode cX6_search 19 = .ok (.istore 5, 2) := by decide +kernel
theorem dX6_search_21 : decode cX6_search 21 = .ok (.iload 5, 2) := by decide +kernel
theorem dX6_search_23 : decode cX6_search 23 = .ok (.ifCond .ge 8, 3) := by decide +kernel
theorem dX6_search_26 : decode cX6_search 26 = .ok (.aload_n 0, 1) := by decide +kernel
theorem dX6_search_27 : decode cX6_search 27 = .ok (.iconst 0, 1) := by decide +kernel
theorem dX6_search_28 : decode cX6_search 28 = .ok (.putfield 18, 3) := by decide +kernel
theorem dX6_search_31 : decode cX6_search 31 = .ok (.iconst 0, 1) := by decide +kernel
theorem dX6_search_32 : decode cX6_search 32 = .ok (.istore 6, 2) := by decide +kernel
theorem dX6_search_34 : decode cX6_search 34 = .ok (.iload 5, 2) := by decide +kernel
theorem dX6_search_36 : decode cX6_search 36 = .ok (.ifCond .lt 129, 3) := by decide +kernel
theorem dX6_search_39 : decode cX6_search 39 = .ok (.iload 6, 2) := by decide +kernel
theorem dX6_search_41 : decode cX6_search 41 = .ok (.ldc 47, 2) := by decide +kernel
theorem dX6_search_43 : decode cX6_search 43 = .ok (.if_icmp .ge 122, 3) := by decide +kernel
theorem dX6_search_46 : decode cX6_search 46 = .ok (.aload_n 0, 1) := by decide +kernel
theorem dX6_search_47 : decode cX6_search 47 = .ok (.iload 5, 2) := by decide +kernel
theorem dX6_search_49 : decode cX6_search 49 = .ok (.aload_n 3, 1) := by decide +kernel
theorem dX6_search_50 : decode cX6_search 50 = .ok (.invokevirtual 48, 3) := by decide +kernel
theorem dX6_search_53 : decode cX6_search 53 = .ok (.istore 7, 2) := by decide +kernel
theorem dX6_search_55 : decode cX6_search 55 = .ok (.iload 7, 2) := by decide +kernel
theorem dX6_search_57 : decode cX6_search 57 = .ok (.ifCond .ne 9, 3) := by decide +kernel
theorem dX6_search_60 : decode cX6_search 60 = .ok (.iinc 5 (-1), 3) := by decide +kernel
theorem dX6_search_63 : decode cX6_search 63 = .ok (.goto 96, 3) := by decide +kernel
theorem dX6_search_66 : decode cX6_search 66 = .ok (.aload_n 0, 1) := by decide +kernel
theorem dX6_search_67 : decode cX6_search 67 = .ok (.getfield 15, 3) := by decide +kernel
theorem dX6_search_70 : decode cX6_search 70 = .ok (.iload 4, 2) := by decide +kernel
theorem dX6_search_72 : decode cX6_search 72 = .ok (.if_icmp .lt 5, 3) := by decide +kernel
theorem dX6_search_75 : decode cX6_search 75 = .ok (.iconst 0, 1) := by decide +kernel
theorem dX6_search_76 : decode cX6_search 76 = .ok (.ireturn, 1) := by decide +kernel
theorem dX6_search_77 : decode cX6_search 77 = .ok (.aload_n 0, 1) := by decide +kernel
theorem dX6_search_78 : decode cX6_search 78 = .ok (.dup, 1) := by decide +kernel
theorem dX6_search_79 : decode cX6_search 79 = .ok (.getfield 15, 3) := by decide +kernel
theorem dX6_search_82 : decode cX6_search 82 = .ok (.iconst 1, 1) := by decide +kernel
theorem dX6_search_83 : decode cX6_search 83 = .ok (.iadd, 1) := by decide +kernel
theorem dX6_search_84 : decode cX6_search 84 = .ok (.putfield 15, 3) := by decide +kernel
theorem dX6_search_87 : decode cX6_search 87 = .ok (.aload_n 0, 1) := by decide +kernel
theorem dX6_search_88 : decode cX6_search 88 = .ok (.getfield 25, 3) := by decide +kernel
theorem dX6_search_91 : decode cX6_search 91 = .ok (.iload 5, 2) := by decide +kernel
theorem dX6_search_93 : decode cX6_search 93 = .ok (.iload 7, 2) := by decide +kernel
theorem dX6_search_95 : decode cX6_search 95 = .ok (.iastore, 1) := by decide +kernel
theorem dX6_search_96 : decode cX6_search 96 = .ok (.aload_n 0, 1) := by decide +kernel
theorem dX6_search_97 : decode cX6_search 97 = .ok (.iload 5, 2) := by decide +kernel
theorem dX6_search_99 : decode cX6_search 99 = .ok (.iload 7, 2) := by decide +kernel
theorem dX6_search_101 : decode cX6_search 101 = .ok (.aload_n 1, 1) := by decide +kernel
theorem dX6_search_102 : decode cX6_search 102 = .ok (.iload_n 2, 1) := by decide +kernel
theorem dX6_search_103 : decode cX6_search 103 = .ok (.invokevirtual 52, 3) := by decide +kernel
theorem dX6_search_106 : decode cX6_search 106 = .ok (.aload_n 0, 1) := by decide +kernel
theorem dX6_search_107 : decode cX6_search 107 = .ok (.iload 5, 2) := by decide +kernel
theorem dX6_search_109 : decode cX6_search 109 = .ok (.iconst 1, 1) := by decide +kernel
theorem dX6_search_110 : decode cX6_search 110 = .ok (.iadd, 1) := by decide +kernel
theorem dX6_search_111 : decode cX6_search 111 = .ok (.aload_n 1, 1) := by decide +kernel
theorem dX6_search_112 : decode cX6_search 112 = .ok (.iload_n 2, 1) := by decide +kernel
theorem dX6_search_113 : decode cX6_search 113 = .ok (.invokevirtual 43, 3) := by decide +kernel
theorem dX6_search_116 : decode cX6_search 116 = .ok (.istore 8, 2) := by decide +kernel
theorem dX6_search_118 : decode cX6_search 118 = .ok (.iload 8, 2) := by decide +kernel
theorem dX6_search_120 : decode cX6_search 120 = .ok (.ifCond .ne 11, 3) := by decide +kernel
theorem dX6_search_123 : decode cX6_search 123 = .ok (.aload_n 0, 1) := by decide +kernel
theorem dX6_search_124 : decode cX6_search 124 = .ok (.iload 5, 2) := by decide +kernel
theorem dX6_search_126 : decode cX6_search 126 = .ok (.iconst 1, 1) := by decide +kernel
theorem dX6_search_127 : decode cX6_search 127 = .ok (.iadd, 1) := by decide +kernel
theorem dX6_search_128 : decode cX6_search 128 = .ok (.invokevirtual 56, 3) := by decide +kernel
theorem dX6_search_131 : decode cX6_search 131 = .ok (.iload 8, 2) := by decide +kernel
theorem dX6_search_133 : decode cX6_search 133 = .ok (.ifCond .eq 26, 3) := by decide +kernel
theorem dX6_search_136 : decode cX6_search 136 = .ok (.iload 5, 2) := by decide +kernel
theorem dX6_search_138 : decode cX6_search 138 = .ok (.iconst 2, 1) := by decide +kernel
theorem dX6_search_139 : decode cX6_search 139 = .ok (.iadd, 1) := by decide +kernel
theorem dX6_search_140 : decode cX6_search 140 = .ok (.aload_n 0, 1) := by decide +kernel
theorem dX6_search_141 : decode cX6_search 141 = .ok (.getfield 18, 3) := by decide +kernel
theorem dX6_search_144 : decode cX6_search 144 = .ok (.if_icmp .ge 15, 3) := by decide +kernel
theorem dX6_search_147 : decode cX6_search 147 = .ok (.iload 5, 2) := by decide +kernel
theorem dX6_search_149 : decode cX6_search 149 = .ok (.iconst 1, 1) := by decide +kernel
theorem dX6_search_150 : decode cX6_search 150 = .ok (.iadd, 1) := by decide +kernel
theorem dX6_search_151 : decode cX6_search 151 = .ok (.bipush 120, 2) := by decide +kernel
theorem dX6_search_153 : decode cX6_search 153 = .ok (.if_icmp .ge 6, 3) := by decide +kernel
theorem dX6_search_156 : decode cX6_search 156 = .ok (.iinc 5 1, 3) := by decide +kernel
theorem dX6_search_159 : decode cX6_search 159 = .ok (.iinc 6 1, 3) := by decide +kernel
theorem dX6_search_162 : decode cX6_search 162 = .ok (.goto (-128), 3) := by decide +kernel
theorem dX6_search_165 : decode cX6_search 165 = .ok (.aload_n 0, 1) := by decide +kernel
theorem dX6_search_166 : decode cX6_search 166 = .ok (.aload_n 0, 1) := by decide +kernel
theorem dX6_search_167 : decode cX6_search 167 = .ok (.getfield 18, 3) := by decide +kernel
theorem dX6_search_170 : decode cX6_search 170 = .ok (.bipush 122, 2) := by decide +kernel
theorem dX6_search_172 : decode cX6_search 172 = .ok (.if_icmp .ge 10, 3) := by decide +kernel
theorem dX6_search_175 : decode cX6_search 175 = .ok (.aload_n 0, 1) := by decide +kernel
theorem dX6_search_176 : decode cX6_search 176 = .ok (.getfield 18, 3) := by decide +kernel
theorem dX6_search_179 : decode cX6_search 179 = .ok (.goto 4, 3) := by decide +kernel
theorem dX6_search_182 : decode cX6_search 182 = .ok (.iconst 0, 1) := by decide +kernel
theorem dX6_search_183 : decode cX6_search 183 = .ok (.putfield 11, 3) := by decide +kernel
theorem dX6_search_186 : decode cX6_search 186 = .ok (.iconst 1, 1) := by decide +kernel
theorem dX6_search_187 : decode cX6_search 187 = .ok (.ireturn, 1) := by decide +kernel
theorem dX6_rolesWithin_0 : decode cX6_rolesWithin 0 = .ok (.iconst 0, 1) := by decide +kernel
theorem dX6_rolesWithin_1 : decode cX6_rolesWithin 1 = .ok (.istore_n 2, 1) := by decide +kernel
theorem dX6_rolesWithin_2 : decode cX6_rolesWithin 2 = .ok (.iconst 0, 1) := by decide +kernel
theorem dX6_rolesWithin_3 : decode cX6_rolesWithin 3 = .ok (.istore_n 3, 1) := by decide +kernel
theorem dX6_rolesWithin_4 : decode cX6_rolesWithin 4 = .ok (.iload_n 3, 1) := by decide +kernel
theorem dX6_rolesWithin_5 : decode cX6_rolesWithin 5 = .ok (.aload_n 0, 1) := by decide +kernel
theorem dX6_rolesWithin_6 : decode cX6_rolesWithin 6 = .ok (.getfield 11, 3) := by decide +kernel
theorem dX6_rolesWithin_9 : decode cX6_rolesWithin 9 = .ok (.if_icmp .ge 28, 3) := by decide +kernel
theorem dX6_rolesWithin_12 : decode cX6_rolesWithin 12 = .ok (.aload_n 0, 1) := by decide +kernel
theorem dX6_rolesWithin_13 : decode cX6_rolesWithin 13 = .ok (.getfield 21, 3) := by decide +kernel
theorem dX6_rolesWithin_16 : decode cX6_rolesWithin 16 = .ok (.iload_n 3, 1) := by decide +kernel
theorem dX6_rolesWithin_17 : decode cX6_rolesWithin 17 = .ok (.iaload, 1) := by decide +kernel
theorem dX6_rolesWithin_18 : decode cX6_rolesWithin 18 = .ok (.iload_n 1, 1) := by decide +kernel
theorem dX6_rolesWithin_19 : decode cX6_rolesWithin 19 = .ok (.iconst (-1), 1) := by decide +kernel
theorem dX6_rolesWithin_20 : decode cX6_rolesWithin 20 = .ok (.ixor, 1) := by decide +kernel
theorem dX6_rolesWithin_21 : decode cX6_rolesWithin 21 = .ok (.iand, 1) := by decide +kernel
theorem dX6_rolesWithin_22 : decode cX6_rolesWithin 22 = .ok (.ifCond .ne 9, 3) := by decide +kernel
theorem dX6_rolesWithin_25 : decode cX6_rolesWithin 25 = .ok (.iload_n 2, 1) := by decide +kernel
theorem dX6_rolesWithin_26 : decode cX6_rolesWithin 26 = .ok (.iconst 1, 1) := by decide +kernel
theorem dX6_rolesWithin_27 : decode cX6_rolesWithin 27 = .ok (.iload_n 3, 1) := by decide +kernel
theorem dX6_rolesWithin_28 : decode cX6_rolesWithin 28 = .ok (.ishl, 1) := by decide +kernel
theorem dX6_rolesWithin_29 : decode cX6_rolesWithin 29 = .ok (.ior, 1) := by decide +kernel
theorem dX6_rolesWithin_30 : decode cX6_rolesWithin 30 = .ok (.istore_n 2, 1) := by decide +kernel
theorem dX6_rolesWithin_31 : decode cX6_rolesWithin 31 = .ok (.iinc 3 1, 3) := by decide +kernel
theorem dX6_rolesWithin_34 : decode cX6_rolesWithin 34 = .ok (.goto (-30), 3) := by decide +kernel
theorem dX6_rolesWithin_37 : decode cX6_rolesWithin 37 = .ok (.iload_n 2, 1) := by decide +kernel
theorem dX6_rolesWithin_38 : decode cX6_rolesWithin 38 = .ok (.ireturn, 1) := by decide +kernel
theorem dX6_begin_0 : decode cX6_begin 0 = .ok (.aload_n 0, 1) := by decide +kernel
theorem dX6_begin_1 : decode cX6_begin 1 = .ok (.iconst 0, 1) := by decide +kernel
theorem dX6_begin_2 : decode cX6_begin 2 = .ok (.putfield 11, 3) := by decide +kernel
theorem dX6_begin_5 : decode cX6_begin 5 = .ok (.aload_n 0, 1) := by decide +kernel
theorem dX6_begin_6 : decode cX6_begin 6 = .ok (.iconst 0, 1) := by decide +kernel
theorem dX6_begin_7 : decode cX6_begin 7 = .ok (.putfield 15, 3) := by decide +kernel
theorem dX6_begin_10 : decode cX6_begin 10 = .ok (.aload_n 0, 1) := by decide +kernel
theorem dX6_begin_11 : decode cX6_begin 11 = .ok (.bipush 122, 2) := by decide +kernel
theorem dX6_begin_13 : decode cX6_begin 13 = .ok (.putfield 18, 3) := by decide +kernel
theorem dX6_begin_16 : decode cX6_begin 16 = .ok (.iconst 0, 1) := by decide +kernel
theorem dX6_begin_17 : decode cX6_begin 17 = .ok (.istore_n 1, 1) := by decide +kernel
theorem dX6_begin_18 : decode cX6_begin 18 = .ok (.iload_n 1, 1) := by decide +kernel
theorem dX6_begin_19 : decode cX6_begin 19 = .ok (.bipush 10, 2) := by decide +kernel
theorem dX6_begin_21 : decode cX6_begin 21 = .ok (.if_icmp .ge 16, 3) := by decide +kernel
theorem dX6_begin_24 : decode cX6_begin 24 = .ok (.aload_n 0, 1) := by decide +kernel
theorem dX6_begin_25 : decode cX6_begin 25 = .ok (.getfield 37, 3) := by decide +kernel
theorem dX6_begin_28 : decode cX6_begin 28 = .ok (.iload_n 1, 1) := by decide +kernel
theorem dX6_begin_29 : decode cX6_begin 29 = .ok (.iconst 0, 1) := by decide +kernel
theorem dX6_begin_30 : decode cX6_begin 30 = .ok (.iastore, 1) := by decide +kernel
theorem dX6_begin_31 : decode cX6_begin 31 = .ok (.iinc 1 1, 3) := by decide +kernel
theorem dX6_begin_34 : decode cX6_begin 34 = .ok (.goto (-16), 3) := by decide +kernel
theorem dX6_begin_37 : decode cX6_begin 37 = .ok (.return_, 1) := by decide +kernel
theorem dX6_openPlace_0 : decode cX6_openPlace 0 = .ok (.iconst 0, 1) := by decide +kernel
theorem dX6_openPlace_1 : decode cX6_openPlace 1 = .ok (.istore 4, 2) := by decide +kernel
theorem dX6_openPlace_3 : decode cX6_openPlace 3 = .ok (.iload 4, 2) := by decide +kernel
theorem dX6_openPlace_5 : decode cX6_openPlace 5 = .ok (.iload_n 3, 1) := by decide +kernel
theorem dX6_openPlace_6 : decode cX6_openPlace 6 = .ok (.if_icmp .ge 66, 3) := by decide +kernel
theorem dX6_openPlace_9 : decode cX6_openPlace 9 = .ok (.aload_n 2, 1) := by decide +kernel
theorem dX6_openPlace_10 : decode cX6_openPlace 10 = .ok (.iload 4, 2) := by decide +kernel
theorem dX6_openPlace_12 : decode cX6_openPlace 12 = .ok (.iaload, 1) := by decide +kernel
theorem dX6_openPlace_13 : decode cX6_openPlace 13 = .ok (.aload_n 0, 1) := by decide +kernel
theorem dX6_openPlace_14 : decode cX6_openPlace 14 = .ok (.getfield 37, 3) := by decide +kernel
theorem dX6_openPlace_17 : decode cX6_openPlace 17 = .ok (.iload_n 1, 1) := by decide +kernel
theorem dX6_openPlace_18 : decode cX6_openPlace 18 = .ok (.bipush 10, 2) := by decide +kernel
theorem dX6_openPlace_20 : decode cX6_openPlace 20 = .ok (.imul, 1) := by decide +kernel
theorem dX6_openPlace_21 : decode cX6_openPlace 21 = .ok (.iload 4, 2) := by decide +kernel
theorem dX6_openPlace_23 : decode cX6_openPlace 23 = .ok (.iadd, 1) := by decide +kernel
theorem dX6_openPlace_24 : decode cX6_openPlace 24 = .ok (.iaload, 1) := by decide +kernel
theorem dX6_openPlace_25 : decode cX6_openPlace 25 = .ok (.iconst (-1), 1) := by decide +kernel
theorem dX6_openPlace_26 : decode cX6_openPlace 26 = .ok (.ixor, 1) := by decide +kernel
theorem dX6_openPlace_27 : decode cX6_openPlace 27 = .ok (.iand, 1) := by decide +kernel
theorem dX6_openPlace_28 : decode cX6_openPlace 28 = .ok (.istore 5, 2) := by decide +kernel
theorem dX6_openPlace_30 : decode cX6_openPlace 30 = .ok (.iload 5, 2) := by decide +kernel
theorem dX6_openPlace_32 : decode cX6_openPlace 32 = .ok (.ifCond .eq 34, 3) := by decide +kernel
theorem dX6_openPlace_35 : decode cX6_openPlace 35 = .ok (.aload_n 0, 1) := by decide +kernel
theorem dX6_openPlace_36 : decode cX6_openPlace 36 = .ok (.getfield 28, 3) := by decide +kernel
theorem dX6_openPlace_39 : decode cX6_openPlace 39 = .ok (.iload_n 1, 1) := by decide +kernel
theorem dX6_openPlace_40 : decode cX6_openPlace 40 = .ok (.aload_n 2, 1) := by decide +kernel
theorem dX6_openPlace_41 : decode cX6_openPlace 41 = .ok (.iload 4, 2) := by decide +kernel
theorem dX6_openPlace_43 : decode cX6_openPlace 43 = .ok (.iaload, 1) := by decide +kernel
theorem dX6_openPlace_44 : decode cX6_openPlace 44 = .ok (.iastore, 1) := by decide +kernel
theorem dX6_openPlace_45 : decode cX6_openPlace 45 = .ok (.aload_n 0, 1) := by decide +kernel
theorem dX6_openPlace_46 : decode cX6_openPlace 46 = .ok (.getfield 31, 3) := by decide +kernel
theorem dX6_openPlace_49 : decode cX6_openPlace 49 = .ok (.iload_n 1, 1) := by decide +kernel
theorem dX6_openPlace_50 : decode cX6_openPlace 50 = .ok (.iload 5, 2) := by decide +kernel
theorem dX6_openPlace_52 : decode cX6_openPlace 52 = .ok (.iload 5, 2) := by decide +kernel
theorem dX6_openPlace_54 : decode cX6_openPlace 54 = .ok (.ineg, 1) := by decide +kernel
theorem dX6_openPlace_55 : decode cX6_openPlace 55 = .ok (.iand, 1) := by decide +kernel
theorem dX6_openPlace_56 : decode cX6_openPlace 56 = .ok (.iastore, 1) := by decide +kernel
theorem dX6_openPlace_57 : decode cX6_openPlace 57 = .ok (.aload_n 0, 1) := by decide +kernel
theorem dX6_openPlace_58 : decode cX6_openPlace 58 = .ok (.getfield 34, 3) := by decide +kernel
theorem dX6_openPlace_61 : decode cX6_openPlace 61 = .ok (.iload_n 1, 1) := by decide +kernel
theorem dX6_openPlace_62 : decode cX6_openPlace 62 = .ok (.iconst 0, 1) := by decide +kernel
theorem dX6_openPlace_63 : decode cX6_openPlace 63 = .ok (.iastore, 1) := by decide +kernel
theorem dX6_openPlace_64 : decode cX6_openPlace 64 = .ok (.iconst 1, 1) := by decide +kernel
theorem dX6_openPlace_65 : decode cX6_openPlace 65 = .ok (.ireturn, 1) := by decide +kernel
theorem dX6_openPlace_66 : decode cX6_openPlace 66 = .ok (.iinc 4 1, 3) := by decide +kernel
theorem dX6_openPlace_69 : decode cX6_openPlace 69 = .ok (.goto (-66), 3) := by decide +kernel
theorem dX6_openPlace_72 : decode cX6_openPlace 72 = .ok (.iconst 0, 1) := by decide +kernel
theorem dX6_openPlace_73 : decode cX6_openPlace 73 = .ok (.ireturn, 1) := by decide +kernel
theorem dX6_nextOf_0 : decode cX6_nextOf 0 = .ok (.aload_n 0, 1) := by decide +kernel
theorem dX6_nextOf_1 : decode cX6_nextOf 1 = .ok (.getfield 34, 3) := by decide +kernel
theorem dX6_nextOf_4 : decode cX6_nextOf 4 = .ok (.iload_n 1, 1) := by decide +kernel
theorem dX6_nextOf_5 : decode cX6_nextOf 5 = .ok (.iaload, 1) := by decide +kernel
theorem dX6_nextOf_6 : decode cX6_nextOf 6 = .ok (.istore_n 3, 1) := by decide +kernel
theorem dX6_nextOf_7 : decode cX6_nextOf 7 = .ok (.iload_n 3, 1) := by decide +kernel
theorem dX6_nextOf_8 : decode cX6_nextOf 8 = .ok (.aload_n 2, 1) := by decide +kernel
theorem dX6_nextOf_9 : decode cX6_nextOf 9 = .ok (.getfield 60, 3) := by decide +kernel
theorem dX6_nextOf_12 : decode cX6_nextOf 12 = .ok (.if_icmp .ge 69, 3) := by decide +kernel
theorem dX6_nextOf_15 : decode cX6_nextOf 15 = .ok (.aload_n 2, 1) := by decide +kernel
theorem dX6_nextOf_16 : decode cX6_nextOf 16 = .ok (.getfield 63, 3) := by decide +kernel
theorem dX6_nextOf_19 : decode cX6_nextOf 19 = .ok (.iload_n 3, 1) := by decide +kernel
theorem dX6_nextOf_20 : decode cX6_nextOf 20 = .ok (.iaload, 1) := by decide +kernel
theorem dX6_nextOf_21 : decode cX6_nextOf 21 = .ok (.istore 4, 2) := by decide +kernel
theorem dX6_nextOf_23 : decode cX6_nextOf 23 = .ok (.iload 4, 2) := by decide +kernel
theorem dX6_nextOf_25 : decode cX6_nextOf 25 = .ok (.aload_n 0, 1) := by decide +kernel
theorem dX6_nextOf_26 : decode cX6_nextOf 26 = .ok (.getfield 28, 3) := by decide +kernel
theorem dX6_nextOf_29 : decode cX6_nextOf 29 = .ok (.iload_n 1, 1) := by decide +kernel
theorem dX6_nextOf_30 : decode cX6_nextOf 30 = .ok (.iaload, 1) := by decide +kernel
theorem dX6_nextOf_31 : decode cX6_nextOf 31 = .ok (.if_icmp .le 6, 3) := by decide +kernel
theorem dX6_nextOf_34 : decode cX6_nextOf 34 = .ok (.goto 47, 3) := by decide +kernel
theorem dX6_nextOf_37 : decode cX6_nextOf 37 = .ok (.iload 4, 2) := by decide +kernel
theorem dX6_nextOf_39 : decode cX6_nextOf 39 = .ok (.aload_n 0, 1) := by decide +kernel
theorem dX6_nextOf_40 : decode cX6_nextOf 40 = .ok (.getfield 31, 3) := by decide +kernel
theorem dX6_nextOf_43 : decode cX6_nextOf 43 = .ok (.iload_n 1, 1) := by decide +kernel
theorem dX6_nextOf_44 : decode cX6_nextOf 44 = .ok (.iaload, 1) := by decide +kernel
theorem dX6_nextOf_45 : decode cX6_nextOf 45 = .ok (.iand, 1) := by decide +kernel
theorem dX6_nextOf_46 : decode cX6_nextOf 46 = .ok (.ifCond .eq 29, 3) := by decide +kernel
theorem dX6_nextOf_49 : decode cX6_nextOf 49 = .ok (.iload 4, 2) := by decide +kernel
theorem dX6_nextOf_51 : decode cX6_nextOf 51 = .ok (.aload_n 0, 1) := by decide +kernel
theorem dX6_nextOf_52 : decode cX6_nextOf 52 = .ok (.getfield 28, 3) := by decide +kernel
theorem dX6_nextOf_55 : decode cX6_nextOf 55 = .ok (.iload_n 1, 1) := by decide +kernel
theorem dX6_nextOf_56 : decode cX6_nextOf 56 = .ok (.iaload, 1) := by decide +kernel
theorem dX6_nextOf_57 : decode cX6_nextOf 57 = .ok (.iconst (-1), 1) := by decide +kernel
theorem dX6_nextOf_58 : decode cX6_nextOf 58 = .ok (.ixor, 1) := by decide +kernel
theorem dX6_nextOf_59 : decode cX6_nextOf 59 = .ok (.iand, 1) := by decide +kernel
theorem dX6_nextOf_60 : decode cX6_nextOf 60 = .ok (.ifCond .ne 15, 3) := by decide +kernel
theorem dX6_nextOf_63 : decode cX6_nextOf 63 = .ok (.aload_n 0, 1) := by decide +kernel
theorem dX6_nextOf_64 : decode cX6_nextOf 64 = .ok (.getfield 34, 3) := by decide +kernel
theorem dX6_nextOf_67 : decode cX6_nextOf 67 = .ok (.iload_n 1, 1) := by decide +kernel
theorem dX6_nextOf_68 : decode cX6_nextOf 68 = .ok (.iload_n 3, 1) := by decide +kernel
theorem dX6_nextOf_69 : decode cX6_nextOf 69 = .ok (.iconst 1, 1) := by decide +kernel
theorem dX6_nextOf_70 : decode cX6_nextOf 70 = .ok (.iadd, 1) := by decide +kernel
theorem dX6_nextOf_71 : decode cX6_nextOf 71 = .ok (.iastore, 1) := by decide +kernel
theorem dX6_nextOf_72 : decode cX6_nextOf 72 = .ok (.iload 4, 2) := by decide +kernel
theorem dX6_nextOf_74 : decode cX6_nextOf 74 = .ok (.ireturn, 1) := by decide +kernel
theorem dX6_nextOf_75 : decode cX6_nextOf 75 = .ok (.iinc 3 1, 3) := by decide +kernel
theorem dX6_nextOf_78 : decode cX6_nextOf 78 = .ok (.goto (-71), 3) := by decide +kernel
theorem dX6_nextOf_81 : decode cX6_nextOf 81 = .ok (.aload_n 0, 1) := by decide +kernel
theorem dX6_nextOf_82 : decode cX6_nextOf 82 = .ok (.getfield 34, 3) := by decide +kernel
theorem dX6_nextOf_85 : decode cX6_nextOf 85 = .ok (.iload_n 1, 1) := by decide +kernel
theorem dX6_nextOf_86 : decode cX6_nextOf 86 = .ok (.aload_n 2, 1) := by decide +kernel
theorem dX6_nextOf_87 : decode cX6_nextOf 87 = .ok (.getfield 60, 3) := by decide +kernel
theorem dX6_nextOf_90 : decode cX6_nextOf 90 = .ok (.iastore, 1) := by decide +kernel
theorem dX6_nextOf_91 : decode cX6_nextOf 91 = .ok (.iconst 0, 1) := by decide +kernel
theorem dX6_nextOf_92 : decode cX6_nextOf 92 = .ok (.ireturn, 1) := by decide +kernel
theorem dX6_cover_0 : decode cX6_cover 0 = .ok (.iload_n 1, 1) := by decide +kernel
theorem dX6_cover_1 : decode cX6_cover 1 = .ok (.bipush 10, 2) := by decide +kernel
theorem dX6_cover_3 : decode cX6_cover 3 = .ok (.imul, 1) := by decide +kernel
theorem dX6_cover_4 : decode cX6_cover 4 = .ok (.istore 5, 2) := by decide +kernel
theorem dX6_cover_6 : decode cX6_cover 6 = .ok (.iconst 0, 1) := by decide +kernel
theorem dX6_cover_7 : decode cX6_cover 7 = .ok (.istore 6, 2) := by decide +kernel
theorem dX6_cover_9 : decode cX6_cover 9 = .ok (.iload 6, 2) := by decide +kernel
theorem dX6_cover_11 : decode cX6_cover 11 = .ok (.iload 4, 2) := by decide +kernel
theorem dX6_cover_13 : decode cX6_cover 13 = .ok (.if_icmp .ge 53, 3) := by decide +kernel
theorem dX6_cover_16 : decode cX6_cover 16 = .ok (.iload_n 2, 1) := by decide +kernel
theorem dX6_cover_17 : decode cX6_cover 17 = .ok (.aload_n 3, 1) := by decide +kernel
theorem dX6_cover_18 : decode cX6_cover 18 = .ok (.iload 6, 2) := by decide +kernel
theorem dX6_cover_20 : decode cX6_cover 20 = .ok (.iaload, 1) := by decide +kernel
theorem dX6_cover_21 : decode cX6_cover 21 = .ok (.iconst (-1), 1) := by decide +kernel
theorem dX6_cover_22 : decode cX6_cover 22 = .ok (.ixor, 1) := by decide +kernel
theorem dX6_cover_23 : decode cX6_cover 23 = .ok (.iand, 1) := by decide +kernel
theorem dX6_cover_24 : decode cX6_cover 24 = .ok (.ifCond .ne 7, 3) := by decide +kernel
theorem dX6_cover_27 : decode cX6_cover 27 = .ok (.iload_n 2, 1) := by decide +kernel
theorem dX6_cover_28 : decode cX6_cover 28 = .ok (.goto 4, 3) := by decide +kernel
theorem dX6_cover_31 : decode cX6_cover 31 = .ok (.iconst 0, 1) := by decide +kernel
theorem dX6_cover_32 : decode cX6_cover 32 = .ok (.istore 7, 2) := by decide +kernel
theorem dX6_cover_34 : decode cX6_cover 34 = .ok (.aload_n 0, 1) := by decide +kernel
theorem dX6_cover_35 : decode cX6_cover 35 = .ok (.getfield 37, 3) := by decide +kernel
theorem dX6_cover_38 : decode cX6_cover 38 = .ok (.iload 5, 2) := by decide +kernel
theorem dX6_cover_40 : decode cX6_cover 40 = .ok (.bipush 10, 2) := by decide +kernel
theorem dX6_cover_42 : decode cX6_cover 42 = .ok (.iadd, 1) := by decide +kernel
theorem dX6_cover_43 : decode cX6_cover 43 = .ok (.iload 6, 2) := by decide +kernel
theorem dX6_cover_45 : decode cX6_cover 45 = .ok (.iadd, 1) := by decide +kernel
theorem dX6_cover_46 : decode cX6_cover 46 = .ok (.aload_n 0, 1) := by decide +kernel
theorem dX6_cover_47 : decode cX6_cover 47 = .ok (.getfield 37, 3) := by decide +kernel
theorem dX6_cover_50 : decode cX6_cover 50 = .ok (.iload 5, 2) := by decide +kernel
theorem dX6_cover_52 : decode cX6_cover 52 = .ok (.iload 6, 2) := by decide +kernel
theorem dX6_cover_54 : decode cX6_cover 54 = .ok (.iadd, 1) := by decide +kernel
theorem dX6_cover_55 : decode cX6_cover 55 = .ok (.iaload, 1) := by decide +kernel
theorem dX6_cover_56 : decode cX6_cover 56 = .ok (.iload 7, 2) := by decide +kernel
theorem dX6_cover_58 : decode cX6_cover 58 = .ok (.ior, 1) := by decide +kernel
theorem dX6_cover_59 : decode cX6_cover 59 = .ok (.iastore, 1) := by decide +kernel
theorem dX6_cover_60 : decode cX6_cover 60 = .ok (.iinc 6 1, 3) := by decide +kernel
theorem dX6_cover_63 : decode cX6_cover 63 = .ok (.goto (-54), 3) := by decide +kernel
theorem dX6_cover_66 : decode cX6_cover 66 = .ok (.return_, 1) := by decide +kernel
theorem dX6_keepIfFewer_0 : decode cX6_keepIfFewer 0 = .ok (.iload_n 1, 1) := by decide +kernel
theorem dX6_keepIfFewer_1 : decode cX6_keepIfFewer 1 = .ok (.aload_n 0, 1) := by decide +kernel
theorem dX6_keepIfFewer_2 : decode cX6_keepIfFewer 2 = .ok (.getfield 18, 3) := by decide +kernel
theorem dX6_keepIfFewer_5 : decode cX6_keepIfFewer 5 = .ok (.if_icmp .lt 4, 3) := by decide +kernel
theorem dX6_keepIfFewer_8 : decode cX6_keepIfFewer 8 = .ok (.return_, 1) := by decide +kernel
theorem dX6_keepIfFewer_9 : decode cX6_keepIfFewer 9 = .ok (.aload_n 0, 1) := by decide +kernel
theorem dX6_keepIfFewer_10 : decode cX6_keepIfFewer 10 = .ok (.iload_n 1, 1) := by decide +kernel
theorem dX6_keepIfFewer_11 : decode cX6_keepIfFewer 11 = .ok (.putfield 18, 3) := by decide +kernel
theorem dX6_keepIfFewer_14 : decode cX6_keepIfFewer 14 = .ok (.iconst 0, 1) := by decide +kernel
theorem dX6_keepIfFewer_15 : decode cX6_keepIfFewer 15 = .ok (.istore_n 2, 1) := by decide +kernel
theorem dX6_keepIfFewer_16 : decode cX6_keepIfFewer 16 = .ok (.iload_n 2, 1) := by decide +kernel
theorem dX6_keepIfFewer_17 : decode cX6_keepIfFewer 17 = .ok (.iload_n 1, 1) := by decide +kernel
theorem dX6_keepIfFewer_18 : decode cX6_keepIfFewer 18 = .ok (.if_icmp .ge 21, 3) := by decide +kernel
theorem dX6_keepIfFewer_21 : decode cX6_keepIfFewer 21 = .ok (.aload_n 0, 1) := by decide +kernel
theorem dX6_keepIfFewer_22 : decode cX6_keepIfFewer 22 = .ok (.getfield 21, 3) := by decide +kernel
theorem dX6_keepIfFewer_25 : decode cX6_keepIfFewer 25 = .ok (.iload_n 2, 1) := by decide +kernel
theorem dX6_keepIfFewer_26 : decode cX6_keepIfFewer 26 = .ok (.aload_n 0, 1) := by decide +kernel
theorem dX6_keepIfFewer_27 : decode cX6_keepIfFewer 27 = .ok (.getfield 25, 3) := by decide +kernel
theorem dX6_keepIfFewer_30 : decode cX6_keepIfFewer 30 = .ok (.iload_n 2, 1) := by decide +kernel
theorem dX6_keepIfFewer_31 : decode cX6_keepIfFewer 31 = .ok (.iaload, 1) := by decide +kernel
theorem dX6_keepIfFewer_32 : decode cX6_keepIfFewer 32 = .ok (.iastore, 1) := by decide +kernel
theorem dX6_keepIfFewer_33 : decode cX6_keepIfFewer 33 = .ok (.iinc 2 1, 3) := by decide +kernel
theorem dX6_keepIfFewer_36 : decode cX6_keepIfFewer 36 = .ok (.goto (-20), 3) := by decide +kernel
theorem dX6_keepIfFewer_39 : decode cX6_keepIfFewer 39 = .ok (.return_, 1) := by decide +kernel
theorem dX7_init_0 : decode cX7_init 0 = .ok (.aload_n 0, 1) := by decide +kernel
theorem dX7_init_1 : decode cX7_init 1 = .ok (.invokespecial 3, 3) := by decide +kernel
theorem dX7_init_4 : decode cX7_init 4 = .ok (.aload_n 0, 1) := by decide +kernel
theorem dX7_init_5 : decode cX7_init 5 = .ok (.iconst 4, 1) := by decide +kernel
theorem dX7_init_6 : decode cX7_init 6 = .ok (.newarray .int, 2) := by decide +kernel
theorem dX7_init_8 : decode cX7_init 8 = .ok (.dup, 1) := by decide +kernel
theorem dX7_init_9 : decode cX7_init 9 = .ok (.iconst 0, 1) := by decide +kernel
theorem dX7_init_10 : decode cX7_init 10 = .ok (.iconst (-1), 1) := by decide +kernel
theorem dX7_init_11 : decode cX7_init 11 = .ok (.iastore, 1) := by decide +kernel
theorem dX7_init_12 : decode cX7_init 12 = .ok (.dup, 1) := by decide +kernel
theorem dX7_init_13 : decode cX7_init 13 = .ok (.iconst 1, 1) := by decide +kernel
theorem dX7_init_14 : decode cX7_init 14 = .ok (.iconst (-1), 1) := by decide +kernel
theorem dX7_init_15 : decode cX7_init 15 = .ok (.iastore, 1) := by decide +kernel
theorem dX7_init_16 : decode cX7_init 16 = .ok (.dup, 1) := by decide +kernel
theorem dX7_init_17 : decode cX7_init 17 = .ok (.iconst 2, 1) := by decide +kernel
theorem dX7_init_18 : decode cX7_init 18 = .ok (.iconst (-1), 1) := by decide +kernel
theorem dX7_init_19 : decode cX7_init 19 = .ok (.iastore, 1) := by decide +kernel
theorem dX7_init_20 : decode cX7_init 20 = .ok (.dup, 1) := by decide +kernel
theorem dX7_init_21 : decode cX7_init 21 = .ok (.iconst 3, 1) := by decide +kernel
theorem dX7_init_22 : decode cX7_init 22 = .ok (.iconst (-1), 1) := by decide +kernel
theorem dX7_init_23 : decode cX7_init 23 = .ok (.iastore, 1) := by decide +kernel
theorem dX7_init_24 : decode cX7_init 24 = .ok (.putfield 11, 3) := by decide +kernel
theorem dX7_init_27 : decode cX7_init 27 = .ok (.aload_n 0, 1) := by decide +kernel
theorem dX7_init_28 : decode cX7_init 28 = .ok (.bipush 40, 2) := by decide +kernel
theorem dX7_init_30 : decode cX7_init 30 = .ok (.newarray .int, 2) := by decide +kernel
theorem dX7_init_32 : decode cX7_init 32 = .ok (.putfield 15, 3) := by decide +kernel
theorem dX7_init_35 : decode cX7_init 35 = .ok (.return_, 1) := by decide +kernel
theorem dX7_isMissing_0 : decode cX7_isMissing 0 = .ok (.aload_n 0, 1) := by decide +kernel
theorem dX7_isMissing_1 : decode cX7_isMissing 1 = .ok (.getfield 11, 3) := by decide +kernel
theorem dX7_isMissing_4 : decode cX7_isMissing 4 = .ok (.iload_n 1, 1) := by decide +kernel
theorem dX7_isMissing_5 : decode cX7_isMissing 5 = .ok (.iaload, 1) := by decide +kernel
theorem dX7_isMissing_6 : decode cX7_isMissing 6 = .ok (.iconst (-1), 1) := by decide +kernel
theorem dX7_isMissing_7 : decode cX7_isMissing 7 = .ok (.if_icmp .ne 7, 3) := by decide +kernel
theorem dX7_isMissing_10 : decode cX7_isMissing 10 = .ok (.iconst 1, 1) := by decide +kernel
theorem dX7_isMissing_11 : decode cX7_isMissing 11 = .ok (.goto 4, 3) := by decide +kernel
theorem dX7_isMissing_14 : decode cX7_isMissing 14 = .ok (.iconst 0, 1) := by decide +kernel
theorem dX7_isMissing_15 : decode cX7_isMissing 15 = .ok (.ireturn, 1) := by decide +kernel
theorem dX7_at_0 : decode cX7_at 0 = .ok (.aload_n 0, 1) := by decide +kernel
theorem dX7_at_1 : decode cX7_at 1 = .ok (.getfield 15, 3) := by decide +kernel
theorem dX7_at_4 : decode cX7_at 4 = .ok (.iload_n 1, 1) := by decide +kernel
theorem dX7_at_5 : decode cX7_at 5 = .ok (.bipush 10, 2) := by decide +kernel
theorem dX7_at_7 : decode cX7_at 7 = .ok (.imul, 1) := by decide +kernel
theorem dX7_at_8 : decode cX7_at 8 = .ok (.iload_n 2, 1) := by decide +kernel
theorem dX7_at_9 : decode cX7_at 9 = .ok (.iadd, 1) := by decide +kernel
theorem dX7_at_10 : decode cX7_at 10 = .ok (.iaload, 1) := by decide +kernel
theorem dX7_at_11 : decode cX7_at 11 = .ok (.ireturn, 1) := by decide +kernel
theorem dX7_lay_0 : decode cX7_lay 0 = .ok (.aload_n 0, 1) := by decide +kernel
theorem dX7_lay_1 : decode cX7_lay 1 = .ok (.getfield 11, 3) := by decide +kernel
theorem dX7_lay_4 : decode cX7_lay 4 = .ok (.iload_n 1, 1) := by decide +kernel
theorem dX7_lay_5 : decode cX7_lay 5 = .ok (.iload_n 2, 1) := by decide +kernel
theorem dX7_lay_6 : decode cX7_lay 6 = .ok (.iastore, 1) := by decide +kernel
theorem dX7_lay_7 : decode cX7_lay 7 = .ok (.iconst 0, 1) := by decide +kernel
theorem dX7_lay_8 : decode cX7_lay 8 = .ok (.istore_n 3, 1) := by decide +kernel
theorem dX7_lay_9 : decode cX7_lay 9 = .ok (.iload_n 3, 1) := by decide +kernel
theorem dX7_lay_10 : decode cX7_lay 10 = .ok (.iload_n 2, 1) := by decide +kernel
theorem dX7_lay_11 : decode cX7_lay 11 = .ok (.if_icmp .ge 21, 3) := by decide +kernel
theorem dX7_lay_14 : decode cX7_lay 14 = .ok (.aload_n 0, 1) := by decide +kernel
theorem dX7_lay_15 : decode cX7_lay 15 = .ok (.getfield 15, 3) := by decide +kernel
theorem dX7_lay_18 : decode cX7_lay 18 = .ok (.iload_n 1, 1) := by decide +kernel
theorem dX7_lay_19 : decode cX7_lay 19 = .ok (.bipush 10, 2) := by decide +kernel
theorem dX7_lay_21 : decode cX7_lay 21 = .ok (.imul, 1) := by decide +kernel
theorem dX7_lay_22 : decode cX7_lay 22 = .ok (.iload_n 3, 1) := by decide +kernel
theorem dX7_lay_23 : decode cX7_lay 23 = .ok (.iadd, 1) := by decide +kernel
theorem dX7_lay_24 : decode cX7_lay 24 = .ok (.iconst 0, 1) := by decide +kernel
theorem dX7_lay_25 : decode cX7_lay 25 = .ok (.iastore, 1) := by decide +kernel
theorem dX7_lay_26 : decode cX7_lay 26 = .ok (.iinc 3 1, 3) := by decide +kernel
theorem dX7_lay_29 : decode cX7_lay 29 = .ok (.goto (-20), 3) := by decide +kernel
theorem dX7_lay_32 : decode cX7_lay 32 = .ok (.iload_n 2, 1) := by decide +kernel
theorem dX7_lay_33 : decode cX7_lay 33 = .ok (.ireturn, 1) := by decide +kernel
theorem dX7_write_0 : decode cX7_write 0 = .ok (.aload_n 0, 1) := by decide +kernel
theorem dX7_write_1 : decode cX7_write 1 = .ok (.getfield 11, 3) := by decide +kernel
theorem dX7_write_4 : decode cX7_write 4 = .ok (.iload_n 1, 1) := by decide +kernel
theorem dX7_write_5 : decode cX7_write 5 = .ok (.iaload, 1) := by decide +kernel
theorem dX7_write_6 : decode cX7_write 6 = .ok (.iload_n 3, 1) := by decide +kernel
theorem dX7_write_7 : decode cX7_write 7 = .ok (.invokestatic 18, 3) := by decide +kernel
theorem dX7_write_10 : decode cX7_write 10 = .ok (.istore 4, 2) := by decide +kernel
theorem dX7_write_12 : decode cX7_write 12 = .ok (.iconst 0, 1) := by decide +kernel
theorem dX7_write_13 : decode cX7_write 13 = .ok (.istore 5, 2) := by decide +kernel
theorem dX7_write_15 : decode cX7_write 15 = .ok (.iload 5, 2) := by decide +kernel
theorem dX7_write_17 : decode cX7_write 17 = .ok (.iload 4, 2) := by decide +kernel
theorem dX7_write_19 : decode cX7_write 19 = .ok (.if_icmp .ge 25, 3) := by decide +kernel
