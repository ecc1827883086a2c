theorem dX9_stopped_16 : decode cX9_stopped 16 = .ok (.ifCond .ne 6, 3) := by decide +kernel
theorem dX9_stopped_19 : decode cX9_stopped 19 = .ok (.bipush (-4), 2) := by decide +kernel
theorem dX9_stopped_21 : decode cX9_stopped 21 = .ok (.ireturn, 1) := by decide +kernel
theorem dX9_stopped_22 : decode cX9_stopped 22 = .ok (.iconst 0, 1) := by decide +kernel
theorem dX9_stopped_23 : decode cX9_stopped 23 = .ok (.istore_n 2, 1) := by decide +kernel
theorem dX9_stopped_24 : decode cX9_stopped 24 = .ok (.iconst 0, 1) := by decide +kernel
theorem dX9_stopped_25 : decode cX9_stopped 25 = .ok (.istore_n 3, 1) := by decide +kernel
theorem dX9_stopped_26 : decode cX9_stopped 26 = .ok (.iload_n 3, 1) := by decide +kernel
theorem dX9_stopped_27 : decode cX9_stopped 27 = .ok (.aload_n 0, 1) := by decide +kernel
theorem dX9_stopped_28 : decode cX9_stopped 28 = .ok (.getfield 26, 3) := by decide +kernel
theorem dX9_stopped_31 : decode cX9_stopped 31 = .ok (.getfield 140, 3) := by decide +kernel
theorem dX9_stopped_34 : decode cX9_stopped 34 = .ok (.if_icmp .ge 21, 3) := by decide +kernel
theorem dX9_stopped_37 : decode cX9_stopped 37 = .ok (.aload_n 0, 1) := by decide +kernel
theorem dX9_stopped_38 : decode cX9_stopped 38 = .ok (.iload_n 3, 1) := by decide +kernel
theorem dX9_stopped_39 : decode cX9_stopped 39 = .ok (.iload_n 1, 1) := by decide +kernel
theorem dX9_stopped_40 : decode cX9_stopped 40 = .ok (.invokevirtual 224, 3) := by decide +kernel
theorem dX9_stopped_43 : decode cX9_stopped 43 = .ok (.ifCond .eq 6, 3) := by decide +kernel
theorem dX9_stopped_46 : decode cX9_stopped 46 = .ok (.iinc 2 1, 3) := by decide +kernel
theorem dX9_stopped_49 : decode cX9_stopped 49 = .ok (.iinc 3 1, 3) := by decide +kernel
theorem dX9_stopped_52 : decode cX9_stopped 52 = .ok (.goto (-26), 3) := by decide +kernel
theorem dX9_stopped_55 : decode cX9_stopped 55 = .ok (.iload_n 2, 1) := by decide +kernel
theorem dX9_stopped_56 : decode cX9_stopped 56 = .ok (.ireturn, 1) := by decide +kernel
set_option maxRecDepth 20000 in
theorem ggX9_stop_X9_noLastDays : GoodIn wsX9_stop wsX9_noLastDays := goodIn_r _ [6] (by decide +kernel) (by decide +kernel)
set_option maxRecDepth 20000 in
theorem gX9_stop_X9_noLastDays : GoodIn wsX9_stop (va_wsS RX9 221 yX9_noLastDays wsX9_noLastDays) := goodIn_app (goodIn_of _ (by decide +kernel)) ggX9_stop_X9_noLastDays
set_option maxRecDepth 20000 in
theorem ggX9_stop_X9_isStopped : GoodIn wsX9_stop wsX9_isStopped := goodIn_r _ [10, 11, 2, 1, 12, 13, 14, 15, 16, 17, 18, 19, 20, 21, 22, 23, 24, 25, 26, 27, 28, 29, 30, 31, 32, 33, 34, 35, 36, 37, 41, 42, 43, 44, 45, 46, 47, 48, 38, 39, 40] (by decide +kernel) (by decide +kernel)
set_option maxRecDepth 20000 in
theorem gX9_stop_X9_isStopped : GoodIn wsX9_stop (wsV RX9 224 RX9 yX9_isStopped wsX9_isStopped) := goodIn_app (goodIn_of _ (by decide +kernel)) ggX9_stop_X9_isStopped
theorem dX9_stop_0 : decode cX9_stop 0 = .ok (.iload_n 1, 1) := by decide +kernel
theorem dX9_stop_1 : decode cX9_stop 1 = .ok (.invokestatic 221, 3) := by decide +kernel
theorem dX9_stop_4 : decode cX9_stop 4 = .ok (.ifCond .ne 7, 3) := by decide +kernel
theorem dX9_stop_7 : decode cX9_stop 7 = .ok (.iload_n 2, 1) := by decide +kernel
theorem dX9_stop_8 : decode cX9_stop 8 = .ok (.ifCond .ge 5, 3) := by decide +kernel
theorem dX9_stop_11 : decode cX9_stop 11 = .ok (.iconst (-1), 1) := by decide +kernel
theorem dX9_stop_12 : decode cX9_stop 12 = .ok (.ireturn, 1) := by decide +kernel
theorem dX9_stop_13 : decode cX9_stop 13 = .ok (.aload_n 0, 1) := by decide +kernel
theorem dX9_stop_14 : decode cX9_stop 14 = .ok (.getfield 54, 3) := by decide +kernel
theorem dX9_stop_17 : decode cX9_stop 17 = .ok (.getfield 213, 3) := by decide +kernel
theorem dX9_stop_20 : decode cX9_stop 20 = .ok (.ifCond .ne 6, 3) := by decide +kernel
theorem dX9_stop_23 : decode cX9_stop 23 = .ok (.bipush (-4), 2) := by decide +kernel
theorem dX9_stop_25 : decode cX9_stop 25 = .ok (.ireturn, 1) := by decide +kernel
theorem dX9_stop_26 : decode cX9_stop 26 = .ok (.iload_n 2, 1) := by decide +kernel
theorem dX9_stop_27 : decode cX9_stop 27 = .ok (.istore_n 3, 1) := by decide +kernel
theorem dX9_stop_28 : decode cX9_stop 28 = .ok (.iload_n 3, 1) := by decide +kernel
theorem dX9_stop_29 : decode cX9_stop 29 = .ok (.aload_n 0, 1) := by decide +kernel
theorem dX9_stop_30 : decode cX9_stop 30 = .ok (.getfield 26, 3) := by decide +kernel
theorem dX9_stop_33 : decode cX9_stop 33 = .ok (.getfield 140, 3) := by decide +kernel
theorem dX9_stop_36 : decode cX9_stop 36 = .ok (.if_icmp .ge 20, 3) := by decide +kernel
theorem dX9_stop_39 : decode cX9_stop 39 = .ok (.aload_n 0, 1) := by decide +kernel
theorem dX9_stop_40 : decode cX9_stop 40 = .ok (.iload_n 3, 1) := by decide +kernel
theorem dX9_stop_41 : decode cX9_stop 41 = .ok (.iload_n 1, 1) := by decide +kernel
theorem dX9_stop_42 : decode cX9_stop 42 = .ok (.invokevirtual 224, 3) := by decide +kernel
theorem dX9_stop_45 : decode cX9_stop 45 = .ok (.ifCond .eq 5, 3) := by decide +kernel
theorem dX9_stop_48 : decode cX9_stop 48 = .ok (.iload_n 3, 1) := by decide +kernel
theorem dX9_stop_49 : decode cX9_stop 49 = .ok (.ireturn, 1) := by decide +kernel
theorem dX9_stop_50 : decode cX9_stop 50 = .ok (.iinc 3 1, 3) := by decide +kernel
theorem dX9_stop_53 : decode cX9_stop 53 = .ok (.goto (-25), 3) := by decide +kernel
theorem dX9_stop_56 : decode cX9_stop 56 = .ok (.bipush (-9), 2) := by decide +kernel
theorem dX9_stop_58 : decode cX9_stop 58 = .ok (.ireturn, 1) := by decide +kernel
theorem dX9_used_0 : decode cX9_used 0 = .ok (.iload_n 1, 1) := by decide +kernel
theorem dX9_used_1 : decode cX9_used 1 = .ok (.ifCond .lt 14, 3) := by decide +kernel
theorem dX9_used_4 : decode cX9_used 4 = .ok (.iload_n 1, 1) := by decide +kernel
theorem dX9_used_5 : decode cX9_used 5 = .ok (.aload_n 0, 1) := by decide +kernel
theorem dX9_used_6 : decode cX9_used 6 = .ok (.getfield 26, 3) := by decide +kernel
theorem dX9_used_9 : decode cX9_used 9 = .ok (.getfield 140, 3) := by decide +kernel
theorem dX9_used_12 : decode cX9_used 12 = .ok (.if_icmp .lt 5, 3) := by decide +kernel
theorem dX9_used_15 : decode cX9_used 15 = .ok (.iconst (-1), 1) := by decide +kernel
theorem dX9_used_16 : decode cX9_used 16 = .ok (.ireturn, 1) := by decide +kernel
theorem dX9_used_17 : decode cX9_used 17 = .ok (.iload_n 2, 1) := by decide +kernel
theorem dX9_used_18 : decode cX9_used 18 = .ok (.tableswitch 56 0 2 #[26, 36, 46], 26) := by decide +kernel
theorem dX9_used_44 : decode cX9_used 44 = .ok (.aload_n 0, 1) := by decide +kernel
theorem dX9_used_45 : decode cX9_used 45 = .ok (.getfield 26, 3) := by decide +kernel
theorem dX9_used_48 : decode cX9_used 48 = .ok (.getfield 227, 3) := by decide +kernel
theorem dX9_used_51 : decode cX9_used 51 = .ok (.iload_n 1, 1) := by decide +kernel
theorem dX9_used_52 : decode cX9_used 52 = .ok (.iaload, 1) := by decide +kernel
theorem dX9_used_53 : decode cX9_used 53 = .ok (.ireturn, 1) := by decide +kernel
theorem dX9_used_54 : decode cX9_used 54 = .ok (.aload_n 0, 1) := by decide +kernel
theorem dX9_used_55 : decode cX9_used 55 = .ok (.getfield 26, 3) := by decide +kernel
theorem dX9_used_58 : decode cX9_used 58 = .ok (.getfield 230, 3) := by decide +kernel
theorem dX9_used_61 : decode cX9_used 61 = .ok (.iload_n 1, 1) := by decide +kernel
theorem dX9_used_62 : decode cX9_used 62 = .ok (.iaload, 1) := by decide +kernel
theorem dX9_used_63 : decode cX9_used 63 = .ok (.ireturn, 1) := by decide +kernel
theorem dX9_used_64 : decode cX9_used 64 = .ok (.aload_n 0, 1) := by decide +kernel
theorem dX9_used_65 : decode cX9_used 65 = .ok (.getfield 26, 3) := by decide +kernel
theorem dX9_used_68 : decode cX9_used 68 = .ok (.getfield 233, 3) := by decide +kernel
theorem dX9_used_71 : decode cX9_used 71 = .ok (.iload_n 1, 1) := by decide +kernel
theorem dX9_used_72 : decode cX9_used 72 = .ok (.iaload, 1) := by decide +kernel
theorem dX9_used_73 : decode cX9_used 73 = .ok (.ireturn, 1) := by decide +kernel
theorem dX9_used_74 : decode cX9_used 74 = .ok (.iconst (-1), 1) := by decide +kernel
theorem dX9_used_75 : decode cX9_used 75 = .ok (.ireturn, 1) := by decide +kernel
set_option maxRecDepth 20000 in
theorem ggX9_apply_X5_leave : GoodIn wsX9_apply wsX5_leave := goodIn_r _ [8, 9, 10, 11, 12, 13, 14, 15, 16, 17, 18, 35, 36, 37, 38, 39] (by decide +kernel) (by decide +kernel)
set_option maxRecDepth 20000 in
theorem gX9_apply_X5_leave : GoodIn wsX9_apply (wsV RX9 161 RX5 yX5_leave wsX5_leave) := goodIn_app (goodIn_of _ (by decide +kernel)) ggX9_apply_X5_leave
theorem dX9_apply_0 : decode cX9_apply 0 = .ok (.aload_n 0, 1) := by decide +kernel
theorem dX9_apply_1 : decode cX9_apply 1 = .ok (.getfield 54, 3) := by decide +kernel
theorem dX9_apply_4 : decode cX9_apply 4 = .ok (.getfield 213, 3) := by decide +kernel
theorem dX9_apply_7 : decode cX9_apply 7 = .ok (.ifCond .eq 20, 3) := by decide +kernel
theorem dX9_apply_10 : decode cX9_apply 10 = .ok (.aload_n 0, 1) := by decide +kernel
theorem dX9_apply_11 : decode cX9_apply 11 = .ok (.getfield 54, 3) := by decide +kernel
theorem dX9_apply_14 : decode cX9_apply 14 = .ok (.getfield 217, 3) := by decide +kernel
theorem dX9_apply_17 : decode cX9_apply 17 = .ok (.aload_n 0, 1) := by decide +kernel
theorem dX9_apply_18 : decode cX9_apply 18 = .ok (.getfield 19, 3) := by decide +kernel
theorem dX9_apply_21 : decode cX9_apply 21 = .ok (.getfield 93, 3) := by decide +kernel
theorem dX9_apply_24 : decode cX9_apply 24 = .ok (.if_icmp .eq 6, 3) := by decide +kernel
theorem dX9_apply_27 : decode cX9_apply 27 = .ok (.bipush (-4), 2) := by decide +kernel
theorem dX9_apply_29 : decode cX9_apply 29 = .ok (.ireturn, 1) := by decide +kernel
theorem dX9_apply_30 : decode cX9_apply 30 = .ok (.iconst 0, 1) := by decide +kernel
theorem dX9_apply_31 : decode cX9_apply 31 = .ok (.istore_n 1, 1) := by decide +kernel
theorem dX9_apply_32 : decode cX9_apply 32 = .ok (.iconst 0, 1) := by decide +kernel
theorem dX9_apply_33 : decode cX9_apply 33 = .ok (.istore_n 2, 1) := by decide +kernel
theorem dX9_apply_34 : decode cX9_apply 34 = .ok (.iload_n 2, 1) := by decide +kernel
theorem dX9_apply_35 : decode cX9_apply 35 = .ok (.aload_n 0, 1) := by decide +kernel
theorem dX9_apply_36 : decode cX9_apply 36 = .ok (.getfield 19, 3) := by decide +kernel
theorem dX9_apply_39 : decode cX9_apply 39 = .ok (.getfield 93, 3) := by decide +kernel
theorem dX9_apply_42 : decode cX9_apply 42 = .ok (.if_icmp .ge 36, 3) := by decide +kernel
theorem dX9_apply_45 : decode cX9_apply 45 = .ok (.iload_n 1, 1) := by decide +kernel
theorem dX9_apply_46 : decode cX9_apply 46 = .ok (.aload_n 0, 1) := by decide +kernel
theorem dX9_apply_47 : decode cX9_apply 47 = .ok (.getfield 19, 3) := by decide +kernel
theorem dX9_apply_50 : decode cX9_apply 50 = .ok (.iload_n 2, 1) := by decide +kernel
theorem dX9_apply_51 : decode cX9_apply 51 = .ok (.aload_n 0, 1) := by decide +kernel
theorem dX9_apply_52 : decode cX9_apply 52 = .ok (.getfield 54, 3) := by decide +kernel
theorem dX9_apply_55 : decode cX9_apply 55 = .ok (.getfield 236, 3) := by decide +kernel
theorem dX9_apply_58 : decode cX9_apply 58 = .ok (.iload_n 2, 1) := by decide +kernel
theorem dX9_apply_59 : decode cX9_apply 59 = .ok (.iaload, 1) := by decide +kernel
theorem dX9_apply_60 : decode cX9_apply 60 = .ok (.aload_n 0, 1) := by decide +kernel
theorem dX9_apply_61 : decode cX9_apply 61 = .ok (.getfield 10, 3) := by decide +kernel
theorem dX9_apply_64 : decode cX9_apply 64 = .ok (.getfield 134, 3) := by decide +kernel
theorem dX9_apply_67 : decode cX9_apply 67 = .ok (.invokevirtual 161, 3) := by decide +kernel
theorem dX9_apply_70 : decode cX9_apply 70 = .ok (.iadd, 1) := by decide +kernel
theorem dX9_apply_71 : decode cX9_apply 71 = .ok (.istore_n 1, 1) := by decide +kernel
theorem dX9_apply_72 : decode cX9_apply 72 = .ok (.iinc 2 1, 3) := by decide +kernel
theorem dX9_apply_75 : decode cX9_apply 75 = .ok (.goto (-41), 3) := by decide +kernel
theorem dX9_apply_78 : decode cX9_apply 78 = .ok (.iload_n 1, 1) := by decide +kernel
theorem dX9_apply_79 : decode cX9_apply 79 = .ok (.ireturn, 1) := by decide +kernel
set_option maxRecDepth 20000 in
theorem ggX9_sheet_X9_noSheet : GoodIn wsX9_sheet wsX9_noSheet := goodIn_r _ [6] (by decide +kernel) (by decide +kernel)
set_option maxRecDepth 20000 in
theorem gX9_sheet_X9_noSheet : GoodIn wsX9_sheet (va_wsS RX9 237 yX9_noSheet wsX9_noSheet) := goodIn_app (goodIn_of _ (by decide +kernel)) ggX9_sheet_X9_noSheet
set_option maxRecDepth 20000 in
theorem ggX9_sheet_X4_answer : GoodIn wsX9_sheet wsX4_answer := goodIn_r _ [11, 12, 13, 34, 35] (by decide +kernel) (by decide +kernel)
set_option maxRecDepth 20000 in
theorem gX9_sheet_X4_answer : GoodIn wsX9_sheet (wsV RX9 155 RX4 yX4_answer wsX4_answer) := goodIn_app (goodIn_of _ (by decide +kernel)) ggX9_sheet_X4_answer
set_option maxRecDepth 20000 in
theorem ggX9_sheet_X7_lay : GoodIn wsX9_sheet wsX7_lay := goodIn_r _ [18, 19, 20, 36, 37] (by decide +kernel) (by decide +kernel)
set_option maxRecDepth 20000 in
theorem gX9_sheet_X7_lay : GoodIn wsX9_sheet (wsV RX9 240 RX7 yX7_lay wsX7_lay) := goodIn_app (goodIn_of _ (by decide +kernel)) ggX9_sheet_X7_lay
theorem dX9_sheet_0 : decode cX9_sheet 0 = .ok (.iload_n 1, 1) := by decide +kernel
theorem dX9_sheet_1 : decode cX9_sheet 1 = .ok (.invokestatic 237, 3) := by decide +kernel
theorem dX9_sheet_4 : decode cX9_sheet 4 = .ok (.ifCond .ne 9, 3) := by decide +kernel
theorem dX9_sheet_7 : decode cX9_sheet 7 = .ok (.iload_n 2, 1) := by decide +kernel
theorem dX9_sheet_8 : decode cX9_sheet 8 = .ok (.bipush 10, 2) := by decide +kernel
theorem dX9_sheet_10 : decode cX9_sheet 10 = .ok (.if_icmp .le 5, 3) := by decide +kernel
theorem dX9_sheet_13 : decode cX9_sheet 13 = .ok (.iconst (-1), 1) := by decide +kernel
theorem dX9_sheet_14 : decode cX9_sheet 14 = .ok (.ireturn, 1) := by decide +kernel
theorem dX9_sheet_15 : decode cX9_sheet 15 = .ok (.iload_n 2, 1) := by decide +kernel
theorem dX9_sheet_16 : decode cX9_sheet 16 = .ok (.ifCond .ge 12, 3) := by decide +kernel
theorem dX9_sheet_19 : decode cX9_sheet 19 = .ok (.aload_n 0, 1) := by decide +kernel
theorem dX9_sheet_20 : decode cX9_sheet 20 = .ok (.getfield 68, 3) := by decide +kernel
theorem dX9_sheet_23 : decode cX9_sheet 23 = .ok (.iconst 4, 1) := by decide +kernel
theorem dX9_sheet_24 : decode cX9_sheet 24 = .ok (.invokevirtual 155, 3) := by decide +kernel
theorem dX9_sheet_27 : decode cX9_sheet 27 = .ok (.ireturn, 1) := by decide +kernel
theorem dX9_sheet_28 : decode cX9_sheet 28 = .ok (.aload_n 0, 1) := by decide +kernel
theorem dX9_sheet_29 : decode cX9_sheet 29 = .ok (.getfield 61, 3) := by decide +kernel
theorem dX9_sheet_32 : decode cX9_sheet 32 = .ok (.iload_n 1, 1) := by decide +kernel
theorem dX9_sheet_33 : decode cX9_sheet 33 = .ok (.iload_n 2, 1) := by decide +kernel
theorem dX9_sheet_34 : decode cX9_sheet 34 = .ok (.invokevirtual 240, 3) := by decide +kernel
theorem dX9_sheet_37 : decode cX9_sheet 37 = .ok (.ireturn, 1) := by decide +kernel
set_option maxRecDepth 20000 in
theorem ggX9_save_X9_noSheet : GoodIn wsX9_save wsX9_noSheet := goodIn_r _ [7] (by decide +kernel) (by decide +kernel)
set_option maxRecDepth 20000 in
theorem gX9_save_X9_noSheet : GoodIn wsX9_save (va_wsS RX9 237 yX9_noSheet wsX9_noSheet) := goodIn_app (goodIn_of _ (by decide +kernel)) ggX9_save_X9_noSheet
set_option maxRecDepth 20000 in
theorem ggX9_save_X7_isMissing : GoodIn wsX9_save wsX7_isMissing := goodIn_r _ [12, 13, 48, 49] (by decide +kernel) (by decide +kernel)
set_option maxRecDepth 20000 in
theorem gX9_save_X7_isMissing : GoodIn wsX9_save (wsV RX9 243 RX7 yX7_isMissing wsX7_isMissing) := goodIn_app (goodIn_of _ (by decide +kernel)) ggX9_save_X7_isMissing
set_option maxRecDepth 20000 in
theorem ggX9_save_X4_answer : GoodIn wsX9_save wsX4_answer := goodIn_r _ [18, 19, 20, 50, 51] (by decide +kernel) (by decide +kernel)
set_option maxRecDepth 20000 in
theorem gX9_save_X4_answer : GoodIn wsX9_save (wsV RX9 155 RX4 yX4_answer wsX4_answer) := goodIn_app (goodIn_of _ (by decide +kernel)) ggX9_save_X4_answer
set_option maxRecDepth 20000 in
theorem ggX9_save_X7_write : GoodIn wsX9_save wsX7_write := goodIn_r _ [24, 13, 25, 26, 27, 28, 29, 48, 49] (by decide +kernel) (by decide +kernel)
set_option maxRecDepth 20000 in
theorem gX9_save_X7_write : GoodIn wsX9_save (wsV RX9 246 RX7 yX7_write wsX7_write) := goodIn_app (goodIn_of _ (by decide +kernel)) ggX9_save_X7_write
theorem dX9_save_0 : decode cX9_save 0 = .ok (.iload_n 1, 1) := by decide +kernel
theorem dX9_save_1 : decode cX9_save 1 = .ok (.invokestatic 237, 3) := by decide +kernel
theorem dX9_save_4 : decode cX9_save 4 = .ok (.ifCond .eq 5, 3) := by decide +kernel
theorem dX9_save_7 : decode cX9_save 7 = .ok (.iconst (-1), 1) := by decide +kernel
theorem dX9_save_8 : decode cX9_save 8 = .ok (.ireturn, 1) := by decide +kernel
theorem dX9_save_9 : decode cX9_save 9 = .ok (.aload_n 0, 1) := by decide +kernel
theorem dX9_save_10 : decode cX9_save 10 = .ok (.getfield 61, 3) := by decide +kernel
theorem dX9_save_13 : decode cX9_save 13 = .ok (.iload_n 1, 1) := by decide +kernel
theorem dX9_save_14 : decode cX9_save 14 = .ok (.invokevirtual 243, 3) := by decide +kernel
theorem dX9_save_17 : decode cX9_save 17 = .ok (.ifCond .eq 12, 3) := by decide +kernel
theorem dX9_save_20 : decode cX9_save 20 = .ok (.aload_n 0, 1) := by decide +kernel
theorem dX9_save_21 : decode cX9_save 21 = .ok (.getfield 68, 3) := by decide +kernel
theorem dX9_save_24 : decode cX9_save 24 = .ok (.iconst 1, 1) := by decide +kernel
theorem dX9_save_25 : decode cX9_save 25 = .ok (.invokevirtual 155, 3) := by decide +kernel
theorem dX9_save_28 : decode cX9_save 28 = .ok (.ireturn, 1) := by decide +kernel
theorem dX9_save_29 : decode cX9_save 29 = .ok (.aload_n 0, 1) := by decide +kernel
theorem dX9_save_30 : decode cX9_save 30 = .ok (.getfield 61, 3) := by decide +kernel
theorem dX9_save_33 : decode cX9_save 33 = .ok (.iload_n 1, 1) := by decide +kernel
theorem dX9_save_34 : decode cX9_save 34 = .ok (.aload_n 0, 1) := by decide +kernel
theorem dX9_save_35 : decode cX9_save 35 = .ok (.getfield 19, 3) := by decide +kernel
theorem dX9_save_38 : decode cX9_save 38 = .ok (.getfield 112, 3) := by decide +kernel
theorem dX9_save_41 : decode cX9_save 41 = .ok (.aload_n 0, 1) := by decide +kernel
theorem dX9_save_42 : decode cX9_save 42 = .ok (.getfield 19, 3) := by decide +kernel
theorem dX9_save_45 : decode cX9_save 45 = .ok (.getfield 93, 3) := by decide +kernel
theorem dX9_save_48 : decode cX9_save 48 = .ok (.invokevirtual 246, 3) := by decide +kernel
theorem dX9_save_51 : decode cX9_save 51 = .ok (.ireturn, 1) := by decide +kernel
set_option maxRecDepth 20000 in
theorem ggX9_load_X9_noSheet : GoodIn wsX9_load wsX9_noSheet := goodIn_r _ [7] (by decide +kernel) (by decide +kernel)
set_option maxRecDepth 20000 in
theorem gX9_load_X9_noSheet : GoodIn wsX9_load (va_wsS RX9 237 yX9_noSheet wsX9_noSheet) := goodIn_app (goodIn_of _ (by decide +kernel)) ggX9_load_X9_noSheet
set_option maxRecDepth 20000 in
theorem ggX9_load_X9_noPerson : GoodIn wsX9_load wsX9_noPerson := goodIn_r _ [11, 3, 37, 38, 39, 40, 41, 42, 43, 44, 45, 46, 47, 48, 49, 52, 53, 54, 55, 56] (by decide +kernel) (by decide +kernel)
set_option maxRecDepth 20000 in
theorem gX9_load_X9_noPerson : GoodIn wsX9_load (wsV RX9 100 RX9 yX9_noPerson wsX9_noPerson) := goodIn_app (goodIn_of _ (by decide +kernel)) ggX9_load_X9_noPerson
set_option maxRecDepth 20000 in
theorem ggX9_load_X7_isMissing : GoodIn wsX9_load wsX7_isMissing := goodIn_r _ [16, 17, 50, 51] (by decide +kernel) (by decide +kernel)
set_option maxRecDepth 20000 in
theorem gX9_load_X7_isMissing : GoodIn wsX9_load (wsV RX9 243 RX7 yX7_isMissing wsX7_isMissing) := goodIn_app (goodIn_of _ (by decide +kernel)) ggX9_load_X7_isMissing
set_option maxRecDepth 20000 in
theorem ggX9_load_X4_answer : GoodIn wsX9_load wsX4_answer := goodIn_r _ [22, 23, 24, 57, 58] (by decide +kernel) (by decide +kernel)
set_option maxRecDepth 20000 in
theorem gX9_load_X4_answer : GoodIn wsX9_load (wsV RX9 155 RX4 yX4_answer wsX4_answer) := goodIn_app (goodIn_of _ (by decide +kernel)) ggX9_load_X4_answer
set_option maxRecDepth 20000 in
theorem ggX9_load_X7_at : GoodIn wsX9_load wsX7_at := goodIn_r _ [28, 29, 50, 51] (by decide +kernel) (by decide +kernel)
set_option maxRecDepth 20000 in
theorem gX9_load_X7_at : GoodIn wsX9_load (wsV RX9 253 RX7 yX7_at wsX7_at) := goodIn_app (goodIn_of _ (by decide +kernel)) ggX9_load_X7_at
set_option maxRecDepth 20000 in
theorem ggX9_load_X5_give : GoodIn wsX9_load wsX5_give := goodIn_r _ [34, 35, 36, 52, 53, 54, 55, 56] (by decide +kernel) (by decide +kernel)
set_option maxRecDepth 20000 in
theorem gX9_load_X5_give : GoodIn wsX9_load (wsV RX9 106 RX5 yX5_give wsX5_give) := goodIn_app (goodIn_of _ (by decide +kernel)) ggX9_load_X5_give
theorem dX9_load_0 : decode cX9_load 0 = .ok (.iload_n 1, 1) := by decide +kernel
theorem dX9_load_1 : decode cX9_load 1 = .ok (.invokestatic 237, 3) := by decide +kernel
theorem dX9_load_4 : decode cX9_load 4 = .ok (.ifCond .ne 11, 3) := by decide +kernel
theorem dX9_load_7 : decode cX9_load 7 = .ok (.aload_n 0, 1) := by decide +kernel
theorem dX9_load_8 : decode cX9_load 8 = .ok (.iload_n 3, 1) := by decide +kernel
theorem dX9_load_9 : decode cX9_load 9 = .ok (.invokevirtual 100, 3) := by decide +kernel
theorem dX9_load_12 : decode cX9_load 12 = .ok (.ifCond .eq 5, 3) := by decide +kernel
theorem dX9_load_15 : decode cX9_load 15 = .ok (.iconst (-1), 1) := by decide +kernel
theorem dX9_load_16 : decode cX9_load 16 = .ok (.ireturn, 1) := by decide +kernel
theorem dX9_load_17 : decode cX9_load 17 = .ok (.aload_n 0, 1) := by decide +kernel
theorem dX9_load_18 : decode cX9_load 18 = .ok (.getfield 61, 3) := by decide +kernel
theorem dX9_load_21 : decode cX9_load 21 = .ok (.iload_n 1, 1) := by decide +kernel
theorem dX9_load_22 : decode cX9_load 22 = .ok (.invokevirtual 243, 3) := by decide +kernel
theorem dX9_load_25 : decode cX9_load 25 = .ok (.ifCond .eq 12, 3) := by decide +kernel
theorem dX9_load_28 : decode cX9_load 28 = .ok (.aload_n 0, 1) := by decide +kernel
theorem dX9_load_29 : decode cX9_load 29 = .ok (.getfield 68, 3) := by decide +kernel
theorem dX9_load_32 : decode cX9_load 32 = .ok (.iconst 1, 1) := by decide +kernel
theorem dX9_load_33 : decode cX9_load 33 = .ok (.invokevirtual 155, 3) := by decide +kernel
theorem dX9_load_36 : decode cX9_load 36 = .ok (.ireturn, 1) := by decide +kernel
theorem dX9_load_37 : decode cX9_load 37 = .ok (.iload_n 2, 1) := by decide +kernel
theorem dX9_load_38 : decode cX9_load 38 = .ok (.ifCond .lt 16, 3) := by decide +kernel
theorem dX9_load_41 : decode cX9_load 41 = .ok (.iload_n 2, 1) := by decide +kernel
theorem dX9_load_42 : decode cX9_load 42 = .ok (.aload_n 0, 1) := by decide +kernel
theorem dX9_load_43 : decode cX9_load 43 = .ok (.getfield 61, 3) := by decide +kernel
theorem dX9_load_46 : decode cX9_load 46 = .ok (.getfield 250, 3) := by decide +kernel
theorem dX9_load_49 : decode cX9_load 49 = .ok (.iload_n 1, 1) := by decide +kernel
theorem dX9_load_50 : decode cX9_load 50 = .ok (.iaload, 1) := by decide +kernel
theorem dX9_load_51 : decode cX9_load 51 = .ok (.if_icmp .lt 12, 3) := by decide +kernel
theorem dX9_load_54 : decode cX9_load 54 = .ok (.aload_n 0, 1) := by decide +kernel
theorem dX9_load_55 : decode cX9_load 55 = .ok (.getfield 68, 3) := by decide +kernel
theorem dX9_load_58 : decode cX9_load 58 = .ok (.iconst 2, 1) := by decide +kernel
theorem dX9_load_59 : decode cX9_load 59 = .ok (.invokevirtual 155, 3) := by decide +kernel
theorem dX9_load_62 : decode cX9_load 62 = .ok (.ireturn, 1) := by decide +kernel
theorem dX9_load_63 : decode cX9_load 63 = .ok (.aload_n 0, 1) := by decide +kernel
theorem dX9_load_64 : decode cX9_load 64 = .ok (.getfield 19, 3) := by decide +kernel
theorem dX9_load_67 : decode cX9_load 67 = .ok (.iload_n 3, 1) := by decide +kernel
theorem dX9_load_68 : decode cX9_load 68 = .ok (.aload_n 0, 1) := by decide +kernel
theorem dX9_load_69 : decode cX9_load 69 = .ok (.getfield 61, 3) := by decide +kernel
theorem dX9_load_72 : decode cX9_load 72 = .ok (.iload_n 1, 1) := by decide +kernel
theorem dX9_load_73 : decode cX9_load 73 = .ok (.iload_n 2, 1) := by decide +kernel
theorem dX9_load_74 : decode cX9_load 74 = .ok (.invokevirtual 253, 3) := by decide +kernel
theorem dX9_load_77 : decode cX9_load 77 = .ok (.invokevirtual 106, 3) := by decide +kernel
theorem dX9_load_80 : decode cX9_load 80 = .ok (.pop, 1) := by decide +kernel
theorem dX9_load_81 : decode cX9_load 81 = .ok (.iconst 1, 1) := by decide +kernel
theorem dX9_load_82 : decode cX9_load 82 = .ok (.ireturn, 1) := by decide +kernel
set_option maxRecDepth 20000 in
theorem ggX9_tear_X9_noSheet : GoodIn wsX9_tear wsX9_noSheet := goodIn_r _ [6] (by decide +kernel) (by decide +kernel)
set_option maxRecDepth 20000 in
theorem gX9_tear_X9_noSheet : GoodIn wsX9_tear (va_wsS RX9 237 yX9_noSheet wsX9_noSheet) := goodIn_app (goodIn_of _ (by decide +kernel)) ggX9_tear_X9_noSheet
set_option maxRecDepth 20000 in
theorem ggX9_tear_X7_isMissing : GoodIn wsX9_tear wsX7_isMissing := goodIn_r _ [11, 12, 33, 34] (by decide +kernel) (by decide +kernel)
set_option maxRecDepth 20000 in
theorem gX9_tear_X7_isMissing : GoodIn wsX9_tear (wsV RX9 243 RX7 yX7_isMissing wsX7_isMissing) := goodIn_app (goodIn_of _ (by decide +kernel)) ggX9_tear_X7_isMissing
set_option maxRecDepth 20000 in
theorem ggX9_tear_X4_answer : GoodIn wsX9_tear wsX4_answer := goodIn_r _ [17, 18, 19, 35, 36] (by decide +kernel) (by decide +kernel)
set_option maxRecDepth 20000 in
theorem gX9_tear_X4_answer : GoodIn wsX9_tear (wsV RX9 155 RX4 yX4_answer wsX4_answer) := goodIn_app (goodIn_of _ (by decide +kernel)) ggX9_tear_X4_answer
theorem dX9_tear_0 : decode cX9_tear 0 = .ok (.iload_n 1, 1) := by decide +kernel
theorem dX9_tear_1 : decode cX9_tear 1 = .ok (.invokestatic 237, 3) := by decide +kernel
theorem dX9_tear_4 : decode cX9_tear 4 = .ok (.ifCond .eq 5, 3) := by decide +kernel
theorem dX9_tear_7 : decode cX9_tear 7 = .ok (.iconst (-1), 1) := by decide +kernel
theorem dX9_tear_8 : decode cX9_tear 8 = .ok (.ireturn, 1) := by decide +kernel
theorem dX9_tear_9 : decode cX9_tear 9 = .ok (.aload_n 0, 1) := by decide +kernel
theorem dX9_tear_10 : decode cX9_tear 10 = .ok (.getfield 61, 3) := by decide +kernel
theorem dX9_tear_13 : decode cX9_tear 13 = .ok (.iload_n 1, 1) := by decide +kernel
theorem dX9_tear_14 : decode cX9_tear 14 = .ok (.invokevirtual 243, 3) := by decide +kernel
theorem dX9_tear_17 : decode cX9_tear 17 = .ok (.ifCond .eq 12, 3) := by decide +kernel
theorem dX9_tear_20 : decode cX9_tear 20 = .ok (.aload_n 0, 1) := by decide +kernel
theorem dX9_tear_21 : decode cX9_tear 21 = .ok (.getfield 68, 3) := by decide +kernel
theorem dX9_tear_24 : decode cX9_tear 24 = .ok (.iconst 1, 1) := by decide +kernel
theorem dX9_tear_25 : decode cX9_tear 25 = .ok (.invokevirtual 155, 3) := by decide +kernel
theorem dX9_tear_28 : decode cX9_tear 28 = .ok (.ireturn, 1) := by decide +kernel
theorem dX9_tear_29 : decode cX9_tear 29 = .ok (.aload_n 0, 1) := by decide +kernel
theorem dX9_tear_30 : decode cX9_tear 30 = .ok (.getfield 61, 3) := by decide +kernel
theorem dX9_tear_33 : decode cX9_tear 33 = .ok (.getfield 250, 3) := by decide +kernel
theorem dX9_tear_36 : decode cX9_tear 36 = .ok (.iload_n 1, 1) := by decide +kernel
theorem dX9_tear_37 : decode cX9_tear 37 = .ok (.iconst (-1), 1) := by decide +kernel
theorem dX9_tear_38 : decode cX9_tear 38 = .ok (.iastore, 1) := by decide +kernel
theorem dX9_tear_39 : decode cX9_tear 39 = .ok (.iconst 1, 1) := by decide +kernel
theorem dX9_tear_40 : decode cX9_tear 40 = .ok (.ireturn, 1) := by decide +kernel
set_option maxRecDepth 20000 in
theorem ggX9_copy_X9_noSheet : GoodIn wsX9_copy wsX9_noSheet := goodIn_r _ [6] (by decide +kernel) (by decide +kernel)
set_option maxRecDepth 20000 in
theorem gX9_copy_X9_noSheet : GoodIn wsX9_copy (va_wsS RX9 237 yX9_noSheet wsX9_noSheet) := goodIn_app (goodIn_of _ (by decide +kernel)) ggX9_copy_X9_noSheet
set_option maxRecDepth 20000 in
theorem ggX9_copy_X4_answer : GoodIn wsX9_copy wsX4_answer := goodIn_r _ [11, 12, 13, 46, 47] (by decide +kernel) (by decide +kernel)
set_option maxRecDepth 20000 in
theorem gX9_copy_X4_answer : GoodIn wsX9_copy (wsV RX9 155 RX4 yX4_answer wsX4_answer) := goodIn_app (goodIn_of _ (by decide +kernel)) ggX9_copy_X4_answer
set_option maxRecDepth 20000 in
theorem ggX9_copy_X7_isMissing : GoodIn wsX9_copy wsX7_isMissing := goodIn_r _ [18, 19, 48, 49] (by decide +kernel) (by decide +kernel)
set_option maxRecDepth 20000 in
theorem gX9_copy_X7_isMissing : GoodIn wsX9_copy (wsV RX9 243 RX7 yX7_isMissing wsX7_isMissing) := goodIn_app (goodIn_of _ (by decide +kernel)) ggX9_copy_X7_isMissing
set_option maxRecDepth 20000 in
theorem ggX9_copy_X7_spans : GoodIn wsX9_copy wsX7_spans := goodIn_r _ [23, 19, 48, 49] (by decide +kernel) (by decide +kernel)
set_option maxRecDepth 20000 in
theorem gX9_copy_X7_spans : GoodIn wsX9_copy (wsV RX9 256 RX7 yX7_spans wsX7_spans) := goodIn_app (goodIn_of _ (by decide +kernel)) ggX9_copy_X7_spans
set_option maxRecDepth 20000 in
theorem ggX9_copy_X7_move : GoodIn wsX9_copy wsX7_move := goodIn_r _ [27, 28, 29, 30, 31, 32, 48, 49] (by decide +kernel) (by decide +kernel)
set_option maxRecDepth 20000 in
theorem gX9_copy_X7_move : GoodIn wsX9_copy (wsV RX9 259 RX7 yX7_move wsX7_move) := goodIn_app (goodIn_of _ (by decide +kernel)) ggX9_copy_X7_move
theorem dX9_copy_0 : decode cX9_copy 0 = .ok (.iload_n 1, 1) := by decide +kernel
theorem dX9_copy_1 : decode cX9_copy 1 = .ok (.invokestatic 237, 3) := by decide +kernel
theorem dX9_copy_4 : decode cX9_copy 4 = .ok (.ifCond .ne 10, 3) := by decide +kernel
theorem dX9_copy_7 : decode cX9_copy 7 = .ok (.iload_n 3, 1) := by decide +kernel
theorem dX9_copy_8 : decode cX9_copy 8 = .ok (.invokestatic 237, 3) := by decide +kernel
theorem dX9_copy_11 : decode cX9_copy 11 = .ok (.ifCond .eq 5, 3) := by decide +kernel
theorem dX9_copy_14 : decode cX9_copy 14 = .ok (.iconst (-1), 1) := by decide +kernel
theorem dX9_copy_15 : decode cX9_copy 15 = .ok (.ireturn, 1) := by decide +kernel
theorem dX9_copy_16 : decode cX9_copy 16 = .ok (.iload 5, 2) := by decide +kernel
theorem dX9_copy_18 : decode cX9_copy 18 = .ok (.ifCond .ge 12, 3) := by decide +kernel
theorem dX9_copy_21 : decode cX9_copy 21 = .ok (.aload_n 0, 1) := by decide +kernel
theorem dX9_copy_22 : decode cX9_copy 22 = .ok (.getfield 68, 3) := by decide +kernel
theorem dX9_copy_25 : decode cX9_copy 25 = .ok (.iconst 4, 1) := by decide +kernel
theorem dX9_copy_26 : decode cX9_copy 26 = .ok (.invokevirtual 155, 3) := by decide +kernel
theorem dX9_copy_29 : decode cX9_copy 29 = .ok (.ireturn, 1) := by decide +kernel
theorem dX9_copy_30 : decode cX9_copy 30 = .ok (.aload_n 0, 1) := by decide +kernel
theorem dX9_copy_31 : decode cX9_copy 31 = .ok (.getfield 61, 3) := by decide +kernel
theorem dX9_copy_34 : decode cX9_copy 34 = .ok (.iload_n 1, 1) := by decide +kernel
theorem dX9_copy_35 : decode cX9_copy 35 = .ok (.invokevirtual 243, 3) := by decide +kernel
theorem dX9_copy_38 : decode cX9_copy 38 = .ok (.ifCond .ne 14, 3) := by decide +kernel
theorem dX9_copy_41 : decode cX9_copy 41 = .ok (.aload_n 0, 1) := by decide +kernel
theorem dX9_copy_42 : decode cX9_copy 42 = .ok (.getfield 61, 3) := by decide +kernel
theorem dX9_copy_45 : decode cX9_copy 45 = .ok (.iload_n 3, 1) := by decide +kernel
theorem dX9_copy_46 : decode cX9_copy 46 = .ok (.invokevirtual 243, 3) := by decide +kernel
theorem dX9_copy_49 : decode cX9_copy 49 = .ok (.ifCond .eq 12, 3) := by decide +kernel
theorem dX9_copy_52 : decode cX9_copy 52 = .ok (.aload_n 0, 1) := by decide +kernel
theorem dX9_copy_53 : decode cX9_copy 53 = .ok (.getfield 68, 3) := by decide +kernel
theorem dX9_copy_56 : decode cX9_copy 56 = .ok (.iconst 1, 1) := by decide +kernel
theorem dX9_copy_57 : decode cX9_copy 57 = .ok (.invokevirtual 155, 3) := by decide +kernel
theorem dX9_copy_60 : decode cX9_copy 60 = .ok (.ireturn, 1) := by decide +kernel
theorem dX9_copy_61 : decode cX9_copy 61 = .ok (.aload_n 0, 1) := by decide +kernel
theorem dX9_copy_62 : decode cX9_copy 62 = .ok (.getfield 61, 3) := by decide +kernel
theorem dX9_copy_65 : decode cX9_copy 65 = .ok (.iload_n 1, 1) := by decide +kernel
theorem dX9_copy_66 : decode cX9_copy 66 = .ok (.iload_n 2, 1) := by decide +kernel
theorem dX9_copy_67 : decode cX9_copy 67 = .ok (.iload 5, 2) := by decide +kernel
theorem dX9_copy_69 : decode cX9_copy 69 = .ok (.invokevirtual 256, 3) := by decide +kernel
theorem dX9_copy_72 : decode cX9_copy 72 = .ok (.ifCond .eq 18, 3) := by decide +kernel
theorem dX9_copy_75 : decode cX9_copy 75 = .ok (.aload_n 0, 1) := by decide +kernel
theorem dX9_copy_76 : decode cX9_copy 76 = .ok (.getfield 61, 3) := by decide +kernel
theorem dX9_copy_79 : decode cX9_copy 79 = .ok (.iload_n 3, 1) := by decide +kernel
theorem dX9_copy_80 : decode cX9_copy 80 = .ok (.iload 4, 2) := by decide +kernel
theorem dX9_copy_82 : decode cX9_copy 82 = .ok (.iload 5, 2) := by decide +kernel
theorem dX9_copy_84 : decode cX9_copy 84 = .ok (.invokevirtual 256, 3) := by decide +kernel
theorem dX9_copy_87 : decode cX9_copy 87 = .ok (.ifCond .ne 12, 3) := by decide +kernel
theorem dX9_copy_90 : decode cX9_copy 90 = .ok (.aload_n 0, 1) := by decide +kernel
theorem dX9_copy_91 : decode cX9_copy 91 = .ok (.getfield 68, 3) := by decide +kernel
theorem dX9_copy_94 : decode cX9_copy 94 = .ok (.iconst 2, 1) := by decide +kernel
theorem dX9_copy_95 : decode cX9_copy 95 = .ok (.invokevirtual 155, 3) := by decide +kernel
theorem dX9_copy_98 : decode cX9_copy 98 = .ok (.ireturn, 1) := by decide +kernel
theorem dX9_copy_99 : decode cX9_copy 99 = .ok (.aload_n 0, 1) := by decide +kernel
theorem dX9_copy_100 : decode cX9_copy 100 = .ok (.getfield 61, 3) := by decide +kernel
theorem dX9_copy_103 : decode cX9_copy 103 = .ok (.iload_n 1, 1) := by decide +kernel
theorem dX9_copy_104 : decode cX9_copy 104 = .ok (.iload_n 2, 1) := by decide +kernel
theorem dX9_copy_105 : decode cX9_copy 105 = .ok (.iload_n 3, 1) := by decide +kernel
theorem dX9_copy_106 : decode cX9_copy 106 = .ok (.iload 4, 2) := by decide +kernel
theorem dX9_copy_108 : decode cX9_copy 108 = .ok (.iload 5, 2) := by decide +kernel
theorem dX9_copy_110 : decode cX9_copy 110 = .ok (.invokevirtual 259, 3) := by decide +kernel
theorem dX9_copy_113 : decode cX9_copy 113 = .ok (.iconst 1, 1) := by decide +kernel
theorem dX9_copy_114 : decode cX9_copy 114 = .ok (.ireturn, 1) := by decide +kernel
theorem dX9_asked_0 : decode cX9_asked 0 = .ok (.aload_n 0, 1) := by decide +kernel
theorem dX9_asked_1 : decode cX9_asked 1 = .ok (.getfield 83, 3) := by decide +kernel
theorem dX9_asked_4 : decode cX9_asked 4 = .ok (.ireturn, 1) := by decide +kernel
set_option maxRecDepth 20000 in
theorem ggX9_count_X9_totalOf : GoodIn wsX9_count wsX9_totalOf := goodIn_r _ [9, 10, 11, 12, 13, 14, 15, 16] (by decide +kernel) (by decide +kernel)
set_option maxRecDepth 20000 in
theorem gX9_count_X9_totalOf : GoodIn wsX9_count (va_wsS RX9 263 yX9_totalOf wsX9_totalOf) := goodIn_app (goodIn_of _ (by decide +kernel)) ggX9_count_X9_totalOf
set_option maxRecDepth 20000 in
theorem ggX9_count_X9_lookAtKept : GoodIn wsX9_count wsX9_lookAtKept := goodIn_r _ [20, 1, 4, 21, 22, 23, 8, 24, 3, 2, 25, 26, 27, 28, 29, 30, 31, 32, 33, 34, 35, 36, 37, 38, 39, 40, 41, 42, 43, 44, 45, 46, 47, 48, 49, 50, 51, 52, 53, 54, 55, 56, 57, 58, 59, 60, 61, 62, 63, 64, 65, 66, 67, 68, 73, 74, 75, 76, 69, 70, 71, 72] (by decide +kernel) (by decide +kernel)
set_option maxRecDepth 20000 in
theorem gX9_count_X9_lookAtKept : GoodIn wsX9_count (wsV RX9 168 RX9 yX9_lookAtKept wsX9_lookAtKept) := goodIn_app (goodIn_of _ (by decide +kernel)) ggX9_count_X9_lookAtKept
theorem dX9_count_0 : decode cX9_count 0 = .ok (.iload_n 1, 1) := by decide +kernel
theorem dX9_count_1 : decode cX9_count 1 = .ok (.tableswitch 115 0 5 #[39, 47, 55, 63, 81, 100], 39) := by decide +kernel
theorem dX9_count_40 : decode cX9_count 40 = .ok (.aload_n 0, 1) := by decide +kernel
theorem dX9_count_41 : decode cX9_count 41 = .ok (.getfield 19, 3) := by decide +kernel
theorem dX9_count_44 : decode cX9_count 44 = .ok (.getfield 93, 3) := by decide +kernel
theorem dX9_count_47 : decode cX9_count 47 = .ok (.ireturn, 1) := by decide +kernel
theorem dX9_count_48 : decode cX9_count 48 = .ok (.aload_n 0, 1) := by decide +kernel
theorem dX9_count_49 : decode cX9_count 49 = .ok (.getfield 10, 3) := by decide +kernel
theorem dX9_count_52 : decode cX9_count 52 = .ok (.getfield 134, 3) := by decide +kernel
theorem dX9_count_55 : decode cX9_count 55 = .ok (.ireturn, 1) := by decide +kernel
theorem dX9_count_56 : decode cX9_count 56 = .ok (.aload_n 0, 1) := by decide +kernel
theorem dX9_count_57 : decode cX9_count 57 = .ok (.getfield 26, 3) := by decide +kernel
theorem dX9_count_60 : decode cX9_count 60 = .ok (.getfield 140, 3) := by decide +kernel
theorem dX9_count_63 : decode cX9_count 63 = .ok (.ireturn, 1) := by decide +kernel
theorem dX9_count_64 : decode cX9_count 64 = .ok (.aload_n 0, 1) := by decide +kernel
theorem dX9_count_65 : decode cX9_count 65 = .ok (.getfield 19, 3) := by decide +kernel
theorem dX9_count_68 : decode cX9_count 68 = .ok (.getfield 112, 3) := by decide +kernel
theorem dX9_count_71 : decode cX9_count 71 = .ok (.aload_n 0, 1) := by decide +kernel
theorem dX9_count_72 : decode cX9_count 72 = .ok (.getfield 19, 3) := by decide +kernel
theorem dX9_count_75 : decode cX9_count 75 = .ok (.getfield 93, 3) := by decide +kernel
theorem dX9_count_78 : decode cX9_count 78 = .ok (.invokestatic 263, 3) := by decide +kernel
theorem dX9_count_81 : decode cX9_count 81 = .ok (.ireturn, 1) := by decide +kernel
theorem dX9_count_82 : decode cX9_count 82 = .ok (.aload_n 0, 1) := by decide +kernel
theorem dX9_count_83 : decode cX9_count 83 = .ok (.invokevirtual 168, 3) := by decide +kernel
theorem dX9_count_86 : decode cX9_count 86 = .ok (.aload_n 0, 1) := by decide +kernel
theorem dX9_count_87 : decode cX9_count 87 = .ok (.getfield 72, 3) := by decide +kernel
theorem dX9_count_90 : decode cX9_count 90 = .ok (.aload_n 0, 1) := by decide +kernel
theorem dX9_count_91 : decode cX9_count 91 = .ok (.getfield 19, 3) := by decide +kernel
theorem dX9_count_94 : decode cX9_count 94 = .ok (.getfield 93, 3) := by decide +kernel
theorem dX9_count_97 : decode cX9_count 97 = .ok (.invokestatic 263, 3) := by decide +kernel
theorem dX9_count_100 : decode cX9_count 100 = .ok (.ireturn, 1) := by decide +kernel
theorem dX9_count_101 : decode cX9_count 101 = .ok (.aload_n 0, 1) := by decide +kernel
theorem dX9_count_102 : decode cX9_count 102 = .ok (.getfield 47, 3) := by decide +kernel
theorem dX9_count_105 : decode cX9_count 105 = .ok (.getfield 266, 3) := by decide +kernel
theorem dX9_count_108 : decode cX9_count 108 = .ok (.bipush 12, 2) := by decide +kernel
theorem dX9_count_110 : decode cX9_count 110 = .ok (.invokestatic 263, 3) := by decide +kernel
theorem dX9_count_113 : decode cX9_count 113 = .ok (.iconst 2, 1) := by decide +kernel
theorem dX9_count_114 : decode cX9_count 114 = .ok (.idiv, 1) := by decide +kernel
theorem dX9_count_115 : decode cX9_count 115 = .ok (.ireturn, 1) := by decide +kernel
theorem dX9_count_116 : decode cX9_count 116 = .ok (.iconst (-1), 1) := by decide +kernel
theorem dX9_count_117 : decode cX9_count 117 = .ok (.ireturn, 1) := by decide +kernel
theorem dX9_finding_0 : decode cX9_finding 0 = .ok (.aload_n 0, 1) := by decide +kernel
theorem dX9_finding_1 : decode cX9_finding 1 = .ok (.getfield 68, 3) := by decide +kernel
theorem dX9_finding_4 : decode cX9_finding 4 = .ok (.getfield 269, 3) := by decide +kernel
theorem dX9_finding_7 : decode cX9_finding 7 = .ok (.ireturn, 1) := by decide +kernel
theorem dX9_findings_0 : decode cX9_findings 0 = .ok (.iload_n 1, 1) := by decide +kernel
theorem dX9_findings_1 : decode cX9_findings 1 = .ok (.iconst 1, 1) := by decide +kernel
theorem dX9_findings_2 : decode cX9_findings 2 = .ok (.if_icmp .lt 8, 3) := by decide +kernel
theorem dX9_findings_5 : decode cX9_findings 5 = .ok (.iload_n 1, 1) := by decide +kernel
theorem dX9_findings_6 : decode cX9_findings 6 = .ok (.iconst 4, 1) := by decide +kernel
theorem dX9_findings_7 : decode cX9_findings 7 = .ok (.if_icmp .le 5, 3) := by decide +kernel
theorem dX9_findings_10 : decode cX9_findings 10 = .ok (.iconst (-1), 1) := by decide +kernel
theorem dX9_findings_11 : decode cX9_findings 11 = .ok (.ireturn, 1) := by decide +kernel
theorem dX9_findings_12 : decode cX9_findings 12 = .ok (.aload_n 0, 1) := by decide +kernel
theorem dX9_findings_13 : decode cX9_findings 13 = .ok (.getfield 68, 3) := by decide +kernel
theorem dX9_findings_16 : decode cX9_findings 16 = .ok (.getfield 272, 3) := by decide +kernel
theorem dX9_findings_19 : decode cX9_findings 19 = .ok (.iload_n 1, 1) := by decide +kernel
theorem dX9_findings_20 : decode cX9_findings 20 = .ok (.iaload, 1) := by decide +kernel
theorem dX9_findings_21 : decode cX9_findings 21 = .ok (.ireturn, 1) := by decide +kernel
set_option maxRecDepth 20000 in
theorem ggX9_digest_X9_digestOfPeople : GoodIn wsX9_digest wsX9_digestOfPeople := goodIn_r _ [11, 12, 2, 13, 5, 14, 15, 16, 10, 17, 18, 19, 20, 21, 4, 3, 22, 23, 24, 25, 26, 27, 28, 29, 30, 31, 32, 33, 34, 35, 36, 37, 38, 39, 40, 41, 42, 43, 44, 45, 46, 47, 48, 49, 50, 62, 63, 64, 65, 66, 67, 68, 69, 70, 71, 72, 73, 74, 84, 85, 86, 87, 88, 79, 80, 81, 82, 75, 76, 77, 78] (by decide +kernel) (by decide +kernel)
set_option maxRecDepth 20000 in
theorem gX9_digest_X9_digestOfPeople : GoodIn wsX9_digest (wsV RX9 277 RX9 yX9_digestOfPeople wsX9_digestOfPeople) := goodIn_app (goodIn_of _ (by decide +kernel)) ggX9_digest_X9_digestOfPeople
set_option maxRecDepth 20000 in
theorem ggX9_digest_X9_digestOfSheets : GoodIn wsX9_digest wsX9_digestOfSheets := goodIn_r _ [54, 2, 55, 56, 57, 58, 59, 60, 61, 62, 63, 64, 65, 66, 67, 68, 69, 70, 71, 72, 73, 74, 89, 90] (by decide +kernel) (by decide +kernel)
set_option maxRecDepth 20000 in
theorem gX9_digest_X9_digestOfSheets : GoodIn wsX9_digest (wsV RX9 283 RX9 yX9_digestOfSheets wsX9_digestOfSheets) := goodIn_app (goodIn_of _ (by decide +kernel)) ggX9_digest_X9_digestOfSheets
theorem dX9_digest_0 : decode cX9_digest 0 = .ok (.aload_n 0, 1) := by decide +kernel
theorem dX9_digest_1 : decode cX9_digest 1 = .ok (.ldc2_w 275, 3) := by decide +kernel
theorem dX9_digest_4 : decode cX9_digest 4 = .ok (.invokevirtual 277, 3) := by decide +kernel
theorem dX9_digest_7 : decode cX9_digest 7 = .ok (.lstore_n 1, 1) := by decide +kernel
theorem dX9_digest_8 : decode cX9_digest 8 = .ok (.ldc2_w 281, 3) := by decide +kernel
theorem dX9_digest_11 : decode cX9_digest 11 = .ok (.lload_n 1, 1) := by decide +kernel
theorem dX9_digest_12 : decode cX9_digest 12 = .ok (.lmul, 1) := by decide +kernel
theorem dX9_digest_13 : decode cX9_digest 13 = .ok (.aload_n 0, 1) := by decide +kernel
theorem dX9_digest_14 : decode cX9_digest 14 = .ok (.getfield 79, 3) := by decide +kernel
theorem dX9_digest_17 : decode cX9_digest 17 = .ok (.i2l, 1) := by decide +kernel
theorem dX9_digest_18 : decode cX9_digest 18 = .ok (.ladd, 1) := by decide +kernel
theorem dX9_digest_19 : decode cX9_digest 19 = .ok (.lstore_n 1, 1) := by decide +kernel
theorem dX9_digest_20 : decode cX9_digest 20 = .ok (.ldc2_w 281, 3) := by decide +kernel
theorem dX9_digest_23 : decode cX9_digest 23 = .ok (.lload_n 1, 1) := by decide +kernel
theorem dX9_digest_24 : decode cX9_digest 24 = .ok (.lmul, 1) := by decide +kernel
theorem dX9_digest_25 : decode cX9_digest 25 = .ok (.aload_n 0, 1) := by decide +kernel
theorem dX9_digest_26 : decode cX9_digest 26 = .ok (.getfield 10, 3) := by decide +kernel
theorem dX9_digest_29 : decode cX9_digest 29 = .ok (.getfield 134, 3) := by decide +kernel
theorem dX9_digest_32 : decode cX9_digest 32 = .ok (.i2l, 1) := by decide +kernel
theorem dX9_digest_33 : decode cX9_digest 33 = .ok (.ladd, 1) := by decide +kernel
theorem dX9_digest_34 : decode cX9_digest 34 = .ok (.lstore_n 1, 1) := by decide +kernel
theorem dX9_digest_35 : decode cX9_digest 35 = .ok (.iconst 0, 1) := by decide +kernel
theorem dX9_digest_36 : decode cX9_digest 36 = .ok (.istore_n 3, 1) := by decide +kernel
theorem dX9_digest_37 : decode cX9_digest 37 = .ok (.iload_n 3, 1) := by decide +kernel
theorem dX9_digest_38 : decode cX9_digest 38 = .ok (.aload_n 0, 1) := by decide +kernel
theorem dX9_digest_39 : decode cX9_digest 39 = .ok (.getfield 26, 3) := by decide +kernel
theorem dX9_digest_42 : decode cX9_digest 42 = .ok (.getfield 140, 3) := by decide +kernel
theorem dX9_digest_45 : decode cX9_digest 45 = .ok (.if_icmp .ge 60, 3) := by decide +kernel
theorem dX9_digest_48 : decode cX9_digest 48 = .ok (.ldc2_w 281, 3) := by decide +kernel
theorem dX9_digest_51 : decode cX9_digest 51 = .ok (.lload_n 1, 1) := by decide +kernel
theorem dX9_digest_52 : decode cX9_digest 52 = .ok (.lmul, 1) := by decide +kernel
theorem dX9_digest_53 : decode cX9_digest 53 = .ok (.aload_n 0, 1) := by decide +kernel
theorem dX9_digest_54 : decode cX9_digest 54 = .ok (.getfield 26, 3) := by decide +kernel
theorem dX9_digest_57 : decode cX9_digest 57 = .ok (.getfield 227, 3) := by decide +kernel
theorem dX9_digest_60 : decode cX9_digest 60 = .ok (.iload_n 3, 1) := by decide +kernel
theorem dX9_digest_61 : decode cX9_digest 61 = .ok (.iaload, 1) := by decide +kernel
theorem dX9_digest_62 : decode cX9_digest 62 = .ok (.i2l, 1) := by decide +kernel
theorem dX9_digest_63 : decode cX9_digest 63 = .ok (.ladd, 1) := by decide +kernel
theorem dX9_digest_64 : decode cX9_digest 64 = .ok (.lstore_n 1, 1) := by decide +kernel
theorem dX9_digest_65 : decode cX9_digest 65 = .ok (.ldc2_w 281, 3) := by decide +kernel
theorem dX9_digest_68 : decode cX9_digest 68 = .ok (.lload_n 1, 1) := by decide +kernel
theorem dX9_digest_69 : decode cX9_digest 69 = .ok (.lmul, 1) := by decide +kernel
theorem dX9_digest_70 : decode cX9_digest 70 = .ok (.aload_n 0, 1) := by decide +kernel
theorem dX9_digest_71 : decode cX9_digest 71 = .ok (.getfield 26, 3) := by decide +kernel
theorem dX9_digest_74 : decode cX9_digest 74 = .ok (.getfield 230, 3) := by decide +kernel
theorem dX9_digest_77 : decode cX9_digest 77 = .ok (.iload_n 3, 1) := by decide +kernel
theorem dX9_digest_78 : decode cX9_digest 78 = .ok (.iaload, 1) := by decide +kernel
theorem dX9_digest_79 : decode cX9_digest 79 = .ok (.i2l, 1) := by decide +kernel
theorem dX9_digest_80 : decode cX9_digest 80 = .ok (.ladd, 1) := by decide +kernel
theorem dX9_digest_81 : decode cX9_digest 81 = .ok (.lstore_n 1, 1) := by decide +kernel
theorem dX9_digest_82 : decode cX9_digest 82 = .ok (.ldc2_w 281, 3) := by decide +kernel
theorem dX9_digest_85 : decode cX9_digest 85 = .ok (.lload_n 1, 1) := by decide +kernel
theorem dX9_digest_86 : decode cX9_digest 86 = .ok (.lmul, 1) := by decide +kernel
theorem dX9_digest_87 : decode cX9_digest 87 = .ok (.aload_n 0, 1) := by decide +kernel
theorem dX9_digest_88 : decode cX9_digest 88 = .ok (.getfield 26, 3) := by decide +kernel
theorem dX9_digest_91 : decode cX9_digest 91 = .ok (.getfield 233, 3) := by decide +kernel
theorem dX9_digest_94 : decode cX9_digest 94 = .ok (.iload_n 3, 1) := by decide +kernel
theorem dX9_digest_95 : decode cX9_digest 95 = .ok (.iaload, 1) := by decide +kernel
theorem dX9_digest_96 : decode cX9_digest 96 = .ok (.i2l, 1) := by decide +kernel
theorem dX9_digest_97 : decode cX9_digest 97 = .ok (.ladd, 1) := by decide +kernel
theorem dX9_digest_98 : decode cX9_digest 98 = .ok (.lstore_n 1, 1) := by decide +kernel
theorem dX9_digest_99 : decode cX9_digest 99 = .ok (.iinc 3 1, 3) := by decide +kernel
theorem dX9_digest_102 : decode cX9_digest 102 = .ok (.goto (-65), 3) := by decide +kernel
theorem dX9_digest_105 : decode cX9_digest 105 = .ok (.iconst 0, 1) := by decide +kernel
theorem dX9_digest_106 : decode cX9_digest 106 = .ok (.istore_n 3, 1) := by decide +kernel
theorem dX9_digest_107 : decode cX9_digest 107 = .ok (.iload_n 3, 1) := by decide +kernel
theorem dX9_digest_108 : decode cX9_digest 108 = .ok (.bipush 12, 2) := by decide +kernel
theorem dX9_digest_110 : decode cX9_digest 110 = .ok (.if_icmp .ge 26, 3) := by decide +kernel
theorem dX9_digest_113 : decode cX9_digest 113 = .ok (.ldc2_w 281, 3) := by decide +kernel
theorem dX9_digest_116 : decode cX9_digest 116 = .ok (.lload_n 1, 1) := by decide +kernel
theorem dX9_digest_117 : decode cX9_digest 117 = .ok (.lmul, 1) := by decide +kernel
theorem dX9_digest_118 : decode cX9_digest 118 = .ok (.aload_n 0, 1) := by decide +kernel
theorem dX9_digest_119 : decode cX9_digest 119 = .ok (.getfield 47, 3) := by decide +kernel
theorem dX9_digest_122 : decode cX9_digest 122 = .ok (.getfield 266, 3) := by decide +kernel
theorem dX9_digest_125 : decode cX9_digest 125 = .ok (.iload_n 3, 1) := by decide +kernel
theorem dX9_digest_126 : decode cX9_digest 126 = .ok (.iaload, 1) := by decide +kernel
theorem dX9_digest_127 : decode cX9_digest 127 = .ok (.i2l, 1) := by decide +kernel
theorem dX9_digest_128 : decode cX9_digest 128 = .ok (.ladd, 1) := by decide +kernel
theorem dX9_digest_129 : decode cX9_digest 129 = .ok (.lstore_n 1, 1) := by decide +kernel
theorem dX9_digest_130 : decode cX9_digest 130 = .ok (.iinc 3 1, 3) := by decide +kernel
theorem dX9_digest_133 : decode cX9_digest 133 = .ok (.goto (-26), 3) := by decide +kernel
theorem dX9_digest_136 : decode cX9_digest 136 = .ok (.aload_n 0, 1) := by decide +kernel
theorem dX9_digest_137 : decode cX9_digest 137 = .ok (.lload_n 1, 1) := by decide +kernel
theorem dX9_digest_138 : decode cX9_digest 138 = .ok (.invokevirtual 283, 3) := by decide +kernel
theorem dX9_digest_141 : decode cX9_digest 141 = .ok (.lreturn, 1) := by decide +kernel
set_option maxRecDepth 20000 in
theorem ggX9_digestOfPeople_X9_lookAtKept : GoodIn wsX9_digestOfPeople wsX9_lookAtKept := goodIn_r _ [9, 1, 3, 10, 11, 12, 8, 13, 4, 14, 15, 16, 17, 18, 19, 20, 21, 22, 23, 24, 25, 26, 27, 28, 29, 30, 31, 32, 33, 34, 35, 36, 37, 38, 39, 40, 45, 46, 47, 48, 49, 50, 51, 52, 53, 54, 55, 56, 57, 58, 59, 60, 61, 62, 63, 64, 65, 66, 67, 68, 69, 70] (by decide +kernel) (by decide +kernel)
set_option maxRecDepth 20000 in
theorem gX9_digestOfPeople_X9_lookAtKept : GoodIn wsX9_digestOfPeople (wsV RX9 168 RX9 yX9_lookAtKept wsX9_lookAtKept) := goodIn_app (goodIn_of _ (by decide +kernel)) ggX9_digestOfPeople_X9_lookAtKept
set_option maxRecDepth 20000 in
theorem ggX9_digestOfPeople_X8_ofPerson : GoodIn wsX9_digestOfPeople wsX8_ofPerson := goodIn_r _ [44, 21, 22, 63, 64, 65, 66] (by decide +kernel) (by decide +kernel)
set_option maxRecDepth 20000 in
theorem gX9_digestOfPeople_X8_ofPerson : GoodIn wsX9_digestOfPeople (wsV RX9 122 RX8 yX8_ofPerson wsX8_ofPerson) := goodIn_app (goodIn_of _ (by decide +kernel)) ggX9_digestOfPeople_X8_ofPerson
theorem dX9_digestOfPeople_0 : decode cX9_digestOfPeople 0 = .ok (.lload_n 1, 1) := by decide +kernel
theorem dX9_digestOfPeople_1 : decode cX9_digestOfPeople 1 = .ok (.lstore_n 3, 1) := by decide +kernel
theorem dX9_digestOfPeople_2 : decode cX9_digestOfPeople 2 = .ok (.aload_n 0, 1) := by decide +kernel
theorem dX9_digestOfPeople_3 : decode cX9_digestOfPeople 3 = .ok (.invokevirtual 168, 3) := by decide +kernel
theorem dX9_digestOfPeople_6 : decode cX9_digestOfPeople 6 = .ok (.iconst 0, 1) := by decide +kernel
theorem dX9_digestOfPeople_7 : decode cX9_digestOfPeople 7 = .ok (.istore 5, 2) := by decide +kernel
theorem dX9_digestOfPeople_9 : decode cX9_digestOfPeople 9 = .ok (.iload 5, 2) := by decide +kernel
theorem dX9_digestOfPeople_11 : decode cX9_digestOfPeople 11 = .ok (.aload_n 0, 1) := by decide +kernel
theorem dX9_digestOfPeople_12 : decode cX9_digestOfPeople 12 = .ok (.getfield 19, 3) := by decide +kernel
theorem dX9_digestOfPeople_15 : decode cX9_digestOfPeople 15 = .ok (.getfield 93, 3) := by decide +kernel
theorem dX9_digestOfPeople_18 : decode cX9_digestOfPeople 18 = .ok (.if_icmp .ge 95, 3) := by decide +kernel
theorem dX9_digestOfPeople_21 : decode cX9_digestOfPeople 21 = .ok (.ldc2_w 281, 3) := by decide +kernel
theorem dX9_digestOfPeople_24 : decode cX9_digestOfPeople 24 = .ok (.lload_n 3, 1) := by decide +kernel
theorem dX9_digestOfPeople_25 : decode cX9_digestOfPeople 25 = .ok (.lmul, 1) := by decide +kernel
theorem dX9_digestOfPeople_26 : decode cX9_digestOfPeople 26 = .ok (.aload_n 0, 1) := by decide +kernel
theorem dX9_digestOfPeople_27 : decode cX9_digestOfPeople 27 = .ok (.getfield 19, 3) := by decide +kernel
theorem dX9_digestOfPeople_30 : decode cX9_digestOfPeople 30 = .ok (.getfield 109, 3) := by decide +kernel
theorem dX9_digestOfPeople_33 : decode cX9_digestOfPeople 33 = .ok (.iload 5, 2) := by decide +kernel
theorem dX9_digestOfPeople_35 : decode cX9_digestOfPeople 35 = .ok (.iaload, 1) := by decide +kernel
theorem dX9_digestOfPeople_36 : decode cX9_digestOfPeople 36 = .ok (.i2l, 1) := by decide +kernel
theorem dX9_digestOfPeople_37 : decode cX9_digestOfPeople 37 = .ok (.ladd, 1) := by decide +kernel
theorem dX9_digestOfPeople_38 : decode cX9_digestOfPeople 38 = .ok (.lstore_n 3, 1) := by decide +kernel
theorem dX9_digestOfPeople_39 : decode cX9_digestOfPeople 39 = .ok (.ldc2_w 281, 3) := by decide +kernel
theorem dX9_digestOfPeople_42 : decode cX9_digestOfPeople 42 = .ok (.lload_n 3, 1) := by decide +kernel
theorem dX9_digestOfPeople_43 : decode cX9_digestOfPeople 43 = .ok (.lmul, 1) := by decide +kernel
theorem dX9_digestOfPeople_44 : decode cX9_digestOfPeople 44 = .ok (.aload_n 0, 1) := by decide +kernel
theorem dX9_digestOfPeople_45 : decode cX9_digestOfPeople 45 = .ok (.getfield 19, 3) := by decide +kernel
theorem dX9_digestOfPeople_48 : decode cX9_digestOfPeople 48 = .ok (.getfield 112, 3) := by decide +kernel
theorem dX9_digestOfPeople_51 : decode cX9_digestOfPeople 51 = .ok (.iload 5, 2) := by decide +kernel
theorem dX9_digestOfPeople_53 : decode cX9_digestOfPeople 53 = .ok (.iaload, 1) := by decide +kernel
theorem dX9_digestOfPeople_54 : decode cX9_digestOfPeople 54 = .ok (.i2l, 1) := by decide +kernel
theorem dX9_digestOfPeople_55 : decode cX9_digestOfPeople 55 = .ok (.ladd, 1) := by decide +kernel
theorem dX9_digestOfPeople_56 : decode cX9_digestOfPeople 56 = .ok (.lstore_n 3, 1) := by decide +kernel
theorem dX9_digestOfPeople_57 : decode cX9_digestOfPeople 57 = .ok (.ldc2_w 281, 3) := by decide +kernel
theorem dX9_digestOfPeople_60 : decode cX9_digestOfPeople 60 = .ok (.lload_n 3, 1) := by decide +kernel
theorem dX9_digestOfPeople_61 : decode cX9_digestOfPeople 61 = .ok (.lmul, 1) := by decide +kernel
theorem dX9_digestOfPeople_62 : decode cX9_digestOfPeople 62 = .ok (.aload_n 0, 1) := by decide +kernel
theorem dX9_digestOfPeople_63 : decode cX9_digestOfPeople 63 = .ok (.getfield 72, 3) := by decide +kernel
theorem dX9_digestOfPeople_66 : decode cX9_digestOfPeople 66 = .ok (.iload 5, 2) := by decide +kernel
theorem dX9_digestOfPeople_68 : decode cX9_digestOfPeople 68 = .ok (.iaload, 1) := by decide +kernel
theorem dX9_digestOfPeople_69 : decode cX9_digestOfPeople 69 = .ok (.i2l, 1) := by decide +kernel
theorem dX9_digestOfPeople_70 : decode cX9_digestOfPeople 70 = .ok (.ladd, 1) := by decide +kernel
theorem dX9_digestOfPeople_71 : decode cX9_digestOfPeople 71 = .ok (.lstore_n 3, 1) := by decide +kernel
theorem dX9_digestOfPeople_72 : decode cX9_digestOfPeople 72 = .ok (.ldc2_w 281, 3) := by decide +kernel
theorem dX9_digestOfPeople_75 : decode cX9_digestOfPeople 75 = .ok (.lload_n 3, 1) := by decide +kernel
theorem dX9_digestOfPeople_76 : decode cX9_digestOfPeople 76 = .ok (.lmul, 1) := by decide +kernel
theorem dX9_digestOfPeople_77 : decode cX9_digestOfPeople 77 = .ok (.aload_n 0, 1) := by decide +kernel
theorem dX9_digestOfPeople_78 : decode cX9_digestOfPeople 78 = .ok (.getfield 19, 3) := by decide +kernel
theorem dX9_digestOfPeople_81 : decode cX9_digestOfPeople 81 = .ok (.getfield 119, 3) := by decide +kernel
theorem dX9_digestOfPeople_84 : decode cX9_digestOfPeople 84 = .ok (.iload 5, 2) := by decide +kernel
theorem dX9_digestOfPeople_86 : decode cX9_digestOfPeople 86 = .ok (.iaload, 1) := by decide +kernel
theorem dX9_digestOfPeople_87 : decode cX9_digestOfPeople 87 = .ok (.i2l, 1) := by decide +kernel
theorem dX9_digestOfPeople_88 : decode cX9_digestOfPeople 88 = .ok (.ladd, 1) := by decide +kernel
theorem dX9_digestOfPeople_89 : decode cX9_digestOfPeople 89 = .ok (.lstore_n 3, 1) := by decide +kernel
theorem dX9_digestOfPeople_90 : decode cX9_digestOfPeople 90 = .ok (.ldc2_w 281, 3) := by decide +kernel
theorem dX9_digestOfPeople_93 : decode cX9_digestOfPeople 93 = .ok (.lload_n 3, 1) := by decide +kernel
theorem dX9_digestOfPeople_94 : decode cX9_digestOfPeople 94 = .ok (.lmul, 1) := by decide +kernel
theorem dX9_digestOfPeople_95 : decode cX9_digestOfPeople 95 = .ok (.aload_n 0, 1) := by decide +kernel
theorem dX9_digestOfPeople_96 : decode cX9_digestOfPeople 96 = .ok (.getfield 26, 3) := by decide +kernel
theorem dX9_digestOfPeople_99 : decode cX9_digestOfPeople 99 = .ok (.iload 5, 2) := by decide +kernel
theorem dX9_digestOfPeople_101 : decode cX9_digestOfPeople 101 = .ok (.invokevirtual 122, 3) := by decide +kernel
theorem dX9_digestOfPeople_104 : decode cX9_digestOfPeople 104 = .ok (.i2l, 1) := by decide +kernel
theorem dX9_digestOfPeople_105 : decode cX9_digestOfPeople 105 = .ok (.ladd, 1) := by decide +kernel
theorem dX9_digestOfPeople_106 : decode cX9_digestOfPeople 106 = .ok (.lstore_n 3, 1) := by decide +kernel
theorem dX9_digestOfPeople_107 : decode cX9_digestOfPeople 107 = .ok (.iinc 5 1, 3) := by decide +kernel
theorem dX9_digestOfPeople_110 : decode cX9_digestOfPeople 110 = .ok (.goto (-101), 3) := by decide +kernel
theorem dX9_digestOfPeople_113 : decode cX9_digestOfPeople 113 = .ok (.lload_n 3, 1) := by decide +kernel
theorem dX9_digestOfPeople_114 : decode cX9_digestOfPeople 114 = .ok (.lreturn, 1) := by decide +kernel
set_option maxRecDepth 20000 in
theorem ggX9_digestOfSheets_X7_at : GoodIn wsX9_digestOfSheets wsX7_at := goodIn_r _ [7, 8, 22, 23] (by decide +kernel) (by decide +kernel)
set_option maxRecDepth 20000 in
theorem gX9_digestOfSheets_X7_at : GoodIn wsX9_digestOfSheets (wsV RX9 253 RX7 yX7_at wsX7_at) := goodIn_app (goodIn_of _ (by decide +kernel)) ggX9_digestOfSheets_X7_at
theorem dX9_digestOfSheets_0 : decode cX9_digestOfSheets 0 = .ok (.lload_n 1, 1) := by decide +kernel
theorem dX9_digestOfSheets_1 : decode cX9_digestOfSheets 1 = .ok (.lstore_n 3, 1) := by decide +kernel
theorem dX9_digestOfSheets_2 : decode cX9_digestOfSheets 2 = .ok (.iconst 0, 1) := by decide +kernel
theorem dX9_digestOfSheets_3 : decode cX9_digestOfSheets 3 = .ok (.istore 5, 2) := by decide +kernel
theorem dX9_digestOfSheets_5 : decode cX9_digestOfSheets 5 = .ok (.iload 5, 2) := by decide +kernel
theorem dX9_digestOfSheets_7 : decode cX9_digestOfSheets 7 = .ok (.iconst 4, 1) := by decide +kernel
theorem dX9_digestOfSheets_8 : decode cX9_digestOfSheets 8 = .ok (.if_icmp .ge 70, 3) := by decide +kernel
theorem dX9_digestOfSheets_11 : decode cX9_digestOfSheets 11 = .ok (.ldc2_w 281, 3) := by decide +kernel
theorem dX9_digestOfSheets_14 : decode cX9_digestOfSheets 14 = .ok (.lload_n 3, 1) := by decide +kernel
theorem dX9_digestOfSheets_15 : decode cX9_digestOfSheets 15 = .ok (.lmul, 1) := by decide +kernel
theorem dX9_digestOfSheets_16 : decode cX9_digestOfSheets 16 = .ok (.aload_n 0, 1) := by decide +kernel
theorem dX9_digestOfSheets_17 : decode cX9_digestOfSheets 17 = .ok (.getfield 61, 3) := by decide +kernel
theorem dX9_digestOfSheets_20 : decode cX9_digestOfSheets 20 = .ok (.getfield 250, 3) := by decide +kernel
theorem dX9_digestOfSheets_23 : decode cX9_digestOfSheets 23 = .ok (.iload 5, 2) := by decide +kernel
theorem dX9_digestOfSheets_25 : decode cX9_digestOfSheets 25 = .ok (.iaload, 1) := by decide +kernel
theorem dX9_digestOfSheets_26 : decode cX9_digestOfSheets 26 = .ok (.i2l, 1) := by decide +kernel
theorem dX9_digestOfSheets_27 : decode cX9_digestOfSheets 27 = .ok (.ladd, 1) := by decide +kernel
theorem dX9_digestOfSheets_28 : decode cX9_digestOfSheets 28 = .ok (.lstore_n 3, 1) := by decide +kernel
theorem dX9_digestOfSheets_29 : decode cX9_digestOfSheets 29 = .ok (.iconst 0, 1) := by decide +kernel
theorem dX9_digestOfSheets_30 : decode cX9_digestOfSheets 30 = .ok (.istore 6, 2) := by decide +kernel
theorem dX9_digestOfSheets_32 : decode cX9_digestOfSheets 32 = .ok (.iload 6, 2) := by decide +kernel
theorem dX9_digestOfSheets_34 : decode cX9_digestOfSheets 34 = .ok (.aload_n 0, 1) := by decide +kernel
theorem dX9_digestOfSheets_35 : decode cX9_digestOfSheets 35 = .ok (.getfield 61, 3) := by decide +kernel
theorem dX9_digestOfSheets_38 : decode cX9_digestOfSheets 38 = .ok (.getfield 250, 3) := by decide +kernel
theorem dX9_digestOfSheets_41 : decode cX9_digestOfSheets 41 = .ok (.iload 5, 2) := by decide +kernel
theorem dX9_digestOfSheets_43 : decode cX9_digestOfSheets 43 = .ok (.iaload, 1) := by decide +kernel
theorem dX9_digestOfSheets_44 : decode cX9_digestOfSheets 44 = .ok (.if_icmp .ge 28, 3) := by decide +kernel
theorem dX9_digestOfSheets_47 : decode cX9_digestOfSheets 47 = .ok (.ldc2_w 281, 3) := by decide +kernel
theorem dX9_digestOfSheets_50 : decode cX9_digestOfSheets 50 = .ok (.lload_n 3, 1) := by decide +kernel
theorem dX9_digestOfSheets_51 : decode cX9_digestOfSheets 51 = .ok (.lmul, 1) := by decide +kernel
theorem dX9_digestOfSheets_52 : decode cX9_digestOfSheets 52 = .ok (.aload_n 0, 1) := by decide +kernel
theorem dX9_digestOfSheets_53 : decode cX9_digestOfSheets 53 = .ok (.getfield 61, 3) := by decide +kernel
theorem dX9_digestOfSheets_56 : decode cX9_digestOfSheets 56 = .ok (.iload 5, 2) := by decide +kernel
theorem dX9_digestOfSheets_58 : decode cX9_digestOfSheets 58 = .ok (.iload 6, 2) := by decide +kernel
theorem dX9_digestOfSheets_60 : decode cX9_digestOfSheets 60 = .ok (.invokevirtual 253, 3) := by decide +kernel
theorem dX9_digestOfSheets_63 : decode cX9_digestOfSheets 63 = .ok (.i2l, 1) := by decide +kernel
theorem dX9_digestOfSheets_64 : decode cX9_digestOfSheets 64 = .ok (.ladd, 1) := by decide +kernel
theorem dX9_digestOfSheets_65 : decode cX9_digestOfSheets 65 = .ok (.lstore_n 3, 1) := by decide +kernel
theorem dX9_digestOfSheets_66 : decode cX9_digestOfSheets 66 = .ok (.iinc 6 1, 3) := by decide +kernel
theorem dX9_digestOfSheets_69 : decode cX9_digestOfSheets 69 = .ok (.goto (-37), 3) := by decide +kernel
theorem dX9_digestOfSheets_72 : decode cX9_digestOfSheets 72 = .ok (.iinc 5 1, 3) := by decide +kernel
theorem dX9_digestOfSheets_75 : decode cX9_digestOfSheets 75 = .ok (.goto (-70), 3) := by decide +kernel
theorem dX9_digestOfSheets_78 : decode cX9_digestOfSheets 78 = .ok (.lload_n 3, 1) := by decide +kernel
theorem dX9_digestOfSheets_79 : decode cX9_digestOfSheets 79 = .ok (.lreturn, 1) := by decide +kernel
theorem dX9_noPerson_0 : decode cX9_noPerson 0 = .ok (.iload_n 1, 1) := by decide +kernel
theorem dX9_noPerson_1 : decode cX9_noPerson 1 = .ok (.ifCond .lt 14, 3) := by decide +kernel
theorem dX9_noPerson_4 : decode cX9_noPerson 4 = .ok (.iload_n 1, 1) := by decide +kernel
theorem dX9_noPerson_5 : decode cX9_noPerson 5 = .ok (.aload_n 0, 1) := by decide +kernel
theorem dX9_noPerson_6 : decode cX9_noPerson 6 = .ok (.getfield 19, 3) := by decide +kernel
theorem dX9_noPerson_9 : decode cX9_noPerson 9 = .ok (.getfield 93, 3) := by decide +kernel
theorem dX9_noPerson_12 : decode cX9_noPerson 12 = .ok (.if_icmp .lt 7, 3) := by decide +kernel
theorem dX9_noPerson_15 : decode cX9_noPerson 15 = .ok (.iconst 1, 1) := by decide +kernel
theorem dX9_noPerson_16 : decode cX9_noPerson 16 = .ok (.goto 4, 3) := by decide +kernel
theorem dX9_noPerson_19 : decode cX9_noPerson 19 = .ok (.iconst 0, 1) := by decide +kernel
theorem dX9_noPerson_20 : decode cX9_noPerson 20 = .ok (.ireturn, 1) := by decide +kernel
theorem dX9_noRight_0 : decode cX9_noRight 0 = .ok (.iload_n 0, 1) := by decide +kernel
theorem dX9_noRight_1 : decode cX9_noRight 1 = .ok (.ifCond .lt 9, 3) := by decide +kernel
theorem dX9_noRight_4 : decode cX9_noRight 4 = .ok (.iload_n 0, 1) := by decide +kernel
theorem dX9_noRight_5 : decode cX9_noRight 5 = .ok (.bipush 12, 2) := by decide +kernel
theorem dX9_noRight_7 : decode cX9_noRight 7 = .ok (.if_icmp .lt 7, 3) := by decide +kernel
theorem dX9_noRight_10 : decode cX9_noRight 10 = .ok (.iconst 1, 1) := by decide +kernel
theorem dX9_noRight_11 : decode cX9_noRight 11 = .ok (.goto 4, 3) := by decide +kernel
theorem dX9_noRight_14 : decode cX9_noRight 14 = .ok (.iconst 0, 1) := by decide +kernel
theorem dX9_noRight_15 : decode cX9_noRight 15 = .ok (.ireturn, 1) := by decide +kernel
theorem dX9_noMarkSet_0 : decode cX9_noMarkSet 0 = .ok (.iload_n 0, 1) := by decide +kernel
theorem dX9_noMarkSet_1 : decode cX9_noMarkSet 1 = .ok (.ifCond .lt 10, 3) := by decide +kernel
theorem dX9_noMarkSet_4 : decode cX9_noMarkSet 4 = .ok (.iload_n 0, 1) := by decide +kernel
theorem dX9_noMarkSet_5 : decode cX9_noMarkSet 5 = .ok (.sipush 256, 3) := by decide +kernel
theorem dX9_noMarkSet_8 : decode cX9_noMarkSet 8 = .ok (.if_icmp .lt 7, 3) := by decide +kernel
theorem dX9_noMarkSet_11 : decode cX9_noMarkSet 11 = .ok (.iconst 1, 1) := by decide +kernel
theorem dX9_noMarkSet_12 : decode cX9_noMarkSet 12 = .ok (.goto 4, 3) := by decide +kernel
theorem dX9_noMarkSet_15 : decode cX9_noMarkSet 15 = .ok (.iconst 0, 1) := by decide +kernel
theorem dX9_noMarkSet_16 : decode cX9_noMarkSet 16 = .ok (.ireturn, 1) := by decide +kernel
theorem dX9_noRightSet_0 : decode cX9_noRightSet 0 = .ok (.iload_n 0, 1) := by decide +kernel
theorem dX9_noRightSet_1 : decode cX9_noRightSet 1 = .ok (.ifCond .lt 10, 3) := by decide +kernel
theorem dX9_noRightSet_4 : decode cX9_noRightSet 4 = .ok (.iload_n 0, 1) := by decide +kernel
theorem dX9_noRightSet_5 : decode cX9_noRightSet 5 = .ok (.sipush 4096, 3) := by decide +kernel
theorem dX9_noRightSet_8 : decode cX9_noRightSet 8 = .ok (.if_icmp .lt 7, 3) := by decide +kernel
theorem dX9_noRightSet_11 : decode cX9_noRightSet 11 = .ok (.iconst 1, 1) := by decide +kernel
theorem dX9_noRightSet_12 : decode cX9_noRightSet 12 = .ok (.goto 4, 3) := by decide +kernel
theorem dX9_noRightSet_15 : decode cX9_noRightSet 15 = .ok (.iconst 0, 1) := by decide +kernel
theorem dX9_noRightSet_16 : decode cX9_noRightSet 16 = .ok (.ireturn, 1) := by decide +kernel
theorem dX9_noSheet_0 : decode cX9_noSheet 0 = .ok (.iload_n 0, 1) := by decide +kernel
theorem dX9_noSheet_1 : decode cX9_noSheet 1 = .ok (.ifCond .lt 8, 3) := by decide +kernel
theorem dX9_noSheet_4 : decode cX9_noSheet 4 = .ok (.iload_n 0, 1) := by decide +kernel
theorem dX9_noSheet_5 : decode cX9_noSheet 5 = .ok (.iconst 4, 1) := by decide +kernel
theorem dX9_noSheet_6 : decode cX9_noSheet 6 = .ok (.if_icmp .lt 7, 3) := by decide +kernel
theorem dX9_noSheet_9 : decode cX9_noSheet 9 = .ok (.iconst 1, 1) := by decide +kernel
theorem dX9_noSheet_10 : decode cX9_noSheet 10 = .ok (.goto 4, 3) := by decide +kernel
theorem dX9_noSheet_13 : decode cX9_noSheet 13 = .ok (.iconst 0, 1) := by decide +kernel
theorem dX9_noSheet_14 : decode cX9_noSheet 14 = .ok (.ireturn, 1) := by decide +kernel
theorem dX9_noLastDays_0 : decode cX9_noLastDays 0 = .ok (.iload_n 0, 1) := by decide +kernel
theorem dX9_noLastDays_1 : decode cX9_noLastDays 1 = .ok (.iconst 1, 1) := by decide +kernel
theorem dX9_noLastDays_2 : decode cX9_noLastDays 2 = .ok (.if_icmp .lt 10, 3) := by decide +kernel
theorem dX9_noLastDays_5 : decode cX9_noLastDays 5 = .ok (.iload_n 0, 1) := by decide +kernel
theorem dX9_noLastDays_6 : decode cX9_noLastDays 6 = .ok (.sipush 1000, 3) := by decide +kernel
theorem dX9_noLastDays_9 : decode cX9_noLastDays 9 = .ok (.if_icmp .le 7, 3) := by decide +kernel
theorem dX9_noLastDays_12 : decode cX9_noLastDays 12 = .ok (.iconst 1, 1) := by decide +kernel
theorem dX9_noLastDays_13 : decode cX9_noLastDays 13 = .ok (.goto 4, 3) := by decide +kernel
theorem dX9_noLastDays_16 : decode cX9_noLastDays 16 = .ok (.iconst 0, 1) := by decide +kernel
theorem dX9_noLastDays_17 : decode cX9_noLastDays 17 = .ok (.ireturn, 1) := by decide +kernel
set_option maxRecDepth 20000 in
theorem ggX9_keptOf_X8_recent : GoodIn wsX9_keptOf wsX8_recent := goodIn_r _ [9, 10, 11, 12, 13, 14, 15, 16, 17, 18, 19, 48, 49, 50, 51, 52, 53, 54, 55] (by decide +kernel) (by decide +kernel)
set_option maxRecDepth 20000 in
theorem gX9_keptOf_X8_recent : GoodIn wsX9_keptOf (wsV RX9 286 RX8 yX8_recent wsX8_recent) := goodIn_app (goodIn_of _ (by decide +kernel)) ggX9_keptOf_X8_recent
set_option maxRecDepth 20000 in
theorem ggX9_keptOf_X8_seasonal : GoodIn wsX9_keptOf wsX8_seasonal := goodIn_r _ [23, 10, 11, 12, 13, 14, 15, 16, 17, 18, 19, 24, 25, 26, 27, 28, 29, 48, 49, 50, 51, 52, 53, 54, 55] (by decide +kernel) (by decide +kernel)
set_option maxRecDepth 20000 in
theorem gX9_keptOf_X8_seasonal : GoodIn wsX9_keptOf (wsV RX9 290 RX8 yX8_seasonal wsX8_seasonal) := goodIn_app (goodIn_of _ (by decide +kernel)) ggX9_keptOf_X8_seasonal
theorem dX9_keptOf_0 : decode cX9_keptOf 0 = .ok (.aload_n 0, 1) := by decide +kernel
theorem dX9_keptOf_1 : decode cX9_keptOf 1 = .ok (.getfield 26, 3) := by decide +kernel
theorem dX9_keptOf_4 : decode cX9_keptOf 4 = .ok (.iload_n 1, 1) := by decide +kernel
theorem dX9_keptOf_5 : decode cX9_keptOf 5 = .ok (.aload_n 0, 1) := by decide +kernel
theorem dX9_keptOf_6 : decode cX9_keptOf 6 = .ok (.getfield 10, 3) := by decide +kernel
theorem dX9_keptOf_9 : decode cX9_keptOf 9 = .ok (.invokevirtual 286, 3) := by decide +kernel
theorem dX9_keptOf_12 : decode cX9_keptOf 12 = .ok (.aload_n 0, 1) := by decide +kernel
theorem dX9_keptOf_13 : decode cX9_keptOf 13 = .ok (.getfield 26, 3) := by decide +kernel
theorem dX9_keptOf_16 : decode cX9_keptOf 16 = .ok (.iload_n 1, 1) := by decide +kernel
theorem dX9_keptOf_17 : decode cX9_keptOf 17 = .ok (.aload_n 0, 1) := by decide +kernel
theorem dX9_keptOf_18 : decode cX9_keptOf 18 = .ok (.getfield 10, 3) := by decide +kernel
theorem dX9_keptOf_21 : decode cX9_keptOf 21 = .ok (.invokevirtual 290, 3) := by decide +kernel
theorem dX9_keptOf_24 : decode cX9_keptOf 24 = .ok (.ior, 1) := by decide +kernel
theorem dX9_keptOf_25 : decode cX9_keptOf 25 = .ok (.aload_n 0, 1) := by decide +kernel
theorem dX9_keptOf_26 : decode cX9_keptOf 26 = .ok (.getfield 79, 3) := by decide +kernel
theorem dX9_keptOf_29 : decode cX9_keptOf 29 = .ok (.ior, 1) := by decide +kernel
theorem dX9_keptOf_30 : decode cX9_keptOf 30 = .ok (.istore_n 2, 1) := by decide +kernel
theorem dX9_keptOf_31 : decode cX9_keptOf 31 = .ok (.aload_n 0, 1) := by decide +kernel
theorem dX9_keptOf_32 : decode cX9_keptOf 32 = .ok (.getfield 19, 3) := by decide +kernel
theorem dX9_keptOf_35 : decode cX9_keptOf 35 = .ok (.getfield 112, 3) := by decide +kernel
theorem dX9_keptOf_38 : decode cX9_keptOf 38 = .ok (.iload_n 1, 1) := by decide +kernel
theorem dX9_keptOf_39 : decode cX9_keptOf 39 = .ok (.iaload, 1) := by decide +kernel
theorem dX9_keptOf_40 : decode cX9_keptOf 40 = .ok (.iload_n 2, 1) := by decide +kernel
theorem dX9_keptOf_41 : decode cX9_keptOf 41 = .ok (.iand, 1) := by decide +kernel
theorem dX9_keptOf_42 : decode cX9_keptOf 42 = .ok (.ireturn, 1) := by decide +kernel
set_option maxRecDepth 20000 in
theorem ggX9_lookAtKept_X9_keptOf : GoodIn wsX9_lookAtKept wsX9_keptOf := goodIn_r _ [7, 8, 9, 10, 1, 11, 12, 13, 14, 15, 16, 17, 18, 19, 20, 21, 22, 23, 24, 25, 26, 27, 28, 29, 30, 31, 32, 33, 34, 35, 36, 37, 38, 39, 40, 41, 42, 43, 44, 45, 46, 47, 48, 49, 50, 51, 52, 53, 54, 55, 56, 57, 58, 59, 60, 61] (by decide +kernel) (by decide +kernel)
set_option maxRecDepth 20000 in
theorem gX9_lookAtKept_X9_keptOf : GoodIn wsX9_lookAtKept (wsV RX9 115 RX9 yX9_keptOf wsX9_keptOf) := goodIn_app (goodIn_of _ (by decide +kernel)) ggX9_lookAtKept_X9_keptOf
theorem dX9_lookAtKept_0 : decode cX9_lookAtKept 0 = .ok (.iconst 0, 1) := by decide +kernel
theorem dX9_lookAtKept_1 : decode cX9_lookAtKept 1 = .ok (.istore_n 1, 1) := by decide +kernel
theorem dX9_lookAtKept_2 : decode cX9_lookAtKept 2 = .ok (.iload_n 1, 1) := by decide +kernel
theorem dX9_lookAtKept_3 : decode cX9_lookAtKept 3 = .ok (.aload_n 0, 1) := by decide +kernel
theorem dX9_lookAtKept_4 : decode cX9_lookAtKept 4 = .ok (.getfield 19, 3) := by decide +kernel
theorem dX9_lookAtKept_7 : decode cX9_lookAtKept 7 = .ok (.getfield 93, 3) := by decide +kernel
theorem dX9_lookAtKept_10 : decode cX9_lookAtKept 10 = .ok (.if_icmp .ge 20, 3) := by decide +kernel
theorem dX9_lookAtKept_13 : decode cX9_lookAtKept 13 = .ok (.aload_n 0, 1) := by decide +kernel
theorem dX9_lookAtKept_14 : decode cX9_lookAtKept 14 = .ok (.getfield 72, 3) := by decide +kernel
theorem dX9_lookAtKept_17 : decode cX9_lookAtKept 17 = .ok (.iload_n 1, 1) := by decide +kernel
theorem dX9_lookAtKept_18 : decode cX9_lookAtKept 18 = .ok (.aload_n 0, 1) := by decide +kernel
theorem dX9_lookAtKept_19 : decode cX9_lookAtKept 19 = .ok (.iload_n 1, 1) := by decide +kernel
theorem dX9_lookAtKept_20 : decode cX9_lookAtKept 20 = .ok (.invokevirtual 115, 3) := by decide +kernel
theorem dX9_lookAtKept_23 : decode cX9_lookAtKept 23 = .ok (.iastore, 1) := by decide +kernel
theorem dX9_lookAtKept_24 : decode cX9_lookAtKept 24 = .ok (.iinc 1 1, 3) := by decide +kernel
theorem dX9_lookAtKept_27 : decode cX9_lookAtKept 27 = .ok (.goto (-25), 3) := by decide +kernel
theorem dX9_lookAtKept_30 : decode cX9_lookAtKept 30 = .ok (.return_, 1) := by decide +kernel
set_option maxRecDepth 20000 in
theorem ggX9_kindOf_X8_recent : GoodIn wsX9_kindOf wsX8_recent := goodIn_r _ [8, 9, 10, 11, 12, 13, 14, 15, 16, 17, 18, 42, 43, 44, 45, 46, 47, 48, 49] (by decide +kernel) (by decide +kernel)
set_option maxRecDepth 20000 in
theorem gX9_kindOf_X8_recent : GoodIn wsX9_kindOf (wsV RX9 286 RX8 yX8_recent wsX8_recent) := goodIn_app (goodIn_of _ (by decide +kernel)) ggX9_kindOf_X8_recent
set_option maxRecDepth 20000 in
theorem ggX9_kindOf_X8_seasonal : GoodIn wsX9_kindOf wsX8_seasonal := goodIn_r _ [22, 9, 10, 11, 12, 13, 14, 15, 16, 17, 18, 23, 24, 25, 26, 27, 28, 42, 43, 44, 45, 46, 47, 48, 49] (by decide +kernel) (by decide +kernel)
set_option maxRecDepth 20000 in
theorem gX9_kindOf_X8_seasonal : GoodIn wsX9_kindOf (wsV RX9 290 RX8 yX8_seasonal wsX8_seasonal) := goodIn_app (goodIn_of _ (by decide +kernel)) ggX9_kindOf_X8_seasonal
theorem dX9_kindOf_0 : decode cX9_kindOf 0 = .ok (.iconst 1, 1) := by decide +kernel
theorem dX9_kindOf_1 : decode cX9_kindOf 1 = .ok (.iload_n 2, 1) := by decide +kernel
theorem dX9_kindOf_2 : decode cX9_kindOf 2 = .ok (.ishl, 1) := by decide +kernel
theorem dX9_kindOf_3 : decode cX9_kindOf 3 = .ok (.istore_n 3, 1) := by decide +kernel
theorem dX9_kindOf_4 : decode cX9_kindOf 4 = .ok (.aload_n 0, 1) := by decide +kernel
theorem dX9_kindOf_5 : decode cX9_kindOf 5 = .ok (.getfield 26, 3) := by decide +kernel
theorem dX9_kindOf_8 : decode cX9_kindOf 8 = .ok (.iload_n 1, 1) := by decide +kernel
theorem dX9_kindOf_9 : decode cX9_kindOf 9 = .ok (.aload_n 0, 1) := by decide +kernel
theorem dX9_kindOf_10 : decode cX9_kindOf 10 = .ok (.getfield 10, 3) := by decide +kernel
theorem dX9_kindOf_13 : decode cX9_kindOf 13 = .ok (.invokevirtual 286, 3) := by decide +kernel
theorem dX9_kindOf_16 : decode cX9_kindOf 16 = .ok (.iload_n 3, 1) := by decide +kernel
theorem dX9_kindOf_17 : decode cX9_kindOf 17 = .ok (.iand, 1) := by decide +kernel
theorem dX9_kindOf_18 : decode cX9_kindOf 18 = .ok (.ifCond .eq 5, 3) := by decide +kernel
theorem dX9_kindOf_21 : decode cX9_kindOf 21 = .ok (.iconst 1, 1) := by decide +kernel
theorem dX9_kindOf_22 : decode cX9_kindOf 22 = .ok (.ireturn, 1) := by decide +kernel
theorem dX9_kindOf_23 : decode cX9_kindOf 23 = .ok (.aload_n 0, 1) := by decide +kernel
theorem dX9_kindOf_24 : decode cX9_kindOf 24 = .ok (.getfield 26, 3) := by decide +kernel
theorem dX9_kindOf_27 : decode cX9_kindOf 27 = .ok (.iload_n 1, 1) := by decide +kernel
theorem dX9_kindOf_28 : decode cX9_kindOf 28 = .ok (.aload_n 0, 1) := by decide +kernel
theorem dX9_kindOf_29 : decode cX9_kindOf 29 = .ok (.getfield 10, 3) := by decide +kernel
theorem dX9_kindOf_32 : decode cX9_kindOf 32 = .ok (.invokevirtual 290, 3) := by decide +kernel
theorem dX9_kindOf_35 : decode cX9_kindOf 35 = .ok (.iload_n 3, 1) := by decide +kernel
theorem dX9_kindOf_36 : decode cX9_kindOf 36 = .ok (.iand, 1) := by decide +kernel
theorem dX9_kindOf_37 : decode cX9_kindOf 37 = .ok (.ifCond .eq 5, 3) := by decide +kernel
theorem dX9_kindOf_40 : decode cX9_kindOf 40 = .ok (.iconst 2, 1) := by decide +kernel
theorem dX9_kindOf_41 : decode cX9_kindOf 41 = .ok (.ireturn, 1) := by decide +kernel
theorem dX9_kindOf_42 : decode cX9_kindOf 42 = .ok (.aload_n 0, 1) := by decide +kernel
theorem dX9_kindOf_43 : decode cX9_kindOf 43 = .ok (.getfield 79, 3) := by decide +kernel
theorem dX9_kindOf_46 : decode cX9_kindOf 46 = .ok (.iload_n 3, 1) := by decide +kernel
theorem dX9_kindOf_47 : decode cX9_kindOf 47 = .ok (.iand, 1) := by decide +kernel
theorem dX9_kindOf_48 : decode cX9_kindOf 48 = .ok (.ifCond .eq 7, 3) := by decide +kernel
theorem dX9_kindOf_51 : decode cX9_kindOf 51 = .ok (.iconst 3, 1) := by decide +kernel
theorem dX9_kindOf_52 : decode cX9_kindOf 52 = .ok (.goto 4, 3) := by decide +kernel
theorem dX9_kindOf_55 : decode cX9_kindOf 55 = .ok (.iconst 0, 1) := by decide +kernel
theorem dX9_kindOf_56 : decode cX9_kindOf 56 = .ok (.ireturn, 1) := by decide +kernel
theorem dX9_isOfKind_0 : decode cX9_isOfKind 0 = .ok (.iload_n 1, 1) := by decide +kernel
theorem dX9_isOfKind_1 : decode cX9_isOfKind 1 = .ok (.ifCond .eq 18, 3) := by decide +kernel
theorem dX9_isOfKind_4 : decode cX9_isOfKind 4 = .ok (.iload_n 0, 1) := by decide +kernel
theorem dX9_isOfKind_5 : decode cX9_isOfKind 5 = .ok (.iload_n 1, 1) := by decide +kernel
theorem dX9_isOfKind_6 : decode cX9_isOfKind 6 = .ok (.if_icmp .eq 13, 3) := by decide +kernel
theorem dX9_isOfKind_9 : decode cX9_isOfKind 9 = .ok (.iload_n 1, 1) := by decide +kernel
theorem dX9_isOfKind_10 : decode cX9_isOfKind 10 = .ok (.iconst 1, 1) := by decide +kernel
theorem dX9_isOfKind_11 : decode cX9_isOfKind 11 = .ok (.if_icmp .ne 12, 3) := by decide +kernel
theorem dX9_isOfKind_14 : decode cX9_isOfKind 14 = .ok (.iload_n 0, 1) := by decide +kernel
theorem dX9_isOfKind_15 : decode cX9_isOfKind 15 = .ok (.iconst 2, 1) := by decide +kernel
theorem dX9_isOfKind_16 : decode cX9_isOfKind 16 = .ok (.if_icmp .ne 7, 3) := by decide +kernel
theorem dX9_isOfKind_19 : decode cX9_isOfKind 19 = .ok (.iconst 1, 1) := by decide +kernel
theorem dX9_isOfKind_20 : decode cX9_isOfKind 20 = .ok (.goto 4, 3) := by decide +kernel
theorem dX9_isOfKind_23 : decode cX9_isOfKind 23 = .ok (.iconst 0, 1) := by decide +kernel
theorem dX9_isOfKind_24 : decode cX9_isOfKind 24 = .ok (.ireturn, 1) := by decide +kernel
set_option maxRecDepth 20000 in
theorem ggX9_isStopped_X2_isWithinLast : GoodIn wsX9_isStopped wsX2_isWithinLast := goodIn_r _ [8, 9, 34, 35, 36, 37] (by decide +kernel) (by decide +kernel)
set_option maxRecDepth 20000 in
theorem gX9_isStopped_X2_isWithinLast : GoodIn wsX9_isStopped (wsV RX9 293 RX2 yX2_isWithinLast wsX2_isWithinLast) := goodIn_app (goodIn_of _ (by decide +kernel)) ggX9_isStopped_X2_isWithinLast
set_option maxRecDepth 20000 in
theorem ggX9_isStopped_X3_allows : GoodIn wsX9_isStopped wsX3_allows := goodIn_r _ [14, 15, 16, 38, 39, 40] (by decide +kernel) (by decide +kernel)
set_option maxRecDepth 20000 in
theorem gX9_isStopped_X3_allows : GoodIn wsX9_isStopped (wsV RX9 296 RX3 yX3_allows wsX3_allows) := goodIn_app (goodIn_of _ (by decide +kernel)) ggX9_isStopped_X3_allows
theorem dX9_isStopped_0 : decode cX9_isStopped 0 = .ok (.aload_n 0, 1) := by decide +kernel
theorem dX9_isStopped_1 : decode cX9_isStopped 1 = .ok (.getfield 10, 3) := by decide +kernel
theorem dX9_isStopped_4 : decode cX9_isStopped 4 = .ok (.aload_n 0, 1) := by decide +kernel
theorem dX9_isStopped_5 : decode cX9_isStopped 5 = .ok (.getfield 26, 3) := by decide +kernel
theorem dX9_isStopped_8 : decode cX9_isStopped 8 = .ok (.getfield 233, 3) := by decide +kernel
theorem dX9_isStopped_11 : decode cX9_isStopped 11 = .ok (.iload_n 1, 1) := by decide +kernel
theorem dX9_isStopped_12 : decode cX9_isStopped 12 = .ok (.iaload, 1) := by decide +kernel
theorem dX9_isStopped_13 : decode cX9_isStopped 13 = .ok (.iload_n 2, 1) := by decide +kernel
theorem dX9_isStopped_14 : decode cX9_isStopped 14 = .ok (.invokevirtual 293, 3) := by decide +kernel
theorem dX9_isStopped_17 : decode cX9_isStopped 17 = .ok (.ifCond .eq 35, 3) := by decide +kernel
theorem dX9_isStopped_20 : decode cX9_isStopped 20 = .ok (.aload_n 0, 1) := by decide +kernel
theorem dX9_isStopped_21 : decode cX9_isStopped 21 = .ok (.getfield 54, 3) := by decide +kernel
theorem dX9_isStopped_24 : decode cX9_isStopped 24 = .ok (.aload_n 0, 1) := by decide +kernel
theorem dX9_isStopped_25 : decode cX9_isStopped 25 = .ok (.getfield 26, 3) := by decide +kernel
theorem dX9_isStopped_28 : decode cX9_isStopped 28 = .ok (.getfield 227, 3) := by decide +kernel
theorem dX9_isStopped_31 : decode cX9_isStopped 31 = .ok (.iload_n 1, 1) := by decide +kernel
theorem dX9_isStopped_32 : decode cX9_isStopped 32 = .ok (.iaload, 1) := by decide +kernel
theorem dX9_isStopped_33 : decode cX9_isStopped 33 = .ok (.aload_n 0, 1) := by decide +kernel
theorem dX9_isStopped_34 : decode cX9_isStopped 34 = .ok (.getfield 26, 3) := by decide +kernel
theorem dX9_isStopped_37 : decode cX9_isStopped 37 = .ok (.getfield 230, 3) := by decide +kernel
theorem dX9_isStopped_40 : decode cX9_isStopped 40 = .ok (.iload_n 1, 1) := by decide +kernel
theorem dX9_isStopped_41 : decode cX9_isStopped 41 = .ok (.iaload, 1) := by decide +kernel
theorem dX9_isStopped_42 : decode cX9_isStopped 42 = .ok (.invokevirtual 296, 3) := by decide +kernel
theorem dX9_isStopped_45 : decode cX9_isStopped 45 = .ok (.ifCond .ne 7, 3) := by decide +kernel
theorem dX9_isStopped_48 : decode cX9_isStopped 48 = .ok (.iconst 1, 1) := by decide +kernel
theorem dX9_isStopped_49 : decode cX9_isStopped 49 = .ok (.goto 4, 3) := by decide +kernel
theorem dX9_isStopped_52 : decode cX9_isStopped 52 = .ok (.iconst 0, 1) := by decide +kernel
theorem dX9_isStopped_53 : decode cX9_isStopped 53 = .ok (.ireturn, 1) := by decide +kernel
set_option maxRecDepth 20000 in
theorem ggX9_isLighter_J6_bitCount_0f7a4 : GoodIn wsX9_isLighter wsJ6_bitCount_0f7a4 := goodIn_r _ [4, 5, 6, 7] (by decide +kernel) (by decide +kernel)
set_option maxRecDepth 20000 in
theorem gX9_isLighter_J6_bitCount_0f7a4 : GoodIn wsX9_isLighter (va_wsS RX9 193 yJ6_bitCount_0f7a4 wsJ6_bitCount_0f7a4) := goodIn_app (goodIn_of _ (by decide +kernel)) ggX9_isLighter_J6_bitCount_0f7a4
theorem dX9_isLighter_0 : decode cX9_isLighter 0 = .ok (.iload_n 0, 1) := by decide +kernel
theorem dX9_isLighter_1 : decode cX9_isLighter 1 = .ok (.invokestatic 193, 3) := by decide +kernel
theorem dX9_isLighter_4 : decode cX9_isLighter 4 = .ok (.iload_n 1, 1) := by decide +kernel
theorem dX9_isLighter_5 : decode cX9_isLighter 5 = .ok (.invokestatic 193, 3) := by decide +kernel
theorem dX9_isLighter_8 : decode cX9_isLighter 8 = .ok (.isub, 1) := by decide +kernel
theorem dX9_isLighter_9 : decode cX9_isLighter 9 = .ok (.istore_n 3, 1) := by decide +kernel
theorem dX9_isLighter_10 : decode cX9_isLighter 10 = .ok (.iload_n 3, 1) := by decide +kernel
theorem dX9_isLighter_11 : decode cX9_isLighter 11 = .ok (.ifCond .eq 13, 3) := by decide +kernel
theorem dX9_isLighter_14 : decode cX9_isLighter 14 = .ok (.iload_n 3, 1) := by decide +kernel
theorem dX9_isLighter_15 : decode cX9_isLighter 15 = .ok (.ifCond .ge 7, 3) := by decide +kernel
theorem dX9_isLighter_18 : decode cX9_isLighter 18 = .ok (.iconst 1, 1) := by decide +kernel
theorem dX9_isLighter_19 : decode cX9_isLighter 19 = .ok (.goto 4, 3) := by decide +kernel
theorem dX9_isLighter_22 : decode cX9_isLighter 22 = .ok (.iconst 0, 1) := by decide +kernel
theorem dX9_isLighter_23 : decode cX9_isLighter 23 = .ok (.ireturn, 1) := by decide +kernel
theorem dX9_isLighter_24 : decode cX9_isLighter 24 = .ok (.iload_n 0, 1) := by decide +kernel
theorem dX9_isLighter_25 : decode cX9_isLighter 25 = .ok (.iload_n 2, 1) := by decide +kernel
theorem dX9_isLighter_26 : decode cX9_isLighter 26 = .ok (.iand, 1) := by decide +kernel
theorem dX9_isLighter_27 : decode cX9_isLighter 27 = .ok (.invokestatic 193, 3) := by decide +kernel
theorem dX9_isLighter_30 : decode cX9_isLighter 30 = .ok (.iload_n 1, 1) := by decide +kernel
theorem dX9_isLighter_31 : decode cX9_isLighter 31 = .ok (.iload_n 2, 1) := by decide +kernel
theorem dX9_isLighter_32 : decode cX9_isLighter 32 = .ok (.iand, 1) := by decide +kernel
theorem dX9_isLighter_33 : decode cX9_isLighter 33 = .ok (.invokestatic 193, 3) := by decide +kernel
theorem dX9_isLighter_36 : decode cX9_isLighter 36 = .ok (.if_icmp .ge 7, 3) := by decide +kernel
theorem dX9_isLighter_39 : decode cX9_isLighter 39 = .ok (.iconst 1, 1) := by decide +kernel
theorem dX9_isLighter_40 : decode cX9_isLighter 40 = .ok (.goto 4, 3) := by decide +kernel
theorem dX9_isLighter_43 : decode cX9_isLighter 43 = .ok (.iconst 0, 1) := by decide +kernel
theorem dX9_isLighter_44 : decode cX9_isLighter 44 = .ok (.ireturn, 1) := by decide +kernel
set_option maxRecDepth 20000 in
theorem ggX9_totalOf_J6_bitCount_0f7a4 : GoodIn wsX9_totalOf wsJ6_bitCount_0f7a4 := goodIn_r _ [4, 5, 6, 7] (by decide +kernel) (by decide +kernel)
set_option maxRecDepth 20000 in
theorem gX9_totalOf_J6_bitCount_0f7a4 : GoodIn wsX9_totalOf (va_wsS RX9 193 yJ6_bitCount_0f7a4 wsJ6_bitCount_0f7a4) := goodIn_app (goodIn_of _ (by decide +kernel)) ggX9_totalOf_J6_bitCount_0f7a4
theorem dX9_totalOf_0 : decode cX9_totalOf 0 = .ok (.iconst 0, 1) := by decide +kernel
theorem dX9_totalOf_1 : decode cX9_totalOf 1 = .ok (.istore_n 2, 1) := by decide +kernel
theorem dX9_totalOf_2 : decode cX9_totalOf 2 = .ok (.iconst 0, 1) := by decide +kernel
theorem dX9_totalOf_3 : decode cX9_totalOf 3 = .ok (.istore_n 3, 1) := by decide +kernel
theorem dX9_totalOf_4 : decode cX9_totalOf 4 = .ok (.iload_n 3, 1) := by decide +kernel
theorem dX9_totalOf_5 : decode cX9_totalOf 5 = .ok (.iload_n 1, 1) := by decide +kernel
theorem dX9_totalOf_6 : decode cX9_totalOf 6 = .ok (.if_icmp .ge 24, 3) := by decide +kernel
theorem dX9_totalOf_9 : decode cX9_totalOf 9 = .ok (.iload_n 3, 1) := by decide +kernel
theorem dX9_totalOf_10 : decode cX9_totalOf 10 = .ok (.aload_n 0, 1) := by decide +kernel
theorem dX9_totalOf_11 : decode cX9_totalOf 11 = .ok (.arraylength, 1) := by decide +kernel
theorem dX9_totalOf_12 : decode cX9_totalOf 12 = .ok (.if_icmp .ge 18, 3) := by decide +kernel
theorem dX9_totalOf_15 : decode cX9_totalOf 15 = .ok (.iload_n 2, 1) := by decide +kernel
theorem dX9_totalOf_16 : decode cX9_totalOf 16 = .ok (.aload_n 0, 1) := by decide +kernel
theorem dX9_totalOf_17 : decode cX9_totalOf 17 = .ok (.iload_n 3, 1) := by decide +kernel
theorem dX9_totalOf_18 : decode cX9_totalOf 18 = .ok (.iaload, 1) := by decide +kernel
theorem dX9_totalOf_19 : decode cX9_totalOf 19 = .ok (.invokestatic 193, 3) := by decide +kernel
theorem dX9_totalOf_22 : decode cX9_totalOf 22 = .ok (.iadd, 1) := by decide +kernel
theorem dX9_totalOf_23 : decode cX9_totalOf 23 = .ok (.istore_n 2, 1) := by decide +kernel
theorem dX9_totalOf_24 : decode cX9_totalOf 24 = .ok (.iinc 3 1, 3) := by decide +kernel
theorem dX9_totalOf_27 : decode cX9_totalOf 27 = .ok (.goto (-23), 3) := by decide +kernel
theorem dX9_totalOf_30 : decode cX9_totalOf 30 = .ok (.iload_n 2, 1) := by decide +kernel
theorem dX9_totalOf_31 : decode cX9_totalOf 31 = .ok (.ireturn, 1) := by decide +kernel
theorem dX10_init_0 : decode cX10_init 0 = .ok (.aload_n 0, 1) := by decide +kernel
theorem dX10_init_1 : decode cX10_init 1 = .ok (.invokespecial 1, 3) := by decide +kernel
theorem dX10_init_4 : decode cX10_init 4 = .ok (.aload_n 0, 1) := by decide +kernel
theorem dX10_init_5 : decode cX10_init 5 = .ok (.iconst 5, 1) := by decide +kernel
theorem dX10_init_6 : decode cX10_init 6 = .ok (.newarray .int, 2) := by decide +kernel
theorem dX10_init_8 : decode cX10_init 8 = .ok (.putfield 7, 3) := by decide +kernel
theorem dX10_init_11 : decode cX10_init 11 = .ok (.aload_n 0, 1) := by decide +kernel
theorem dX10_init_12 : decode cX10_init 12 = .ok (.bipush 10, 2) := by decide +kernel
theorem dX10_init_14 : decode cX10_init 14 = .ok (.newarray .int, 2) := by decide +kernel
theorem dX10_init_16 : decode cX10_init 16 = .ok (.putfield 13, 3) := by decide +kernel
theorem dX10_init_19 : decode cX10_init 19 = .ok (.aload_n 0, 1) := by decide +kernel
theorem dX10_init_20 : decode cX10_init 20 = .ok (.bipush 10, 2) := by decide +kernel
theorem dX10_init_22 : decode cX10_init 22 = .ok (.newarray .int, 2) := by decide +kernel
theorem dX10_init_24 : decode cX10_init 24 = .ok (.putfield 16, 3) := by decide +kernel
theorem dX10_init_27 : decode cX10_init 27 = .ok (.aload_n 0, 1) := by decide +kernel
theorem dX10_init_28 : decode cX10_init 28 = .ok (.bipush 120, 2) := by decide +kernel
theorem dX10_init_30 : decode cX10_init 30 = .ok (.newarray .int, 2) := by decide +kernel
theorem dX10_init_32 : decode cX10_init 32 = .ok (.putfield 19, 3) := by decide +kernel
theorem dX10_init_35 : decode cX10_init 35 = .ok (.aload_n 0, 1) := by decide +kernel
theorem dX10_init_36 : decode cX10_init 36 = .ok (.bipush 30, 2) := by decide +kernel
theorem dX10_init_38 : decode cX10_init 38 = .ok (.putfield 22, 3) := by decide +kernel
theorem dX10_init_41 : decode cX10_init 41 = .ok (.aload_n 0, 1) := by decide +kernel
theorem dX10_init_42 : decode cX10_init 42 = .ok (.bipush 100, 2) := by decide +kernel
theorem dX10_init_44 : decode cX10_init 44 = .ok (.putfield 26, 3) := by decide +kernel
theorem dX10_init_47 : decode cX10_init 47 = .ok (.aload_n 0, 1) := by decide +kernel
theorem dX10_init_48 : decode cX10_init 48 = .ok (.bipush 60, 2) := by decide +kernel
theorem dX10_init_50 : decode cX10_init 50 = .ok (.putfield 29, 3) := by decide +kernel
theorem dX10_init_53 : decode cX10_init 53 = .ok (.aload_n 0, 1) := by decide +kernel
theorem dX10_init_54 : decode cX10_init 54 = .ok (.sipush 400, 3) := by decide +kernel
theorem dX10_init_57 : decode cX10_init 57 = .ok (.newarray .int, 2) := by decide +kernel
theorem dX10_init_59 : decode cX10_init 59 = .ok (.putfield 32, 3) := by decide +kernel
theorem dX10_init_62 : decode cX10_init 62 = .ok (.aload_n 0, 1) := by decide +kernel
theorem dX10_init_63 : decode cX10_init 63 = .ok (.sipush 400, 3) := by decide +kernel
theorem dX10_init_66 : decode cX10_init 66 = .ok (.newarray .int, 2) := by decide +kernel
theorem dX10_init_68 : decode cX10_init 68 = .ok (.putfield 35, 3) := by decide +kernel
theorem dX10_init_71 : decode cX10_init 71 = .ok (.aload_n 0, 1) := by decide +kernel
theorem dX10_init_72 : decode cX10_init 72 = .ok (.sipush 400, 3) := by decide +kernel
theorem dX10_init_75 : decode cX10_init 75 = .ok (.newarray .int, 2) := by decide +kernel
theorem dX10_init_77 : decode cX10_init 77 = .ok (.putfield 38, 3) := by decide +kernel
theorem dX10_init_80 : decode cX10_init 80 = .ok (.aload_n 0, 1) := by decide +kernel
theorem dX10_init_81 : decode cX10_init 81 = .ok (.iconst 3, 1) := by decide +kernel
theorem dX10_init_82 : decode cX10_init 82 = .ok (.newarray .int, 2) := by decide +kernel
theorem dX10_init_84 : decode cX10_init 84 = .ok (.putfield 41, 3) := by decide +kernel
theorem dX10_init_87 : decode cX10_init 87 = .ok (.aload_n 0, 1) := by decide +kernel
theorem dX10_init_88 : decode cX10_init 88 = .ok (.bipush 10, 2) := by decide +kernel
theorem dX10_init_90 : decode cX10_init 90 = .ok (.newarray .int, 2) := by decide +kernel
theorem dX10_init_92 : decode cX10_init 92 = .ok (.putfield 44, 3) := by decide +kernel
theorem dX10_init_95 : decode cX10_init 95 = .ok (.aload_n 0, 1) := by decide +kernel
theorem dX10_init_96 : decode cX10_init 96 = .ok (.sipush 4096, 3) := by decide +kernel
theorem dX10_init_99 : decode cX10_init 99 = .ok (.newarray .boolean, 2) := by decide +kernel
theorem dX10_init_101 : decode cX10_init 101 = .ok (.putfield 47, 3) := by decide +kernel
theorem dX10_init_104 : decode cX10_init 104 = .ok (.aload_n 0, 1) := by decide +kernel
theorem dX10_init_105 : decode cX10_init 105 = .ok (.bipush 64, 2) := by decide +kernel
theorem dX10_init_107 : decode cX10_init 107 = .ok (.newarray .int, 2) := by decide +kernel
theorem dX10_init_109 : decode cX10_init 109 = .ok (.putfield 51, 3) := by decide +kernel
theorem dX10_init_112 : decode cX10_init 112 = .ok (.aload_n 0, 1) := by decide +kernel
theorem dX10_init_113 : decode cX10_init 113 = .ok (.bipush 64, 2) := by decide +kernel
theorem dX10_init_115 : decode cX10_init 115 = .ok (.newarray .int, 2) := by decide +kernel
theorem dX10_init_117 : decode cX10_init 117 = .ok (.putfield 54, 3) := by decide +kernel
theorem dX10_init_120 : decode cX10_init 120 = .ok (.aload_n 0, 1) := by decide +kernel
theorem dX10_init_121 : decode cX10_init 121 = .ok (.bipush 64, 2) := by decide +kernel
theorem dX10_init_123 : decode cX10_init 123 = .ok (.newarray .int, 2) := by decide +kernel
theorem dX10_init_125 : decode cX10_init 125 = .ok (.putfield 57, 3) := by decide +kernel
theorem dX10_init_128 : decode cX10_init 128 = .ok (.aload_n 0, 1) := by decide +kernel
theorem dX10_init_129 : decode cX10_init 129 = .ok (.bipush 64, 2) := by decide +kernel
theorem dX10_init_131 : decode cX10_init 131 = .ok (.newarray .int, 2) := by decide +kernel
theorem dX10_init_133 : decode cX10_init 133 = .ok (.putfield 60, 3) := by decide +kernel
theorem dX10_init_136 : decode cX10_init 136 = .ok (.aload_n 0, 1) := by decide +kernel
theorem dX10_init_137 : decode cX10_init 137 = .ok (.bipush 12, 2) := by decide +kernel
theorem dX10_init_139 : decode cX10_init 139 = .ok (.newarray .int, 2) := by decide +kernel
theorem dX10_init_141 : decode cX10_init 141 = .ok (.putfield 63, 3) := by decide +kernel
theorem dX10_init_144 : decode cX10_init 144 = .ok (.aload_n 0, 1) := by decide +kernel
theorem dX10_init_145 : decode cX10_init 145 = .ok (.bipush (-9), 2) := by decide +kernel
theorem dX10_init_147 : decode cX10_init 147 = .ok (.putfield 66, 3) := by decide +kernel
theorem dX10_init_150 : decode cX10_init 150 = .ok (.aload_n 0, 1) := by decide +kernel
theorem dX10_init_151 : decode cX10_init 151 = .ok (.bipush 10, 2) := by decide +kernel
theorem dX10_init_153 : decode cX10_init 153 = .ok (.newarray .int, 2) := by decide +kernel
theorem dX10_init_155 : decode cX10_init 155 = .ok (.putfield 69, 3) := by decide +kernel
theorem dX10_init_158 : decode cX10_init 158 = .ok (.aload_n 0, 1) := by decide +kernel
theorem dX10_init_159 : decode cX10_init 159 = .ok (.iconst 4, 1) := by decide +kernel
theorem dX10_init_160 : decode cX10_init 160 = .ok (.newarray .int, 2) := by decide +kernel
theorem dX10_init_162 : decode cX10_init 162 = .ok (.putfield 72, 3) := by decide +kernel
theorem dX10_init_165 : decode cX10_init 165 = .ok (.aload_n 0, 1) := by decide +kernel
theorem dX10_init_166 : decode cX10_init 166 = .ok (.bipush 40, 2) := by decide +kernel
theorem dX10_init_168 : decode cX10_init 168 = .ok (.newarray .int, 2) := by decide +kernel
theorem dX10_init_170 : decode cX10_init 170 = .ok (.putfield 75, 3) := by decide +kernel
theorem dX10_init_173 : decode cX10_init 173 = .ok (.aload_n 0, 1) := by decide +kernel
theorem dX10_init_174 : decode cX10_init 174 = .ok (.bipush 10, 2) := by decide +kernel
theorem dX10_init_176 : decode cX10_init 176 = .ok (.newarray .int, 2) := by decide +kernel
theorem dX10_init_178 : decode cX10_init 178 = .ok (.putfield 78, 3) := by decide +kernel
theorem dX10_init_181 : decode cX10_init 181 = .ok (.iconst 0, 1) := by decide +kernel
theorem dX10_init_182 : decode cX10_init 182 = .ok (.istore_n 1, 1) := by decide +kernel
theorem dX10_init_183 : decode cX10_init 183 = .ok (.iload_n 1, 1) := by decide +kernel
theorem dX10_init_184 : decode cX10_init 184 = .ok (.bipush 120, 2) := by decide +kernel
theorem dX10_init_186 : decode cX10_init 186 = .ok (.if_icmp .ge 17, 3) := by decide +kernel
theorem dX10_init_189 : decode cX10_init 189 = .ok (.aload_n 0, 1) := by decide +kernel
theorem dX10_init_190 : decode cX10_init 190 = .ok (.getfield 19, 3) := by decide +kernel
theorem dX10_init_193 : decode cX10_init 193 = .ok (.iload_n 1, 1) := by decide +kernel
theorem dX10_init_194 : decode cX10_init 194 = .ok (.bipush (-9), 2) := by decide +kernel
theorem dX10_init_196 : decode cX10_init 196 = .ok (.iastore, 1) := by decide +kernel
theorem dX10_init_197 : decode cX10_init 197 = .ok (.iinc 1 1, 3) := by decide +kernel
theorem dX10_init_200 : decode cX10_init 200 = .ok (.goto (-17), 3) := by decide +kernel
theorem dX10_init_203 : decode cX10_init 203 = .ok (.iconst 0, 1) := by decide +kernel
theorem dX10_init_204 : decode cX10_init 204 = .ok (.istore_n 1, 1) := by decide +kernel
theorem dX10_init_205 : decode cX10_init 205 = .ok (.iload_n 1, 1) := by decide +kernel
theorem dX10_init_206 : decode cX10_init 206 = .ok (.iconst 4, 1) := by decide +kernel
theorem dX10_init_207 : decode cX10_init 207 = .ok (.if_icmp .ge 17, 3) := by decide +kernel
theorem dX10_init_210 : decode cX10_init 210 = .ok (.aload_n 0, 1) := by decide +kernel
theorem dX10_init_211 : decode cX10_init 211 = .ok (.getfield 72, 3) := by decide +kernel
theorem dX10_init_214 : decode cX10_init 214 = .ok (.iload_n 1, 1) := by decide +kernel
theorem dX10_init_215 : decode cX10_init 215 = .ok (.bipush (-9), 2) := by decide +kernel
theorem dX10_init_217 : decode cX10_init 217 = .ok (.iastore, 1) := by decide +kernel
theorem dX10_init_218 : decode cX10_init 218 = .ok (.iinc 1 1, 3) := by decide +kernel
theorem dX10_init_221 : decode cX10_init 221 = .ok (.goto (-16), 3) := by decide +kernel
theorem dX10_init_224 : decode cX10_init 224 = .ok (.return_, 1) := by decide +kernel
theorem dX10_in_0 : decode cX10_in 0 = .ok (.iload_n 0, 1) := by decide +kernel
theorem dX10_in_1 : decode cX10_in 1 = .ok (.iload_n 1, 1) := by decide +kernel
theorem dX10_in_2 : decode cX10_in 2 = .ok (.if_icmp .lt 12, 3) := by decide +kernel
theorem dX10_in_5 : decode cX10_in 5 = .ok (.iload_n 0, 1) := by decide +kernel
theorem dX10_in_6 : decode cX10_in 6 = .ok (.iload_n 2, 1) := by decide +kernel
theorem dX10_in_7 : decode cX10_in 7 = .ok (.if_icmp .gt 7, 3) := by decide +kernel
theorem dX10_in_10 : decode cX10_in 10 = .ok (.iconst 1, 1) := by decide +kernel
theorem dX10_in_11 : decode cX10_in 11 = .ok (.goto 4, 3) := by decide +kernel
theorem dX10_in_14 : decode cX10_in 14 = .ok (.iconst 0, 1) := by decide +kernel
theorem dX10_in_15 : decode cX10_in 15 = .ok (.ireturn, 1) := by decide +kernel
theorem dX10_meets_0 : decode cX10_meets 0 = .ok (.aload_n 0, 1) := by decide +kernel
theorem dX10_meets_1 : decode cX10_meets 1 = .ok (.iload_n 1, 1) := by decide +kernel
theorem dX10_meets_2 : decode cX10_meets 2 = .ok (.putfield 81, 3) := by decide +kernel
theorem dX10_meets_5 : decode cX10_meets 5 = .ok (.aload_n 0, 1) := by decide +kernel
theorem dX10_meets_6 : decode cX10_meets 6 = .ok (.getfield 7, 3) := by decide +kernel
theorem dX10_meets_9 : decode cX10_meets 9 = .ok (.iload_n 1, 1) := by decide +kernel
theorem dX10_meets_10 : decode cX10_meets 10 = .ok (.dup2, 1) := by decide +kernel
theorem dX10_meets_11 : decode cX10_meets 11 = .ok (.iaload, 1) := by decide +kernel
theorem dX10_meets_12 : decode cX10_meets 12 = .ok (.iconst 1, 1) := by decide +kernel
theorem dX10_meets_13 : decode cX10_meets 13 = .ok (.iadd, 1) := by decide +kernel
theorem dX10_meets_14 : decode cX10_meets 14 = .ok (.iastore, 1) := by decide +kernel
theorem dX10_meets_15 : decode cX10_meets 15 = .ok (.bipush (-3), 2) := by decide +kernel
theorem dX10_meets_17 : decode cX10_meets 17 = .ok (.ireturn, 1) := by decide +kernel
theorem dX10_has_0 : decode cX10_has 0 = .ok (.iload_n 0, 1) := by decide +kernel
theorem dX10_has_1 : decode cX10_has 1 = .ok (.iload_n 1, 1) := by decide +kernel
theorem dX10_has_2 : decode cX10_has 2 = .ok (.ishr, 1) := by decide +kernel
theorem dX10_has_3 : decode cX10_has 3 = .ok (.iconst 1, 1) := by decide +kernel
theorem dX10_has_4 : decode cX10_has 4 = .ok (.iand, 1) := by decide +kernel
theorem dX10_has_5 : decode cX10_has 5 = .ok (.iconst 1, 1) := by decide +kernel
theorem dX10_has_6 : decode cX10_has 6 = .ok (.if_icmp .ne 7, 3) := by decide +kernel
theorem dX10_has_9 : decode cX10_has 9 = .ok (.iconst 1, 1) := by decide +kernel
theorem dX10_has_10 : decode cX10_has 10 = .ok (.goto 4, 3) := by decide +kernel
theorem dX10_has_13 : decode cX10_has 13 = .ok (.iconst 0, 1) := by decide +kernel
theorem dX10_has_14 : decode cX10_has 14 = .ok (.ireturn, 1) := by decide +kernel
theorem dX10_bits_0 : decode cX10_bits 0 = .ok (.iconst 0, 1) := by decide +kernel
theorem dX10_bits_1 : decode cX10_bits 1 = .ok (.istore_n 1, 1) := by decide +kernel
theorem dX10_bits_2 : decode cX10_bits 2 = .ok (.iconst 0, 1) := by decide +kernel
theorem dX10_bits_3 : decode cX10_bits 3 = .ok (.istore_n 2, 1) := by decide +kernel
theorem dX10_bits_4 : decode cX10_bits 4 = .ok (.iload_n 2, 1) := by decide +kernel
theorem dX10_bits_5 : decode cX10_bits 5 = .ok (.bipush 12, 2) := by decide +kernel
theorem dX10_bits_7 : decode cX10_bits 7 = .ok (.if_icmp .ge 17, 3) := by decide +kernel
theorem dX10_bits_10 : decode cX10_bits 10 = .ok (.iload_n 1, 1) := by decide +kernel
theorem dX10_bits_11 : decode cX10_bits 11 = .ok (.iload_n 0, 1) := by decide +kernel
theorem dX10_bits_12 : decode cX10_bits 12 = .ok (.iload_n 2, 1) := by decide +kernel
theorem dX10_bits_13 : decode cX10_bits 13 = .ok (.ishr, 1) := by decide +kernel
theorem dX10_bits_14 : decode cX10_bits 14 = .ok (.iconst 1, 1) := by decide +kernel
theorem dX10_bits_15 : decode cX10_bits 15 = .ok (.iand, 1) := by decide +kernel
theorem dX10_bits_16 : decode cX10_bits 16 = .ok (.iadd, 1) := by decide +kernel
theorem dX10_bits_17 : decode cX10_bits 17 = .ok (.istore_n 1, 1) := by decide +kernel
theorem dX10_bits_18 : decode cX10_bits 18 = .ok (.iinc 2 1, 3) := by decide +kernel
theorem dX10_bits_21 : decode cX10_bits 21 = .ok (.goto (-17), 3) := by decide +kernel
theorem dX10_bits_24 : decode cX10_bits 24 = .ok (.iload_n 1, 1) := by decide +kernel
theorem dX10_bits_25 : decode cX10_bits 25 = .ok (.ireturn, 1) := by decide +kernel
set_option maxRecDepth 20000 in
theorem ggX10_isPerson_X10_in : GoodIn wsX10_isPerson wsX10_in := goodIn_r _ [5] (by decide +kernel) (by decide +kernel)
set_option maxRecDepth 20000 in
theorem gX10_isPerson_X10_in : GoodIn wsX10_isPerson (va_wsS RX10 87 yX10_in wsX10_in) := goodIn_app (goodIn_of _ (by decide +kernel)) ggX10_isPerson_X10_in
theorem dX10_isPerson_0 : decode cX10_isPerson 0 = .ok (.iload_n 1, 1) := by decide +kernel
theorem dX10_isPerson_1 : decode cX10_isPerson 1 = .ok (.iconst 0, 1) := by decide +kernel
theorem dX10_isPerson_2 : decode cX10_isPerson 2 = .ok (.aload_n 0, 1) := by decide +kernel
theorem dX10_isPerson_3 : decode cX10_isPerson 3 = .ok (.getfield 84, 3) := by decide +kernel
theorem dX10_isPerson_6 : decode cX10_isPerson 6 = .ok (.iconst 1, 1) := by decide +kernel
theorem dX10_isPerson_7 : decode cX10_isPerson 7 = .ok (.isub, 1) := by decide +kernel
theorem dX10_isPerson_8 : decode cX10_isPerson 8 = .ok (.invokestatic 87, 3) := by decide +kernel
theorem dX10_isPerson_11 : decode cX10_isPerson 11 = .ok (.ireturn, 1) := by decide +kernel
set_option maxRecDepth 20000 in
theorem ggX10_isRight_X10_in : GoodIn wsX10_isRight wsX10_in := goodIn_r _ [4] (by decide +kernel) (by decide +kernel)
set_option maxRecDepth 20000 in
theorem gX10_isRight_X10_in : GoodIn wsX10_isRight (va_wsS RX10 87 yX10_in wsX10_in) := goodIn_app (goodIn_of _ (by decide +kernel)) ggX10_isRight_X10_in
theorem dX10_isRight_0 : decode cX10_isRight 0 = .ok (.iload_n 0, 1) := by decide +kernel
theorem dX10_isRight_1 : decode cX10_isRight 1 = .ok (.iconst 0, 1) := by decide +kernel
theorem dX10_isRight_2 : decode cX10_isRight 2 = .ok (.bipush 11, 2) := by decide +kernel
theorem dX10_isRight_4 : decode cX10_isRight 4 = .ok (.invokestatic 87, 3) := by decide +kernel
theorem dX10_isRight_7 : decode cX10_isRight 7 = .ok (.ireturn, 1) := by decide +kernel
set_option maxRecDepth 20000 in
theorem ggX10_person_X10_in : GoodIn wsX10_person wsX10_in := goodIn_r _ [7] (by decide +kernel) (by decide +kernel)
set_option maxRecDepth 20000 in
theorem gX10_person_X10_in : GoodIn wsX10_person (va_wsS RX10 87 yX10_in wsX10_in) := goodIn_app (goodIn_of _ (by decide +kernel)) ggX10_person_X10_in
theorem dX10_person_0 : decode cX10_person 0 = .ok (.iload_n 1, 1) := by decide +kernel
theorem dX10_person_1 : decode cX10_person 1 = .ok (.iconst 0, 1) := by decide +kernel
theorem dX10_person_2 : decode cX10_person 2 = .ok (.sipush 255, 3) := by decide +kernel
theorem dX10_person_5 : decode cX10_person 5 = .ok (.invokestatic 87, 3) := by decide +kernel
theorem dX10_person_8 : decode cX10_person 8 = .ok (.ifCond .eq 14, 3) := by decide +kernel
theorem dX10_person_11 : decode cX10_person 11 = .ok (.iload_n 2, 1) := by decide +kernel
theorem dX10_person_12 : decode cX10_person 12 = .ok (.iconst 0, 1) := by decide +kernel
theorem dX10_person_13 : decode cX10_person 13 = .ok (.sipush 4095, 3) := by decide +kernel
theorem dX10_person_16 : decode cX10_person 16 = .ok (.invokestatic 87, 3) := by decide +kernel
theorem dX10_person_19 : decode cX10_person 19 = .ok (.ifCond .ne 5, 3) := by decide +kernel
theorem dX10_person_22 : decode cX10_person 22 = .ok (.iconst (-1), 1) := by decide +kernel
theorem dX10_person_23 : decode cX10_person 23 = .ok (.ireturn, 1) := by decide +kernel
theorem dX10_person_24 : decode cX10_person 24 = .ok (.aload_n 0, 1) := by decide +kernel
theorem dX10_person_25 : decode cX10_person 25 = .ok (.getfield 84, 3) := by decide +kernel
theorem dX10_person_28 : decode cX10_person 28 = .ok (.bipush 10, 2) := by decide +kernel
theorem dX10_person_30 : decode cX10_person 30 = .ok (.if_icmp .ne 6, 3) := by decide +kernel
theorem dX10_person_33 : decode cX10_person 33 = .ok (.bipush (-2), 2) := by decide +kernel
theorem dX10_person_35 : decode cX10_person 35 = .ok (.ireturn, 1) := by decide +kernel
theorem dX10_person_36 : decode cX10_person 36 = .ok (.aload_n 0, 1) := by decide +kernel
theorem dX10_person_37 : decode cX10_person 37 = .ok (.getfield 13, 3) := by decide +kernel
theorem dX10_person_40 : decode cX10_person 40 = .ok (.aload_n 0, 1) := by decide +kernel
theorem dX10_person_41 : decode cX10_person 41 = .ok (.getfield 84, 3) := by decide +kernel
theorem dX10_person_44 : decode cX10_person 44 = .ok (.iload_n 1, 1) := by decide +kernel
theorem dX10_person_45 : decode cX10_person 45 = .ok (.iastore, 1) := by decide +kernel
theorem dX10_person_46 : decode cX10_person 46 = .ok (.aload_n 0, 1) := by decide +kernel
theorem dX10_person_47 : decode cX10_person 47 = .ok (.getfield 16, 3) := by decide +kernel
theorem dX10_person_50 : decode cX10_person 50 = .ok (.aload_n 0, 1) := by decide +kernel
theorem dX10_person_51 : decode cX10_person 51 = .ok (.getfield 84, 3) := by decide +kernel
theorem dX10_person_54 : decode cX10_person 54 = .ok (.iload_n 2, 1) := by decide +kernel
theorem dX10_person_55 : decode cX10_person 55 = .ok (.iastore, 1) := by decide +kernel
theorem dX10_person_56 : decode cX10_person 56 = .ok (.aload_n 0, 1) := by decide +kernel
theorem dX10_person_57 : decode cX10_person 57 = .ok (.dup, 1) := by decide +kernel
theorem dX10_person_58 : decode cX10_person 58 = .ok (.getfield 84, 3) := by decide +kernel
theorem dX10_person_61 : decode cX10_person 61 = .ok (.iconst 1, 1) := by decide +kernel
theorem dX10_person_62 : decode cX10_person 62 = .ok (.iadd, 1) := by decide +kernel
theorem dX10_person_63 : decode cX10_person 63 = .ok (.putfield 84, 3) := by decide +kernel
theorem dX10_person_66 : decode cX10_person 66 = .ok (.aload_n 0, 1) := by decide +kernel
theorem dX10_person_67 : decode cX10_person 67 = .ok (.getfield 84, 3) := by decide +kernel
theorem dX10_person_70 : decode cX10_person 70 = .ok (.iconst 1, 1) := by decide +kernel
theorem dX10_person_71 : decode cX10_person 71 = .ok (.isub, 1) := by decide +kernel
theorem dX10_person_72 : decode cX10_person 72 = .ok (.ireturn, 1) := by decide +kernel
set_option maxRecDepth 20000 in
theorem ggX10_give_X10_has : GoodIn wsX10_give wsX10_has := goodIn_r _ [6] (by decide +kernel) (by decide +kernel)
set_option maxRecDepth 20000 in
theorem gX10_give_X10_has : GoodIn wsX10_give (va_wsS RX10 91 yX10_has wsX10_has) := goodIn_app (goodIn_of _ (by decide +kernel)) ggX10_give_X10_has
theorem dX10_give_0 : decode cX10_give 0 = .ok (.aload_n 0, 1) := by decide +kernel
theorem dX10_give_1 : decode cX10_give 1 = .ok (.getfield 16, 3) := by decide +kernel
theorem dX10_give_4 : decode cX10_give 4 = .ok (.iload_n 1, 1) := by decide +kernel
theorem dX10_give_5 : decode cX10_give 5 = .ok (.iaload, 1) := by decide +kernel
theorem dX10_give_6 : decode cX10_give 6 = .ok (.istore_n 3, 1) := by decide +kernel
theorem dX10_give_7 : decode cX10_give 7 = .ok (.aload_n 0, 1) := by decide +kernel
