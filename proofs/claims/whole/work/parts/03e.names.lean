theorem dX7_reading_18 : decode cX7_reading 18 = .ok (.invokevirtual 133, 3) := by decide +kernel
theorem dX7_reading_21 : decode cX7_reading 21 = .ok (.ifCond .eq 12, 3) := by decide +kernel
theorem dX7_reading_24 : decode cX7_reading 24 = .ok (.iload_n 3, 1) := by decide +kernel
theorem dX7_reading_25 : decode cX7_reading 25 = .ok (.bipush 10, 2) := by decide +kernel
theorem dX7_reading_27 : decode cX7_reading 27 = .ok (.invokestatic 68, 3) := by decide +kernel
theorem dX7_reading_30 : decode cX7_reading 30 = .ok (.ifCond .ne 6, 3) := by decide +kernel
theorem dX7_reading_33 : decode cX7_reading 33 = .ok (.bipush (-2), 2) := by decide +kernel
theorem dX7_reading_35 : decode cX7_reading 35 = .ok (.ireturn, 1) := by decide +kernel
theorem dX7_reading_36 : decode cX7_reading 36 = .ok (.aload_n 0, 1) := by decide +kernel
theorem dX7_reading_37 : decode cX7_reading 37 = .ok (.getfield 42, 3) := by decide +kernel
theorem dX7_reading_40 : decode cX7_reading 40 = .ok (.getfield 88, 3) := by decide +kernel
theorem dX7_reading_43 : decode cX7_reading 43 = .ok (.bipush 8, 2) := by decide +kernel
theorem dX7_reading_45 : decode cX7_reading 45 = .ok (.if_icmp .ge 16, 3) := by decide +kernel
theorem dX7_reading_48 : decode cX7_reading 48 = .ok (.aload_n 0, 1) := by decide +kernel
theorem dX7_reading_49 : decode cX7_reading 49 = .ok (.getfield 42, 3) := by decide +kernel
theorem dX7_reading_52 : decode cX7_reading 52 = .ok (.iload_n 1, 1) := by decide +kernel
theorem dX7_reading_53 : decode cX7_reading 53 = .ok (.iload_n 2, 1) := by decide +kernel
theorem dX7_reading_54 : decode cX7_reading 54 = .ok (.iload_n 3, 1) := by decide +kernel
theorem dX7_reading_55 : decode cX7_reading 55 = .ok (.invokevirtual 170, 3) := by decide +kernel
theorem dX7_reading_58 : decode cX7_reading 58 = .ok (.goto 5, 3) := by decide +kernel
theorem dX7_reading_61 : decode cX7_reading 61 = .ok (.bipush (-4), 2) := by decide +kernel
theorem dX7_reading_63 : decode cX7_reading 63 = .ok (.ireturn, 1) := by decide +kernel
theorem dX7_back_0 : decode cX7_back 0 = .ok (.iload_n 1, 1) := by decide +kernel
theorem dX7_back_1 : decode cX7_back 1 = .ok (.ifCond .lt 14, 3) := by decide +kernel
theorem dX7_back_4 : decode cX7_back 4 = .ok (.iload_n 1, 1) := by decide +kernel
theorem dX7_back_5 : decode cX7_back 5 = .ok (.aload_n 0, 1) := by decide +kernel
theorem dX7_back_6 : decode cX7_back 6 = .ok (.getfield 42, 3) := by decide +kernel
theorem dX7_back_9 : decode cX7_back 9 = .ok (.getfield 88, 3) := by decide +kernel
theorem dX7_back_12 : decode cX7_back 12 = .ok (.if_icmp .le 6, 3) := by decide +kernel
theorem dX7_back_15 : decode cX7_back 15 = .ok (.bipush (-2), 2) := by decide +kernel
theorem dX7_back_17 : decode cX7_back 17 = .ok (.ireturn, 1) := by decide +kernel
theorem dX7_back_18 : decode cX7_back 18 = .ok (.aload_n 0, 1) := by decide +kernel
theorem dX7_back_19 : decode cX7_back 19 = .ok (.getfield 42, 3) := by decide +kernel
theorem dX7_back_22 : decode cX7_back 22 = .ok (.dup, 1) := by decide +kernel
theorem dX7_back_23 : decode cX7_back 23 = .ok (.getfield 88, 3) := by decide +kernel
theorem dX7_back_26 : decode cX7_back 26 = .ok (.iload_n 1, 1) := by decide +kernel
theorem dX7_back_27 : decode cX7_back 27 = .ok (.isub, 1) := by decide +kernel
theorem dX7_back_28 : decode cX7_back 28 = .ok (.putfield 88, 3) := by decide +kernel
theorem dX7_back_31 : decode cX7_back 31 = .ok (.aload_n 0, 1) := by decide +kernel
theorem dX7_back_32 : decode cX7_back 32 = .ok (.getfield 42, 3) := by decide +kernel
theorem dX7_back_35 : decode cX7_back 35 = .ok (.getfield 88, 3) := by decide +kernel
theorem dX7_back_38 : decode cX7_back 38 = .ok (.ireturn, 1) := by decide +kernel
set_option maxRecDepth 20000 in
theorem ggX7_damps_X2_hasLinen : GoodIn wsX7_damps wsX2_hasLinen := goodIn_r _ [8, 9, 10, 11, 12, 58, 59, 60, 61, 62, 63, 64] (by decide +kernel) (by decide +kernel)
set_option maxRecDepth 20000 in
theorem gX7_damps_X2_hasLinen : GoodIn wsX7_damps (wsV RX7 94 RX2 yX2_hasLinen wsX2_hasLinen) := goodIn_app (goodIn_of _ (by decide +kernel)) ggX7_damps_X2_hasLinen
set_option maxRecDepth 20000 in
theorem ggX7_damps_X1_fitting : GoodIn wsX7_damps wsX1_fitting := goodIn_r _ [17, 18, 11, 19, 20, 21, 22, 23, 24, 16, 25, 26, 27, 28, 29, 30, 31, 32, 7, 33, 34, 35, 36, 37, 38, 39, 40, 41, 42, 43, 44, 45, 46, 47, 48, 49, 65, 66, 67, 68, 58, 59, 60, 61, 62, 63, 64] (by decide +kernel) (by decide +kernel)
set_option maxRecDepth 20000 in
theorem gX7_damps_X1_fitting : GoodIn wsX7_damps (wsV RX7 173 RX1 yX1_fitting wsX1_fitting) := goodIn_app (goodIn_of _ (by decide +kernel)) ggX7_damps_X1_fitting
theorem dX7_damps_0 : decode cX7_damps 0 = .ok (.aload_n 0, 1) := by decide +kernel
theorem dX7_damps_1 : decode cX7_damps 1 = .ok (.getfield 12, 3) := by decide +kernel
theorem dX7_damps_4 : decode cX7_damps 4 = .ok (.iload_n 1, 1) := by decide +kernel
theorem dX7_damps_5 : decode cX7_damps 5 = .ok (.invokevirtual 94, 3) := by decide +kernel
theorem dX7_damps_8 : decode cX7_damps 8 = .ok (.ifCond .eq 27, 3) := by decide +kernel
theorem dX7_damps_11 : decode cX7_damps 11 = .ok (.aload_n 0, 1) := by decide +kernel
theorem dX7_damps_12 : decode cX7_damps 12 = .ok (.getfield 42, 3) := by decide +kernel
theorem dX7_damps_15 : decode cX7_damps 15 = .ok (.aload_n 0, 1) := by decide +kernel
theorem dX7_damps_16 : decode cX7_damps 16 = .ok (.getfield 12, 3) := by decide +kernel
theorem dX7_damps_19 : decode cX7_damps 19 = .ok (.aload_n 0, 1) := by decide +kernel
theorem dX7_damps_20 : decode cX7_damps 20 = .ok (.getfield 12, 3) := by decide +kernel
theorem dX7_damps_23 : decode cX7_damps 23 = .ok (.getfield 109, 3) := by decide +kernel
theorem dX7_damps_26 : decode cX7_damps 26 = .ok (.iload_n 1, 1) := by decide +kernel
theorem dX7_damps_27 : decode cX7_damps 27 = .ok (.bipush 10, 2) := by decide +kernel
theorem dX7_damps_29 : decode cX7_damps 29 = .ok (.invokevirtual 173, 3) := by decide +kernel
theorem dX7_damps_32 : decode cX7_damps 32 = .ok (.goto 4, 3) := by decide +kernel
theorem dX7_damps_35 : decode cX7_damps 35 = .ok (.iconst (-1), 1) := by decide +kernel
theorem dX7_damps_36 : decode cX7_damps 36 = .ok (.ireturn, 1) := by decide +kernel
set_option maxRecDepth 20000 in
theorem ggX7_kinds_X2_hasLinen : GoodIn wsX7_kinds wsX2_hasLinen := goodIn_r _ [8, 9, 10, 11, 12, 58, 59, 60, 61, 62, 63, 64] (by decide +kernel) (by decide +kernel)
set_option maxRecDepth 20000 in
theorem gX7_kinds_X2_hasLinen : GoodIn wsX7_kinds (wsV RX7 94 RX2 yX2_hasLinen wsX2_hasLinen) := goodIn_app (goodIn_of _ (by decide +kernel)) ggX7_kinds_X2_hasLinen
set_option maxRecDepth 20000 in
theorem ggX7_kinds_X1_fitting : GoodIn wsX7_kinds wsX1_fitting := goodIn_r _ [17, 18, 11, 19, 20, 21, 22, 23, 24, 16, 25, 26, 27, 28, 29, 30, 31, 32, 7, 33, 34, 35, 36, 37, 38, 39, 40, 41, 42, 43, 44, 45, 46, 47, 48, 49, 65, 66, 67, 68, 58, 59, 60, 61, 62, 63, 64] (by decide +kernel) (by decide +kernel)
set_option maxRecDepth 20000 in
theorem gX7_kinds_X1_fitting : GoodIn wsX7_kinds (wsV RX7 173 RX1 yX1_fitting wsX1_fitting) := goodIn_app (goodIn_of _ (by decide +kernel)) ggX7_kinds_X1_fitting
theorem dX7_kinds_0 : decode cX7_kinds 0 = .ok (.aload_n 0, 1) := by decide +kernel
theorem dX7_kinds_1 : decode cX7_kinds 1 = .ok (.getfield 12, 3) := by decide +kernel
theorem dX7_kinds_4 : decode cX7_kinds 4 = .ok (.iload_n 1, 1) := by decide +kernel
theorem dX7_kinds_5 : decode cX7_kinds 5 = .ok (.invokevirtual 94, 3) := by decide +kernel
theorem dX7_kinds_8 : decode cX7_kinds 8 = .ok (.ifCond .eq 26, 3) := by decide +kernel
theorem dX7_kinds_11 : decode cX7_kinds 11 = .ok (.aload_n 0, 1) := by decide +kernel
theorem dX7_kinds_12 : decode cX7_kinds 12 = .ok (.getfield 42, 3) := by decide +kernel
theorem dX7_kinds_15 : decode cX7_kinds 15 = .ok (.aload_n 0, 1) := by decide +kernel
theorem dX7_kinds_16 : decode cX7_kinds 16 = .ok (.getfield 12, 3) := by decide +kernel
theorem dX7_kinds_19 : decode cX7_kinds 19 = .ok (.aload_n 0, 1) := by decide +kernel
theorem dX7_kinds_20 : decode cX7_kinds 20 = .ok (.getfield 12, 3) := by decide +kernel
theorem dX7_kinds_23 : decode cX7_kinds 23 = .ok (.getfield 98, 3) := by decide +kernel
theorem dX7_kinds_26 : decode cX7_kinds 26 = .ok (.iload_n 1, 1) := by decide +kernel
theorem dX7_kinds_27 : decode cX7_kinds 27 = .ok (.iconst 3, 1) := by decide +kernel
theorem dX7_kinds_28 : decode cX7_kinds 28 = .ok (.invokevirtual 173, 3) := by decide +kernel
theorem dX7_kinds_31 : decode cX7_kinds 31 = .ok (.goto 4, 3) := by decide +kernel
theorem dX7_kinds_34 : decode cX7_kinds 34 = .ok (.iconst (-1), 1) := by decide +kernel
theorem dX7_kinds_35 : decode cX7_kinds 35 = .ok (.ireturn, 1) := by decide +kernel
set_option maxRecDepth 20000 in
theorem ggX7_heats_X2_hasDay : GoodIn wsX7_heats wsX2_hasDay := goodIn_r _ [8, 9, 10, 11, 12, 57, 58, 59, 60, 61, 62, 63] (by decide +kernel) (by decide +kernel)
set_option maxRecDepth 20000 in
theorem gX7_heats_X2_hasDay : GoodIn wsX7_heats (wsV RX7 112 RX2 yX2_hasDay wsX2_hasDay) := goodIn_app (goodIn_of _ (by decide +kernel)) ggX7_heats_X2_hasDay
set_option maxRecDepth 20000 in
theorem ggX7_heats_X1_fitting : GoodIn wsX7_heats wsX1_fitting := goodIn_r _ [17, 18, 11, 19, 20, 21, 22, 23, 24, 16, 25, 26, 27, 28, 29, 30, 31, 32, 7, 33, 34, 35, 36, 37, 38, 9, 39, 40, 41, 42, 43, 44, 45, 46, 47, 48, 64, 65, 66, 67, 57, 58, 59, 60, 61, 62, 63] (by decide +kernel) (by decide +kernel)
set_option maxRecDepth 20000 in
theorem gX7_heats_X1_fitting : GoodIn wsX7_heats (wsV RX7 173 RX1 yX1_fitting wsX1_fitting) := goodIn_app (goodIn_of _ (by decide +kernel)) ggX7_heats_X1_fitting
theorem dX7_heats_0 : decode cX7_heats 0 = .ok (.aload_n 0, 1) := by decide +kernel
theorem dX7_heats_1 : decode cX7_heats 1 = .ok (.getfield 12, 3) := by decide +kernel
theorem dX7_heats_4 : decode cX7_heats 4 = .ok (.iload_n 1, 1) := by decide +kernel
theorem dX7_heats_5 : decode cX7_heats 5 = .ok (.invokevirtual 112, 3) := by decide +kernel
theorem dX7_heats_8 : decode cX7_heats 8 = .ok (.ifCond .eq 27, 3) := by decide +kernel
theorem dX7_heats_11 : decode cX7_heats 11 = .ok (.aload_n 0, 1) := by decide +kernel
theorem dX7_heats_12 : decode cX7_heats 12 = .ok (.getfield 42, 3) := by decide +kernel
theorem dX7_heats_15 : decode cX7_heats 15 = .ok (.aload_n 0, 1) := by decide +kernel
theorem dX7_heats_16 : decode cX7_heats 16 = .ok (.getfield 12, 3) := by decide +kernel
theorem dX7_heats_19 : decode cX7_heats 19 = .ok (.aload_n 0, 1) := by decide +kernel
theorem dX7_heats_20 : decode cX7_heats 20 = .ok (.getfield 12, 3) := by decide +kernel
theorem dX7_heats_23 : decode cX7_heats 23 = .ok (.getfield 115, 3) := by decide +kernel
theorem dX7_heats_26 : decode cX7_heats 26 = .ok (.iload_n 1, 1) := by decide +kernel
theorem dX7_heats_27 : decode cX7_heats 27 = .ok (.bipush 10, 2) := by decide +kernel
theorem dX7_heats_29 : decode cX7_heats 29 = .ok (.invokevirtual 173, 3) := by decide +kernel
theorem dX7_heats_32 : decode cX7_heats 32 = .ok (.goto 4, 3) := by decide +kernel
theorem dX7_heats_35 : decode cX7_heats 35 = .ok (.iconst (-1), 1) := by decide +kernel
theorem dX7_heats_36 : decode cX7_heats 36 = .ok (.ireturn, 1) := by decide +kernel
set_option maxRecDepth 20000 in
theorem ggX7_odds_X2_hasLinen : GoodIn wsX7_odds wsX2_hasLinen := goodIn_r _ [8, 9, 10, 11, 12, 44, 45, 46, 47, 48, 49, 50] (by decide +kernel) (by decide +kernel)
set_option maxRecDepth 20000 in
theorem gX7_odds_X2_hasLinen : GoodIn wsX7_odds (wsV RX7 94 RX2 yX2_hasLinen wsX2_hasLinen) := goodIn_app (goodIn_of _ (by decide +kernel)) ggX7_odds_X2_hasLinen
set_option maxRecDepth 20000 in
theorem ggX7_odds_X7_isBelow : GoodIn wsX7_odds wsX7_isBelow := goodIn_r _ [12] (by decide +kernel) (by decide +kernel)
set_option maxRecDepth 20000 in
theorem gX7_odds_X7_isBelow : GoodIn wsX7_odds (va_wsS RX7 68 yX7_isBelow wsX7_isBelow) := goodIn_app (goodIn_of _ (by decide +kernel)) ggX7_odds_X7_isBelow
set_option maxRecDepth 20000 in
theorem ggX7_odds_X2_waysToBeLaw : GoodIn wsX7_odds wsX2_waysToBeLaw := goodIn_r _ [17, 18, 19, 20, 21, 7, 22, 23, 24, 25, 26, 27, 28, 29, 30, 11, 31, 32, 33, 34, 35, 44, 45, 46, 47, 48, 49, 50] (by decide +kernel) (by decide +kernel)
set_option maxRecDepth 20000 in
theorem gX7_odds_X2_waysToBeLaw : GoodIn wsX7_odds (wsV RX7 182 RX2 yX2_waysToBeLaw wsX2_waysToBeLaw) := goodIn_app (goodIn_of _ (by decide +kernel)) ggX7_odds_X2_waysToBeLaw
theorem dX7_odds_0 : decode cX7_odds 0 = .ok (.aload_n 0, 1) := by decide +kernel
theorem dX7_odds_1 : decode cX7_odds 1 = .ok (.getfield 12, 3) := by decide +kernel
theorem dX7_odds_4 : decode cX7_odds 4 = .ok (.iload_n 1, 1) := by decide +kernel
theorem dX7_odds_5 : decode cX7_odds 5 = .ok (.invokevirtual 94, 3) := by decide +kernel
theorem dX7_odds_8 : decode cX7_odds 8 = .ok (.ifCond .eq 11, 3) := by decide +kernel
theorem dX7_odds_11 : decode cX7_odds 11 = .ok (.iload_n 2, 1) := by decide +kernel
theorem dX7_odds_12 : decode cX7_odds 12 = .ok (.iconst 2, 1) := by decide +kernel
theorem dX7_odds_13 : decode cX7_odds 13 = .ok (.invokestatic 68, 3) := by decide +kernel
theorem dX7_odds_16 : decode cX7_odds 16 = .ok (.ifCond .ne 7, 3) := by decide +kernel
theorem dX7_odds_19 : decode cX7_odds 19 = .ok (.ldc2_w 177, 3) := by decide +kernel
theorem dX7_odds_22 : decode cX7_odds 22 = .ok (.lreturn, 1) := by decide +kernel
theorem dX7_odds_23 : decode cX7_odds 23 = .ok (.iconst 1, 1) := by decide +kernel
theorem dX7_odds_24 : decode cX7_odds 24 = .ok (.aload_n 0, 1) := by decide +kernel
theorem dX7_odds_25 : decode cX7_odds 25 = .ok (.getfield 12, 3) := by decide +kernel
theorem dX7_odds_28 : decode cX7_odds 28 = .ok (.getfield 179, 3) := by decide +kernel
theorem dX7_odds_31 : decode cX7_odds 31 = .ok (.ishl, 1) := by decide +kernel
theorem dX7_odds_32 : decode cX7_odds 32 = .ok (.istore_n 3, 1) := by decide +kernel
theorem dX7_odds_33 : decode cX7_odds 33 = .ok (.aload_n 0, 1) := by decide +kernel
theorem dX7_odds_34 : decode cX7_odds 34 = .ok (.getfield 12, 3) := by decide +kernel
theorem dX7_odds_37 : decode cX7_odds 37 = .ok (.iload_n 1, 1) := by decide +kernel
theorem dX7_odds_38 : decode cX7_odds 38 = .ok (.invokevirtual 182, 3) := by decide +kernel
theorem dX7_odds_41 : decode cX7_odds 41 = .ok (.istore 4, 2) := by decide +kernel
theorem dX7_odds_43 : decode cX7_odds 43 = .ok (.iconst 0, 1) := by decide +kernel
theorem dX7_odds_44 : decode cX7_odds 44 = .ok (.istore 5, 2) := by decide +kernel
theorem dX7_odds_46 : decode cX7_odds 46 = .ok (.iload 5, 2) := by decide +kernel
theorem dX7_odds_48 : decode cX7_odds 48 = .ok (.bipush 6, 2) := by decide +kernel
theorem dX7_odds_50 : decode cX7_odds 50 = .ok (.if_icmp .ge 32, 3) := by decide +kernel
theorem dX7_odds_53 : decode cX7_odds 53 = .ok (.iload 4, 2) := by decide +kernel
theorem dX7_odds_55 : decode cX7_odds 55 = .ok (.iconst 2, 1) := by decide +kernel
theorem dX7_odds_56 : decode cX7_odds 56 = .ok (.irem, 1) := by decide +kernel
theorem dX7_odds_57 : decode cX7_odds 57 = .ok (.ifCond .ne 25, 3) := by decide +kernel
theorem dX7_odds_60 : decode cX7_odds 60 = .ok (.iload_n 3, 1) := by decide +kernel
theorem dX7_odds_61 : decode cX7_odds 61 = .ok (.iconst 2, 1) := by decide +kernel
theorem dX7_odds_62 : decode cX7_odds 62 = .ok (.irem, 1) := by decide +kernel
theorem dX7_odds_63 : decode cX7_odds 63 = .ok (.ifCond .ne 19, 3) := by decide +kernel
theorem dX7_odds_66 : decode cX7_odds 66 = .ok (.iload 4, 2) := by decide +kernel
theorem dX7_odds_68 : decode cX7_odds 68 = .ok (.iconst 2, 1) := by decide +kernel
theorem dX7_odds_69 : decode cX7_odds 69 = .ok (.idiv, 1) := by decide +kernel
theorem dX7_odds_70 : decode cX7_odds 70 = .ok (.istore 4, 2) := by decide +kernel
theorem dX7_odds_72 : decode cX7_odds 72 = .ok (.iload_n 3, 1) := by decide +kernel
theorem dX7_odds_73 : decode cX7_odds 73 = .ok (.iconst 2, 1) := by decide +kernel
theorem dX7_odds_74 : decode cX7_odds 74 = .ok (.idiv, 1) := by decide +kernel
theorem dX7_odds_75 : decode cX7_odds 75 = .ok (.istore_n 3, 1) := by decide +kernel
theorem dX7_odds_76 : decode cX7_odds 76 = .ok (.iinc 5 1, 3) := by decide +kernel
theorem dX7_odds_79 : decode cX7_odds 79 = .ok (.goto (-33), 3) := by decide +kernel
theorem dX7_odds_82 : decode cX7_odds 82 = .ok (.iload_n 2, 1) := by decide +kernel
theorem dX7_odds_83 : decode cX7_odds 83 = .ok (.ifCond .ne 9, 3) := by decide +kernel
theorem dX7_odds_86 : decode cX7_odds 86 = .ok (.iload 4, 2) := by decide +kernel
theorem dX7_odds_88 : decode cX7_odds 88 = .ok (.i2l, 1) := by decide +kernel
theorem dX7_odds_89 : decode cX7_odds 89 = .ok (.goto 5, 3) := by decide +kernel
theorem dX7_odds_92 : decode cX7_odds 92 = .ok (.iload_n 3, 1) := by decide +kernel
theorem dX7_odds_93 : decode cX7_odds 93 = .ok (.i2l, 1) := by decide +kernel
theorem dX7_odds_94 : decode cX7_odds 94 = .ok (.lreturn, 1) := by decide +kernel
set_option maxRecDepth 20000 in
theorem ggX7_sheet_X7_sheetOf : GoodIn wsX7_sheet wsX7_sheetOf := goodIn_r _ [6, 7, 35, 36, 37, 38, 39, 40, 41, 42] (by decide +kernel) (by decide +kernel)
set_option maxRecDepth 20000 in
theorem gX7_sheet_X7_sheetOf : GoodIn wsX7_sheet (wsV RX7 64 RX7 yX7_sheetOf wsX7_sheetOf) := goodIn_app (goodIn_of _ (by decide +kernel)) ggX7_sheet_X7_sheetOf
set_option maxRecDepth 20000 in
theorem ggX7_sheet_X7_isBelow : GoodIn wsX7_sheet wsX7_isBelow := goodIn_r _ [10] (by decide +kernel) (by decide +kernel)
set_option maxRecDepth 20000 in
theorem gX7_sheet_X7_isBelow : GoodIn wsX7_sheet (va_wsS RX7 68 yX7_isBelow wsX7_isBelow) := goodIn_app (goodIn_of _ (by decide +kernel)) ggX7_sheet_X7_isBelow
set_option maxRecDepth 20000 in
theorem ggX7_sheet_X7_faulted : GoodIn wsX7_sheet wsX7_faulted := goodIn_r _ [14, 1, 35, 36, 37, 38, 39, 40, 41, 42] (by decide +kernel) (by decide +kernel)
set_option maxRecDepth 20000 in
theorem gX7_sheet_X7_faulted : GoodIn wsX7_sheet (wsV RX7 76 RX7 yX7_faulted wsX7_faulted) := goodIn_app (goodIn_of _ (by decide +kernel)) ggX7_sheet_X7_faulted
set_option maxRecDepth 20000 in
theorem ggX7_sheet_X4_renew : GoodIn wsX7_sheet wsX4_renew := goodIn_r _ [19, 20, 21, 22, 23, 24, 25, 26, 27, 28, 29, 30, 31, 32, 33, 34, 43, 44, 45, 46] (by decide +kernel) (by decide +kernel)
set_option maxRecDepth 20000 in
theorem gX7_sheet_X4_renew : GoodIn wsX7_sheet (wsV RX7 185 RX4 yX4_renew wsX4_renew) := goodIn_app (goodIn_of _ (by decide +kernel)) ggX7_sheet_X4_renew
theorem dX7_sheet_0 : decode cX7_sheet 0 = .ok (.aload_n 0, 1) := by decide +kernel
theorem dX7_sheet_1 : decode cX7_sheet 1 = .ok (.iconst 0, 1) := by decide +kernel
theorem dX7_sheet_2 : decode cX7_sheet 2 = .ok (.putfield 59, 3) := by decide +kernel
theorem dX7_sheet_5 : decode cX7_sheet 5 = .ok (.aload_n 0, 1) := by decide +kernel
theorem dX7_sheet_6 : decode cX7_sheet 6 = .ok (.iload_n 1, 1) := by decide +kernel
theorem dX7_sheet_7 : decode cX7_sheet 7 = .ok (.invokevirtual 64, 3) := by decide +kernel
theorem dX7_sheet_10 : decode cX7_sheet 10 = .ok (.astore 4, 2) := by decide +kernel
theorem dX7_sheet_12 : decode cX7_sheet 12 = .ok (.aload 4, 2) := by decide +kernel
theorem dX7_sheet_14 : decode cX7_sheet 14 = .ok (.ifnonnull 5, 3) := by decide +kernel
theorem dX7_sheet_17 : decode cX7_sheet 17 = .ok (.iconst (-1), 1) := by decide +kernel
theorem dX7_sheet_18 : decode cX7_sheet 18 = .ok (.ireturn, 1) := by decide +kernel
theorem dX7_sheet_19 : decode cX7_sheet 19 = .ok (.iload_n 2, 1) := by decide +kernel
theorem dX7_sheet_20 : decode cX7_sheet 20 = .ok (.iconst 3, 1) := by decide +kernel
theorem dX7_sheet_21 : decode cX7_sheet 21 = .ok (.invokestatic 68, 3) := by decide +kernel
theorem dX7_sheet_24 : decode cX7_sheet 24 = .ok (.ifCond .eq 9, 3) := by decide +kernel
theorem dX7_sheet_27 : decode cX7_sheet 27 = .ok (.iload_n 3, 1) := by decide +kernel
theorem dX7_sheet_28 : decode cX7_sheet 28 = .ok (.bipush 60, 2) := by decide +kernel
theorem dX7_sheet_30 : decode cX7_sheet 30 = .ok (.if_icmp .le 6, 3) := by decide +kernel
theorem dX7_sheet_33 : decode cX7_sheet 33 = .ok (.bipush (-2), 2) := by decide +kernel
theorem dX7_sheet_35 : decode cX7_sheet 35 = .ok (.ireturn, 1) := by decide +kernel
theorem dX7_sheet_36 : decode cX7_sheet 36 = .ok (.iload_n 3, 1) := by decide +kernel
theorem dX7_sheet_37 : decode cX7_sheet 37 = .ok (.ifCond .ge 9, 3) := by decide +kernel
theorem dX7_sheet_40 : decode cX7_sheet 40 = .ok (.aload_n 0, 1) := by decide +kernel
theorem dX7_sheet_41 : decode cX7_sheet 41 = .ok (.iconst 4, 1) := by decide +kernel
theorem dX7_sheet_42 : decode cX7_sheet 42 = .ok (.invokevirtual 76, 3) := by decide +kernel
theorem dX7_sheet_45 : decode cX7_sheet 45 = .ok (.ireturn, 1) := by decide +kernel
theorem dX7_sheet_46 : decode cX7_sheet 46 = .ok (.aload 4, 2) := by decide +kernel
theorem dX7_sheet_48 : decode cX7_sheet 48 = .ok (.iload_n 2, 1) := by decide +kernel
theorem dX7_sheet_49 : decode cX7_sheet 49 = .ok (.iload_n 3, 1) := by decide +kernel
theorem dX7_sheet_50 : decode cX7_sheet 50 = .ok (.invokevirtual 185, 3) := by decide +kernel
theorem dX7_sheet_53 : decode cX7_sheet 53 = .ok (.iconst 1, 1) := by decide +kernel
theorem dX7_sheet_54 : decode cX7_sheet 54 = .ok (.ireturn, 1) := by decide +kernel
set_option maxRecDepth 20000 in
theorem ggX7_lose_X7_sheetOf : GoodIn wsX7_lose wsX7_sheetOf := goodIn_r _ [6, 7, 12, 13, 14, 15, 16, 17, 18, 19] (by decide +kernel) (by decide +kernel)
set_option maxRecDepth 20000 in
theorem gX7_lose_X7_sheetOf : GoodIn wsX7_lose (wsV RX7 64 RX7 yX7_sheetOf wsX7_sheetOf) := goodIn_app (goodIn_of _ (by decide +kernel)) ggX7_lose_X7_sheetOf
theorem dX7_lose_0 : decode cX7_lose 0 = .ok (.aload_n 0, 1) := by decide +kernel
theorem dX7_lose_1 : decode cX7_lose 1 = .ok (.iload_n 1, 1) := by decide +kernel
theorem dX7_lose_2 : decode cX7_lose 2 = .ok (.invokevirtual 64, 3) := by decide +kernel
theorem dX7_lose_5 : decode cX7_lose 5 = .ok (.astore_n 2, 1) := by decide +kernel
theorem dX7_lose_6 : decode cX7_lose 6 = .ok (.aload_n 2, 1) := by decide +kernel
theorem dX7_lose_7 : decode cX7_lose 7 = .ok (.ifnonnull 5, 3) := by decide +kernel
theorem dX7_lose_10 : decode cX7_lose 10 = .ok (.iconst (-1), 1) := by decide +kernel
theorem dX7_lose_11 : decode cX7_lose 11 = .ok (.ireturn, 1) := by decide +kernel
theorem dX7_lose_12 : decode cX7_lose 12 = .ok (.aload_n 2, 1) := by decide +kernel
theorem dX7_lose_13 : decode cX7_lose 13 = .ok (.getfield 189, 3) := by decide +kernel
theorem dX7_lose_16 : decode cX7_lose 16 = .ok (.ifCond .eq 7, 3) := by decide +kernel
theorem dX7_lose_19 : decode cX7_lose 19 = .ok (.iconst 1, 1) := by decide +kernel
theorem dX7_lose_20 : decode cX7_lose 20 = .ok (.goto 4, 3) := by decide +kernel
theorem dX7_lose_23 : decode cX7_lose 23 = .ok (.iconst 0, 1) := by decide +kernel
theorem dX7_lose_24 : decode cX7_lose 24 = .ok (.istore_n 3, 1) := by decide +kernel
theorem dX7_lose_25 : decode cX7_lose 25 = .ok (.aload_n 2, 1) := by decide +kernel
theorem dX7_lose_26 : decode cX7_lose 26 = .ok (.iconst 0, 1) := by decide +kernel
theorem dX7_lose_27 : decode cX7_lose 27 = .ok (.putfield 189, 3) := by decide +kernel
theorem dX7_lose_30 : decode cX7_lose 30 = .ok (.iload_n 3, 1) := by decide +kernel
theorem dX7_lose_31 : decode cX7_lose 31 = .ok (.ireturn, 1) := by decide +kernel
set_option maxRecDepth 20000 in
theorem ggX7_put_X7_sheetOf : GoodIn wsX7_put wsX7_sheetOf := goodIn_r _ [7, 8, 31, 32, 33, 34, 35, 36, 37, 38] (by decide +kernel) (by decide +kernel)
set_option maxRecDepth 20000 in
theorem gX7_put_X7_sheetOf : GoodIn wsX7_put (wsV RX7 64 RX7 yX7_sheetOf wsX7_sheetOf) := goodIn_app (goodIn_of _ (by decide +kernel)) ggX7_put_X7_sheetOf
set_option maxRecDepth 20000 in
theorem ggX7_put_X7_faulted : GoodIn wsX7_put wsX7_faulted := goodIn_r _ [12, 1, 31, 32, 33, 34, 35, 36, 37, 38] (by decide +kernel) (by decide +kernel)
set_option maxRecDepth 20000 in
theorem gX7_put_X7_faulted : GoodIn wsX7_put (wsV RX7 76 RX7 yX7_faulted wsX7_faulted) := goodIn_app (goodIn_of _ (by decide +kernel)) ggX7_put_X7_faulted
set_option maxRecDepth 20000 in
theorem ggX7_put_X4_holds : GoodIn wsX7_put wsX4_holds := goodIn_r _ [17, 18, 39, 40, 41, 42] (by decide +kernel) (by decide +kernel)
set_option maxRecDepth 20000 in
theorem gX7_put_X4_holds : GoodIn wsX7_put (wsV RX7 193 RX4 yX4_holds wsX4_holds) := goodIn_app (goodIn_of _ (by decide +kernel)) ggX7_put_X4_holds
set_option maxRecDepth 20000 in
theorem ggX7_put_X4_store : GoodIn wsX7_put wsX4_store := goodIn_r _ [22, 23, 24, 25, 26, 16, 27, 28, 29, 6, 30, 39, 40, 41, 42] (by decide +kernel) (by decide +kernel)
set_option maxRecDepth 20000 in
theorem gX7_put_X4_store : GoodIn wsX7_put (wsV RX7 196 RX4 yX4_store wsX4_store) := goodIn_app (goodIn_of _ (by decide +kernel)) ggX7_put_X4_store
theorem dX7_put_0 : decode cX7_put 0 = .ok (.aload_n 0, 1) := by decide +kernel
theorem dX7_put_1 : decode cX7_put 1 = .ok (.iconst 0, 1) := by decide +kernel
theorem dX7_put_2 : decode cX7_put 2 = .ok (.putfield 59, 3) := by decide +kernel
theorem dX7_put_5 : decode cX7_put 5 = .ok (.aload_n 0, 1) := by decide +kernel
theorem dX7_put_6 : decode cX7_put 6 = .ok (.iload_n 1, 1) := by decide +kernel
theorem dX7_put_7 : decode cX7_put 7 = .ok (.invokevirtual 64, 3) := by decide +kernel
theorem dX7_put_10 : decode cX7_put 10 = .ok (.astore 4, 2) := by decide +kernel
theorem dX7_put_12 : decode cX7_put 12 = .ok (.aload 4, 2) := by decide +kernel
theorem dX7_put_14 : decode cX7_put 14 = .ok (.ifnonnull 5, 3) := by decide +kernel
theorem dX7_put_17 : decode cX7_put 17 = .ok (.iconst (-1), 1) := by decide +kernel
theorem dX7_put_18 : decode cX7_put 18 = .ok (.ireturn, 1) := by decide +kernel
theorem dX7_put_19 : decode cX7_put 19 = .ok (.aload 4, 2) := by decide +kernel
theorem dX7_put_21 : decode cX7_put 21 = .ok (.getfield 189, 3) := by decide +kernel
theorem dX7_put_24 : decode cX7_put 24 = .ok (.ifCond .ne 9, 3) := by decide +kernel
theorem dX7_put_27 : decode cX7_put 27 = .ok (.aload_n 0, 1) := by decide +kernel
theorem dX7_put_28 : decode cX7_put 28 = .ok (.iconst 1, 1) := by decide +kernel
theorem dX7_put_29 : decode cX7_put 29 = .ok (.invokevirtual 76, 3) := by decide +kernel
theorem dX7_put_32 : decode cX7_put 32 = .ok (.ireturn, 1) := by decide +kernel
theorem dX7_put_33 : decode cX7_put 33 = .ok (.aload 4, 2) := by decide +kernel
theorem dX7_put_35 : decode cX7_put 35 = .ok (.iload_n 2, 1) := by decide +kernel
theorem dX7_put_36 : decode cX7_put 36 = .ok (.iconst 1, 1) := by decide +kernel
theorem dX7_put_37 : decode cX7_put 37 = .ok (.invokevirtual 193, 3) := by decide +kernel
theorem dX7_put_40 : decode cX7_put 40 = .ok (.ifCond .ne 9, 3) := by decide +kernel
theorem dX7_put_43 : decode cX7_put 43 = .ok (.aload_n 0, 1) := by decide +kernel
theorem dX7_put_44 : decode cX7_put 44 = .ok (.iconst 3, 1) := by decide +kernel
theorem dX7_put_45 : decode cX7_put 45 = .ok (.invokevirtual 76, 3) := by decide +kernel
theorem dX7_put_48 : decode cX7_put 48 = .ok (.ireturn, 1) := by decide +kernel
theorem dX7_put_49 : decode cX7_put 49 = .ok (.aload 4, 2) := by decide +kernel
theorem dX7_put_51 : decode cX7_put 51 = .ok (.iload_n 2, 1) := by decide +kernel
theorem dX7_put_52 : decode cX7_put 52 = .ok (.iload_n 3, 1) := by decide +kernel
theorem dX7_put_53 : decode cX7_put 53 = .ok (.invokevirtual 196, 3) := by decide +kernel
theorem dX7_put_56 : decode cX7_put 56 = .ok (.iconst 1, 1) := by decide +kernel
theorem dX7_put_57 : decode cX7_put 57 = .ok (.ireturn, 1) := by decide +kernel
set_option maxRecDepth 20000 in
theorem ggX7_cell_X7_sheetOf : GoodIn wsX7_cell wsX7_sheetOf := goodIn_r _ [7, 8, 31, 32, 33, 34, 35, 36, 37, 38] (by decide +kernel) (by decide +kernel)
set_option maxRecDepth 20000 in
theorem gX7_cell_X7_sheetOf : GoodIn wsX7_cell (wsV RX7 64 RX7 yX7_sheetOf wsX7_sheetOf) := goodIn_app (goodIn_of _ (by decide +kernel)) ggX7_cell_X7_sheetOf
set_option maxRecDepth 20000 in
theorem ggX7_cell_X7_isBelow : GoodIn wsX7_cell wsX7_isBelow := goodIn_r _ [11] (by decide +kernel) (by decide +kernel)
set_option maxRecDepth 20000 in
theorem gX7_cell_X7_isBelow : GoodIn wsX7_cell (va_wsS RX7 68 yX7_isBelow wsX7_isBelow) := goodIn_app (goodIn_of _ (by decide +kernel)) ggX7_cell_X7_isBelow
set_option maxRecDepth 20000 in
theorem ggX7_cell_X4_faultOfCells : GoodIn wsX7_cell wsX4_faultOfCells := goodIn_r _ [16, 17, 18, 19, 20, 21, 15, 22, 23, 39, 40, 41, 42] (by decide +kernel) (by decide +kernel)
set_option maxRecDepth 20000 in
theorem gX7_cell_X4_faultOfCells : GoodIn wsX7_cell (wsV RX7 72 RX4 yX4_faultOfCells wsX4_faultOfCells) := goodIn_app (goodIn_of _ (by decide +kernel)) ggX7_cell_X4_faultOfCells
set_option maxRecDepth 20000 in
theorem ggX7_cell_X4_number : GoodIn wsX7_cell wsX4_number := goodIn_r _ [27, 28, 29, 6, 30, 39, 40, 41, 42] (by decide +kernel) (by decide +kernel)
set_option maxRecDepth 20000 in
theorem gX7_cell_X4_number : GoodIn wsX7_cell (wsV RX7 199 RX4 yX4_number wsX4_number) := goodIn_app (goodIn_of _ (by decide +kernel)) ggX7_cell_X4_number
theorem dX7_cell_0 : decode cX7_cell 0 = .ok (.aload_n 0, 1) := by decide +kernel
theorem dX7_cell_1 : decode cX7_cell 1 = .ok (.iconst 0, 1) := by decide +kernel
theorem dX7_cell_2 : decode cX7_cell 2 = .ok (.putfield 59, 3) := by decide +kernel
theorem dX7_cell_5 : decode cX7_cell 5 = .ok (.aload_n 0, 1) := by decide +kernel
theorem dX7_cell_6 : decode cX7_cell 6 = .ok (.iload_n 1, 1) := by decide +kernel
theorem dX7_cell_7 : decode cX7_cell 7 = .ok (.invokevirtual 64, 3) := by decide +kernel
theorem dX7_cell_10 : decode cX7_cell 10 = .ok (.astore 4, 2) := by decide +kernel
theorem dX7_cell_12 : decode cX7_cell 12 = .ok (.aload 4, 2) := by decide +kernel
theorem dX7_cell_14 : decode cX7_cell 14 = .ok (.ifnull 11, 3) := by decide +kernel
theorem dX7_cell_17 : decode cX7_cell 17 = .ok (.iload_n 3, 1) := by decide +kernel
theorem dX7_cell_18 : decode cX7_cell 18 = .ok (.iconst 3, 1) := by decide +kernel
theorem dX7_cell_19 : decode cX7_cell 19 = .ok (.invokestatic 68, 3) := by decide +kernel
theorem dX7_cell_22 : decode cX7_cell 22 = .ok (.ifCond .ne 7, 3) := by decide +kernel
theorem dX7_cell_25 : decode cX7_cell 25 = .ok (.ldc2_w 177, 3) := by decide +kernel
theorem dX7_cell_28 : decode cX7_cell 28 = .ok (.lreturn, 1) := by decide +kernel
theorem dX7_cell_29 : decode cX7_cell 29 = .ok (.aload_n 0, 1) := by decide +kernel
theorem dX7_cell_30 : decode cX7_cell 30 = .ok (.aload 4, 2) := by decide +kernel
theorem dX7_cell_32 : decode cX7_cell 32 = .ok (.iload_n 3, 1) := by decide +kernel
theorem dX7_cell_33 : decode cX7_cell 33 = .ok (.iload_n 2, 1) := by decide +kernel
theorem dX7_cell_34 : decode cX7_cell 34 = .ok (.iconst 1, 1) := by decide +kernel
theorem dX7_cell_35 : decode cX7_cell 35 = .ok (.invokevirtual 72, 3) := by decide +kernel
theorem dX7_cell_38 : decode cX7_cell 38 = .ok (.putfield 59, 3) := by decide +kernel
theorem dX7_cell_41 : decode cX7_cell 41 = .ok (.aload_n 0, 1) := by decide +kernel
theorem dX7_cell_42 : decode cX7_cell 42 = .ok (.getfield 59, 3) := by decide +kernel
theorem dX7_cell_45 : decode cX7_cell 45 = .ok (.ifCond .ne 13, 3) := by decide +kernel
theorem dX7_cell_48 : decode cX7_cell 48 = .ok (.aload 4, 2) := by decide +kernel
theorem dX7_cell_50 : decode cX7_cell 50 = .ok (.iload_n 2, 1) := by decide +kernel
theorem dX7_cell_51 : decode cX7_cell 51 = .ok (.invokevirtual 199, 3) := by decide +kernel
theorem dX7_cell_54 : decode cX7_cell 54 = .ok (.i2l, 1) := by decide +kernel
theorem dX7_cell_55 : decode cX7_cell 55 = .ok (.goto 6, 3) := by decide +kernel
theorem dX7_cell_58 : decode cX7_cell 58 = .ok (.ldc2_w 177, 3) := by decide +kernel
theorem dX7_cell_61 : decode cX7_cell 61 = .ok (.lreturn, 1) := by decide +kernel
set_option maxRecDepth 20000 in
theorem ggX7_copy_X7_sheetOf : GoodIn wsX7_copy wsX7_sheetOf := goodIn_r _ [13, 14, 25, 26, 27, 28, 29, 30, 31, 32] (by decide +kernel) (by decide +kernel)
set_option maxRecDepth 20000 in
theorem gX7_copy_X7_sheetOf : GoodIn wsX7_copy (wsV RX7 64 RX7 yX7_sheetOf wsX7_sheetOf) := goodIn_app (goodIn_of _ (by decide +kernel)) ggX7_copy_X7_sheetOf
set_option maxRecDepth 20000 in
theorem ggX7_copy_X7_faulted : GoodIn wsX7_copy wsX7_faulted := goodIn_r _ [18, 1, 25, 26, 27, 28, 29, 30, 31, 32] (by decide +kernel) (by decide +kernel)
set_option maxRecDepth 20000 in
theorem gX7_copy_X7_faulted : GoodIn wsX7_copy (wsV RX7 76 RX7 yX7_faulted wsX7_faulted) := goodIn_app (goodIn_of _ (by decide +kernel)) ggX7_copy_X7_faulted
set_option maxRecDepth 20000 in
theorem ggX7_copy_X4_holds : GoodIn wsX7_copy wsX4_holds := goodIn_r _ [23, 24, 33, 34, 35, 36] (by decide +kernel) (by decide +kernel)
set_option maxRecDepth 20000 in
theorem gX7_copy_X4_holds : GoodIn wsX7_copy (wsV RX7 193 RX4 yX4_holds wsX4_holds) := goodIn_app (goodIn_of _ (by decide +kernel)) ggX7_copy_X4_holds
theorem dX7_copy_0 : decode cX7_copy 0 = .ok (.aload_n 0, 1) := by decide +kernel
theorem dX7_copy_1 : decode cX7_copy 1 = .ok (.iconst 0, 1) := by decide +kernel
theorem dX7_copy_2 : decode cX7_copy 2 = .ok (.putfield 59, 3) := by decide +kernel
theorem dX7_copy_5 : decode cX7_copy 5 = .ok (.aload_n 0, 1) := by decide +kernel
theorem dX7_copy_6 : decode cX7_copy 6 = .ok (.iload_n 1, 1) := by decide +kernel
theorem dX7_copy_7 : decode cX7_copy 7 = .ok (.invokevirtual 64, 3) := by decide +kernel
theorem dX7_copy_10 : decode cX7_copy 10 = .ok (.astore 6, 2) := by decide +kernel
theorem dX7_copy_12 : decode cX7_copy 12 = .ok (.aload_n 0, 1) := by decide +kernel
theorem dX7_copy_13 : decode cX7_copy 13 = .ok (.iload_n 3, 1) := by decide +kernel
theorem dX7_copy_14 : decode cX7_copy 14 = .ok (.invokevirtual 64, 3) := by decide +kernel
theorem dX7_copy_17 : decode cX7_copy 17 = .ok (.astore 7, 2) := by decide +kernel
theorem dX7_copy_19 : decode cX7_copy 19 = .ok (.aload 6, 2) := by decide +kernel
theorem dX7_copy_21 : decode cX7_copy 21 = .ok (.ifnull 8, 3) := by decide +kernel
theorem dX7_copy_24 : decode cX7_copy 24 = .ok (.aload 7, 2) := by decide +kernel
theorem dX7_copy_26 : decode cX7_copy 26 = .ok (.ifnonnull 5, 3) := by decide +kernel
theorem dX7_copy_29 : decode cX7_copy 29 = .ok (.iconst (-1), 1) := by decide +kernel
theorem dX7_copy_30 : decode cX7_copy 30 = .ok (.ireturn, 1) := by decide +kernel
theorem dX7_copy_31 : decode cX7_copy 31 = .ok (.aload 6, 2) := by decide +kernel
theorem dX7_copy_33 : decode cX7_copy 33 = .ok (.getfield 189, 3) := by decide +kernel
theorem dX7_copy_36 : decode cX7_copy 36 = .ok (.ifCond .eq 11, 3) := by decide +kernel
theorem dX7_copy_39 : decode cX7_copy 39 = .ok (.aload 7, 2) := by decide +kernel
theorem dX7_copy_41 : decode cX7_copy 41 = .ok (.getfield 189, 3) := by decide +kernel
theorem dX7_copy_44 : decode cX7_copy 44 = .ok (.ifCond .ne 9, 3) := by decide +kernel
theorem dX7_copy_47 : decode cX7_copy 47 = .ok (.aload_n 0, 1) := by decide +kernel
theorem dX7_copy_48 : decode cX7_copy 48 = .ok (.iconst 1, 1) := by decide +kernel
theorem dX7_copy_49 : decode cX7_copy 49 = .ok (.invokevirtual 76, 3) := by decide +kernel
theorem dX7_copy_52 : decode cX7_copy 52 = .ok (.ireturn, 1) := by decide +kernel
theorem dX7_copy_53 : decode cX7_copy 53 = .ok (.aload 6, 2) := by decide +kernel
theorem dX7_copy_55 : decode cX7_copy 55 = .ok (.getfield 202, 3) := by decide +kernel
theorem dX7_copy_58 : decode cX7_copy 58 = .ok (.aload 7, 2) := by decide +kernel
theorem dX7_copy_60 : decode cX7_copy 60 = .ok (.getfield 202, 3) := by decide +kernel
theorem dX7_copy_63 : decode cX7_copy 63 = .ok (.if_icmp .eq 9, 3) := by decide +kernel
theorem dX7_copy_66 : decode cX7_copy 66 = .ok (.aload_n 0, 1) := by decide +kernel
theorem dX7_copy_67 : decode cX7_copy 67 = .ok (.iconst 2, 1) := by decide +kernel
theorem dX7_copy_68 : decode cX7_copy 68 = .ok (.invokevirtual 76, 3) := by decide +kernel
theorem dX7_copy_71 : decode cX7_copy 71 = .ok (.ireturn, 1) := by decide +kernel
theorem dX7_copy_72 : decode cX7_copy 72 = .ok (.aload 6, 2) := by decide +kernel
theorem dX7_copy_74 : decode cX7_copy 74 = .ok (.iload_n 2, 1) := by decide +kernel
theorem dX7_copy_75 : decode cX7_copy 75 = .ok (.iload 5, 2) := by decide +kernel
theorem dX7_copy_77 : decode cX7_copy 77 = .ok (.invokevirtual 193, 3) := by decide +kernel
theorem dX7_copy_80 : decode cX7_copy 80 = .ok (.ifCond .eq 15, 3) := by decide +kernel
theorem dX7_copy_83 : decode cX7_copy 83 = .ok (.aload 7, 2) := by decide +kernel
theorem dX7_copy_85 : decode cX7_copy 85 = .ok (.iload 4, 2) := by decide +kernel
theorem dX7_copy_87 : decode cX7_copy 87 = .ok (.iload 5, 2) := by decide +kernel
theorem dX7_copy_89 : decode cX7_copy 89 = .ok (.invokevirtual 193, 3) := by decide +kernel
theorem dX7_copy_92 : decode cX7_copy 92 = .ok (.ifCond .ne 9, 3) := by decide +kernel
theorem dX7_copy_95 : decode cX7_copy 95 = .ok (.aload_n 0, 1) := by decide +kernel
theorem dX7_copy_96 : decode cX7_copy 96 = .ok (.iconst 3, 1) := by decide +kernel
theorem dX7_copy_97 : decode cX7_copy 97 = .ok (.invokevirtual 76, 3) := by decide +kernel
theorem dX7_copy_100 : decode cX7_copy 100 = .ok (.ireturn, 1) := by decide +kernel
theorem dX7_copy_101 : decode cX7_copy 101 = .ok (.aload 6, 2) := by decide +kernel
theorem dX7_copy_103 : decode cX7_copy 103 = .ok (.getfield 205, 3) := by decide +kernel
theorem dX7_copy_106 : decode cX7_copy 106 = .ok (.iload_n 2, 1) := by decide +kernel
theorem dX7_copy_107 : decode cX7_copy 107 = .ok (.aload 7, 2) := by decide +kernel
theorem dX7_copy_109 : decode cX7_copy 109 = .ok (.getfield 205, 3) := by decide +kernel
theorem dX7_copy_112 : decode cX7_copy 112 = .ok (.iload 4, 2) := by decide +kernel
theorem dX7_copy_114 : decode cX7_copy 114 = .ok (.iload 5, 2) := by decide +kernel
theorem dX7_copy_116 : decode cX7_copy 116 = .ok (.invokestatic 208, 3) := by decide +kernel
theorem dX7_copy_119 : decode cX7_copy 119 = .ok (.iload 5, 2) := by decide +kernel
theorem dX7_copy_121 : decode cX7_copy 121 = .ok (.ireturn, 1) := by decide +kernel
set_option maxRecDepth 20000 in
theorem ggX7_tell_X2_hasLinen : GoodIn wsX7_tell wsX2_hasLinen := goodIn_r _ [9, 10, 11, 12, 13, 45, 46, 47, 48, 49, 50, 51] (by decide +kernel) (by decide +kernel)
set_option maxRecDepth 20000 in
theorem gX7_tell_X2_hasLinen : GoodIn wsX7_tell (wsV RX7 94 RX2 yX2_hasLinen wsX2_hasLinen) := goodIn_app (goodIn_of _ (by decide +kernel)) ggX7_tell_X2_hasLinen
set_option maxRecDepth 20000 in
theorem ggX7_tell_X7_at : GoodIn wsX7_tell wsX7_at := goodIn_r _ [16] (by decide +kernel) (by decide +kernel)
set_option maxRecDepth 20000 in
theorem gX7_tell_X7_at : GoodIn wsX7_tell (va_wsS RX7 102 yX7_at wsX7_at) := goodIn_app (goodIn_of _ (by decide +kernel)) ggX7_tell_X7_at
set_option maxRecDepth 20000 in
theorem ggX7_tell_X5_cambricTells : GoodIn wsX7_tell wsX5_cambricTells := goodIn_r _ [21, 22, 23, 24, 20, 25, 26, 52] (by decide +kernel) (by decide +kernel)
set_option maxRecDepth 20000 in
theorem gX7_tell_X5_cambricTells : GoodIn wsX7_tell (wsV RX7 214 RX5 yX5_cambricTells wsX5_cambricTells) := goodIn_app (goodIn_of _ (by decide +kernel)) ggX7_tell_X5_cambricTells
set_option maxRecDepth 20000 in
theorem ggX7_tell_X5_laceTells : GoodIn wsX7_tell wsX5_laceTells := goodIn_r _ [30, 22, 23, 24, 20, 25, 26, 31, 18, 19, 21, 52] (by decide +kernel) (by decide +kernel)
set_option maxRecDepth 20000 in
theorem gX7_tell_X5_laceTells : GoodIn wsX7_tell (wsV RX7 217 RX5 yX5_laceTells wsX5_laceTells) := goodIn_app (goodIn_of _ (by decide +kernel)) ggX7_tell_X5_laceTells
set_option maxRecDepth 20000 in
theorem ggX7_tell_X5_silkTells : GoodIn wsX7_tell wsX5_silkTells := goodIn_r _ [35, 22, 23, 24, 20, 25, 26, 36, 28, 29, 30, 31, 18, 19, 21, 52] (by decide +kernel) (by decide +kernel)
set_option maxRecDepth 20000 in
theorem gX7_tell_X5_silkTells : GoodIn wsX7_tell (wsV RX7 220 RX5 yX5_silkTells wsX5_silkTells) := goodIn_app (goodIn_of _ (by decide +kernel)) ggX7_tell_X5_silkTells
theorem dX7_tell_0 : decode cX7_tell 0 = .ok (.aload_n 0, 1) := by decide +kernel
theorem dX7_tell_1 : decode cX7_tell 1 = .ok (.getfield 12, 3) := by decide +kernel
theorem dX7_tell_4 : decode cX7_tell 4 = .ok (.iload_n 1, 1) := by decide +kernel
theorem dX7_tell_5 : decode cX7_tell 5 = .ok (.invokevirtual 94, 3) := by decide +kernel
theorem dX7_tell_8 : decode cX7_tell 8 = .ok (.ifCond .ne 5, 3) := by decide +kernel
theorem dX7_tell_11 : decode cX7_tell 11 = .ok (.iconst (-1), 1) := by decide +kernel
theorem dX7_tell_12 : decode cX7_tell 12 = .ok (.ireturn, 1) := by decide +kernel
theorem dX7_tell_13 : decode cX7_tell 13 = .ok (.aload_n 0, 1) := by decide +kernel
theorem dX7_tell_14 : decode cX7_tell 14 = .ok (.getfield 12, 3) := by decide +kernel
theorem dX7_tell_17 : decode cX7_tell 17 = .ok (.getfield 109, 3) := by decide +kernel
theorem dX7_tell_20 : decode cX7_tell 20 = .ok (.iload_n 1, 1) := by decide +kernel
theorem dX7_tell_21 : decode cX7_tell 21 = .ok (.invokestatic 102, 3) := by decide +kernel
theorem dX7_tell_24 : decode cX7_tell 24 = .ok (.istore_n 2, 1) := by decide +kernel
theorem dX7_tell_25 : decode cX7_tell 25 = .ok (.aload_n 0, 1) := by decide +kernel
theorem dX7_tell_26 : decode cX7_tell 26 = .ok (.getfield 12, 3) := by decide +kernel
theorem dX7_tell_29 : decode cX7_tell 29 = .ok (.getfield 98, 3) := by decide +kernel
theorem dX7_tell_32 : decode cX7_tell 32 = .ok (.iload_n 1, 1) := by decide +kernel
theorem dX7_tell_33 : decode cX7_tell 33 = .ok (.invokestatic 102, 3) := by decide +kernel
theorem dX7_tell_36 : decode cX7_tell 36 = .ok (.istore_n 3, 1) := by decide +kernel
theorem dX7_tell_37 : decode cX7_tell 37 = .ok (.iload_n 3, 1) := by decide +kernel
theorem dX7_tell_38 : decode cX7_tell 38 = .ok (.ifCond .ne 12, 3) := by decide +kernel
theorem dX7_tell_41 : decode cX7_tell 41 = .ok (.aload_n 0, 1) := by decide +kernel
theorem dX7_tell_42 : decode cX7_tell 42 = .ok (.getfield 49, 3) := by decide +kernel
theorem dX7_tell_45 : decode cX7_tell 45 = .ok (.iload_n 2, 1) := by decide +kernel
theorem dX7_tell_46 : decode cX7_tell 46 = .ok (.invokevirtual 214, 3) := by decide +kernel
theorem dX7_tell_49 : decode cX7_tell 49 = .ok (.ireturn, 1) := by decide +kernel
theorem dX7_tell_50 : decode cX7_tell 50 = .ok (.iload_n 3, 1) := by decide +kernel
theorem dX7_tell_51 : decode cX7_tell 51 = .ok (.iconst 1, 1) := by decide +kernel
theorem dX7_tell_52 : decode cX7_tell 52 = .ok (.if_icmp .ne 14, 3) := by decide +kernel
theorem dX7_tell_55 : decode cX7_tell 55 = .ok (.aload_n 0, 1) := by decide +kernel
theorem dX7_tell_56 : decode cX7_tell 56 = .ok (.getfield 49, 3) := by decide +kernel
theorem dX7_tell_59 : decode cX7_tell 59 = .ok (.iload_n 2, 1) := by decide +kernel
theorem dX7_tell_60 : decode cX7_tell 60 = .ok (.invokevirtual 217, 3) := by decide +kernel
theorem dX7_tell_63 : decode cX7_tell 63 = .ok (.goto 11, 3) := by decide +kernel
theorem dX7_tell_66 : decode cX7_tell 66 = .ok (.aload_n 0, 1) := by decide +kernel
theorem dX7_tell_67 : decode cX7_tell 67 = .ok (.getfield 49, 3) := by decide +kernel
theorem dX7_tell_70 : decode cX7_tell 70 = .ok (.iload_n 2, 1) := by decide +kernel
theorem dX7_tell_71 : decode cX7_tell 71 = .ok (.invokevirtual 220, 3) := by decide +kernel
theorem dX7_tell_74 : decode cX7_tell 74 = .ok (.ireturn, 1) := by decide +kernel
set_option maxRecDepth 20000 in
theorem ggX7_knot_X2_hasLinen : GoodIn wsX7_knot wsX2_hasLinen := goodIn_r _ [8, 9, 10, 11, 12, 38, 39, 40, 41, 42, 43, 44] (by decide +kernel) (by decide +kernel)
set_option maxRecDepth 20000 in
theorem gX7_knot_X2_hasLinen : GoodIn wsX7_knot (wsV RX7 94 RX2 yX2_hasLinen wsX2_hasLinen) := goodIn_app (goodIn_of _ (by decide +kernel)) ggX7_knot_X2_hasLinen
set_option maxRecDepth 20000 in
theorem ggX7_knot_X7_at : GoodIn wsX7_knot wsX7_at := goodIn_r _ [15] (by decide +kernel) (by decide +kernel)
set_option maxRecDepth 20000 in
theorem gX7_knot_X7_at : GoodIn wsX7_knot (va_wsS RX7 102 yX7_at wsX7_at) := goodIn_app (goodIn_of _ (by decide +kernel)) ggX7_knot_X7_at
set_option maxRecDepth 20000 in
theorem ggX7_knot_X5_silkIsKnotted : GoodIn wsX7_knot wsX5_silkIsKnotted := goodIn_r _ [20, 21, 22, 23, 19, 24, 25, 45] (by decide +kernel) (by decide +kernel)
set_option maxRecDepth 20000 in
theorem gX7_knot_X5_silkIsKnotted : GoodIn wsX7_knot (wsV RX7 223 RX5 yX5_silkIsKnotted wsX5_silkIsKnotted) := goodIn_app (goodIn_of _ (by decide +kernel)) ggX7_knot_X5_silkIsKnotted
set_option maxRecDepth 20000 in
theorem ggX7_knot_X5_isKnotted : GoodIn wsX7_knot wsX5_isKnotted := goodIn_r _ [29, 21, 22, 23, 19, 24, 25, 45] (by decide +kernel) (by decide +kernel)
set_option maxRecDepth 20000 in
theorem gX7_knot_X5_isKnotted : GoodIn wsX7_knot (wsV RX7 227 RX5 yX5_isKnotted wsX5_isKnotted) := goodIn_app (goodIn_of _ (by decide +kernel)) ggX7_knot_X5_isKnotted
theorem dX7_knot_0 : decode cX7_knot 0 = .ok (.aload_n 0, 1) := by decide +kernel
theorem dX7_knot_1 : decode cX7_knot 1 = .ok (.getfield 12, 3) := by decide +kernel
theorem dX7_knot_4 : decode cX7_knot 4 = .ok (.iload_n 1, 1) := by decide +kernel
theorem dX7_knot_5 : decode cX7_knot 5 = .ok (.invokevirtual 94, 3) := by decide +kernel
theorem dX7_knot_8 : decode cX7_knot 8 = .ok (.ifCond .ne 5, 3) := by decide +kernel
theorem dX7_knot_11 : decode cX7_knot 11 = .ok (.iconst (-1), 1) := by decide +kernel
theorem dX7_knot_12 : decode cX7_knot 12 = .ok (.ireturn, 1) := by decide +kernel
theorem dX7_knot_13 : decode cX7_knot 13 = .ok (.aload_n 0, 1) := by decide +kernel
theorem dX7_knot_14 : decode cX7_knot 14 = .ok (.getfield 12, 3) := by decide +kernel
theorem dX7_knot_17 : decode cX7_knot 17 = .ok (.getfield 98, 3) := by decide +kernel
theorem dX7_knot_20 : decode cX7_knot 20 = .ok (.iload_n 1, 1) := by decide +kernel
theorem dX7_knot_21 : decode cX7_knot 21 = .ok (.invokestatic 102, 3) := by decide +kernel
theorem dX7_knot_24 : decode cX7_knot 24 = .ok (.iconst 2, 1) := by decide +kernel
theorem dX7_knot_25 : decode cX7_knot 25 = .ok (.if_icmp .ne 13, 3) := by decide +kernel
theorem dX7_knot_28 : decode cX7_knot 28 = .ok (.aload_n 0, 1) := by decide +kernel
theorem dX7_knot_29 : decode cX7_knot 29 = .ok (.getfield 49, 3) := by decide +kernel
theorem dX7_knot_32 : decode cX7_knot 32 = .ok (.invokevirtual 223, 3) := by decide +kernel
theorem dX7_knot_35 : decode cX7_knot 35 = .ok (.goto 11, 3) := by decide +kernel
theorem dX7_knot_38 : decode cX7_knot 38 = .ok (.aload_n 0, 1) := by decide +kernel
theorem dX7_knot_39 : decode cX7_knot 39 = .ok (.getfield 49, 3) := by decide +kernel
theorem dX7_knot_42 : decode cX7_knot 42 = .ok (.iload_n 1, 1) := by decide +kernel
theorem dX7_knot_43 : decode cX7_knot 43 = .ok (.invokevirtual 227, 3) := by decide +kernel
theorem dX7_knot_46 : decode cX7_knot 46 = .ok (.ireturn, 1) := by decide +kernel
set_option maxRecDepth 20000 in
theorem ggX7_as_X2_hasLinen : GoodIn wsX7_as wsX2_hasLinen := goodIn_r _ [8, 9, 10, 11, 12, 29, 30, 31, 32, 33, 34, 35] (by decide +kernel) (by decide +kernel)
set_option maxRecDepth 20000 in
theorem gX7_as_X2_hasLinen : GoodIn wsX7_as (wsV RX7 94 RX2 yX2_hasLinen wsX2_hasLinen) := goodIn_app (goodIn_of _ (by decide +kernel)) ggX7_as_X2_hasLinen
set_option maxRecDepth 20000 in
theorem ggX7_as_X7_isBelow : GoodIn wsX7_as wsX7_isBelow := goodIn_r _ [12] (by decide +kernel) (by decide +kernel)
set_option maxRecDepth 20000 in
theorem gX7_as_X7_isBelow : GoodIn wsX7_as (va_wsS RX7 68 yX7_isBelow wsX7_isBelow) := goodIn_app (goodIn_of _ (by decide +kernel)) ggX7_as_X7_isBelow
set_option maxRecDepth 20000 in
theorem ggX7_as_X7_at : GoodIn wsX7_as wsX7_at := goodIn_r _ [16] (by decide +kernel) (by decide +kernel)
set_option maxRecDepth 20000 in
theorem gX7_as_X7_at : GoodIn wsX7_as (va_wsS RX7 102 yX7_at wsX7_at) := goodIn_app (goodIn_of _ (by decide +kernel)) ggX7_as_X7_at
set_option maxRecDepth 20000 in
theorem ggX7_as_X7_faulted : GoodIn wsX7_as wsX7_faulted := goodIn_r _ [20, 1, 21, 22, 23, 24, 25, 26, 27, 28] (by decide +kernel) (by decide +kernel)
set_option maxRecDepth 20000 in
theorem gX7_as_X7_faulted : GoodIn wsX7_as (wsV RX7 76 RX7 yX7_faulted wsX7_faulted) := goodIn_app (goodIn_of _ (by decide +kernel)) ggX7_as_X7_faulted
theorem dX7_as_0 : decode cX7_as 0 = .ok (.aload_n 0, 1) := by decide +kernel
theorem dX7_as_1 : decode cX7_as 1 = .ok (.iconst 0, 1) := by decide +kernel
theorem dX7_as_2 : decode cX7_as 2 = .ok (.putfield 59, 3) := by decide +kernel
theorem dX7_as_5 : decode cX7_as 5 = .ok (.aload_n 0, 1) := by decide +kernel
theorem dX7_as_6 : decode cX7_as 6 = .ok (.getfield 12, 3) := by decide +kernel
theorem dX7_as_9 : decode cX7_as 9 = .ok (.iload_n 1, 1) := by decide +kernel
theorem dX7_as_10 : decode cX7_as 10 = .ok (.invokevirtual 94, 3) := by decide +kernel
theorem dX7_as_13 : decode cX7_as 13 = .ok (.ifCond .ne 5, 3) := by decide +kernel
theorem dX7_as_16 : decode cX7_as 16 = .ok (.iconst (-1), 1) := by decide +kernel
theorem dX7_as_17 : decode cX7_as 17 = .ok (.ireturn, 1) := by decide +kernel
theorem dX7_as_18 : decode cX7_as 18 = .ok (.iload_n 2, 1) := by decide +kernel
theorem dX7_as_19 : decode cX7_as 19 = .ok (.iconst 3, 1) := by decide +kernel
theorem dX7_as_20 : decode cX7_as 20 = .ok (.invokestatic 68, 3) := by decide +kernel
theorem dX7_as_23 : decode cX7_as 23 = .ok (.ifCond .ne 6, 3) := by decide +kernel
theorem dX7_as_26 : decode cX7_as 26 = .ok (.bipush (-2), 2) := by decide +kernel
theorem dX7_as_28 : decode cX7_as 28 = .ok (.ireturn, 1) := by decide +kernel
theorem dX7_as_29 : decode cX7_as 29 = .ok (.aload_n 0, 1) := by decide +kernel
theorem dX7_as_30 : decode cX7_as 30 = .ok (.getfield 12, 3) := by decide +kernel
theorem dX7_as_33 : decode cX7_as 33 = .ok (.getfield 98, 3) := by decide +kernel
theorem dX7_as_36 : decode cX7_as 36 = .ok (.iload_n 1, 1) := by decide +kernel
theorem dX7_as_37 : decode cX7_as 37 = .ok (.invokestatic 102, 3) := by decide +kernel
theorem dX7_as_40 : decode cX7_as 40 = .ok (.iload_n 2, 1) := by decide +kernel
theorem dX7_as_41 : decode cX7_as 41 = .ok (.if_icmp .lt 7, 3) := by decide +kernel
theorem dX7_as_44 : decode cX7_as 44 = .ok (.iconst 1, 1) := by decide +kernel
theorem dX7_as_45 : decode cX7_as 45 = .ok (.goto 8, 3) := by decide +kernel
theorem dX7_as_48 : decode cX7_as 48 = .ok (.aload_n 0, 1) := by decide +kernel
theorem dX7_as_49 : decode cX7_as 49 = .ok (.iconst 2, 1) := by decide +kernel
theorem dX7_as_50 : decode cX7_as 50 = .ok (.invokevirtual 76, 3) := by decide +kernel
theorem dX7_as_53 : decode cX7_as 53 = .ok (.ireturn, 1) := by decide +kernel
theorem dX7_trace_0 : decode cX7_trace 0 = .ok (.aload_n 0, 1) := by decide +kernel
theorem dX7_trace_1 : decode cX7_trace 1 = .ok (.getfield 49, 3) := by decide +kernel
theorem dX7_trace_4 : decode cX7_trace 4 = .ok (.getfield 230, 3) := by decide +kernel
theorem dX7_trace_7 : decode cX7_trace 7 = .ok (.ireturn, 1) := by decide +kernel
theorem dX7_fault_0 : decode cX7_fault 0 = .ok (.aload_n 0, 1) := by decide +kernel
theorem dX7_fault_1 : decode cX7_fault 1 = .ok (.getfield 59, 3) := by decide +kernel
theorem dX7_fault_4 : decode cX7_fault 4 = .ok (.ireturn, 1) := by decide +kernel
set_option maxRecDepth 20000 in
theorem ggX7_many_X2_allSorrow : GoodIn wsX7_many wsX2_allSorrow := goodIn_r _ [10, 11, 12, 13, 14, 23, 24, 25, 26, 27, 28, 29] (by decide +kernel) (by decide +kernel)
set_option maxRecDepth 20000 in
theorem gX7_many_X2_allSorrow : GoodIn wsX7_many (wsV RX7 233 RX2 yX2_allSorrow wsX2_allSorrow) := goodIn_app (goodIn_of _ (by decide +kernel)) ggX7_many_X2_allSorrow
theorem dX7_many_0 : decode cX7_many 0 = .ok (.iload_n 1, 1) := by decide +kernel
theorem dX7_many_1 : decode cX7_many 1 = .ok (.tableswitch 63 0 3 #[31, 39, 47, 55], 31) := by decide +kernel
theorem dX7_many_32 : decode cX7_many 32 = .ok (.aload_n 0, 1) := by decide +kernel
theorem dX7_many_33 : decode cX7_many 33 = .ok (.getfield 12, 3) := by decide +kernel
theorem dX7_many_36 : decode cX7_many 36 = .ok (.getfield 91, 3) := by decide +kernel
theorem dX7_many_39 : decode cX7_many 39 = .ok (.ireturn, 1) := by decide +kernel
theorem dX7_many_40 : decode cX7_many 40 = .ok (.aload_n 0, 1) := by decide +kernel
theorem dX7_many_41 : decode cX7_many 41 = .ok (.getfield 12, 3) := by decide +kernel
theorem dX7_many_44 : decode cX7_many 44 = .ok (.getfield 179, 3) := by decide +kernel
theorem dX7_many_47 : decode cX7_many 47 = .ok (.ireturn, 1) := by decide +kernel
theorem dX7_many_48 : decode cX7_many 48 = .ok (.aload_n 0, 1) := by decide +kernel
theorem dX7_many_49 : decode cX7_many 49 = .ok (.getfield 12, 3) := by decide +kernel
theorem dX7_many_52 : decode cX7_many 52 = .ok (.invokevirtual 233, 3) := by decide +kernel
theorem dX7_many_55 : decode cX7_many 55 = .ok (.ireturn, 1) := by decide +kernel
theorem dX7_many_56 : decode cX7_many 56 = .ok (.aload_n 0, 1) := by decide +kernel
theorem dX7_many_57 : decode cX7_many 57 = .ok (.getfield 42, 3) := by decide +kernel
theorem dX7_many_60 : decode cX7_many 60 = .ok (.getfield 88, 3) := by decide +kernel
theorem dX7_many_63 : decode cX7_many 63 = .ok (.ireturn, 1) := by decide +kernel
theorem dX7_many_64 : decode cX7_many 64 = .ok (.bipush (-2), 2) := by decide +kernel
theorem dX7_many_66 : decode cX7_many 66 = .ok (.ireturn, 1) := by decide +kernel
theorem dX7_sheetOf_0 : decode cX7_sheetOf 0 = .ok (.iload_n 1, 1) := by decide +kernel
theorem dX7_sheetOf_1 : decode cX7_sheetOf 1 = .ok (.ifCond .lt 21, 3) := by decide +kernel
theorem dX7_sheetOf_4 : decode cX7_sheetOf 4 = .ok (.iload_n 1, 1) := by decide +kernel
theorem dX7_sheetOf_5 : decode cX7_sheetOf 5 = .ok (.aload_n 0, 1) := by decide +kernel
theorem dX7_sheetOf_6 : decode cX7_sheetOf 6 = .ok (.getfield 55, 3) := by decide +kernel
theorem dX7_sheetOf_9 : decode cX7_sheetOf 9 = .ok (.arraylength, 1) := by decide +kernel
theorem dX7_sheetOf_10 : decode cX7_sheetOf 10 = .ok (.if_icmp .ge 12, 3) := by decide +kernel
theorem dX7_sheetOf_13 : decode cX7_sheetOf 13 = .ok (.aload_n 0, 1) := by decide +kernel
theorem dX7_sheetOf_14 : decode cX7_sheetOf 14 = .ok (.getfield 55, 3) := by decide +kernel
theorem dX7_sheetOf_17 : decode cX7_sheetOf 17 = .ok (.iload_n 1, 1) := by decide +kernel
theorem dX7_sheetOf_18 : decode cX7_sheetOf 18 = .ok (.aaload, 1) := by decide +kernel
theorem dX7_sheetOf_19 : decode cX7_sheetOf 19 = .ok (.goto 4, 3) := by decide +kernel
theorem dX7_sheetOf_22 : decode cX7_sheetOf 22 = .ok (.aconst_null, 1) := by decide +kernel
theorem dX7_sheetOf_23 : decode cX7_sheetOf 23 = .ok (.areturn, 1) := by decide +kernel
theorem dX7_faulted_0 : decode cX7_faulted 0 = .ok (.aload_n 0, 1) := by decide +kernel
theorem dX7_faulted_1 : decode cX7_faulted 1 = .ok (.iload_n 1, 1) := by decide +kernel
theorem dX7_faulted_2 : decode cX7_faulted 2 = .ok (.putfield 59, 3) := by decide +kernel
theorem dX7_faulted_5 : decode cX7_faulted 5 = .ok (.bipush (-10), 2) := by decide +kernel
theorem dX7_faulted_7 : decode cX7_faulted 7 = .ok (.iload_n 1, 1) := by decide +kernel
theorem dX7_faulted_8 : decode cX7_faulted 8 = .ok (.isub, 1) := by decide +kernel
theorem dX7_faulted_9 : decode cX7_faulted 9 = .ok (.ireturn, 1) := by decide +kernel
theorem dX7_isBelow_0 : decode cX7_isBelow 0 = .ok (.iload_n 0, 1) := by decide +kernel
theorem dX7_isBelow_1 : decode cX7_isBelow 1 = .ok (.ifCond .lt 12, 3) := by decide +kernel
theorem dX7_isBelow_4 : decode cX7_isBelow 4 = .ok (.iload_n 0, 1) := by decide +kernel
theorem dX7_isBelow_5 : decode cX7_isBelow 5 = .ok (.iload_n 1, 1) := by decide +kernel
theorem dX7_isBelow_6 : decode cX7_isBelow 6 = .ok (.if_icmp .ge 7, 3) := by decide +kernel
theorem dX7_isBelow_9 : decode cX7_isBelow 9 = .ok (.iconst 1, 1) := by decide +kernel
theorem dX7_isBelow_10 : decode cX7_isBelow 10 = .ok (.goto 4, 3) := by decide +kernel
theorem dX7_isBelow_13 : decode cX7_isBelow 13 = .ok (.iconst 0, 1) := by decide +kernel
theorem dX7_isBelow_14 : decode cX7_isBelow 14 = .ok (.ireturn, 1) := by decide +kernel
theorem dX7_at_0 : decode cX7_at 0 = .ok (.iload_n 1, 1) := by decide +kernel
theorem dX7_at_1 : decode cX7_at 1 = .ok (.ifCond .lt 15, 3) := by decide +kernel
theorem dX7_at_4 : decode cX7_at 4 = .ok (.iload_n 1, 1) := by decide +kernel
theorem dX7_at_5 : decode cX7_at 5 = .ok (.aload_n 0, 1) := by decide +kernel
theorem dX7_at_6 : decode cX7_at 6 = .ok (.arraylength, 1) := by decide +kernel
theorem dX7_at_7 : decode cX7_at 7 = .ok (.if_icmp .ge 9, 3) := by decide +kernel
theorem dX7_at_10 : decode cX7_at 10 = .ok (.aload_n 0, 1) := by decide +kernel
theorem dX7_at_11 : decode cX7_at 11 = .ok (.iload_n 1, 1) := by decide +kernel
theorem dX7_at_12 : decode cX7_at 12 = .ok (.iaload, 1) := by decide +kernel
theorem dX7_at_13 : decode cX7_at 13 = .ok (.goto 4, 3) := by decide +kernel
theorem dX7_at_16 : decode cX7_at 16 = .ok (.iconst 0, 1) := by decide +kernel
theorem dX7_at_17 : decode cX7_at 17 = .ok (.ireturn, 1) := by decide +kernel
theorem dX7_set_0 : decode cX7_set 0 = .ok (.iload_n 1, 1) := by decide +kernel
theorem dX7_set_1 : decode cX7_set 1 = .ok (.ifCond .lt 13, 3) := by decide +kernel
theorem dX7_set_4 : decode cX7_set 4 = .ok (.iload_n 1, 1) := by decide +kernel
theorem dX7_set_5 : decode cX7_set 5 = .ok (.aload_n 0, 1) := by decide +kernel
theorem dX7_set_6 : decode cX7_set 6 = .ok (.arraylength, 1) := by decide +kernel
theorem dX7_set_7 : decode cX7_set 7 = .ok (.if_icmp .ge 7, 3) := by decide +kernel
theorem dX7_set_10 : decode cX7_set 10 = .ok (.aload_n 0, 1) := by decide +kernel
theorem dX7_set_11 : decode cX7_set 11 = .ok (.iload_n 1, 1) := by decide +kernel
theorem dX7_set_12 : decode cX7_set 12 = .ok (.iload_n 2, 1) := by decide +kernel
theorem dX7_set_13 : decode cX7_set 13 = .ok (.iastore, 1) := by decide +kernel
theorem dX7_set_14 : decode cX7_set 14 = .ok (.return_, 1) := by decide +kernel
set_option maxRecDepth 20000 in
theorem ggX7_exchange_X7_at : GoodIn wsX7_exchange wsX7_at := goodIn_r _ [4] (by decide +kernel) (by decide +kernel)
set_option maxRecDepth 20000 in
theorem gX7_exchange_X7_at : GoodIn wsX7_exchange (va_wsS RX7 102 yX7_at wsX7_at) := goodIn_app (goodIn_of _ (by decide +kernel)) ggX7_exchange_X7_at
set_option maxRecDepth 20000 in
theorem ggX7_exchange_X7_set : GoodIn wsX7_exchange wsX7_set := goodIn_r _ [7] (by decide +kernel) (by decide +kernel)
set_option maxRecDepth 20000 in
theorem gX7_exchange_X7_set : GoodIn wsX7_exchange (va_wsS RX7 236 yX7_set wsX7_set) := goodIn_app (goodIn_of _ (by decide +kernel)) ggX7_exchange_X7_set
theorem dX7_exchange_0 : decode cX7_exchange 0 = .ok (.aload_n 0, 1) := by decide +kernel
theorem dX7_exchange_1 : decode cX7_exchange 1 = .ok (.iload_n 1, 1) := by decide +kernel
theorem dX7_exchange_2 : decode cX7_exchange 2 = .ok (.invokestatic 102, 3) := by decide +kernel
theorem dX7_exchange_5 : decode cX7_exchange 5 = .ok (.istore_n 3, 1) := by decide +kernel
theorem dX7_exchange_6 : decode cX7_exchange 6 = .ok (.aload_n 0, 1) := by decide +kernel
theorem dX7_exchange_7 : decode cX7_exchange 7 = .ok (.iload_n 1, 1) := by decide +kernel
theorem dX7_exchange_8 : decode cX7_exchange 8 = .ok (.iload_n 2, 1) := by decide +kernel
theorem dX7_exchange_9 : decode cX7_exchange 9 = .ok (.invokestatic 236, 3) := by decide +kernel
theorem dX7_exchange_12 : decode cX7_exchange 12 = .ok (.iload_n 3, 1) := by decide +kernel
theorem dX7_exchange_13 : decode cX7_exchange 13 = .ok (.ireturn, 1) := by decide +kernel
theorem dX8_init_0 : decode cX8_init 0 = .ok (.aload_n 0, 1) := by decide +kernel
theorem dX8_init_1 : decode cX8_init 1 = .ok (.invokespecial 1, 3) := by decide +kernel
theorem dX8_init_4 : decode cX8_init 4 = .ok (.aload_n 0, 1) := by decide +kernel
theorem dX8_init_5 : decode cX8_init 5 = .ok (.iconst 4, 1) := by decide +kernel
theorem dX8_init_6 : decode cX8_init 6 = .ok (.newarray .int, 2) := by decide +kernel
theorem dX8_init_8 : decode cX8_init 8 = .ok (.putfield 7, 3) := by decide +kernel
theorem dX8_init_11 : decode cX8_init 11 = .ok (.aload_n 0, 1) := by decide +kernel
theorem dX8_init_12 : decode cX8_init 12 = .ok (.bipush 6, 2) := by decide +kernel
theorem dX8_init_14 : decode cX8_init 14 = .ok (.newarray .int, 2) := by decide +kernel
theorem dX8_init_16 : decode cX8_init 16 = .ok (.putfield 13, 3) := by decide +kernel
theorem dX8_init_19 : decode cX8_init 19 = .ok (.aload_n 0, 1) := by decide +kernel
theorem dX8_init_20 : decode cX8_init 20 = .ok (.iconst 5, 1) := by decide +kernel
theorem dX8_init_21 : decode cX8_init 21 = .ok (.newarray .int, 2) := by decide +kernel
theorem dX8_init_23 : decode cX8_init 23 = .ok (.putfield 16, 3) := by decide +kernel
theorem dX8_init_26 : decode cX8_init 26 = .ok (.aload_n 0, 1) := by decide +kernel
theorem dX8_init_27 : decode cX8_init 27 = .ok (.iconst 5, 1) := by decide +kernel
theorem dX8_init_28 : decode cX8_init 28 = .ok (.newarray .int, 2) := by decide +kernel
theorem dX8_init_30 : decode cX8_init 30 = .ok (.putfield 19, 3) := by decide +kernel
theorem dX8_init_33 : decode cX8_init 33 = .ok (.aload_n 0, 1) := by decide +kernel
theorem dX8_init_34 : decode cX8_init 34 = .ok (.iconst 5, 1) := by decide +kernel
theorem dX8_init_35 : decode cX8_init 35 = .ok (.newarray .int, 2) := by decide +kernel
theorem dX8_init_37 : decode cX8_init 37 = .ok (.putfield 22, 3) := by decide +kernel
theorem dX8_init_40 : decode cX8_init 40 = .ok (.aload_n 0, 1) := by decide +kernel
theorem dX8_init_41 : decode cX8_init 41 = .ok (.iconst 4, 1) := by decide +kernel
theorem dX8_init_42 : decode cX8_init 42 = .ok (.newarray .int, 2) := by decide +kernel
theorem dX8_init_44 : decode cX8_init 44 = .ok (.putfield 25, 3) := by decide +kernel
theorem dX8_init_47 : decode cX8_init 47 = .ok (.aload_n 0, 1) := by decide +kernel
theorem dX8_init_48 : decode cX8_init 48 = .ok (.bipush 6, 2) := by decide +kernel
theorem dX8_init_50 : decode cX8_init 50 = .ok (.newarray .int, 2) := by decide +kernel
theorem dX8_init_52 : decode cX8_init 52 = .ok (.putfield 28, 3) := by decide +kernel
theorem dX8_init_55 : decode cX8_init 55 = .ok (.aload_n 0, 1) := by decide +kernel
theorem dX8_init_56 : decode cX8_init 56 = .ok (.iconst 5, 1) := by decide +kernel
theorem dX8_init_57 : decode cX8_init 57 = .ok (.newarray .int, 2) := by decide +kernel
theorem dX8_init_59 : decode cX8_init 59 = .ok (.putfield 31, 3) := by decide +kernel
theorem dX8_init_62 : decode cX8_init 62 = .ok (.aload_n 0, 1) := by decide +kernel
theorem dX8_init_63 : decode cX8_init 63 = .ok (.iconst 5, 1) := by decide +kernel
theorem dX8_init_64 : decode cX8_init 64 = .ok (.newarray .int, 2) := by decide +kernel
theorem dX8_init_66 : decode cX8_init 66 = .ok (.putfield 34, 3) := by decide +kernel
theorem dX8_init_69 : decode cX8_init 69 = .ok (.aload_n 0, 1) := by decide +kernel
theorem dX8_init_70 : decode cX8_init 70 = .ok (.iconst 5, 1) := by decide +kernel
theorem dX8_init_71 : decode cX8_init 71 = .ok (.newarray .int, 2) := by decide +kernel
theorem dX8_init_73 : decode cX8_init 73 = .ok (.putfield 37, 3) := by decide +kernel
theorem dX8_init_76 : decode cX8_init 76 = .ok (.aload_n 0, 1) := by decide +kernel
theorem dX8_init_77 : decode cX8_init 77 = .ok (.iconst 5, 1) := by decide +kernel
theorem dX8_init_78 : decode cX8_init 78 = .ok (.newarray .int, 2) := by decide +kernel
theorem dX8_init_80 : decode cX8_init 80 = .ok (.putfield 40, 3) := by decide +kernel
theorem dX8_init_83 : decode cX8_init 83 = .ok (.aload_n 0, 1) := by decide +kernel
theorem dX8_init_84 : decode cX8_init 84 = .ok (.iconst 4, 1) := by decide +kernel
theorem dX8_init_85 : decode cX8_init 85 = .ok (.newarray .int, 2) := by decide +kernel
theorem dX8_init_87 : decode cX8_init 87 = .ok (.putfield 43, 3) := by decide +kernel
theorem dX8_init_90 : decode cX8_init 90 = .ok (.aload_n 0, 1) := by decide +kernel
theorem dX8_init_91 : decode cX8_init 91 = .ok (.bipush 70, 2) := by decide +kernel
theorem dX8_init_93 : decode cX8_init 93 = .ok (.newarray .int, 2) := by decide +kernel
theorem dX8_init_95 : decode cX8_init 95 = .ok (.putfield 46, 3) := by decide +kernel
theorem dX8_init_98 : decode cX8_init 98 = .ok (.aload_n 0, 1) := by decide +kernel
theorem dX8_init_99 : decode cX8_init 99 = .ok (.iconst 5, 1) := by decide +kernel
theorem dX8_init_100 : decode cX8_init 100 = .ok (.newarray .int, 2) := by decide +kernel
theorem dX8_init_102 : decode cX8_init 102 = .ok (.putfield 49, 3) := by decide +kernel
theorem dX8_init_105 : decode cX8_init 105 = .ok (.aload_n 0, 1) := by decide +kernel
theorem dX8_init_106 : decode cX8_init 106 = .ok (.iconst 4, 1) := by decide +kernel
theorem dX8_init_107 : decode cX8_init 107 = .ok (.newarray .int, 2) := by decide +kernel
theorem dX8_init_109 : decode cX8_init 109 = .ok (.putfield 52, 3) := by decide +kernel
theorem dX8_init_112 : decode cX8_init 112 = .ok (.aload_n 0, 1) := by decide +kernel
theorem dX8_init_113 : decode cX8_init 113 = .ok (.bipush 8, 2) := by decide +kernel
theorem dX8_init_115 : decode cX8_init 115 = .ok (.newarray .int, 2) := by decide +kernel
theorem dX8_init_117 : decode cX8_init 117 = .ok (.putfield 55, 3) := by decide +kernel
theorem dX8_init_120 : decode cX8_init 120 = .ok (.aload_n 0, 1) := by decide +kernel
theorem dX8_init_121 : decode cX8_init 121 = .ok (.bipush 8, 2) := by decide +kernel
theorem dX8_init_123 : decode cX8_init 123 = .ok (.newarray .int, 2) := by decide +kernel
theorem dX8_init_125 : decode cX8_init 125 = .ok (.putfield 58, 3) := by decide +kernel
theorem dX8_init_128 : decode cX8_init 128 = .ok (.aload_n 0, 1) := by decide +kernel
theorem dX8_init_129 : decode cX8_init 129 = .ok (.bipush 8, 2) := by decide +kernel
theorem dX8_init_131 : decode cX8_init 131 = .ok (.newarray .int, 2) := by decide +kernel
theorem dX8_init_133 : decode cX8_init 133 = .ok (.putfield 61, 3) := by decide +kernel
theorem dX8_init_136 : decode cX8_init 136 = .ok (.aload_n 0, 1) := by decide +kernel
theorem dX8_init_137 : decode cX8_init 137 = .ok (.iconst 4, 1) := by decide +kernel
theorem dX8_init_138 : decode cX8_init 138 = .ok (.newarray .int, 2) := by decide +kernel
theorem dX8_init_140 : decode cX8_init 140 = .ok (.putfield 64, 3) := by decide +kernel
theorem dX8_init_143 : decode cX8_init 143 = .ok (.aload_n 0, 1) := by decide +kernel
theorem dX8_init_144 : decode cX8_init 144 = .ok (.iconst 4, 1) := by decide +kernel
theorem dX8_init_145 : decode cX8_init 145 = .ok (.newarray .int, 2) := by decide +kernel
theorem dX8_init_147 : decode cX8_init 147 = .ok (.putfield 67, 3) := by decide +kernel
theorem dX8_init_150 : decode cX8_init 150 = .ok (.aload_n 0, 1) := by decide +kernel
theorem dX8_init_151 : decode cX8_init 151 = .ok (.sipush 240, 3) := by decide +kernel
theorem dX8_init_154 : decode cX8_init 154 = .ok (.newarray .int, 2) := by decide +kernel
theorem dX8_init_156 : decode cX8_init 156 = .ok (.putfield 70, 3) := by decide +kernel
theorem dX8_init_159 : decode cX8_init 159 = .ok (.aload_n 0, 1) := by decide +kernel
theorem dX8_init_160 : decode cX8_init 160 = .ok (.bipush 60, 2) := by decide +kernel
theorem dX8_init_162 : decode cX8_init 162 = .ok (.newarray .int, 2) := by decide +kernel
theorem dX8_init_164 : decode cX8_init 164 = .ok (.putfield 73, 3) := by decide +kernel
theorem dX8_init_167 : decode cX8_init 167 = .ok (.iconst 0, 1) := by decide +kernel
theorem dX8_init_168 : decode cX8_init 168 = .ok (.istore_n 1, 1) := by decide +kernel
theorem dX8_init_169 : decode cX8_init 169 = .ok (.iload_n 1, 1) := by decide +kernel
theorem dX8_init_170 : decode cX8_init 170 = .ok (.iconst 4, 1) := by decide +kernel
theorem dX8_init_171 : decode cX8_init 171 = .ok (.if_icmp .ge 16, 3) := by decide +kernel
theorem dX8_init_174 : decode cX8_init 174 = .ok (.aload_n 0, 1) := by decide +kernel
theorem dX8_init_175 : decode cX8_init 175 = .ok (.getfield 64, 3) := by decide +kernel
theorem dX8_init_178 : decode cX8_init 178 = .ok (.iload_n 1, 1) := by decide +kernel
theorem dX8_init_179 : decode cX8_init 179 = .ok (.iconst (-1), 1) := by decide +kernel
theorem dX8_init_180 : decode cX8_init 180 = .ok (.iastore, 1) := by decide +kernel
theorem dX8_init_181 : decode cX8_init 181 = .ok (.iinc 1 1, 3) := by decide +kernel
theorem dX8_init_184 : decode cX8_init 184 = .ok (.goto (-15), 3) := by decide +kernel
theorem dX8_init_187 : decode cX8_init 187 = .ok (.return_, 1) := by decide +kernel
theorem dX8_in_0 : decode cX8_in 0 = .ok (.lload_n 0, 1) := by decide +kernel
theorem dX8_in_1 : decode cX8_in 1 = .ok (.lload_n 2, 1) := by decide +kernel
theorem dX8_in_2 : decode cX8_in 2 = .ok (.lcmp, 1) := by decide +kernel
theorem dX8_in_3 : decode cX8_in 3 = .ok (.ifCond .lt 14, 3) := by decide +kernel
theorem dX8_in_6 : decode cX8_in 6 = .ok (.lload_n 0, 1) := by decide +kernel
theorem dX8_in_7 : decode cX8_in 7 = .ok (.lload 4, 2) := by decide +kernel
theorem dX8_in_9 : decode cX8_in 9 = .ok (.lcmp, 1) := by decide +kernel
theorem dX8_in_10 : decode cX8_in 10 = .ok (.ifCond .gt 7, 3) := by decide +kernel
theorem dX8_in_13 : decode cX8_in 13 = .ok (.iconst 1, 1) := by decide +kernel
theorem dX8_in_14 : decode cX8_in 14 = .ok (.goto 4, 3) := by decide +kernel
theorem dX8_in_17 : decode cX8_in 17 = .ok (.iconst 0, 1) := by decide +kernel
theorem dX8_in_18 : decode cX8_in 18 = .ok (.ireturn, 1) := by decide +kernel
theorem dX8_lost_0 : decode cX8_lost 0 = .ok (.ldc2_w 76, 3) := by decide +kernel
theorem dX8_lost_3 : decode cX8_lost 3 = .ok (.lreturn, 1) := by decide +kernel
theorem dX8_isIn_0 : decode cX8_isIn 0 = .ok (.iload_n 0, 1) := by decide +kernel
theorem dX8_isIn_1 : decode cX8_isIn 1 = .ok (.iload_n 1, 1) := by decide +kernel
theorem dX8_isIn_2 : decode cX8_isIn 2 = .ok (.ishr, 1) := by decide +kernel
theorem dX8_isIn_3 : decode cX8_isIn 3 = .ok (.iconst 1, 1) := by decide +kernel
theorem dX8_isIn_4 : decode cX8_isIn 4 = .ok (.iand, 1) := by decide +kernel
theorem dX8_isIn_5 : decode cX8_isIn 5 = .ok (.iconst 1, 1) := by decide +kernel
theorem dX8_isIn_6 : decode cX8_isIn 6 = .ok (.if_icmp .ne 7, 3) := by decide +kernel
theorem dX8_isIn_9 : decode cX8_isIn 9 = .ok (.iconst 1, 1) := by decide +kernel
theorem dX8_isIn_10 : decode cX8_isIn 10 = .ok (.goto 4, 3) := by decide +kernel
theorem dX8_isIn_13 : decode cX8_isIn 13 = .ok (.iconst 0, 1) := by decide +kernel
theorem dX8_isIn_14 : decode cX8_isIn 14 = .ok (.ireturn, 1) := by decide +kernel
theorem dX8_bits_0 : decode cX8_bits 0 = .ok (.iconst 0, 1) := by decide +kernel
theorem dX8_bits_1 : decode cX8_bits 1 = .ok (.istore_n 1, 1) := by decide +kernel
theorem dX8_bits_2 : decode cX8_bits 2 = .ok (.iload_n 0, 1) := by decide +kernel
theorem dX8_bits_3 : decode cX8_bits 3 = .ok (.istore_n 2, 1) := by decide +kernel
theorem dX8_bits_4 : decode cX8_bits 4 = .ok (.iload_n 2, 1) := by decide +kernel
theorem dX8_bits_5 : decode cX8_bits 5 = .ok (.ifCond .le 16, 3) := by decide +kernel
theorem dX8_bits_8 : decode cX8_bits 8 = .ok (.iload_n 1, 1) := by decide +kernel
theorem dX8_bits_9 : decode cX8_bits 9 = .ok (.iload_n 2, 1) := by decide +kernel
theorem dX8_bits_10 : decode cX8_bits 10 = .ok (.iconst 1, 1) := by decide +kernel
theorem dX8_bits_11 : decode cX8_bits 11 = .ok (.iand, 1) := by decide +kernel
theorem dX8_bits_12 : decode cX8_bits 12 = .ok (.iadd, 1) := by decide +kernel
theorem dX8_bits_13 : decode cX8_bits 13 = .ok (.istore_n 1, 1) := by decide +kernel
theorem dX8_bits_14 : decode cX8_bits 14 = .ok (.iload_n 2, 1) := by decide +kernel
theorem dX8_bits_15 : decode cX8_bits 15 = .ok (.iconst 1, 1) := by decide +kernel
theorem dX8_bits_16 : decode cX8_bits 16 = .ok (.ishr, 1) := by decide +kernel
theorem dX8_bits_17 : decode cX8_bits 17 = .ok (.istore_n 2, 1) := by decide +kernel
theorem dX8_bits_18 : decode cX8_bits 18 = .ok (.goto (-14), 3) := by decide +kernel
theorem dX8_bits_21 : decode cX8_bits 21 = .ok (.iload_n 1, 1) := by decide +kernel
theorem dX8_bits_22 : decode cX8_bits 22 = .ok (.ireturn, 1) := by decide +kernel
theorem dX8_share_0 : decode cX8_share 0 = .ok (.lload_n 0, 1) := by decide +kernel
theorem dX8_share_1 : decode cX8_share 1 = .ok (.lstore 5, 2) := by decide +kernel
theorem dX8_share_3 : decode cX8_share 3 = .ok (.lload_n 2, 1) := by decide +kernel
theorem dX8_share_4 : decode cX8_share 4 = .ok (.lstore 7, 2) := by decide +kernel
theorem dX8_share_6 : decode cX8_share 6 = .ok (.lload 7, 2) := by decide +kernel
theorem dX8_share_8 : decode cX8_share 8 = .ok (.lconst 0, 1) := by decide +kernel
theorem dX8_share_9 : decode cX8_share 9 = .ok (.lcmp, 1) := by decide +kernel
theorem dX8_share_10 : decode cX8_share 10 = .ok (.ifCond .eq 21, 3) := by decide +kernel
theorem dX8_share_13 : decode cX8_share 13 = .ok (.lload 5, 2) := by decide +kernel
theorem dX8_share_15 : decode cX8_share 15 = .ok (.lload 7, 2) := by decide +kernel
theorem dX8_share_17 : decode cX8_share 17 = .ok (.lrem, 1) := by decide +kernel
theorem dX8_share_18 : decode cX8_share 18 = .ok (.lstore 9, 2) := by decide +kernel
theorem dX8_share_20 : decode cX8_share 20 = .ok (.lload 7, 2) := by decide +kernel
theorem dX8_share_22 : decode cX8_share 22 = .ok (.lstore 5, 2) := by decide +kernel
theorem dX8_share_24 : decode cX8_share 24 = .ok (.lload 9, 2) := by decide +kernel
theorem dX8_share_26 : decode cX8_share 26 = .ok (.lstore 7, 2) := by decide +kernel
theorem dX8_share_28 : decode cX8_share 28 = .ok (.goto (-22), 3) := by decide +kernel
theorem dX8_share_31 : decode cX8_share 31 = .ok (.iload 4, 2) := by decide +kernel
theorem dX8_share_33 : decode cX8_share 33 = .ok (.ifCond .ne 7, 3) := by decide +kernel
theorem dX8_share_36 : decode cX8_share 36 = .ok (.lload_n 0, 1) := by decide +kernel
theorem dX8_share_37 : decode cX8_share 37 = .ok (.goto 4, 3) := by decide +kernel
theorem dX8_share_40 : decode cX8_share 40 = .ok (.lload_n 2, 1) := by decide +kernel
theorem dX8_share_41 : decode cX8_share 41 = .ok (.lload 5, 2) := by decide +kernel
theorem dX8_share_43 : decode cX8_share 43 = .ok (.ldiv, 1) := by decide +kernel
theorem dX8_share_44 : decode cX8_share 44 = .ok (.lreturn, 1) := by decide +kernel
theorem dX8_refused_0 : decode cX8_refused 0 = .ok (.aload_n 0, 1) := by decide +kernel
theorem dX8_refused_1 : decode cX8_refused 1 = .ok (.iconst 0, 1) := by decide +kernel
theorem dX8_refused_2 : decode cX8_refused 2 = .ok (.putfield 78, 3) := by decide +kernel
theorem dX8_refused_5 : decode cX8_refused 5 = .ok (.iload_n 1, 1) := by decide +kernel
theorem dX8_refused_6 : decode cX8_refused 6 = .ok (.ireturn, 1) := by decide +kernel
theorem dX8_failed_0 : decode cX8_failed 0 = .ok (.aload_n 0, 1) := by decide +kernel
theorem dX8_failed_1 : decode cX8_failed 1 = .ok (.iload_n 1, 1) := by decide +kernel
theorem dX8_failed_2 : decode cX8_failed 2 = .ok (.putfield 78, 3) := by decide +kernel
theorem dX8_failed_5 : decode cX8_failed 5 = .ok (.bipush (-10), 2) := by decide +kernel
theorem dX8_failed_7 : decode cX8_failed 7 = .ok (.iload_n 1, 1) := by decide +kernel
theorem dX8_failed_8 : decode cX8_failed 8 = .ok (.isub, 1) := by decide +kernel
theorem dX8_failed_9 : decode cX8_failed 9 = .ok (.ireturn, 1) := by decide +kernel
set_option maxRecDepth 20000 in
theorem ggX8_failedLong_X8_lost : GoodIn wsX8_failedLong wsX8_lost := goodIn_r _ [5, 6] (by decide +kernel) (by decide +kernel)
set_option maxRecDepth 20000 in
theorem gX8_failedLong_X8_lost : GoodIn wsX8_failedLong (va_wsS RX8 82 yX8_lost wsX8_lost) := goodIn_app (goodIn_of _ (by decide +kernel)) ggX8_failedLong_X8_lost
theorem dX8_failedLong_0 : decode cX8_failedLong 0 = .ok (.aload_n 0, 1) := by decide +kernel
theorem dX8_failedLong_1 : decode cX8_failedLong 1 = .ok (.iload_n 1, 1) := by decide +kernel
theorem dX8_failedLong_2 : decode cX8_failedLong 2 = .ok (.putfield 78, 3) := by decide +kernel
theorem dX8_failedLong_5 : decode cX8_failedLong 5 = .ok (.invokestatic 82, 3) := by decide +kernel
theorem dX8_failedLong_8 : decode cX8_failedLong 8 = .ok (.lreturn, 1) := by decide +kernel
set_option maxRecDepth 20000 in
theorem ggX8_noWeeper_X8_in : GoodIn wsX8_noWeeper wsX8_in := goodIn_r _ [5] (by decide +kernel) (by decide +kernel)
set_option maxRecDepth 20000 in
theorem gX8_noWeeper_X8_in : GoodIn wsX8_noWeeper (va_wsS RX8 88 yX8_in wsX8_in) := goodIn_app (goodIn_of _ (by decide +kernel)) ggX8_noWeeper_X8_in
theorem dX8_noWeeper_0 : decode cX8_noWeeper 0 = .ok (.iload_n 0, 1) := by decide +kernel
theorem dX8_noWeeper_1 : decode cX8_noWeeper 1 = .ok (.i2l, 1) := by decide +kernel
theorem dX8_noWeeper_2 : decode cX8_noWeeper 2 = .ok (.lconst 0, 1) := by decide +kernel
theorem dX8_noWeeper_3 : decode cX8_noWeeper 3 = .ok (.ldc2_w 86, 3) := by decide +kernel
theorem dX8_noWeeper_6 : decode cX8_noWeeper 6 = .ok (.invokestatic 88, 3) := by decide +kernel
theorem dX8_noWeeper_9 : decode cX8_noWeeper 9 = .ok (.ifCond .ne 7, 3) := by decide +kernel
theorem dX8_noWeeper_12 : decode cX8_noWeeper 12 = .ok (.iconst 1, 1) := by decide +kernel
theorem dX8_noWeeper_13 : decode cX8_noWeeper 13 = .ok (.goto 4, 3) := by decide +kernel
theorem dX8_noWeeper_16 : decode cX8_noWeeper 16 = .ok (.iconst 0, 1) := by decide +kernel
theorem dX8_noWeeper_17 : decode cX8_noWeeper 17 = .ok (.ireturn, 1) := by decide +kernel
set_option maxRecDepth 20000 in
theorem ggX8_noDay_X8_in : GoodIn wsX8_noDay wsX8_in := goodIn_r _ [5] (by decide +kernel) (by decide +kernel)
set_option maxRecDepth 20000 in
theorem gX8_noDay_X8_in : GoodIn wsX8_noDay (va_wsS RX8 88 yX8_in wsX8_in) := goodIn_app (goodIn_of _ (by decide +kernel)) ggX8_noDay_X8_in
theorem dX8_noDay_0 : decode cX8_noDay 0 = .ok (.iload_n 1, 1) := by decide +kernel
theorem dX8_noDay_1 : decode cX8_noDay 1 = .ok (.i2l, 1) := by decide +kernel
theorem dX8_noDay_2 : decode cX8_noDay 2 = .ok (.lconst 0, 1) := by decide +kernel
theorem dX8_noDay_3 : decode cX8_noDay 3 = .ok (.aload_n 0, 1) := by decide +kernel
theorem dX8_noDay_4 : decode cX8_noDay 4 = .ok (.getfield 92, 3) := by decide +kernel
theorem dX8_noDay_7 : decode cX8_noDay 7 = .ok (.i2l, 1) := by decide +kernel
theorem dX8_noDay_8 : decode cX8_noDay 8 = .ok (.lconst 1, 1) := by decide +kernel
theorem dX8_noDay_9 : decode cX8_noDay 9 = .ok (.lsub, 1) := by decide +kernel
theorem dX8_noDay_10 : decode cX8_noDay 10 = .ok (.invokestatic 88, 3) := by decide +kernel
theorem dX8_noDay_13 : decode cX8_noDay 13 = .ok (.ifCond .ne 7, 3) := by decide +kernel
theorem dX8_noDay_16 : decode cX8_noDay 16 = .ok (.iconst 1, 1) := by decide +kernel
theorem dX8_noDay_17 : decode cX8_noDay 17 = .ok (.goto 4, 3) := by decide +kernel
theorem dX8_noDay_20 : decode cX8_noDay 20 = .ok (.iconst 0, 1) := by decide +kernel
theorem dX8_noDay_21 : decode cX8_noDay 21 = .ok (.ireturn, 1) := by decide +kernel
set_option maxRecDepth 20000 in
theorem ggX8_noLinen_X8_in : GoodIn wsX8_noLinen wsX8_in := goodIn_r _ [5] (by decide +kernel) (by decide +kernel)
set_option maxRecDepth 20000 in
theorem gX8_noLinen_X8_in : GoodIn wsX8_noLinen (va_wsS RX8 88 yX8_in wsX8_in) := goodIn_app (goodIn_of _ (by decide +kernel)) ggX8_noLinen_X8_in
theorem dX8_noLinen_0 : decode cX8_noLinen 0 = .ok (.iload_n 1, 1) := by decide +kernel
