theorem dX8_begin_16 : decode cX8_begin 16 = .ok (.getfield 22, 3) := by decide +kernel
theorem dX8_begin_19 : decode cX8_begin 19 = .ok (.iload_n 1, 1) := by decide +kernel
theorem dX8_begin_20 : decode cX8_begin 20 = .ok (.iaload, 1) := by decide +kernel
theorem dX8_begin_21 : decode cX8_begin 21 = .ok (.iastore, 1) := by decide +kernel
theorem dX8_begin_22 : decode cX8_begin 22 = .ok (.iinc 1 1, 3) := by decide +kernel
theorem dX8_begin_25 : decode cX8_begin 25 = .ok (.goto (-23), 3) := by decide +kernel
theorem dX8_begin_28 : decode cX8_begin 28 = .ok (.iconst 0, 1) := by decide +kernel
theorem dX8_begin_29 : decode cX8_begin 29 = .ok (.istore_n 1, 1) := by decide +kernel
theorem dX8_begin_30 : decode cX8_begin 30 = .ok (.iload_n 1, 1) := by decide +kernel
theorem dX8_begin_31 : decode cX8_begin 31 = .ok (.iconst 4, 1) := by decide +kernel
theorem dX8_begin_32 : decode cX8_begin 32 = .ok (.if_icmp .ge 21, 3) := by decide +kernel
theorem dX8_begin_35 : decode cX8_begin 35 = .ok (.aload_n 0, 1) := by decide +kernel
theorem dX8_begin_36 : decode cX8_begin 36 = .ok (.getfield 43, 3) := by decide +kernel
theorem dX8_begin_39 : decode cX8_begin 39 = .ok (.iload_n 1, 1) := by decide +kernel
theorem dX8_begin_40 : decode cX8_begin 40 = .ok (.aload_n 0, 1) := by decide +kernel
theorem dX8_begin_41 : decode cX8_begin 41 = .ok (.getfield 7, 3) := by decide +kernel
theorem dX8_begin_44 : decode cX8_begin 44 = .ok (.iload_n 1, 1) := by decide +kernel
theorem dX8_begin_45 : decode cX8_begin 45 = .ok (.iaload, 1) := by decide +kernel
theorem dX8_begin_46 : decode cX8_begin 46 = .ok (.iastore, 1) := by decide +kernel
theorem dX8_begin_47 : decode cX8_begin 47 = .ok (.iinc 1 1, 3) := by decide +kernel
theorem dX8_begin_50 : decode cX8_begin 50 = .ok (.goto (-20), 3) := by decide +kernel
theorem dX8_begin_53 : decode cX8_begin 53 = .ok (.aload_n 0, 1) := by decide +kernel
theorem dX8_begin_54 : decode cX8_begin 54 = .ok (.iconst 0, 1) := by decide +kernel
theorem dX8_begin_55 : decode cX8_begin 55 = .ok (.putfield 178, 3) := by decide +kernel
theorem dX8_begin_58 : decode cX8_begin 58 = .ok (.aload_n 0, 1) := by decide +kernel
theorem dX8_begin_59 : decode cX8_begin 59 = .ok (.iconst 1, 1) := by decide +kernel
theorem dX8_begin_60 : decode cX8_begin 60 = .ok (.aload_n 0, 1) := by decide +kernel
theorem dX8_begin_61 : decode cX8_begin 61 = .ok (.getfield 95, 3) := by decide +kernel
theorem dX8_begin_64 : decode cX8_begin 64 = .ok (.ishl, 1) := by decide +kernel
theorem dX8_begin_65 : decode cX8_begin 65 = .ok (.iconst 1, 1) := by decide +kernel
theorem dX8_begin_66 : decode cX8_begin 66 = .ok (.isub, 1) := by decide +kernel
theorem dX8_begin_67 : decode cX8_begin 67 = .ok (.putfield 181, 3) := by decide +kernel
theorem dX8_begin_70 : decode cX8_begin 70 = .ok (.aload_n 0, 1) := by decide +kernel
theorem dX8_begin_71 : decode cX8_begin 71 = .ok (.iconst 0, 1) := by decide +kernel
theorem dX8_begin_72 : decode cX8_begin 72 = .ok (.putfield 184, 3) := by decide +kernel
theorem dX8_begin_75 : decode cX8_begin 75 = .ok (.aload_n 0, 1) := by decide +kernel
theorem dX8_begin_76 : decode cX8_begin 76 = .ok (.bipush (-9), 2) := by decide +kernel
theorem dX8_begin_78 : decode cX8_begin 78 = .ok (.putfield 187, 3) := by decide +kernel
theorem dX8_begin_81 : decode cX8_begin 81 = .ok (.return_, 1) := by decide +kernel
theorem dX8_lawNow_0 : decode cX8_lawNow 0 = .ok (.iconst 0, 1) := by decide +kernel
theorem dX8_lawNow_1 : decode cX8_lawNow 1 = .ok (.istore_n 1, 1) := by decide +kernel
theorem dX8_lawNow_2 : decode cX8_lawNow 2 = .ok (.iconst 0, 1) := by decide +kernel
theorem dX8_lawNow_3 : decode cX8_lawNow 3 = .ok (.istore_n 2, 1) := by decide +kernel
theorem dX8_lawNow_4 : decode cX8_lawNow 4 = .ok (.iload_n 2, 1) := by decide +kernel
theorem dX8_lawNow_5 : decode cX8_lawNow 5 = .ok (.aload_n 0, 1) := by decide +kernel
theorem dX8_lawNow_6 : decode cX8_lawNow 6 = .ok (.getfield 95, 3) := by decide +kernel
theorem dX8_lawNow_9 : decode cX8_lawNow 9 = .ok (.if_icmp .ge 28, 3) := by decide +kernel
theorem dX8_lawNow_12 : decode cX8_lawNow 12 = .ok (.iload_n 1, 1) := by decide +kernel
theorem dX8_lawNow_13 : decode cX8_lawNow 13 = .ok (.aload_n 0, 1) := by decide +kernel
theorem dX8_lawNow_14 : decode cX8_lawNow 14 = .ok (.getfield 40, 3) := by decide +kernel
theorem dX8_lawNow_17 : decode cX8_lawNow 17 = .ok (.iload_n 2, 1) := by decide +kernel
theorem dX8_lawNow_18 : decode cX8_lawNow 18 = .ok (.iaload, 1) := by decide +kernel
theorem dX8_lawNow_19 : decode cX8_lawNow 19 = .ok (.ifCond .le 9, 3) := by decide +kernel
theorem dX8_lawNow_22 : decode cX8_lawNow 22 = .ok (.iconst 1, 1) := by decide +kernel
theorem dX8_lawNow_23 : decode cX8_lawNow 23 = .ok (.iload_n 2, 1) := by decide +kernel
theorem dX8_lawNow_24 : decode cX8_lawNow 24 = .ok (.ishl, 1) := by decide +kernel
theorem dX8_lawNow_25 : decode cX8_lawNow 25 = .ok (.goto 4, 3) := by decide +kernel
theorem dX8_lawNow_28 : decode cX8_lawNow 28 = .ok (.iconst 0, 1) := by decide +kernel
theorem dX8_lawNow_29 : decode cX8_lawNow 29 = .ok (.ior, 1) := by decide +kernel
theorem dX8_lawNow_30 : decode cX8_lawNow 30 = .ok (.istore_n 1, 1) := by decide +kernel
theorem dX8_lawNow_31 : decode cX8_lawNow 31 = .ok (.iinc 2 1, 3) := by decide +kernel
theorem dX8_lawNow_34 : decode cX8_lawNow 34 = .ok (.goto (-30), 3) := by decide +kernel
theorem dX8_lawNow_37 : decode cX8_lawNow 37 = .ok (.iload_n 1, 1) := by decide +kernel
theorem dX8_lawNow_38 : decode cX8_lawNow 38 = .ok (.ireturn, 1) := by decide +kernel
set_option maxRecDepth 20000 in
theorem ggX8_doesEvening_X8_dried : GoodIn wsX8_doesEvening wsX8_dried := goodIn_r _ [10, 11, 12, 13, 9, 14, 15, 16, 17, 18, 19, 20, 25, 26, 27, 28, 29, 30, 31, 32, 33, 34, 35, 36, 37, 38, 39, 40, 41, 42, 43, 44, 45, 46, 47, 48, 49, 50, 51, 52, 53, 54, 55, 56, 57, 58, 59] (by decide +kernel) (by decide +kernel)
set_option maxRecDepth 20000 in
theorem gX8_doesEvening_X8_dried : GoodIn wsX8_doesEvening (wsV RX8 172 RX8 yX8_dried wsX8_dried) := goodIn_app (goodIn_of _ (by decide +kernel)) ggX8_doesEvening_X8_dried
set_option maxRecDepth 20000 in
theorem ggX8_doesEvening_X8_lawNow : GoodIn wsX8_doesEvening wsX8_lawNow := goodIn_r _ [24, 3, 4, 25, 26, 27, 28, 29, 30, 31, 32, 33, 34, 35, 36, 37, 38, 39, 40, 41, 42, 43, 44, 45, 46, 47, 48, 49, 50, 51, 52, 53, 54, 55, 56, 57, 58, 59] (by decide +kernel) (by decide +kernel)
set_option maxRecDepth 20000 in
theorem gX8_doesEvening_X8_lawNow : GoodIn wsX8_doesEvening (wsV RX8 190 RX8 yX8_lawNow wsX8_lawNow) := goodIn_app (goodIn_of _ (by decide +kernel)) ggX8_doesEvening_X8_lawNow
theorem dX8_doesEvening_0 : decode cX8_doesEvening 0 = .ok (.aload_n 0, 1) := by decide +kernel
theorem dX8_doesEvening_1 : decode cX8_doesEvening 1 = .ok (.getfield 178, 3) := by decide +kernel
theorem dX8_doesEvening_4 : decode cX8_doesEvening 4 = .ok (.aload_n 0, 1) := by decide +kernel
theorem dX8_doesEvening_5 : decode cX8_doesEvening 5 = .ok (.getfield 92, 3) := by decide +kernel
theorem dX8_doesEvening_8 : decode cX8_doesEvening 8 = .ok (.if_icmp .ne 5, 3) := by decide +kernel
theorem dX8_doesEvening_11 : decode cX8_doesEvening 11 = .ok (.iconst 0, 1) := by decide +kernel
theorem dX8_doesEvening_12 : decode cX8_doesEvening 12 = .ok (.ireturn, 1) := by decide +kernel
theorem dX8_doesEvening_13 : decode cX8_doesEvening 13 = .ok (.iconst 0, 1) := by decide +kernel
theorem dX8_doesEvening_14 : decode cX8_doesEvening 14 = .ok (.istore_n 1, 1) := by decide +kernel
theorem dX8_doesEvening_15 : decode cX8_doesEvening 15 = .ok (.iload_n 1, 1) := by decide +kernel
theorem dX8_doesEvening_16 : decode cX8_doesEvening 16 = .ok (.aload_n 0, 1) := by decide +kernel
theorem dX8_doesEvening_17 : decode cX8_doesEvening 17 = .ok (.getfield 95, 3) := by decide +kernel
theorem dX8_doesEvening_20 : decode cX8_doesEvening 20 = .ok (.if_icmp .ge 30, 3) := by decide +kernel
theorem dX8_doesEvening_23 : decode cX8_doesEvening 23 = .ok (.aload_n 0, 1) := by decide +kernel
theorem dX8_doesEvening_24 : decode cX8_doesEvening 24 = .ok (.getfield 40, 3) := by decide +kernel
theorem dX8_doesEvening_27 : decode cX8_doesEvening 27 = .ok (.iload_n 1, 1) := by decide +kernel
theorem dX8_doesEvening_28 : decode cX8_doesEvening 28 = .ok (.aload_n 0, 1) := by decide +kernel
theorem dX8_doesEvening_29 : decode cX8_doesEvening 29 = .ok (.aload_n 0, 1) := by decide +kernel
theorem dX8_doesEvening_30 : decode cX8_doesEvening 30 = .ok (.getfield 40, 3) := by decide +kernel
theorem dX8_doesEvening_33 : decode cX8_doesEvening 33 = .ok (.iload_n 1, 1) := by decide +kernel
theorem dX8_doesEvening_34 : decode cX8_doesEvening 34 = .ok (.iaload, 1) := by decide +kernel
theorem dX8_doesEvening_35 : decode cX8_doesEvening 35 = .ok (.iload_n 1, 1) := by decide +kernel
theorem dX8_doesEvening_36 : decode cX8_doesEvening 36 = .ok (.aload_n 0, 1) := by decide +kernel
theorem dX8_doesEvening_37 : decode cX8_doesEvening 37 = .ok (.getfield 178, 3) := by decide +kernel
theorem dX8_doesEvening_40 : decode cX8_doesEvening 40 = .ok (.invokevirtual 172, 3) := by decide +kernel
theorem dX8_doesEvening_43 : decode cX8_doesEvening 43 = .ok (.iastore, 1) := by decide +kernel
theorem dX8_doesEvening_44 : decode cX8_doesEvening 44 = .ok (.iinc 1 1, 3) := by decide +kernel
theorem dX8_doesEvening_47 : decode cX8_doesEvening 47 = .ok (.goto (-32), 3) := by decide +kernel
theorem dX8_doesEvening_50 : decode cX8_doesEvening 50 = .ok (.aload_n 0, 1) := by decide +kernel
theorem dX8_doesEvening_51 : decode cX8_doesEvening 51 = .ok (.dup, 1) := by decide +kernel
theorem dX8_doesEvening_52 : decode cX8_doesEvening 52 = .ok (.getfield 178, 3) := by decide +kernel
theorem dX8_doesEvening_55 : decode cX8_doesEvening 55 = .ok (.iconst 1, 1) := by decide +kernel
theorem dX8_doesEvening_56 : decode cX8_doesEvening 56 = .ok (.iadd, 1) := by decide +kernel
theorem dX8_doesEvening_57 : decode cX8_doesEvening 57 = .ok (.putfield 178, 3) := by decide +kernel
theorem dX8_doesEvening_60 : decode cX8_doesEvening 60 = .ok (.aload_n 0, 1) := by decide +kernel
theorem dX8_doesEvening_61 : decode cX8_doesEvening 61 = .ok (.dup, 1) := by decide +kernel
theorem dX8_doesEvening_62 : decode cX8_doesEvening 62 = .ok (.getfield 181, 3) := by decide +kernel
theorem dX8_doesEvening_65 : decode cX8_doesEvening 65 = .ok (.aload_n 0, 1) := by decide +kernel
theorem dX8_doesEvening_66 : decode cX8_doesEvening 66 = .ok (.invokevirtual 190, 3) := by decide +kernel
theorem dX8_doesEvening_69 : decode cX8_doesEvening 69 = .ok (.iand, 1) := by decide +kernel
theorem dX8_doesEvening_70 : decode cX8_doesEvening 70 = .ok (.putfield 181, 3) := by decide +kernel
theorem dX8_doesEvening_73 : decode cX8_doesEvening 73 = .ok (.iconst 1, 1) := by decide +kernel
theorem dX8_doesEvening_74 : decode cX8_doesEvening 74 = .ok (.ireturn, 1) := by decide +kernel
theorem dX8_wept_0 : decode cX8_wept 0 = .ok (.iload_n 0, 1) := by decide +kernel
theorem dX8_wept_1 : decode cX8_wept 1 = .ok (.iconst 3, 1) := by decide +kernel
theorem dX8_wept_2 : decode cX8_wept 2 = .ok (.iadd, 1) := by decide +kernel
theorem dX8_wept_3 : decode cX8_wept 3 = .ok (.bipush 9, 2) := by decide +kernel
theorem dX8_wept_5 : decode cX8_wept 5 = .ok (.if_icmp .le 8, 3) := by decide +kernel
theorem dX8_wept_8 : decode cX8_wept 8 = .ok (.bipush 9, 2) := by decide +kernel
theorem dX8_wept_10 : decode cX8_wept 10 = .ok (.goto 6, 3) := by decide +kernel
theorem dX8_wept_13 : decode cX8_wept 13 = .ok (.iload_n 0, 1) := by decide +kernel
theorem dX8_wept_14 : decode cX8_wept 14 = .ok (.iconst 3, 1) := by decide +kernel
theorem dX8_wept_15 : decode cX8_wept 15 = .ok (.iadd, 1) := by decide +kernel
theorem dX8_wept_16 : decode cX8_wept 16 = .ok (.ireturn, 1) := by decide +kernel
set_option maxRecDepth 20000 in
theorem ggX8_doesWeep_X8_wept : GoodIn wsX8_doesWeep wsX8_wept := goodIn_r _ [8] (by decide +kernel) (by decide +kernel)
set_option maxRecDepth 20000 in
theorem gX8_doesWeep_X8_wept : GoodIn wsX8_doesWeep (va_wsS RX8 194 yX8_wept wsX8_wept) := goodIn_app (goodIn_of _ (by decide +kernel)) ggX8_doesWeep_X8_wept
theorem dX8_doesWeep_0 : decode cX8_doesWeep 0 = .ok (.aload_n 0, 1) := by decide +kernel
theorem dX8_doesWeep_1 : decode cX8_doesWeep 1 = .ok (.getfield 43, 3) := by decide +kernel
theorem dX8_doesWeep_4 : decode cX8_doesWeep 4 = .ok (.iload_n 1, 1) := by decide +kernel
theorem dX8_doesWeep_5 : decode cX8_doesWeep 5 = .ok (.iaload, 1) := by decide +kernel
theorem dX8_doesWeep_6 : decode cX8_doesWeep 6 = .ok (.ifCond .ne 5, 3) := by decide +kernel
theorem dX8_doesWeep_9 : decode cX8_doesWeep 9 = .ok (.iconst 0, 1) := by decide +kernel
theorem dX8_doesWeep_10 : decode cX8_doesWeep 10 = .ok (.ireturn, 1) := by decide +kernel
theorem dX8_doesWeep_11 : decode cX8_doesWeep 11 = .ok (.aload_n 0, 1) := by decide +kernel
theorem dX8_doesWeep_12 : decode cX8_doesWeep 12 = .ok (.getfield 43, 3) := by decide +kernel
theorem dX8_doesWeep_15 : decode cX8_doesWeep 15 = .ok (.iload_n 1, 1) := by decide +kernel
theorem dX8_doesWeep_16 : decode cX8_doesWeep 16 = .ok (.dup2, 1) := by decide +kernel
theorem dX8_doesWeep_17 : decode cX8_doesWeep 17 = .ok (.iaload, 1) := by decide +kernel
theorem dX8_doesWeep_18 : decode cX8_doesWeep 18 = .ok (.iconst 1, 1) := by decide +kernel
theorem dX8_doesWeep_19 : decode cX8_doesWeep 19 = .ok (.isub, 1) := by decide +kernel
theorem dX8_doesWeep_20 : decode cX8_doesWeep 20 = .ok (.iastore, 1) := by decide +kernel
theorem dX8_doesWeep_21 : decode cX8_doesWeep 21 = .ok (.aload_n 0, 1) := by decide +kernel
theorem dX8_doesWeep_22 : decode cX8_doesWeep 22 = .ok (.dup, 1) := by decide +kernel
theorem dX8_doesWeep_23 : decode cX8_doesWeep 23 = .ok (.getfield 184, 3) := by decide +kernel
theorem dX8_doesWeep_26 : decode cX8_doesWeep 26 = .ok (.iconst 1, 1) := by decide +kernel
theorem dX8_doesWeep_27 : decode cX8_doesWeep 27 = .ok (.iadd, 1) := by decide +kernel
theorem dX8_doesWeep_28 : decode cX8_doesWeep 28 = .ok (.putfield 184, 3) := by decide +kernel
theorem dX8_doesWeep_31 : decode cX8_doesWeep 31 = .ok (.aload_n 0, 1) := by decide +kernel
theorem dX8_doesWeep_32 : decode cX8_doesWeep 32 = .ok (.getfield 40, 3) := by decide +kernel
theorem dX8_doesWeep_35 : decode cX8_doesWeep 35 = .ok (.iload_n 2, 1) := by decide +kernel
theorem dX8_doesWeep_36 : decode cX8_doesWeep 36 = .ok (.aload_n 0, 1) := by decide +kernel
theorem dX8_doesWeep_37 : decode cX8_doesWeep 37 = .ok (.getfield 19, 3) := by decide +kernel
theorem dX8_doesWeep_40 : decode cX8_doesWeep 40 = .ok (.iload_n 2, 1) := by decide +kernel
theorem dX8_doesWeep_41 : decode cX8_doesWeep 41 = .ok (.iaload, 1) := by decide +kernel
theorem dX8_doesWeep_42 : decode cX8_doesWeep 42 = .ok (.iload_n 1, 1) := by decide +kernel
theorem dX8_doesWeep_43 : decode cX8_doesWeep 43 = .ok (.if_icmp .ne 15, 3) := by decide +kernel
theorem dX8_doesWeep_46 : decode cX8_doesWeep 46 = .ok (.aload_n 0, 1) := by decide +kernel
theorem dX8_doesWeep_47 : decode cX8_doesWeep 47 = .ok (.getfield 40, 3) := by decide +kernel
theorem dX8_doesWeep_50 : decode cX8_doesWeep 50 = .ok (.iload_n 2, 1) := by decide +kernel
theorem dX8_doesWeep_51 : decode cX8_doesWeep 51 = .ok (.iaload, 1) := by decide +kernel
theorem dX8_doesWeep_52 : decode cX8_doesWeep 52 = .ok (.invokestatic 194, 3) := by decide +kernel
theorem dX8_doesWeep_55 : decode cX8_doesWeep 55 = .ok (.goto 4, 3) := by decide +kernel
theorem dX8_doesWeep_58 : decode cX8_doesWeep 58 = .ok (.iconst 0, 1) := by decide +kernel
theorem dX8_doesWeep_59 : decode cX8_doesWeep 59 = .ok (.iastore, 1) := by decide +kernel
theorem dX8_doesWeep_60 : decode cX8_doesWeep 60 = .ok (.iconst 1, 1) := by decide +kernel
theorem dX8_doesWeep_61 : decode cX8_doesWeep 61 = .ok (.ireturn, 1) := by decide +kernel
set_option maxRecDepth 20000 in
theorem ggX8_goWeeping_X8_begin : GoodIn wsX8_goWeeping wsX8_begin := goodIn_r _ [7, 8, 9, 10, 11, 12, 13, 14, 15, 1, 47, 48, 49, 50, 51, 52, 53, 54, 55, 56, 57, 58, 59, 60, 61, 62, 63, 64, 65, 66, 67, 68, 69, 70, 71, 72, 73, 74, 75, 76, 77, 78, 79, 80, 81] (by decide +kernel) (by decide +kernel)
set_option maxRecDepth 20000 in
theorem gX8_goWeeping_X8_begin : GoodIn wsX8_goWeeping (wsV RX8 197 RX8 yX8_begin wsX8_begin) := goodIn_app (goodIn_of _ (by decide +kernel)) ggX8_goWeeping_X8_begin
set_option maxRecDepth 20000 in
theorem ggX8_goWeeping_X8_doesEvening : GoodIn wsX8_goWeeping wsX8_doesEvening := goodIn_r _ [19, 13, 20, 8, 9, 14, 21, 22, 23, 6, 24, 25, 26, 27, 28, 29, 30, 31, 32, 33, 34, 35, 36, 37, 38, 47, 48, 49, 50, 51, 52, 53, 54, 55, 56, 57, 58, 59, 60, 61, 62, 63, 64, 65, 66, 67, 68, 69, 70, 71, 72, 73, 74, 75, 76, 77, 78, 79, 80, 81] (by decide +kernel) (by decide +kernel)
set_option maxRecDepth 20000 in
theorem gX8_goWeeping_X8_doesEvening : GoodIn wsX8_goWeeping (wsV RX8 200 RX8 yX8_doesEvening wsX8_doesEvening) := goodIn_app (goodIn_of _ (by decide +kernel)) ggX8_goWeeping_X8_doesEvening
set_option maxRecDepth 20000 in
theorem ggX8_goWeeping_X8_doesWeep : GoodIn wsX8_goWeeping wsX8_doesWeep := goodIn_r _ [42, 11, 15, 9, 43, 44, 45, 6, 46, 47, 48, 49, 50, 51, 52, 53, 54, 55, 56, 57, 58, 59, 60, 61, 62, 63, 64, 65, 66, 67, 68, 69, 70, 71, 72, 73, 74, 75, 76, 77, 78, 79, 80, 81] (by decide +kernel) (by decide +kernel)
set_option maxRecDepth 20000 in
theorem gX8_goWeeping_X8_doesWeep : GoodIn wsX8_goWeeping (wsV RX8 204 RX8 yX8_doesWeep wsX8_doesWeep) := goodIn_app (goodIn_of _ (by decide +kernel)) ggX8_goWeeping_X8_doesWeep
theorem dX8_goWeeping_0 : decode cX8_goWeeping 0 = .ok (.aload_n 0, 1) := by decide +kernel
theorem dX8_goWeeping_1 : decode cX8_goWeeping 1 = .ok (.invokevirtual 197, 3) := by decide +kernel
theorem dX8_goWeeping_4 : decode cX8_goWeeping 4 = .ok (.iconst 0, 1) := by decide +kernel
theorem dX8_goWeeping_5 : decode cX8_goWeeping 5 = .ok (.istore_n 3, 1) := by decide +kernel
theorem dX8_goWeeping_6 : decode cX8_goWeeping 6 = .ok (.iload_n 3, 1) := by decide +kernel
theorem dX8_goWeeping_7 : decode cX8_goWeeping 7 = .ok (.iload_n 2, 1) := by decide +kernel
theorem dX8_goWeeping_8 : decode cX8_goWeeping 8 = .ok (.if_icmp .ge 71, 3) := by decide +kernel
theorem dX8_goWeeping_11 : decode cX8_goWeeping 11 = .ok (.aload_n 0, 1) := by decide +kernel
theorem dX8_goWeeping_12 : decode cX8_goWeeping 12 = .ok (.getfield 187, 3) := by decide +kernel
theorem dX8_goWeeping_15 : decode cX8_goWeeping 15 = .ok (.ifCond .ge 64, 3) := by decide +kernel
theorem dX8_goWeeping_18 : decode cX8_goWeeping 18 = .ok (.aload_n 0, 1) := by decide +kernel
theorem dX8_goWeeping_19 : decode cX8_goWeeping 19 = .ok (.getfield 70, 3) := by decide +kernel
theorem dX8_goWeeping_22 : decode cX8_goWeeping 22 = .ok (.iload_n 1, 1) := by decide +kernel
theorem dX8_goWeeping_23 : decode cX8_goWeeping 23 = .ok (.iload_n 3, 1) := by decide +kernel
theorem dX8_goWeeping_24 : decode cX8_goWeeping 24 = .ok (.iadd, 1) := by decide +kernel
theorem dX8_goWeeping_25 : decode cX8_goWeeping 25 = .ok (.iaload, 1) := by decide +kernel
theorem dX8_goWeeping_26 : decode cX8_goWeeping 26 = .ok (.istore 4, 2) := by decide +kernel
theorem dX8_goWeeping_28 : decode cX8_goWeeping 28 = .ok (.iload 4, 2) := by decide +kernel
theorem dX8_goWeeping_30 : decode cX8_goWeeping 30 = .ok (.bipush 40, 2) := by decide +kernel
theorem dX8_goWeeping_32 : decode cX8_goWeeping 32 = .ok (.if_icmp .ne 10, 3) := by decide +kernel
theorem dX8_goWeeping_35 : decode cX8_goWeeping 35 = .ok (.aload_n 0, 1) := by decide +kernel
theorem dX8_goWeeping_36 : decode cX8_goWeeping 36 = .ok (.invokevirtual 200, 3) := by decide +kernel
theorem dX8_goWeeping_39 : decode cX8_goWeeping 39 = .ok (.goto 17, 3) := by decide +kernel
theorem dX8_goWeeping_42 : decode cX8_goWeeping 42 = .ok (.aload_n 0, 1) := by decide +kernel
theorem dX8_goWeeping_43 : decode cX8_goWeeping 43 = .ok (.iload 4, 2) := by decide +kernel
theorem dX8_goWeeping_45 : decode cX8_goWeeping 45 = .ok (.bipush 10, 2) := by decide +kernel
theorem dX8_goWeeping_47 : decode cX8_goWeeping 47 = .ok (.idiv, 1) := by decide +kernel
theorem dX8_goWeeping_48 : decode cX8_goWeeping 48 = .ok (.iload 4, 2) := by decide +kernel
theorem dX8_goWeeping_50 : decode cX8_goWeeping 50 = .ok (.bipush 10, 2) := by decide +kernel
theorem dX8_goWeeping_52 : decode cX8_goWeeping 52 = .ok (.irem, 1) := by decide +kernel
theorem dX8_goWeeping_53 : decode cX8_goWeeping 53 = .ok (.invokevirtual 204, 3) := by decide +kernel
theorem dX8_goWeeping_56 : decode cX8_goWeeping 56 = .ok (.istore 5, 2) := by decide +kernel
theorem dX8_goWeeping_58 : decode cX8_goWeeping 58 = .ok (.aload_n 0, 1) := by decide +kernel
theorem dX8_goWeeping_59 : decode cX8_goWeeping 59 = .ok (.iload 5, 2) := by decide +kernel
theorem dX8_goWeeping_61 : decode cX8_goWeeping 61 = .ok (.ifCond .eq 8, 3) := by decide +kernel
theorem dX8_goWeeping_64 : decode cX8_goWeeping 64 = .ok (.bipush (-9), 2) := by decide +kernel
theorem dX8_goWeeping_66 : decode cX8_goWeeping 66 = .ok (.goto 4, 3) := by decide +kernel
theorem dX8_goWeeping_69 : decode cX8_goWeeping 69 = .ok (.iload_n 3, 1) := by decide +kernel
theorem dX8_goWeeping_70 : decode cX8_goWeeping 70 = .ok (.putfield 187, 3) := by decide +kernel
theorem dX8_goWeeping_73 : decode cX8_goWeeping 73 = .ok (.iinc 3 1, 3) := by decide +kernel
theorem dX8_goWeeping_76 : decode cX8_goWeeping 76 = .ok (.goto (-70), 3) := by decide +kernel
theorem dX8_goWeeping_79 : decode cX8_goWeeping 79 = .ok (.return_, 1) := by decide +kernel
set_option maxRecDepth 20000 in
theorem ggX8_weepingBy_X8_noLinen : GoodIn wsX8_weepingBy wsX8_noLinen := goodIn_r _ [10, 11, 12, 13, 9, 14, 19, 20, 21, 22, 23, 24, 25, 26, 27, 28, 29, 30, 31, 32, 33, 34, 35, 36, 37, 38, 39, 40, 41, 42, 43, 44, 45, 46, 47, 48, 49, 50, 51, 52, 53] (by decide +kernel) (by decide +kernel)
set_option maxRecDepth 20000 in
theorem gX8_weepingBy_X8_noLinen : GoodIn wsX8_weepingBy (wsV RX8 152 RX8 yX8_noLinen wsX8_noLinen) := goodIn_app (goodIn_of _ (by decide +kernel)) ggX8_weepingBy_X8_noLinen
set_option maxRecDepth 20000 in
theorem ggX8_weepingBy_X8_lawNow : GoodIn wsX8_weepingBy wsX8_lawNow := goodIn_r _ [18, 11, 3, 19, 20, 21, 22, 23, 24, 25, 26, 27, 28, 29, 30, 31, 32, 33, 34, 35, 36, 37, 38, 39, 40, 41, 42, 43, 44, 45, 46, 47, 48, 49, 50, 51, 52, 53] (by decide +kernel) (by decide +kernel)
set_option maxRecDepth 20000 in
theorem gX8_weepingBy_X8_lawNow : GoodIn wsX8_weepingBy (wsV RX8 190 RX8 yX8_lawNow wsX8_lawNow) := goodIn_app (goodIn_of _ (by decide +kernel)) ggX8_weepingBy_X8_lawNow
theorem dX8_weepingBy_0 : decode cX8_weepingBy 0 = .ok (.iload_n 1, 1) := by decide +kernel
theorem dX8_weepingBy_1 : decode cX8_weepingBy 1 = .ok (.iconst 1, 1) := by decide +kernel
theorem dX8_weepingBy_2 : decode cX8_weepingBy 2 = .ok (.if_icmp .ne 8, 3) := by decide +kernel
theorem dX8_weepingBy_5 : decode cX8_weepingBy 5 = .ok (.aload_n 0, 1) := by decide +kernel
theorem dX8_weepingBy_6 : decode cX8_weepingBy 6 = .ok (.getfield 187, 3) := by decide +kernel
theorem dX8_weepingBy_9 : decode cX8_weepingBy 9 = .ok (.ireturn, 1) := by decide +kernel
theorem dX8_weepingBy_10 : decode cX8_weepingBy 10 = .ok (.aload_n 0, 1) := by decide +kernel
theorem dX8_weepingBy_11 : decode cX8_weepingBy 11 = .ok (.getfield 187, 3) := by decide +kernel
theorem dX8_weepingBy_14 : decode cX8_weepingBy 14 = .ok (.ifCond .lt 11, 3) := by decide +kernel
theorem dX8_weepingBy_17 : decode cX8_weepingBy 17 = .ok (.bipush (-100), 2) := by decide +kernel
theorem dX8_weepingBy_19 : decode cX8_weepingBy 19 = .ok (.aload_n 0, 1) := by decide +kernel
theorem dX8_weepingBy_20 : decode cX8_weepingBy 20 = .ok (.getfield 187, 3) := by decide +kernel
theorem dX8_weepingBy_23 : decode cX8_weepingBy 23 = .ok (.isub, 1) := by decide +kernel
theorem dX8_weepingBy_24 : decode cX8_weepingBy 24 = .ok (.ireturn, 1) := by decide +kernel
theorem dX8_weepingBy_25 : decode cX8_weepingBy 25 = .ok (.iload_n 1, 1) := by decide +kernel
theorem dX8_weepingBy_26 : decode cX8_weepingBy 26 = .ok (.bipush 20, 2) := by decide +kernel
theorem dX8_weepingBy_28 : decode cX8_weepingBy 28 = .ok (.if_icmp .lt 13, 3) := by decide +kernel
theorem dX8_weepingBy_31 : decode cX8_weepingBy 31 = .ok (.aload_n 0, 1) := by decide +kernel
theorem dX8_weepingBy_32 : decode cX8_weepingBy 32 = .ok (.getfield 43, 3) := by decide +kernel
theorem dX8_weepingBy_35 : decode cX8_weepingBy 35 = .ok (.iload_n 1, 1) := by decide +kernel
theorem dX8_weepingBy_36 : decode cX8_weepingBy 36 = .ok (.bipush 20, 2) := by decide +kernel
theorem dX8_weepingBy_38 : decode cX8_weepingBy 38 = .ok (.isub, 1) := by decide +kernel
theorem dX8_weepingBy_39 : decode cX8_weepingBy 39 = .ok (.iaload, 1) := by decide +kernel
theorem dX8_weepingBy_40 : decode cX8_weepingBy 40 = .ok (.ireturn, 1) := by decide +kernel
theorem dX8_weepingBy_41 : decode cX8_weepingBy 41 = .ok (.iload_n 1, 1) := by decide +kernel
theorem dX8_weepingBy_42 : decode cX8_weepingBy 42 = .ok (.bipush 10, 2) := by decide +kernel
theorem dX8_weepingBy_44 : decode cX8_weepingBy 44 = .ok (.if_icmp .lt 29, 3) := by decide +kernel
theorem dX8_weepingBy_47 : decode cX8_weepingBy 47 = .ok (.aload_n 0, 1) := by decide +kernel
theorem dX8_weepingBy_48 : decode cX8_weepingBy 48 = .ok (.iload_n 1, 1) := by decide +kernel
theorem dX8_weepingBy_49 : decode cX8_weepingBy 49 = .ok (.bipush 10, 2) := by decide +kernel
theorem dX8_weepingBy_51 : decode cX8_weepingBy 51 = .ok (.isub, 1) := by decide +kernel
theorem dX8_weepingBy_52 : decode cX8_weepingBy 52 = .ok (.invokevirtual 152, 3) := by decide +kernel
theorem dX8_weepingBy_55 : decode cX8_weepingBy 55 = .ok (.ifCond .eq 8, 3) := by decide +kernel
theorem dX8_weepingBy_58 : decode cX8_weepingBy 58 = .ok (.bipush (-9), 2) := by decide +kernel
theorem dX8_weepingBy_60 : decode cX8_weepingBy 60 = .ok (.goto 12, 3) := by decide +kernel
theorem dX8_weepingBy_63 : decode cX8_weepingBy 63 = .ok (.aload_n 0, 1) := by decide +kernel
theorem dX8_weepingBy_64 : decode cX8_weepingBy 64 = .ok (.getfield 40, 3) := by decide +kernel
theorem dX8_weepingBy_67 : decode cX8_weepingBy 67 = .ok (.iload_n 1, 1) := by decide +kernel
theorem dX8_weepingBy_68 : decode cX8_weepingBy 68 = .ok (.bipush 10, 2) := by decide +kernel
theorem dX8_weepingBy_70 : decode cX8_weepingBy 70 = .ok (.isub, 1) := by decide +kernel
theorem dX8_weepingBy_71 : decode cX8_weepingBy 71 = .ok (.iaload, 1) := by decide +kernel
theorem dX8_weepingBy_72 : decode cX8_weepingBy 72 = .ok (.ireturn, 1) := by decide +kernel
theorem dX8_weepingBy_73 : decode cX8_weepingBy 73 = .ok (.iload_n 1, 1) := by decide +kernel
theorem dX8_weepingBy_74 : decode cX8_weepingBy 74 = .ok (.ifCond .ne 10, 3) := by decide +kernel
theorem dX8_weepingBy_77 : decode cX8_weepingBy 77 = .ok (.aload_n 0, 1) := by decide +kernel
theorem dX8_weepingBy_78 : decode cX8_weepingBy 78 = .ok (.invokevirtual 190, 3) := by decide +kernel
theorem dX8_weepingBy_81 : decode cX8_weepingBy 81 = .ok (.goto 19, 3) := by decide +kernel
theorem dX8_weepingBy_84 : decode cX8_weepingBy 84 = .ok (.iload_n 1, 1) := by decide +kernel
theorem dX8_weepingBy_85 : decode cX8_weepingBy 85 = .ok (.iconst 2, 1) := by decide +kernel
theorem dX8_weepingBy_86 : decode cX8_weepingBy 86 = .ok (.if_icmp .ne 10, 3) := by decide +kernel
theorem dX8_weepingBy_89 : decode cX8_weepingBy 89 = .ok (.aload_n 0, 1) := by decide +kernel
theorem dX8_weepingBy_90 : decode cX8_weepingBy 90 = .ok (.getfield 181, 3) := by decide +kernel
theorem dX8_weepingBy_93 : decode cX8_weepingBy 93 = .ok (.goto 7, 3) := by decide +kernel
theorem dX8_weepingBy_96 : decode cX8_weepingBy 96 = .ok (.aload_n 0, 1) := by decide +kernel
theorem dX8_weepingBy_97 : decode cX8_weepingBy 97 = .ok (.getfield 184, 3) := by decide +kernel
theorem dX8_weepingBy_100 : decode cX8_weepingBy 100 = .ok (.ireturn, 1) := by decide +kernel
set_option maxRecDepth 20000 in
theorem ggX8_isAct_X8_in : GoodIn wsX8_isAct wsX8_in := goodIn_r _ [5] (by decide +kernel) (by decide +kernel)
set_option maxRecDepth 20000 in
theorem gX8_isAct_X8_in : GoodIn wsX8_isAct (va_wsS RX8 88 yX8_in wsX8_in) := goodIn_app (goodIn_of _ (by decide +kernel)) ggX8_isAct_X8_in
set_option maxRecDepth 20000 in
theorem ggX8_isAct_X8_noLinen : GoodIn wsX8_isAct wsX8_noLinen := goodIn_r _ [9, 10, 2, 3, 4, 5, 11, 12, 13, 14, 15, 16, 17, 18, 19, 20, 21, 22, 23, 24, 25, 26, 27, 28, 29, 30, 31, 32, 33, 34, 35, 36, 37, 38, 39, 40, 41, 42, 43, 44, 45] (by decide +kernel) (by decide +kernel)
set_option maxRecDepth 20000 in
theorem gX8_isAct_X8_noLinen : GoodIn wsX8_isAct (wsV RX8 152 RX8 yX8_noLinen wsX8_noLinen) := goodIn_app (goodIn_of _ (by decide +kernel)) ggX8_isAct_X8_noLinen
theorem dX8_isAct_0 : decode cX8_isAct 0 = .ok (.iload_n 1, 1) := by decide +kernel
theorem dX8_isAct_1 : decode cX8_isAct 1 = .ok (.bipush 40, 2) := by decide +kernel
theorem dX8_isAct_3 : decode cX8_isAct 3 = .ok (.if_icmp .eq 26, 3) := by decide +kernel
theorem dX8_isAct_6 : decode cX8_isAct 6 = .ok (.iload_n 1, 1) := by decide +kernel
theorem dX8_isAct_7 : decode cX8_isAct 7 = .ok (.i2l, 1) := by decide +kernel
theorem dX8_isAct_8 : decode cX8_isAct 8 = .ok (.lconst 0, 1) := by decide +kernel
theorem dX8_isAct_9 : decode cX8_isAct 9 = .ok (.ldc2_w 207, 3) := by decide +kernel
theorem dX8_isAct_12 : decode cX8_isAct 12 = .ok (.invokestatic 88, 3) := by decide +kernel
theorem dX8_isAct_15 : decode cX8_isAct 15 = .ok (.ifCond .eq 18, 3) := by decide +kernel
theorem dX8_isAct_18 : decode cX8_isAct 18 = .ok (.aload_n 0, 1) := by decide +kernel
theorem dX8_isAct_19 : decode cX8_isAct 19 = .ok (.iload_n 1, 1) := by decide +kernel
theorem dX8_isAct_20 : decode cX8_isAct 20 = .ok (.bipush 10, 2) := by decide +kernel
theorem dX8_isAct_22 : decode cX8_isAct 22 = .ok (.irem, 1) := by decide +kernel
theorem dX8_isAct_23 : decode cX8_isAct 23 = .ok (.invokevirtual 152, 3) := by decide +kernel
theorem dX8_isAct_26 : decode cX8_isAct 26 = .ok (.ifCond .ne 7, 3) := by decide +kernel
theorem dX8_isAct_29 : decode cX8_isAct 29 = .ok (.iconst 1, 1) := by decide +kernel
theorem dX8_isAct_30 : decode cX8_isAct 30 = .ok (.goto 4, 3) := by decide +kernel
theorem dX8_isAct_33 : decode cX8_isAct 33 = .ok (.iconst 0, 1) := by decide +kernel
theorem dX8_isAct_34 : decode cX8_isAct 34 = .ok (.ireturn, 1) := by decide +kernel
set_option maxRecDepth 20000 in
theorem ggX8_weeping_X8_noSheet : GoodIn wsX8_weeping wsX8_noSheet := goodIn_r _ [13, 1, 14, 15, 12, 16] (by decide +kernel) (by decide +kernel)
set_option maxRecDepth 20000 in
theorem gX8_weeping_X8_noSheet : GoodIn wsX8_weeping (va_wsS RX8 133 yX8_noSheet wsX8_noSheet) := goodIn_app (goodIn_of _ (by decide +kernel)) ggX8_weeping_X8_noSheet
set_option maxRecDepth 20000 in
theorem ggX8_weeping_X8_refused : GoodIn wsX8_weeping wsX8_refused := goodIn_r _ [20, 21, 95, 96, 97, 98, 99, 100, 101, 102, 103, 104, 105, 106, 107, 108, 109, 110, 111, 112, 113, 114, 115, 116, 117, 118, 119, 120, 121, 122, 123, 124, 125, 126, 127, 128, 129] (by decide +kernel) (by decide +kernel)
set_option maxRecDepth 20000 in
theorem gX8_weeping_X8_refused : GoodIn wsX8_weeping (wsV RX8 137 RX8 yX8_refused wsX8_refused) := goodIn_app (goodIn_of _ (by decide +kernel)) ggX8_weeping_X8_refused
set_option maxRecDepth 20000 in
theorem ggX8_weeping_X8_in : GoodIn wsX8_weeping wsX8_in := goodIn_r _ [16] (by decide +kernel) (by decide +kernel)
set_option maxRecDepth 20000 in
theorem gX8_weeping_X8_in : GoodIn wsX8_weeping (va_wsS RX8 88 yX8_in wsX8_in) := goodIn_app (goodIn_of _ (by decide +kernel)) ggX8_weeping_X8_in
set_option maxRecDepth 20000 in
theorem ggX8_weeping_X8_cellsBarred : GoodIn wsX8_weeping wsX8_cellsBarred := goodIn_r _ [25, 26, 27, 28, 29, 30, 12, 31, 21, 32, 33, 34, 95, 96, 97, 98, 99, 100, 101, 102, 103, 104, 105, 106, 107, 108, 109, 110, 111, 112, 113, 114, 115, 116, 117, 118, 119, 120, 121, 122, 123, 124, 125, 126, 127, 128, 129] (by decide +kernel) (by decide +kernel)
set_option maxRecDepth 20000 in
theorem gX8_weeping_X8_cellsBarred : GoodIn wsX8_weeping (wsV RX8 142 RX8 yX8_cellsBarred wsX8_cellsBarred) := goodIn_app (goodIn_of _ (by decide +kernel)) ggX8_weeping_X8_cellsBarred
set_option maxRecDepth 20000 in
theorem ggX8_weeping_X8_isAct : GoodIn wsX8_weeping wsX8_isAct := goodIn_r _ [38, 39, 14, 15, 12, 16, 40, 41, 42, 43, 8, 95, 96, 97, 98, 99, 100, 101, 102, 103, 104, 105, 106, 107, 108, 109, 110, 111, 112, 113, 114, 115, 116, 117, 118, 119, 120, 121, 122, 123, 124, 125, 126, 127, 128, 129] (by decide +kernel) (by decide +kernel)
set_option maxRecDepth 20000 in
theorem gX8_weeping_X8_isAct : GoodIn wsX8_weeping (wsV RX8 219 RX8 yX8_isAct wsX8_isAct) := goodIn_app (goodIn_of _ (by decide +kernel)) ggX8_weeping_X8_isAct
set_option maxRecDepth 20000 in
theorem ggX8_weeping_X8_goWeeping : GoodIn wsX8_weeping wsX8_goWeeping := goodIn_r _ [47, 48, 9, 49, 50, 51, 12, 52, 8, 53, 54, 55, 56, 57, 58, 59, 60, 61, 62, 63, 64, 65, 66, 67, 68, 69, 70, 71, 72, 73, 74, 75, 76, 77, 78, 79, 80, 81, 82, 83, 84, 85, 86, 87, 88, 89, 90, 95, 96, 97, 98, 99, 100, 101, 102, 103, 104, 105, 106, 107, 108, 109, 110, 111, 112, 113, 114, 115, 116, 117, 118, 119, 120, 121, 122, 123, 124, 125, 126, 127, 128, 129] (by decide +kernel) (by decide +kernel)
set_option maxRecDepth 20000 in
theorem gX8_weeping_X8_goWeeping : GoodIn wsX8_weeping (wsV RX8 222 RX8 yX8_goWeeping wsX8_goWeeping) := goodIn_app (goodIn_of _ (by decide +kernel)) ggX8_weeping_X8_goWeeping
set_option maxRecDepth 20000 in
theorem ggX8_weeping_X8_weepingBy : GoodIn wsX8_weeping wsX8_weepingBy := goodIn_r _ [94, 48, 55, 53, 58, 59, 40, 41, 42, 12, 43, 8, 14, 15, 16, 79, 80, 81, 82, 95, 96, 97, 98, 99, 100, 101, 102, 103, 104, 105, 106, 107, 108, 109, 110, 111, 112, 113, 114, 115, 116, 117, 118, 119, 120, 121, 122, 123, 124, 125, 126, 127, 128, 129] (by decide +kernel) (by decide +kernel)
set_option maxRecDepth 20000 in
theorem gX8_weeping_X8_weepingBy : GoodIn wsX8_weeping (wsV RX8 226 RX8 yX8_weepingBy wsX8_weepingBy) := goodIn_app (goodIn_of _ (by decide +kernel)) ggX8_weeping_X8_weepingBy
theorem dX8_weeping_0 : decode cX8_weeping 0 = .ok (.iload_n 1, 1) := by decide +kernel
theorem dX8_weeping_1 : decode cX8_weeping 1 = .ok (.invokestatic 133, 3) := by decide +kernel
theorem dX8_weeping_4 : decode cX8_weeping 4 = .ok (.ifCond .eq 9, 3) := by decide +kernel
theorem dX8_weeping_7 : decode cX8_weeping 7 = .ok (.aload_n 0, 1) := by decide +kernel
theorem dX8_weeping_8 : decode cX8_weeping 8 = .ok (.iconst (-1), 1) := by decide +kernel
theorem dX8_weeping_9 : decode cX8_weeping 9 = .ok (.invokevirtual 137, 3) := by decide +kernel
theorem dX8_weeping_12 : decode cX8_weeping 12 = .ok (.ireturn, 1) := by decide +kernel
theorem dX8_weeping_13 : decode cX8_weeping 13 = .ok (.iload 5, 2) := by decide +kernel
theorem dX8_weeping_15 : decode cX8_weeping 15 = .ok (.i2l, 1) := by decide +kernel
theorem dX8_weeping_16 : decode cX8_weeping 16 = .ok (.lconst 0, 1) := by decide +kernel
theorem dX8_weeping_17 : decode cX8_weeping 17 = .ok (.ldc2_w 86, 3) := by decide +kernel
theorem dX8_weeping_20 : decode cX8_weeping 20 = .ok (.invokestatic 88, 3) := by decide +kernel
theorem dX8_weeping_23 : decode cX8_weeping 23 = .ok (.ifCond .ne 33, 3) := by decide +kernel
theorem dX8_weeping_26 : decode cX8_weeping 26 = .ok (.iload 5, 2) := by decide +kernel
theorem dX8_weeping_28 : decode cX8_weeping 28 = .ok (.i2l, 1) := by decide +kernel
theorem dX8_weeping_29 : decode cX8_weeping 29 = .ok (.ldc2_w 209, 3) := by decide +kernel
theorem dX8_weeping_32 : decode cX8_weeping 32 = .ok (.ldc2_w 211, 3) := by decide +kernel
theorem dX8_weeping_35 : decode cX8_weeping 35 = .ok (.invokestatic 88, 3) := by decide +kernel
theorem dX8_weeping_38 : decode cX8_weeping 38 = .ok (.ifCond .ne 18, 3) := by decide +kernel
theorem dX8_weeping_41 : decode cX8_weeping 41 = .ok (.iload 5, 2) := by decide +kernel
theorem dX8_weeping_43 : decode cX8_weeping 43 = .ok (.i2l, 1) := by decide +kernel
theorem dX8_weeping_44 : decode cX8_weeping 44 = .ok (.ldc2_w 213, 3) := by decide +kernel
theorem dX8_weeping_47 : decode cX8_weeping 47 = .ok (.ldc2_w 215, 3) := by decide +kernel
theorem dX8_weeping_50 : decode cX8_weeping 50 = .ok (.invokestatic 88, 3) := by decide +kernel
theorem dX8_weeping_53 : decode cX8_weeping 53 = .ok (.ifCond .eq 7, 3) := by decide +kernel
theorem dX8_weeping_56 : decode cX8_weeping 56 = .ok (.iconst 1, 1) := by decide +kernel
theorem dX8_weeping_57 : decode cX8_weeping 57 = .ok (.goto 4, 3) := by decide +kernel
theorem dX8_weeping_60 : decode cX8_weeping 60 = .ok (.iconst 0, 1) := by decide +kernel
theorem dX8_weeping_61 : decode cX8_weeping 61 = .ok (.istore 6, 2) := by decide +kernel
theorem dX8_weeping_63 : decode cX8_weeping 63 = .ok (.iload_n 2, 1) := by decide +kernel
theorem dX8_weeping_64 : decode cX8_weeping 64 = .ok (.i2l, 1) := by decide +kernel
theorem dX8_weeping_65 : decode cX8_weeping 65 = .ok (.lconst 0, 1) := by decide +kernel
theorem dX8_weeping_66 : decode cX8_weeping 66 = .ok (.ldc2_w 140, 3) := by decide +kernel
theorem dX8_weeping_69 : decode cX8_weeping 69 = .ok (.invokestatic 88, 3) := by decide +kernel
theorem dX8_weeping_72 : decode cX8_weeping 72 = .ok (.ifCond .eq 21, 3) := by decide +kernel
theorem dX8_weeping_75 : decode cX8_weeping 75 = .ok (.iload 4, 2) := by decide +kernel
theorem dX8_weeping_77 : decode cX8_weeping 77 = .ok (.i2l, 1) := by decide +kernel
theorem dX8_weeping_78 : decode cX8_weeping 78 = .ok (.lconst 0, 1) := by decide +kernel
theorem dX8_weeping_79 : decode cX8_weeping 79 = .ok (.ldc2_w 217, 3) := by decide +kernel
theorem dX8_weeping_82 : decode cX8_weeping 82 = .ok (.invokestatic 88, 3) := by decide +kernel
theorem dX8_weeping_85 : decode cX8_weeping 85 = .ok (.ifCond .eq 8, 3) := by decide +kernel
theorem dX8_weeping_88 : decode cX8_weeping 88 = .ok (.iload 6, 2) := by decide +kernel
theorem dX8_weeping_90 : decode cX8_weeping 90 = .ok (.ifCond .ne 10, 3) := by decide +kernel
theorem dX8_weeping_93 : decode cX8_weeping 93 = .ok (.aload_n 0, 1) := by decide +kernel
theorem dX8_weeping_94 : decode cX8_weeping 94 = .ok (.bipush (-2), 2) := by decide +kernel
theorem dX8_weeping_96 : decode cX8_weeping 96 = .ok (.invokevirtual 137, 3) := by decide +kernel
theorem dX8_weeping_99 : decode cX8_weeping 99 = .ok (.ireturn, 1) := by decide +kernel
theorem dX8_weeping_100 : decode cX8_weeping 100 = .ok (.aload_n 0, 1) := by decide +kernel
theorem dX8_weeping_101 : decode cX8_weeping 101 = .ok (.getfield 95, 3) := by decide +kernel
theorem dX8_weeping_104 : decode cX8_weeping 104 = .ok (.ifCond .ne 10, 3) := by decide +kernel
theorem dX8_weeping_107 : decode cX8_weeping 107 = .ok (.aload_n 0, 1) := by decide +kernel
theorem dX8_weeping_108 : decode cX8_weeping 108 = .ok (.bipush (-3), 2) := by decide +kernel
theorem dX8_weeping_110 : decode cX8_weeping 110 = .ok (.invokevirtual 137, 3) := by decide +kernel
theorem dX8_weeping_113 : decode cX8_weeping 113 = .ok (.ireturn, 1) := by decide +kernel
theorem dX8_weeping_114 : decode cX8_weeping 114 = .ok (.aload_n 0, 1) := by decide +kernel
theorem dX8_weeping_115 : decode cX8_weeping 115 = .ok (.iload_n 1, 1) := by decide +kernel
theorem dX8_weeping_116 : decode cX8_weeping 116 = .ok (.iload_n 2, 1) := by decide +kernel
theorem dX8_weeping_117 : decode cX8_weeping 117 = .ok (.iload_n 3, 1) := by decide +kernel
theorem dX8_weeping_118 : decode cX8_weeping 118 = .ok (.iload 4, 2) := by decide +kernel
theorem dX8_weeping_120 : decode cX8_weeping 120 = .ok (.i2l, 1) := by decide +kernel
theorem dX8_weeping_121 : decode cX8_weeping 121 = .ok (.invokevirtual 142, 3) := by decide +kernel
theorem dX8_weeping_124 : decode cX8_weeping 124 = .ok (.istore 7, 2) := by decide +kernel
theorem dX8_weeping_126 : decode cX8_weeping 126 = .ok (.iload 7, 2) := by decide +kernel
theorem dX8_weeping_128 : decode cX8_weeping 128 = .ok (.ifCond .ge 6, 3) := by decide +kernel
theorem dX8_weeping_131 : decode cX8_weeping 131 = .ok (.iload 7, 2) := by decide +kernel
theorem dX8_weeping_133 : decode cX8_weeping 133 = .ok (.ireturn, 1) := by decide +kernel
theorem dX8_weeping_134 : decode cX8_weeping 134 = .ok (.iconst 0, 1) := by decide +kernel
theorem dX8_weeping_135 : decode cX8_weeping 135 = .ok (.istore 8, 2) := by decide +kernel
theorem dX8_weeping_137 : decode cX8_weeping 137 = .ok (.iload 8, 2) := by decide +kernel
theorem dX8_weeping_139 : decode cX8_weeping 139 = .ok (.iload 4, 2) := by decide +kernel
theorem dX8_weeping_141 : decode cX8_weeping 141 = .ok (.if_icmp .ge 37, 3) := by decide +kernel
theorem dX8_weeping_144 : decode cX8_weeping 144 = .ok (.aload_n 0, 1) := by decide +kernel
theorem dX8_weeping_145 : decode cX8_weeping 145 = .ok (.aload_n 0, 1) := by decide +kernel
theorem dX8_weeping_146 : decode cX8_weeping 146 = .ok (.getfield 70, 3) := by decide +kernel
theorem dX8_weeping_149 : decode cX8_weeping 149 = .ok (.bipush 60, 2) := by decide +kernel
theorem dX8_weeping_151 : decode cX8_weeping 151 = .ok (.iload_n 1, 1) := by decide +kernel
theorem dX8_weeping_152 : decode cX8_weeping 152 = .ok (.imul, 1) := by decide +kernel
theorem dX8_weeping_153 : decode cX8_weeping 153 = .ok (.iload_n 3, 1) := by decide +kernel
theorem dX8_weeping_154 : decode cX8_weeping 154 = .ok (.iadd, 1) := by decide +kernel
theorem dX8_weeping_155 : decode cX8_weeping 155 = .ok (.iload 8, 2) := by decide +kernel
theorem dX8_weeping_157 : decode cX8_weeping 157 = .ok (.iadd, 1) := by decide +kernel
theorem dX8_weeping_158 : decode cX8_weeping 158 = .ok (.iaload, 1) := by decide +kernel
theorem dX8_weeping_159 : decode cX8_weeping 159 = .ok (.invokevirtual 219, 3) := by decide +kernel
theorem dX8_weeping_162 : decode cX8_weeping 162 = .ok (.ifCond .ne 10, 3) := by decide +kernel
theorem dX8_weeping_165 : decode cX8_weeping 165 = .ok (.aload_n 0, 1) := by decide +kernel
theorem dX8_weeping_166 : decode cX8_weeping 166 = .ok (.bipush (-2), 2) := by decide +kernel
theorem dX8_weeping_168 : decode cX8_weeping 168 = .ok (.invokevirtual 137, 3) := by decide +kernel
theorem dX8_weeping_171 : decode cX8_weeping 171 = .ok (.ireturn, 1) := by decide +kernel
theorem dX8_weeping_172 : decode cX8_weeping 172 = .ok (.iinc 8 1, 3) := by decide +kernel
theorem dX8_weeping_175 : decode cX8_weeping 175 = .ok (.goto (-38), 3) := by decide +kernel
theorem dX8_weeping_178 : decode cX8_weeping 178 = .ok (.aload_n 0, 1) := by decide +kernel
theorem dX8_weeping_179 : decode cX8_weeping 179 = .ok (.bipush 60, 2) := by decide +kernel
theorem dX8_weeping_181 : decode cX8_weeping 181 = .ok (.iload_n 1, 1) := by decide +kernel
theorem dX8_weeping_182 : decode cX8_weeping 182 = .ok (.imul, 1) := by decide +kernel
theorem dX8_weeping_183 : decode cX8_weeping 183 = .ok (.iload_n 3, 1) := by decide +kernel
theorem dX8_weeping_184 : decode cX8_weeping 184 = .ok (.iadd, 1) := by decide +kernel
theorem dX8_weeping_185 : decode cX8_weeping 185 = .ok (.iload 4, 2) := by decide +kernel
theorem dX8_weeping_187 : decode cX8_weeping 187 = .ok (.invokevirtual 222, 3) := by decide +kernel
theorem dX8_weeping_190 : decode cX8_weeping 190 = .ok (.aload_n 0, 1) := by decide +kernel
theorem dX8_weeping_191 : decode cX8_weeping 191 = .ok (.aload_n 0, 1) := by decide +kernel
theorem dX8_weeping_192 : decode cX8_weeping 192 = .ok (.iload 5, 2) := by decide +kernel
theorem dX8_weeping_194 : decode cX8_weeping 194 = .ok (.invokevirtual 226, 3) := by decide +kernel
theorem dX8_weeping_197 : decode cX8_weeping 197 = .ok (.invokevirtual 137, 3) := by decide +kernel
theorem dX8_weeping_200 : decode cX8_weeping 200 = .ok (.ireturn, 1) := by decide +kernel
set_option maxRecDepth 20000 in
theorem ggX8_fewestOn_X8_dried : GoodIn wsX8_fewestOn wsX8_dried := goodIn_r _ [6, 7, 8, 9, 5, 10, 11, 12, 13, 14, 15, 16, 20, 21, 22, 23, 24, 25, 26, 27, 28, 29, 30, 31, 32, 33, 34, 35, 36, 37, 38, 39, 40, 41, 42, 43, 44, 45, 46, 47, 48, 49, 50, 51, 52, 53, 54] (by decide +kernel) (by decide +kernel)
set_option maxRecDepth 20000 in
theorem gX8_fewestOn_X8_dried : GoodIn wsX8_fewestOn (wsV RX8 172 RX8 yX8_dried wsX8_dried) := goodIn_app (goodIn_of _ (by decide +kernel)) ggX8_fewestOn_X8_dried
set_option maxRecDepth 20000 in
theorem ggX8_fewestOn_X8_wept : GoodIn wsX8_fewestOn wsX8_wept := goodIn_r _ [19] (by decide +kernel) (by decide +kernel)
set_option maxRecDepth 20000 in
theorem gX8_fewestOn_X8_wept : GoodIn wsX8_fewestOn (va_wsS RX8 194 yX8_wept wsX8_wept) := goodIn_app (goodIn_of _ (by decide +kernel)) ggX8_fewestOn_X8_wept
theorem dX8_fewestOn_0 : decode cX8_fewestOn 0 = .ok (.aload_n 0, 1) := by decide +kernel
theorem dX8_fewestOn_1 : decode cX8_fewestOn 1 = .ok (.iload_n 3, 1) := by decide +kernel
theorem dX8_fewestOn_2 : decode cX8_fewestOn 2 = .ok (.iload_n 1, 1) := by decide +kernel
theorem dX8_fewestOn_3 : decode cX8_fewestOn 3 = .ok (.iload_n 2, 1) := by decide +kernel
theorem dX8_fewestOn_4 : decode cX8_fewestOn 4 = .ok (.invokevirtual 172, 3) := by decide +kernel
theorem dX8_fewestOn_7 : decode cX8_fewestOn 7 = .ok (.istore 4, 2) := by decide +kernel
theorem dX8_fewestOn_9 : decode cX8_fewestOn 9 = .ok (.iload 4, 2) := by decide +kernel
theorem dX8_fewestOn_11 : decode cX8_fewestOn 11 = .ok (.ifCond .le 20, 3) := by decide +kernel
theorem dX8_fewestOn_14 : decode cX8_fewestOn 14 = .ok (.aload_n 0, 1) := by decide +kernel
theorem dX8_fewestOn_15 : decode cX8_fewestOn 15 = .ok (.getfield 46, 3) := by decide +kernel
theorem dX8_fewestOn_18 : decode cX8_fewestOn 18 = .ok (.bipush 10, 2) := by decide +kernel
theorem dX8_fewestOn_20 : decode cX8_fewestOn 20 = .ok (.iload_n 2, 1) := by decide +kernel
theorem dX8_fewestOn_21 : decode cX8_fewestOn 21 = .ok (.iconst 1, 1) := by decide +kernel
theorem dX8_fewestOn_22 : decode cX8_fewestOn 22 = .ok (.iadd, 1) := by decide +kernel
theorem dX8_fewestOn_23 : decode cX8_fewestOn 23 = .ok (.imul, 1) := by decide +kernel
theorem dX8_fewestOn_24 : decode cX8_fewestOn 24 = .ok (.iload 4, 2) := by decide +kernel
theorem dX8_fewestOn_26 : decode cX8_fewestOn 26 = .ok (.iadd, 1) := by decide +kernel
theorem dX8_fewestOn_27 : decode cX8_fewestOn 27 = .ok (.iaload, 1) := by decide +kernel
theorem dX8_fewestOn_28 : decode cX8_fewestOn 28 = .ok (.goto 5, 3) := by decide +kernel
theorem dX8_fewestOn_31 : decode cX8_fewestOn 31 = .ok (.bipush 99, 2) := by decide +kernel
theorem dX8_fewestOn_33 : decode cX8_fewestOn 33 = .ok (.istore 5, 2) := by decide +kernel
theorem dX8_fewestOn_35 : decode cX8_fewestOn 35 = .ok (.iload_n 3, 1) := by decide +kernel
theorem dX8_fewestOn_36 : decode cX8_fewestOn 36 = .ok (.bipush 9, 2) := by decide +kernel
theorem dX8_fewestOn_38 : decode cX8_fewestOn 38 = .ok (.if_icmp .ge 22, 3) := by decide +kernel
theorem dX8_fewestOn_41 : decode cX8_fewestOn 41 = .ok (.iconst 1, 1) := by decide +kernel
theorem dX8_fewestOn_42 : decode cX8_fewestOn 42 = .ok (.aload_n 0, 1) := by decide +kernel
theorem dX8_fewestOn_43 : decode cX8_fewestOn 43 = .ok (.getfield 46, 3) := by decide +kernel
theorem dX8_fewestOn_46 : decode cX8_fewestOn 46 = .ok (.bipush 10, 2) := by decide +kernel
theorem dX8_fewestOn_48 : decode cX8_fewestOn 48 = .ok (.iload_n 2, 1) := by decide +kernel
theorem dX8_fewestOn_49 : decode cX8_fewestOn 49 = .ok (.imul, 1) := by decide +kernel
theorem dX8_fewestOn_50 : decode cX8_fewestOn 50 = .ok (.iload_n 3, 1) := by decide +kernel
theorem dX8_fewestOn_51 : decode cX8_fewestOn 51 = .ok (.invokestatic 194, 3) := by decide +kernel
theorem dX8_fewestOn_54 : decode cX8_fewestOn 54 = .ok (.iadd, 1) := by decide +kernel
theorem dX8_fewestOn_55 : decode cX8_fewestOn 55 = .ok (.iaload, 1) := by decide +kernel
theorem dX8_fewestOn_56 : decode cX8_fewestOn 56 = .ok (.iadd, 1) := by decide +kernel
theorem dX8_fewestOn_57 : decode cX8_fewestOn 57 = .ok (.goto 5, 3) := by decide +kernel
theorem dX8_fewestOn_60 : decode cX8_fewestOn 60 = .ok (.bipush 99, 2) := by decide +kernel
theorem dX8_fewestOn_62 : decode cX8_fewestOn 62 = .ok (.istore 6, 2) := by decide +kernel
theorem dX8_fewestOn_64 : decode cX8_fewestOn 64 = .ok (.iload 5, 2) := by decide +kernel
theorem dX8_fewestOn_66 : decode cX8_fewestOn 66 = .ok (.iload 6, 2) := by decide +kernel
theorem dX8_fewestOn_68 : decode cX8_fewestOn 68 = .ok (.if_icmp .ge 8, 3) := by decide +kernel
theorem dX8_fewestOn_71 : decode cX8_fewestOn 71 = .ok (.iload 5, 2) := by decide +kernel
theorem dX8_fewestOn_73 : decode cX8_fewestOn 73 = .ok (.goto 5, 3) := by decide +kernel
theorem dX8_fewestOn_76 : decode cX8_fewestOn 76 = .ok (.iload 6, 2) := by decide +kernel
theorem dX8_fewestOn_78 : decode cX8_fewestOn 78 = .ok (.ireturn, 1) := by decide +kernel
set_option maxRecDepth 20000 in
theorem ggX8_tearsOf_X8_fewestOn : GoodIn wsX8_tearsOf wsX8_fewestOn := goodIn_r _ [8, 1, 9, 10, 11, 7, 12, 13, 14, 15, 16, 17, 18, 19, 20, 21, 22, 23, 24, 25, 26, 27, 28, 29, 30, 31, 32, 33, 34, 35, 36, 37, 38, 39, 40, 41, 42, 43, 44, 45, 46, 47, 48, 49, 50, 51, 52, 53, 54, 55, 56, 57, 58, 59, 60] (by decide +kernel) (by decide +kernel)
set_option maxRecDepth 20000 in
theorem gX8_tearsOf_X8_fewestOn : GoodIn wsX8_tearsOf (wsV RX8 229 RX8 yX8_fewestOn wsX8_fewestOn) := goodIn_app (goodIn_of _ (by decide +kernel)) ggX8_tearsOf_X8_fewestOn
theorem dX8_tearsOf_0 : decode cX8_tearsOf 0 = .ok (.iconst 0, 1) := by decide +kernel
theorem dX8_tearsOf_1 : decode cX8_tearsOf 1 = .ok (.istore_n 2, 1) := by decide +kernel
theorem dX8_tearsOf_2 : decode cX8_tearsOf 2 = .ok (.iload_n 2, 1) := by decide +kernel
theorem dX8_tearsOf_3 : decode cX8_tearsOf 3 = .ok (.bipush 10, 2) := by decide +kernel
theorem dX8_tearsOf_5 : decode cX8_tearsOf 5 = .ok (.if_icmp .ge 24, 3) := by decide +kernel
theorem dX8_tearsOf_8 : decode cX8_tearsOf 8 = .ok (.aload_n 0, 1) := by decide +kernel
theorem dX8_tearsOf_9 : decode cX8_tearsOf 9 = .ok (.getfield 46, 3) := by decide +kernel
theorem dX8_tearsOf_12 : decode cX8_tearsOf 12 = .ok (.bipush 10, 2) := by decide +kernel
theorem dX8_tearsOf_14 : decode cX8_tearsOf 14 = .ok (.aload_n 0, 1) := by decide +kernel
theorem dX8_tearsOf_15 : decode cX8_tearsOf 15 = .ok (.getfield 92, 3) := by decide +kernel
theorem dX8_tearsOf_18 : decode cX8_tearsOf 18 = .ok (.imul, 1) := by decide +kernel
theorem dX8_tearsOf_19 : decode cX8_tearsOf 19 = .ok (.iload_n 2, 1) := by decide +kernel
theorem dX8_tearsOf_20 : decode cX8_tearsOf 20 = .ok (.iadd, 1) := by decide +kernel
theorem dX8_tearsOf_21 : decode cX8_tearsOf 21 = .ok (.iconst 0, 1) := by decide +kernel
theorem dX8_tearsOf_22 : decode cX8_tearsOf 22 = .ok (.iastore, 1) := by decide +kernel
theorem dX8_tearsOf_23 : decode cX8_tearsOf 23 = .ok (.iinc 2 1, 3) := by decide +kernel
theorem dX8_tearsOf_26 : decode cX8_tearsOf 26 = .ok (.goto (-24), 3) := by decide +kernel
theorem dX8_tearsOf_29 : decode cX8_tearsOf 29 = .ok (.bipush 10, 2) := by decide +kernel
theorem dX8_tearsOf_31 : decode cX8_tearsOf 31 = .ok (.aload_n 0, 1) := by decide +kernel
theorem dX8_tearsOf_32 : decode cX8_tearsOf 32 = .ok (.getfield 92, 3) := by decide +kernel
theorem dX8_tearsOf_35 : decode cX8_tearsOf 35 = .ok (.imul, 1) := by decide +kernel
theorem dX8_tearsOf_36 : decode cX8_tearsOf 36 = .ok (.iconst 1, 1) := by decide +kernel
theorem dX8_tearsOf_37 : decode cX8_tearsOf 37 = .ok (.isub, 1) := by decide +kernel
theorem dX8_tearsOf_38 : decode cX8_tearsOf 38 = .ok (.istore_n 2, 1) := by decide +kernel
theorem dX8_tearsOf_39 : decode cX8_tearsOf 39 = .ok (.iload_n 2, 1) := by decide +kernel
theorem dX8_tearsOf_40 : decode cX8_tearsOf 40 = .ok (.ifCond .lt 41, 3) := by decide +kernel
theorem dX8_tearsOf_43 : decode cX8_tearsOf 43 = .ok (.aload_n 0, 1) := by decide +kernel
theorem dX8_tearsOf_44 : decode cX8_tearsOf 44 = .ok (.iload_n 1, 1) := by decide +kernel
theorem dX8_tearsOf_45 : decode cX8_tearsOf 45 = .ok (.iload_n 2, 1) := by decide +kernel
theorem dX8_tearsOf_46 : decode cX8_tearsOf 46 = .ok (.bipush 10, 2) := by decide +kernel
theorem dX8_tearsOf_48 : decode cX8_tearsOf 48 = .ok (.idiv, 1) := by decide +kernel
theorem dX8_tearsOf_49 : decode cX8_tearsOf 49 = .ok (.iload_n 2, 1) := by decide +kernel
theorem dX8_tearsOf_50 : decode cX8_tearsOf 50 = .ok (.bipush 10, 2) := by decide +kernel
theorem dX8_tearsOf_52 : decode cX8_tearsOf 52 = .ok (.irem, 1) := by decide +kernel
theorem dX8_tearsOf_53 : decode cX8_tearsOf 53 = .ok (.invokevirtual 229, 3) := by decide +kernel
theorem dX8_tearsOf_56 : decode cX8_tearsOf 56 = .ok (.istore_n 3, 1) := by decide +kernel
theorem dX8_tearsOf_57 : decode cX8_tearsOf 57 = .ok (.aload_n 0, 1) := by decide +kernel
theorem dX8_tearsOf_58 : decode cX8_tearsOf 58 = .ok (.getfield 46, 3) := by decide +kernel
theorem dX8_tearsOf_61 : decode cX8_tearsOf 61 = .ok (.iload_n 2, 1) := by decide +kernel
theorem dX8_tearsOf_62 : decode cX8_tearsOf 62 = .ok (.iload_n 3, 1) := by decide +kernel
theorem dX8_tearsOf_63 : decode cX8_tearsOf 63 = .ok (.bipush 99, 2) := by decide +kernel
theorem dX8_tearsOf_65 : decode cX8_tearsOf 65 = .ok (.if_icmp .le 8, 3) := by decide +kernel
theorem dX8_tearsOf_68 : decode cX8_tearsOf 68 = .ok (.bipush 99, 2) := by decide +kernel
theorem dX8_tearsOf_70 : decode cX8_tearsOf 70 = .ok (.goto 4, 3) := by decide +kernel
theorem dX8_tearsOf_73 : decode cX8_tearsOf 73 = .ok (.iload_n 3, 1) := by decide +kernel
theorem dX8_tearsOf_74 : decode cX8_tearsOf 74 = .ok (.iastore, 1) := by decide +kernel
theorem dX8_tearsOf_75 : decode cX8_tearsOf 75 = .ok (.iinc 2 (-1), 3) := by decide +kernel
theorem dX8_tearsOf_78 : decode cX8_tearsOf 78 = .ok (.goto (-39), 3) := by decide +kernel
theorem dX8_tearsOf_81 : decode cX8_tearsOf 81 = .ok (.aload_n 0, 1) := by decide +kernel
theorem dX8_tearsOf_82 : decode cX8_tearsOf 82 = .ok (.getfield 46, 3) := by decide +kernel
theorem dX8_tearsOf_85 : decode cX8_tearsOf 85 = .ok (.aload_n 0, 1) := by decide +kernel
theorem dX8_tearsOf_86 : decode cX8_tearsOf 86 = .ok (.getfield 22, 3) := by decide +kernel
theorem dX8_tearsOf_89 : decode cX8_tearsOf 89 = .ok (.iload_n 1, 1) := by decide +kernel
theorem dX8_tearsOf_90 : decode cX8_tearsOf 90 = .ok (.iaload, 1) := by decide +kernel
theorem dX8_tearsOf_91 : decode cX8_tearsOf 91 = .ok (.iaload, 1) := by decide +kernel
theorem dX8_tearsOf_92 : decode cX8_tearsOf 92 = .ok (.istore_n 2, 1) := by decide +kernel
theorem dX8_tearsOf_93 : decode cX8_tearsOf 93 = .ok (.iload_n 2, 1) := by decide +kernel
theorem dX8_tearsOf_94 : decode cX8_tearsOf 94 = .ok (.bipush 99, 2) := by decide +kernel
theorem dX8_tearsOf_96 : decode cX8_tearsOf 96 = .ok (.if_icmp .ge 7, 3) := by decide +kernel
theorem dX8_tearsOf_99 : decode cX8_tearsOf 99 = .ok (.iload_n 2, 1) := by decide +kernel
theorem dX8_tearsOf_100 : decode cX8_tearsOf 100 = .ok (.goto 5, 3) := by decide +kernel
theorem dX8_tearsOf_103 : decode cX8_tearsOf 103 = .ok (.bipush (-9), 2) := by decide +kernel
theorem dX8_tearsOf_105 : decode cX8_tearsOf 105 = .ok (.ireturn, 1) := by decide +kernel
set_option maxRecDepth 20000 in
theorem ggX8_tears_X8_noLinen : GoodIn wsX8_tears wsX8_noLinen := goodIn_r _ [5, 6, 7, 8, 4, 9, 38, 39, 40, 41, 42, 43, 44, 45, 46, 47, 48, 49, 50, 51, 52, 53, 54, 55, 56, 57, 58, 59, 60, 61, 62, 63, 64, 65, 66, 67, 68, 69, 70, 71, 72] (by decide +kernel) (by decide +kernel)
set_option maxRecDepth 20000 in
theorem gX8_tears_X8_noLinen : GoodIn wsX8_tears (wsV RX8 152 RX8 yX8_noLinen wsX8_noLinen) := goodIn_app (goodIn_of _ (by decide +kernel)) ggX8_tears_X8_noLinen
set_option maxRecDepth 20000 in
theorem ggX8_tears_X8_tearsOf : GoodIn wsX8_tears wsX8_tearsOf := goodIn_r _ [13, 14, 15, 16, 17, 18, 19, 4, 20, 21, 22, 23, 24, 25, 26, 27, 28, 29, 30, 31, 32, 33, 34, 35, 36, 37, 38, 39, 40, 41, 42, 43, 44, 45, 46, 47, 48, 49, 50, 51, 52, 53, 54, 55, 56, 57, 58, 59, 60, 61, 62, 63, 64, 65, 66, 67, 68, 69, 70, 71, 72] (by decide +kernel) (by decide +kernel)
set_option maxRecDepth 20000 in
theorem gX8_tears_X8_tearsOf : GoodIn wsX8_tears (wsV RX8 232 RX8 yX8_tearsOf wsX8_tearsOf) := goodIn_app (goodIn_of _ (by decide +kernel)) ggX8_tears_X8_tearsOf
theorem dX8_tears_0 : decode cX8_tears 0 = .ok (.aload_n 0, 1) := by decide +kernel
theorem dX8_tears_1 : decode cX8_tears 1 = .ok (.iload_n 1, 1) := by decide +kernel
theorem dX8_tears_2 : decode cX8_tears 2 = .ok (.invokevirtual 152, 3) := by decide +kernel
theorem dX8_tears_5 : decode cX8_tears 5 = .ok (.ifCond .eq 7, 3) := by decide +kernel
theorem dX8_tears_8 : decode cX8_tears 8 = .ok (.iconst (-1), 1) := by decide +kernel
theorem dX8_tears_9 : decode cX8_tears 9 = .ok (.goto 8, 3) := by decide +kernel
theorem dX8_tears_12 : decode cX8_tears 12 = .ok (.aload_n 0, 1) := by decide +kernel
theorem dX8_tears_13 : decode cX8_tears 13 = .ok (.iload_n 1, 1) := by decide +kernel
theorem dX8_tears_14 : decode cX8_tears 14 = .ok (.invokevirtual 232, 3) := by decide +kernel
theorem dX8_tears_17 : decode cX8_tears 17 = .ok (.ireturn, 1) := by decide +kernel
set_option maxRecDepth 20000 in
theorem ggX8_canKeep_X8_isIn : GoodIn wsX8_canKeep wsX8_isIn := goodIn_r _ [9] (by decide +kernel) (by decide +kernel)
set_option maxRecDepth 20000 in
theorem gX8_canKeep_X8_isIn : GoodIn wsX8_canKeep (va_wsS RX8 166 yX8_isIn wsX8_isIn) := goodIn_app (goodIn_of _ (by decide +kernel)) ggX8_canKeep_X8_isIn
theorem dX8_canKeep_0 : decode cX8_canKeep 0 = .ok (.iconst 0, 1) := by decide +kernel
theorem dX8_canKeep_1 : decode cX8_canKeep 1 = .ok (.istore_n 2, 1) := by decide +kernel
theorem dX8_canKeep_2 : decode cX8_canKeep 2 = .ok (.iload_n 2, 1) := by decide +kernel
theorem dX8_canKeep_3 : decode cX8_canKeep 3 = .ok (.iconst 4, 1) := by decide +kernel
theorem dX8_canKeep_4 : decode cX8_canKeep 4 = .ok (.if_icmp .ge 16, 3) := by decide +kernel
theorem dX8_canKeep_7 : decode cX8_canKeep 7 = .ok (.aload_n 0, 1) := by decide +kernel
theorem dX8_canKeep_8 : decode cX8_canKeep 8 = .ok (.getfield 52, 3) := by decide +kernel
theorem dX8_canKeep_11 : decode cX8_canKeep 11 = .ok (.iload_n 2, 1) := by decide +kernel
theorem dX8_canKeep_12 : decode cX8_canKeep 12 = .ok (.iconst 0, 1) := by decide +kernel
theorem dX8_canKeep_13 : decode cX8_canKeep 13 = .ok (.iastore, 1) := by decide +kernel
theorem dX8_canKeep_14 : decode cX8_canKeep 14 = .ok (.iinc 2 1, 3) := by decide +kernel
theorem dX8_canKeep_17 : decode cX8_canKeep 17 = .ok (.goto (-15), 3) := by decide +kernel
theorem dX8_canKeep_20 : decode cX8_canKeep 20 = .ok (.iconst 1, 1) := by decide +kernel
theorem dX8_canKeep_21 : decode cX8_canKeep 21 = .ok (.istore_n 2, 1) := by decide +kernel
theorem dX8_canKeep_22 : decode cX8_canKeep 22 = .ok (.iconst 0, 1) := by decide +kernel
theorem dX8_canKeep_23 : decode cX8_canKeep 23 = .ok (.istore_n 3, 1) := by decide +kernel
theorem dX8_canKeep_24 : decode cX8_canKeep 24 = .ok (.iload_n 3, 1) := by decide +kernel
theorem dX8_canKeep_25 : decode cX8_canKeep 25 = .ok (.aload_n 0, 1) := by decide +kernel
theorem dX8_canKeep_26 : decode cX8_canKeep 26 = .ok (.getfield 95, 3) := by decide +kernel
theorem dX8_canKeep_29 : decode cX8_canKeep 29 = .ok (.if_icmp .ge 56, 3) := by decide +kernel
theorem dX8_canKeep_32 : decode cX8_canKeep 32 = .ok (.iload_n 1, 1) := by decide +kernel
theorem dX8_canKeep_33 : decode cX8_canKeep 33 = .ok (.iload_n 3, 1) := by decide +kernel
theorem dX8_canKeep_34 : decode cX8_canKeep 34 = .ok (.invokestatic 166, 3) := by decide +kernel
theorem dX8_canKeep_37 : decode cX8_canKeep 37 = .ok (.ifCond .eq 42, 3) := by decide +kernel
theorem dX8_canKeep_40 : decode cX8_canKeep 40 = .ok (.iload_n 2, 1) := by decide +kernel
theorem dX8_canKeep_41 : decode cX8_canKeep 41 = .ok (.ifCond .eq 16, 3) := by decide +kernel
theorem dX8_canKeep_44 : decode cX8_canKeep 44 = .ok (.aload_n 0, 1) := by decide +kernel
theorem dX8_canKeep_45 : decode cX8_canKeep 45 = .ok (.getfield 49, 3) := by decide +kernel
theorem dX8_canKeep_48 : decode cX8_canKeep 48 = .ok (.iload_n 3, 1) := by decide +kernel
theorem dX8_canKeep_49 : decode cX8_canKeep 49 = .ok (.iaload, 1) := by decide +kernel
theorem dX8_canKeep_50 : decode cX8_canKeep 50 = .ok (.ifCond .lt 7, 3) := by decide +kernel
theorem dX8_canKeep_53 : decode cX8_canKeep 53 = .ok (.iconst 1, 1) := by decide +kernel
theorem dX8_canKeep_54 : decode cX8_canKeep 54 = .ok (.goto 4, 3) := by decide +kernel
theorem dX8_canKeep_57 : decode cX8_canKeep 57 = .ok (.iconst 0, 1) := by decide +kernel
theorem dX8_canKeep_58 : decode cX8_canKeep 58 = .ok (.istore_n 2, 1) := by decide +kernel
theorem dX8_canKeep_59 : decode cX8_canKeep 59 = .ok (.aload_n 0, 1) := by decide +kernel
theorem dX8_canKeep_60 : decode cX8_canKeep 60 = .ok (.getfield 52, 3) := by decide +kernel
theorem dX8_canKeep_63 : decode cX8_canKeep 63 = .ok (.aload_n 0, 1) := by decide +kernel
theorem dX8_canKeep_64 : decode cX8_canKeep 64 = .ok (.getfield 19, 3) := by decide +kernel
theorem dX8_canKeep_67 : decode cX8_canKeep 67 = .ok (.iload_n 3, 1) := by decide +kernel
theorem dX8_canKeep_68 : decode cX8_canKeep 68 = .ok (.iaload, 1) := by decide +kernel
theorem dX8_canKeep_69 : decode cX8_canKeep 69 = .ok (.dup2, 1) := by decide +kernel
theorem dX8_canKeep_70 : decode cX8_canKeep 70 = .ok (.iaload, 1) := by decide +kernel
theorem dX8_canKeep_71 : decode cX8_canKeep 71 = .ok (.aload_n 0, 1) := by decide +kernel
theorem dX8_canKeep_72 : decode cX8_canKeep 72 = .ok (.getfield 49, 3) := by decide +kernel
theorem dX8_canKeep_75 : decode cX8_canKeep 75 = .ok (.iload_n 3, 1) := by decide +kernel
theorem dX8_canKeep_76 : decode cX8_canKeep 76 = .ok (.iaload, 1) := by decide +kernel
theorem dX8_canKeep_77 : decode cX8_canKeep 77 = .ok (.iadd, 1) := by decide +kernel
theorem dX8_canKeep_78 : decode cX8_canKeep 78 = .ok (.iastore, 1) := by decide +kernel
theorem dX8_canKeep_79 : decode cX8_canKeep 79 = .ok (.iinc 3 1, 3) := by decide +kernel
theorem dX8_canKeep_82 : decode cX8_canKeep 82 = .ok (.goto (-58), 3) := by decide +kernel
theorem dX8_canKeep_85 : decode cX8_canKeep 85 = .ok (.iconst 0, 1) := by decide +kernel
theorem dX8_canKeep_86 : decode cX8_canKeep 86 = .ok (.istore_n 3, 1) := by decide +kernel
theorem dX8_canKeep_87 : decode cX8_canKeep 87 = .ok (.iload_n 3, 1) := by decide +kernel
theorem dX8_canKeep_88 : decode cX8_canKeep 88 = .ok (.iconst 4, 1) := by decide +kernel
theorem dX8_canKeep_89 : decode cX8_canKeep 89 = .ok (.if_icmp .ge 34, 3) := by decide +kernel
theorem dX8_canKeep_92 : decode cX8_canKeep 92 = .ok (.iload_n 2, 1) := by decide +kernel
theorem dX8_canKeep_93 : decode cX8_canKeep 93 = .ok (.ifCond .eq 22, 3) := by decide +kernel
theorem dX8_canKeep_96 : decode cX8_canKeep 96 = .ok (.aload_n 0, 1) := by decide +kernel
theorem dX8_canKeep_97 : decode cX8_canKeep 97 = .ok (.getfield 52, 3) := by decide +kernel
theorem dX8_canKeep_100 : decode cX8_canKeep 100 = .ok (.iload_n 3, 1) := by decide +kernel
theorem dX8_canKeep_101 : decode cX8_canKeep 101 = .ok (.iaload, 1) := by decide +kernel
theorem dX8_canKeep_102 : decode cX8_canKeep 102 = .ok (.aload_n 0, 1) := by decide +kernel
theorem dX8_canKeep_103 : decode cX8_canKeep 103 = .ok (.getfield 7, 3) := by decide +kernel
theorem dX8_canKeep_106 : decode cX8_canKeep 106 = .ok (.iload_n 3, 1) := by decide +kernel
theorem dX8_canKeep_107 : decode cX8_canKeep 107 = .ok (.iaload, 1) := by decide +kernel
theorem dX8_canKeep_108 : decode cX8_canKeep 108 = .ok (.if_icmp .gt 7, 3) := by decide +kernel
theorem dX8_canKeep_111 : decode cX8_canKeep 111 = .ok (.iconst 1, 1) := by decide +kernel
theorem dX8_canKeep_112 : decode cX8_canKeep 112 = .ok (.goto 4, 3) := by decide +kernel
theorem dX8_canKeep_115 : decode cX8_canKeep 115 = .ok (.iconst 0, 1) := by decide +kernel
theorem dX8_canKeep_116 : decode cX8_canKeep 116 = .ok (.istore_n 2, 1) := by decide +kernel
theorem dX8_canKeep_117 : decode cX8_canKeep 117 = .ok (.iinc 3 1, 3) := by decide +kernel
theorem dX8_canKeep_120 : decode cX8_canKeep 120 = .ok (.goto (-33), 3) := by decide +kernel
theorem dX8_canKeep_123 : decode cX8_canKeep 123 = .ok (.iload_n 2, 1) := by decide +kernel
theorem dX8_canKeep_124 : decode cX8_canKeep 124 = .ok (.ireturn, 1) := by decide +kernel
set_option maxRecDepth 20000 in
theorem ggX8_keptNow_X8_tearsOf : GoodIn wsX8_keptNow wsX8_tearsOf := goodIn_r _ [7, 8, 9, 10, 11, 12, 13, 6, 14, 15, 16, 17, 18, 19, 20, 21, 22, 23, 24, 25, 26, 27, 28, 29, 30, 31, 42, 43, 44, 45, 46, 47, 48, 49, 50, 51, 52, 53, 54, 55, 56, 57, 58, 59, 60, 61, 62, 63, 64, 65, 66, 67, 68, 69, 70, 71, 72, 73, 74, 75, 76] (by decide +kernel) (by decide +kernel)
set_option maxRecDepth 20000 in
theorem gX8_keptNow_X8_tearsOf : GoodIn wsX8_keptNow (wsV RX8 232 RX8 yX8_tearsOf wsX8_tearsOf) := goodIn_app (goodIn_of _ (by decide +kernel)) ggX8_keptNow_X8_tearsOf
set_option maxRecDepth 20000 in
theorem ggX8_keptNow_X8_bits : GoodIn wsX8_keptNow wsX8_bits := goodIn_r _ [34] (by decide +kernel) (by decide +kernel)
set_option maxRecDepth 20000 in
theorem gX8_keptNow_X8_bits : GoodIn wsX8_keptNow (va_wsS RX8 235 yX8_bits wsX8_bits) := goodIn_app (goodIn_of _ (by decide +kernel)) ggX8_keptNow_X8_bits
set_option maxRecDepth 20000 in
theorem ggX8_keptNow_X8_canKeep : GoodIn wsX8_keptNow wsX8_canKeep := goodIn_r _ [38, 39, 1, 2, 40, 41, 26, 27, 6, 28, 42, 43, 44, 45, 46, 47, 48, 49, 50, 51, 52, 53, 54, 55, 56, 57, 58, 59, 60, 61, 62, 63, 64, 65, 66, 67, 68, 69, 70, 71, 72, 73, 74, 75, 76] (by decide +kernel) (by decide +kernel)
set_option maxRecDepth 20000 in
theorem gX8_keptNow_X8_canKeep : GoodIn wsX8_keptNow (wsV RX8 238 RX8 yX8_canKeep wsX8_canKeep) := goodIn_app (goodIn_of _ (by decide +kernel)) ggX8_keptNow_X8_canKeep
theorem dX8_keptNow_0 : decode cX8_keptNow 0 = .ok (.iconst 0, 1) := by decide +kernel
theorem dX8_keptNow_1 : decode cX8_keptNow 1 = .ok (.istore_n 1, 1) := by decide +kernel
theorem dX8_keptNow_2 : decode cX8_keptNow 2 = .ok (.iload_n 1, 1) := by decide +kernel
theorem dX8_keptNow_3 : decode cX8_keptNow 3 = .ok (.aload_n 0, 1) := by decide +kernel
theorem dX8_keptNow_4 : decode cX8_keptNow 4 = .ok (.getfield 95, 3) := by decide +kernel
theorem dX8_keptNow_7 : decode cX8_keptNow 7 = .ok (.if_icmp .ge 20, 3) := by decide +kernel
theorem dX8_keptNow_10 : decode cX8_keptNow 10 = .ok (.aload_n 0, 1) := by decide +kernel
theorem dX8_keptNow_11 : decode cX8_keptNow 11 = .ok (.getfield 49, 3) := by decide +kernel
theorem dX8_keptNow_14 : decode cX8_keptNow 14 = .ok (.iload_n 1, 1) := by decide +kernel
theorem dX8_keptNow_15 : decode cX8_keptNow 15 = .ok (.aload_n 0, 1) := by decide +kernel
theorem dX8_keptNow_16 : decode cX8_keptNow 16 = .ok (.iload_n 1, 1) := by decide +kernel
theorem dX8_keptNow_17 : decode cX8_keptNow 17 = .ok (.invokevirtual 232, 3) := by decide +kernel
theorem dX8_keptNow_20 : decode cX8_keptNow 20 = .ok (.iastore, 1) := by decide +kernel
theorem dX8_keptNow_21 : decode cX8_keptNow 21 = .ok (.iinc 1 1, 3) := by decide +kernel
theorem dX8_keptNow_24 : decode cX8_keptNow 24 = .ok (.goto (-22), 3) := by decide +kernel
theorem dX8_keptNow_27 : decode cX8_keptNow 27 = .ok (.iconst 0, 1) := by decide +kernel
theorem dX8_keptNow_28 : decode cX8_keptNow 28 = .ok (.istore_n 1, 1) := by decide +kernel
theorem dX8_keptNow_29 : decode cX8_keptNow 29 = .ok (.iconst 1, 1) := by decide +kernel
theorem dX8_keptNow_30 : decode cX8_keptNow 30 = .ok (.istore_n 2, 1) := by decide +kernel
theorem dX8_keptNow_31 : decode cX8_keptNow 31 = .ok (.iload_n 2, 1) := by decide +kernel
theorem dX8_keptNow_32 : decode cX8_keptNow 32 = .ok (.iconst 1, 1) := by decide +kernel
theorem dX8_keptNow_33 : decode cX8_keptNow 33 = .ok (.aload_n 0, 1) := by decide +kernel
theorem dX8_keptNow_34 : decode cX8_keptNow 34 = .ok (.getfield 95, 3) := by decide +kernel
theorem dX8_keptNow_37 : decode cX8_keptNow 37 = .ok (.ishl, 1) := by decide +kernel
theorem dX8_keptNow_38 : decode cX8_keptNow 38 = .ok (.if_icmp .ge 34, 3) := by decide +kernel
theorem dX8_keptNow_41 : decode cX8_keptNow 41 = .ok (.iload_n 2, 1) := by decide +kernel
theorem dX8_keptNow_42 : decode cX8_keptNow 42 = .ok (.invokestatic 235, 3) := by decide +kernel
theorem dX8_keptNow_45 : decode cX8_keptNow 45 = .ok (.iload_n 1, 1) := by decide +kernel
theorem dX8_keptNow_46 : decode cX8_keptNow 46 = .ok (.invokestatic 235, 3) := by decide +kernel
theorem dX8_keptNow_49 : decode cX8_keptNow 49 = .ok (.if_icmp .le 15, 3) := by decide +kernel
theorem dX8_keptNow_52 : decode cX8_keptNow 52 = .ok (.aload_n 0, 1) := by decide +kernel
theorem dX8_keptNow_53 : decode cX8_keptNow 53 = .ok (.iload_n 2, 1) := by decide +kernel
theorem dX8_keptNow_54 : decode cX8_keptNow 54 = .ok (.invokevirtual 238, 3) := by decide +kernel
theorem dX8_keptNow_57 : decode cX8_keptNow 57 = .ok (.ifCond .eq 7, 3) := by decide +kernel
theorem dX8_keptNow_60 : decode cX8_keptNow 60 = .ok (.iload_n 2, 1) := by decide +kernel
theorem dX8_keptNow_61 : decode cX8_keptNow 61 = .ok (.goto 4, 3) := by decide +kernel
theorem dX8_keptNow_64 : decode cX8_keptNow 64 = .ok (.iload_n 1, 1) := by decide +kernel
theorem dX8_keptNow_65 : decode cX8_keptNow 65 = .ok (.istore_n 1, 1) := by decide +kernel
theorem dX8_keptNow_66 : decode cX8_keptNow 66 = .ok (.iinc 2 1, 3) := by decide +kernel
theorem dX8_keptNow_69 : decode cX8_keptNow 69 = .ok (.goto (-38), 3) := by decide +kernel
theorem dX8_keptNow_72 : decode cX8_keptNow 72 = .ok (.iload_n 1, 1) := by decide +kernel
theorem dX8_keptNow_73 : decode cX8_keptNow 73 = .ok (.ireturn, 1) := by decide +kernel
set_option maxRecDepth 20000 in
theorem ggX8_keep_X8_keptNow : GoodIn wsX8_keep wsX8_keptNow := goodIn_r _ [6, 1, 7, 8, 9, 10, 5, 11, 12, 13, 14, 15, 16, 17, 18, 19, 20, 21, 22, 23, 24, 25, 26, 27, 28, 29, 30, 31, 32, 33, 34, 35, 36, 37, 38, 39, 40, 41, 42, 43, 44, 45, 46, 47, 48, 49, 50, 51, 52, 53, 54, 55, 56, 57, 58, 59, 60, 61, 62, 63, 64, 65, 66, 67, 68, 69, 70, 71, 72, 73, 74, 75, 76, 77, 78, 79, 80] (by decide +kernel) (by decide +kernel)
set_option maxRecDepth 20000 in
theorem gX8_keep_X8_keptNow : GoodIn wsX8_keep (wsV RX8 241 RX8 yX8_keptNow wsX8_keptNow) := goodIn_app (goodIn_of _ (by decide +kernel)) ggX8_keep_X8_keptNow
theorem dX8_keep_0 : decode cX8_keep 0 = .ok (.aload_n 0, 1) := by decide +kernel
theorem dX8_keep_1 : decode cX8_keep 1 = .ok (.getfield 95, 3) := by decide +kernel
theorem dX8_keep_4 : decode cX8_keep 4 = .ok (.ifCond .ne 8, 3) := by decide +kernel
theorem dX8_keep_7 : decode cX8_keep 7 = .ok (.bipush (-3), 2) := by decide +kernel
theorem dX8_keep_9 : decode cX8_keep 9 = .ok (.goto 7, 3) := by decide +kernel
theorem dX8_keep_12 : decode cX8_keep 12 = .ok (.aload_n 0, 1) := by decide +kernel
theorem dX8_keep_13 : decode cX8_keep 13 = .ok (.invokevirtual 241, 3) := by decide +kernel
theorem dX8_keep_16 : decode cX8_keep 16 = .ok (.ireturn, 1) := by decide +kernel
set_option maxRecDepth 20000 in
theorem ggX8_appoint_X8_noLinen : GoodIn wsX8_appoint wsX8_noLinen := goodIn_r _ [6, 7, 8, 9, 5, 10, 53, 54, 55, 56, 57, 58, 59, 60, 61, 62, 63, 64, 65, 66, 67, 68, 69, 70, 71, 72, 73, 74, 75, 76, 77, 78, 79, 80, 81, 82, 83, 84, 85, 86, 87] (by decide +kernel) (by decide +kernel)
set_option maxRecDepth 20000 in
theorem gX8_appoint_X8_noLinen : GoodIn wsX8_appoint (wsV RX8 152 RX8 yX8_noLinen wsX8_noLinen) := goodIn_app (goodIn_of _ (by decide +kernel)) ggX8_appoint_X8_noLinen
set_option maxRecDepth 20000 in
theorem ggX8_appoint_X8_keptNow : GoodIn wsX8_appoint wsX8_keptNow := goodIn_r _ [14, 7, 15, 16, 17, 18, 5, 19, 20, 21, 22, 23, 24, 25, 26, 27, 28, 29, 30, 31, 32, 33, 34, 35, 36, 37, 38, 39, 40, 41, 42, 43, 44, 45, 46, 47, 48, 49, 50, 51, 1, 52, 53, 54, 55, 56, 57, 58, 59, 60, 61, 62, 63, 64, 65, 66, 67, 68, 69, 70, 71, 72, 73, 74, 75, 76, 77, 78, 79, 80, 81, 82, 83, 84, 85, 86, 87] (by decide +kernel) (by decide +kernel)
set_option maxRecDepth 20000 in
theorem gX8_appoint_X8_keptNow : GoodIn wsX8_appoint (wsV RX8 241 RX8 yX8_keptNow wsX8_keptNow) := goodIn_app (goodIn_of _ (by decide +kernel)) ggX8_appoint_X8_keptNow
set_option maxRecDepth 20000 in
theorem ggX8_appoint_X8_bits : GoodIn wsX8_appoint wsX8_bits := goodIn_r _ [46] (by decide +kernel) (by decide +kernel)
set_option maxRecDepth 20000 in
theorem gX8_appoint_X8_bits : GoodIn wsX8_appoint (va_wsS RX8 235 yX8_bits wsX8_bits) := goodIn_app (goodIn_of _ (by decide +kernel)) ggX8_appoint_X8_bits
theorem dX8_appoint_0 : decode cX8_appoint 0 = .ok (.aload_n 0, 1) := by decide +kernel
theorem dX8_appoint_1 : decode cX8_appoint 1 = .ok (.iload_n 1, 1) := by decide +kernel
theorem dX8_appoint_2 : decode cX8_appoint 2 = .ok (.invokevirtual 152, 3) := by decide +kernel
theorem dX8_appoint_5 : decode cX8_appoint 5 = .ok (.ifCond .eq 5, 3) := by decide +kernel
theorem dX8_appoint_8 : decode cX8_appoint 8 = .ok (.iconst (-1), 1) := by decide +kernel
theorem dX8_appoint_9 : decode cX8_appoint 9 = .ok (.ireturn, 1) := by decide +kernel
theorem dX8_appoint_10 : decode cX8_appoint 10 = .ok (.aload_n 0, 1) := by decide +kernel
theorem dX8_appoint_11 : decode cX8_appoint 11 = .ok (.getfield 19, 3) := by decide +kernel
theorem dX8_appoint_14 : decode cX8_appoint 14 = .ok (.iload_n 1, 1) := by decide +kernel
theorem dX8_appoint_15 : decode cX8_appoint 15 = .ok (.iaload, 1) := by decide +kernel
theorem dX8_appoint_16 : decode cX8_appoint 16 = .ok (.istore_n 2, 1) := by decide +kernel
theorem dX8_appoint_17 : decode cX8_appoint 17 = .ok (.iconst 0, 1) := by decide +kernel
theorem dX8_appoint_18 : decode cX8_appoint 18 = .ok (.istore_n 3, 1) := by decide +kernel
theorem dX8_appoint_19 : decode cX8_appoint 19 = .ok (.iconst (-1), 1) := by decide +kernel
theorem dX8_appoint_20 : decode cX8_appoint 20 = .ok (.istore 4, 2) := by decide +kernel
theorem dX8_appoint_22 : decode cX8_appoint 22 = .ok (.iconst 0, 1) := by decide +kernel
theorem dX8_appoint_23 : decode cX8_appoint 23 = .ok (.istore 5, 2) := by decide +kernel
theorem dX8_appoint_25 : decode cX8_appoint 25 = .ok (.iload 5, 2) := by decide +kernel
theorem dX8_appoint_27 : decode cX8_appoint 27 = .ok (.iconst 4, 1) := by decide +kernel
theorem dX8_appoint_28 : decode cX8_appoint 28 = .ok (.if_icmp .ge 56, 3) := by decide +kernel
theorem dX8_appoint_31 : decode cX8_appoint 31 = .ok (.aload_n 0, 1) := by decide +kernel
theorem dX8_appoint_32 : decode cX8_appoint 32 = .ok (.getfield 19, 3) := by decide +kernel
theorem dX8_appoint_35 : decode cX8_appoint 35 = .ok (.iload_n 1, 1) := by decide +kernel
theorem dX8_appoint_36 : decode cX8_appoint 36 = .ok (.iload 5, 2) := by decide +kernel
theorem dX8_appoint_38 : decode cX8_appoint 38 = .ok (.iastore, 1) := by decide +kernel
theorem dX8_appoint_39 : decode cX8_appoint 39 = .ok (.aload_n 0, 1) := by decide +kernel
theorem dX8_appoint_40 : decode cX8_appoint 40 = .ok (.invokevirtual 241, 3) := by decide +kernel
theorem dX8_appoint_43 : decode cX8_appoint 43 = .ok (.invokestatic 235, 3) := by decide +kernel
theorem dX8_appoint_46 : decode cX8_appoint 46 = .ok (.istore 6, 2) := by decide +kernel
theorem dX8_appoint_48 : decode cX8_appoint 48 = .ok (.iload 6, 2) := by decide +kernel
theorem dX8_appoint_50 : decode cX8_appoint 50 = .ok (.iload 4, 2) := by decide +kernel
theorem dX8_appoint_52 : decode cX8_appoint 52 = .ok (.if_icmp .le 8, 3) := by decide +kernel
theorem dX8_appoint_55 : decode cX8_appoint 55 = .ok (.iload 5, 2) := by decide +kernel
theorem dX8_appoint_57 : decode cX8_appoint 57 = .ok (.goto 4, 3) := by decide +kernel
theorem dX8_appoint_60 : decode cX8_appoint 60 = .ok (.iload_n 3, 1) := by decide +kernel
theorem dX8_appoint_61 : decode cX8_appoint 61 = .ok (.istore_n 3, 1) := by decide +kernel
theorem dX8_appoint_62 : decode cX8_appoint 62 = .ok (.iload 6, 2) := by decide +kernel
theorem dX8_appoint_64 : decode cX8_appoint 64 = .ok (.iload 4, 2) := by decide +kernel
theorem dX8_appoint_66 : decode cX8_appoint 66 = .ok (.if_icmp .le 8, 3) := by decide +kernel
theorem dX8_appoint_69 : decode cX8_appoint 69 = .ok (.iload 6, 2) := by decide +kernel
theorem dX8_appoint_71 : decode cX8_appoint 71 = .ok (.goto 5, 3) := by decide +kernel
theorem dX8_appoint_74 : decode cX8_appoint 74 = .ok (.iload 4, 2) := by decide +kernel
theorem dX8_appoint_76 : decode cX8_appoint 76 = .ok (.istore 4, 2) := by decide +kernel
theorem dX8_appoint_78 : decode cX8_appoint 78 = .ok (.iinc 5 1, 3) := by decide +kernel
theorem dX8_appoint_81 : decode cX8_appoint 81 = .ok (.goto (-56), 3) := by decide +kernel
theorem dX8_appoint_84 : decode cX8_appoint 84 = .ok (.aload_n 0, 1) := by decide +kernel
theorem dX8_appoint_85 : decode cX8_appoint 85 = .ok (.getfield 19, 3) := by decide +kernel
theorem dX8_appoint_88 : decode cX8_appoint 88 = .ok (.iload_n 1, 1) := by decide +kernel
theorem dX8_appoint_89 : decode cX8_appoint 89 = .ok (.iload_n 2, 1) := by decide +kernel
theorem dX8_appoint_90 : decode cX8_appoint 90 = .ok (.iastore, 1) := by decide +kernel
theorem dX8_appoint_91 : decode cX8_appoint 91 = .ok (.iload_n 3, 1) := by decide +kernel
theorem dX8_appoint_92 : decode cX8_appoint 92 = .ok (.ireturn, 1) := by decide +kernel
set_option maxRecDepth 20000 in
theorem ggX8_span_X8_noLinen : GoodIn wsX8_span wsX8_noLinen := goodIn_r _ [7, 8, 9, 10, 6, 11, 34, 35, 36, 37, 38, 39, 40, 41, 42, 43, 44, 45, 46, 47, 48, 49, 50, 51, 52, 53, 54, 55, 56, 57, 58, 59, 60, 61, 62, 63, 64, 65, 66, 67, 68] (by decide +kernel) (by decide +kernel)
set_option maxRecDepth 20000 in
theorem gX8_span_X8_noLinen : GoodIn wsX8_span (wsV RX8 152 RX8 yX8_noLinen wsX8_noLinen) := goodIn_app (goodIn_of _ (by decide +kernel)) ggX8_span_X8_noLinen
set_option maxRecDepth 20000 in
theorem ggX8_span_X8_noDay : GoodIn wsX8_span wsX8_noDay := goodIn_r _ [15, 2, 9, 10, 6, 11, 34, 35, 36, 37, 38, 39, 40, 41, 42, 43, 44, 45, 46, 47, 48, 49, 50, 51, 52, 53, 54, 55, 56, 57, 58, 59, 60, 61, 62, 63, 64, 65, 66, 67, 68] (by decide +kernel) (by decide +kernel)
set_option maxRecDepth 20000 in
theorem gX8_span_X8_noDay : GoodIn wsX8_span (wsV RX8 155 RX8 yX8_noDay wsX8_noDay) := goodIn_app (goodIn_of _ (by decide +kernel)) ggX8_span_X8_noDay
set_option maxRecDepth 20000 in
theorem ggX8_span_X8_dampAt : GoodIn wsX8_span wsX8_dampAt := goodIn_r _ [19, 20, 21, 22, 23, 6, 24, 25, 26, 27, 28, 29, 1, 30, 31, 32, 33, 34, 35, 36, 37, 38, 39, 40, 41, 42, 43, 44, 45, 46, 47, 48, 49, 50, 51, 52, 53, 54, 55, 56, 57, 58, 59, 60, 61, 62, 63, 64, 65, 66, 67, 68] (by decide +kernel) (by decide +kernel)
set_option maxRecDepth 20000 in
theorem gX8_span_X8_dampAt : GoodIn wsX8_span (wsV RX8 175 RX8 yX8_dampAt wsX8_dampAt) := goodIn_app (goodIn_of _ (by decide +kernel)) ggX8_span_X8_dampAt
theorem dX8_span_0 : decode cX8_span 0 = .ok (.aload_n 0, 1) := by decide +kernel
theorem dX8_span_1 : decode cX8_span 1 = .ok (.iload_n 1, 1) := by decide +kernel
theorem dX8_span_2 : decode cX8_span 2 = .ok (.invokevirtual 152, 3) := by decide +kernel
theorem dX8_span_5 : decode cX8_span 5 = .ok (.ifCond .ne 11, 3) := by decide +kernel
theorem dX8_span_8 : decode cX8_span 8 = .ok (.aload_n 0, 1) := by decide +kernel
theorem dX8_span_9 : decode cX8_span 9 = .ok (.iload_n 2, 1) := by decide +kernel
theorem dX8_span_10 : decode cX8_span 10 = .ok (.invokevirtual 155, 3) := by decide +kernel
theorem dX8_span_13 : decode cX8_span 13 = .ok (.ifCond .eq 5, 3) := by decide +kernel
theorem dX8_span_16 : decode cX8_span 16 = .ok (.iconst (-1), 1) := by decide +kernel
theorem dX8_span_17 : decode cX8_span 17 = .ok (.ireturn, 1) := by decide +kernel
theorem dX8_span_18 : decode cX8_span 18 = .ok (.aload_n 0, 1) := by decide +kernel
theorem dX8_span_19 : decode cX8_span 19 = .ok (.getfield 13, 3) := by decide +kernel
theorem dX8_span_22 : decode cX8_span 22 = .ok (.iload_n 2, 1) := by decide +kernel
theorem dX8_span_23 : decode cX8_span 23 = .ok (.iaload, 1) := by decide +kernel
theorem dX8_span_24 : decode cX8_span 24 = .ok (.istore_n 3, 1) := by decide +kernel
theorem dX8_span_25 : decode cX8_span 25 = .ok (.bipush (-9), 2) := by decide +kernel
theorem dX8_span_27 : decode cX8_span 27 = .ok (.istore 4, 2) := by decide +kernel
theorem dX8_span_29 : decode cX8_span 29 = .ok (.iconst 0, 1) := by decide +kernel
theorem dX8_span_30 : decode cX8_span 30 = .ok (.istore 5, 2) := by decide +kernel
theorem dX8_span_32 : decode cX8_span 32 = .ok (.iload 5, 2) := by decide +kernel
theorem dX8_span_34 : decode cX8_span 34 = .ok (.bipush 10, 2) := by decide +kernel
theorem dX8_span_36 : decode cX8_span 36 = .ok (.if_icmp .ge 38, 3) := by decide +kernel
theorem dX8_span_39 : decode cX8_span 39 = .ok (.aload_n 0, 1) := by decide +kernel
theorem dX8_span_40 : decode cX8_span 40 = .ok (.getfield 13, 3) := by decide +kernel
theorem dX8_span_43 : decode cX8_span 43 = .ok (.iload_n 2, 1) := by decide +kernel
theorem dX8_span_44 : decode cX8_span 44 = .ok (.iload 5, 2) := by decide +kernel
theorem dX8_span_46 : decode cX8_span 46 = .ok (.iastore, 1) := by decide +kernel
theorem dX8_span_47 : decode cX8_span 47 = .ok (.aload_n 0, 1) := by decide +kernel
theorem dX8_span_48 : decode cX8_span 48 = .ok (.iload_n 1, 1) := by decide +kernel
theorem dX8_span_49 : decode cX8_span 49 = .ok (.aload_n 0, 1) := by decide +kernel
theorem dX8_span_50 : decode cX8_span 50 = .ok (.getfield 92, 3) := by decide +kernel
theorem dX8_span_53 : decode cX8_span 53 = .ok (.invokevirtual 175, 3) := by decide +kernel
theorem dX8_span_56 : decode cX8_span 56 = .ok (.ifCond .le 8, 3) := by decide +kernel
theorem dX8_span_59 : decode cX8_span 59 = .ok (.iload 5, 2) := by decide +kernel
theorem dX8_span_61 : decode cX8_span 61 = .ok (.goto 5, 3) := by decide +kernel
theorem dX8_span_64 : decode cX8_span 64 = .ok (.iload 4, 2) := by decide +kernel
theorem dX8_span_66 : decode cX8_span 66 = .ok (.istore 4, 2) := by decide +kernel
theorem dX8_span_68 : decode cX8_span 68 = .ok (.iinc 5 1, 3) := by decide +kernel
theorem dX8_span_71 : decode cX8_span 71 = .ok (.goto (-39), 3) := by decide +kernel
theorem dX8_span_74 : decode cX8_span 74 = .ok (.aload_n 0, 1) := by decide +kernel
theorem dX8_span_75 : decode cX8_span 75 = .ok (.getfield 13, 3) := by decide +kernel
theorem dX8_span_78 : decode cX8_span 78 = .ok (.iload_n 2, 1) := by decide +kernel
theorem dX8_span_79 : decode cX8_span 79 = .ok (.iload_n 3, 1) := by decide +kernel
theorem dX8_span_80 : decode cX8_span 80 = .ok (.iastore, 1) := by decide +kernel
theorem dX8_span_81 : decode cX8_span 81 = .ok (.iload 4, 2) := by decide +kernel
theorem dX8_span_83 : decode cX8_span 83 = .ok (.ireturn, 1) := by decide +kernel
set_option maxRecDepth 20000 in
theorem ggX8_reading_X8_noLinen : GoodIn wsX8_reading wsX8_noLinen := goodIn_r _ [11, 12, 13, 14, 10, 15, 16, 17, 18, 19, 20, 21, 22, 23, 24, 25, 26, 27, 28, 29, 30, 31, 32, 33, 34, 35, 36, 37, 38, 39, 40, 41, 42, 43, 44, 45, 46, 47, 48, 49, 50] (by decide +kernel) (by decide +kernel)
set_option maxRecDepth 20000 in
theorem gX8_reading_X8_noLinen : GoodIn wsX8_reading (wsV RX8 152 RX8 yX8_noLinen wsX8_noLinen) := goodIn_app (goodIn_of _ (by decide +kernel)) ggX8_reading_X8_noLinen
set_option maxRecDepth 20000 in
theorem ggX8_reading_X8_in : GoodIn wsX8_reading wsX8_in := goodIn_r _ [15] (by decide +kernel) (by decide +kernel)
set_option maxRecDepth 20000 in
theorem gX8_reading_X8_in : GoodIn wsX8_reading (va_wsS RX8 88 yX8_in wsX8_in) := goodIn_app (goodIn_of _ (by decide +kernel)) ggX8_reading_X8_in
theorem dX8_reading_0 : decode cX8_reading 0 = .ok (.aload_n 0, 1) := by decide +kernel
theorem dX8_reading_1 : decode cX8_reading 1 = .ok (.iload_n 1, 1) := by decide +kernel
theorem dX8_reading_2 : decode cX8_reading 2 = .ok (.invokevirtual 152, 3) := by decide +kernel
theorem dX8_reading_5 : decode cX8_reading 5 = .ok (.ifCond .eq 5, 3) := by decide +kernel
theorem dX8_reading_8 : decode cX8_reading 8 = .ok (.iconst (-1), 1) := by decide +kernel
theorem dX8_reading_9 : decode cX8_reading 9 = .ok (.ireturn, 1) := by decide +kernel
theorem dX8_reading_10 : decode cX8_reading 10 = .ok (.iload_n 2, 1) := by decide +kernel
theorem dX8_reading_11 : decode cX8_reading 11 = .ok (.i2l, 1) := by decide +kernel
theorem dX8_reading_12 : decode cX8_reading 12 = .ok (.lconst 0, 1) := by decide +kernel
theorem dX8_reading_13 : decode cX8_reading 13 = .ok (.aload_n 0, 1) := by decide +kernel
theorem dX8_reading_14 : decode cX8_reading 14 = .ok (.getfield 92, 3) := by decide +kernel
theorem dX8_reading_17 : decode cX8_reading 17 = .ok (.i2l, 1) := by decide +kernel
theorem dX8_reading_18 : decode cX8_reading 18 = .ok (.invokestatic 88, 3) := by decide +kernel
theorem dX8_reading_21 : decode cX8_reading 21 = .ok (.ifCond .eq 15, 3) := by decide +kernel
theorem dX8_reading_24 : decode cX8_reading 24 = .ok (.iload_n 3, 1) := by decide +kernel
theorem dX8_reading_25 : decode cX8_reading 25 = .ok (.i2l, 1) := by decide +kernel
theorem dX8_reading_26 : decode cX8_reading 26 = .ok (.lconst 0, 1) := by decide +kernel
theorem dX8_reading_27 : decode cX8_reading 27 = .ok (.ldc2_w 158, 3) := by decide +kernel
theorem dX8_reading_30 : decode cX8_reading 30 = .ok (.invokestatic 88, 3) := by decide +kernel
theorem dX8_reading_33 : decode cX8_reading 33 = .ok (.ifCond .ne 6, 3) := by decide +kernel
theorem dX8_reading_36 : decode cX8_reading 36 = .ok (.bipush (-2), 2) := by decide +kernel
theorem dX8_reading_38 : decode cX8_reading 38 = .ok (.ireturn, 1) := by decide +kernel
theorem dX8_reading_39 : decode cX8_reading 39 = .ok (.aload_n 0, 1) := by decide +kernel
theorem dX8_reading_40 : decode cX8_reading 40 = .ok (.getfield 149, 3) := by decide +kernel
theorem dX8_reading_43 : decode cX8_reading 43 = .ok (.bipush 8, 2) := by decide +kernel
theorem dX8_reading_45 : decode cX8_reading 45 = .ok (.if_icmp .ne 6, 3) := by decide +kernel
theorem dX8_reading_48 : decode cX8_reading 48 = .ok (.bipush (-4), 2) := by decide +kernel
theorem dX8_reading_50 : decode cX8_reading 50 = .ok (.ireturn, 1) := by decide +kernel
theorem dX8_reading_51 : decode cX8_reading 51 = .ok (.aload_n 0, 1) := by decide +kernel
theorem dX8_reading_52 : decode cX8_reading 52 = .ok (.getfield 55, 3) := by decide +kernel
theorem dX8_reading_55 : decode cX8_reading 55 = .ok (.aload_n 0, 1) := by decide +kernel
theorem dX8_reading_56 : decode cX8_reading 56 = .ok (.getfield 149, 3) := by decide +kernel
theorem dX8_reading_59 : decode cX8_reading 59 = .ok (.iload_n 1, 1) := by decide +kernel
theorem dX8_reading_60 : decode cX8_reading 60 = .ok (.iastore, 1) := by decide +kernel
theorem dX8_reading_61 : decode cX8_reading 61 = .ok (.aload_n 0, 1) := by decide +kernel
theorem dX8_reading_62 : decode cX8_reading 62 = .ok (.getfield 58, 3) := by decide +kernel
theorem dX8_reading_65 : decode cX8_reading 65 = .ok (.aload_n 0, 1) := by decide +kernel
theorem dX8_reading_66 : decode cX8_reading 66 = .ok (.getfield 149, 3) := by decide +kernel
theorem dX8_reading_69 : decode cX8_reading 69 = .ok (.iload_n 2, 1) := by decide +kernel
theorem dX8_reading_70 : decode cX8_reading 70 = .ok (.iastore, 1) := by decide +kernel
theorem dX8_reading_71 : decode cX8_reading 71 = .ok (.aload_n 0, 1) := by decide +kernel
