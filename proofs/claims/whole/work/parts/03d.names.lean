theorem dX6_begin_13 : decode cX6_begin 13 = .ok (.getfield 59, 3) := by decide +kernel
theorem dX6_begin_16 : decode cX6_begin 16 = .ok (.iload_n 2, 1) := by decide +kernel
theorem dX6_begin_17 : decode cX6_begin 17 = .ok (.invokestatic 62, 3) := by decide +kernel
theorem dX6_begin_20 : decode cX6_begin 20 = .ok (.invokestatic 66, 3) := by decide +kernel
theorem dX6_begin_23 : decode cX6_begin 23 = .ok (.iinc 2 1, 3) := by decide +kernel
theorem dX6_begin_26 : decode cX6_begin 26 = .ok (.goto (-24), 3) := by decide +kernel
theorem dX6_begin_29 : decode cX6_begin 29 = .ok (.iconst 0, 1) := by decide +kernel
theorem dX6_begin_30 : decode cX6_begin 30 = .ok (.istore_n 2, 1) := by decide +kernel
theorem dX6_begin_31 : decode cX6_begin 31 = .ok (.iload_n 2, 1) := by decide +kernel
theorem dX6_begin_32 : decode cX6_begin 32 = .ok (.iconst 5, 1) := by decide +kernel
theorem dX6_begin_33 : decode cX6_begin 33 = .ok (.if_icmp .ge 25, 3) := by decide +kernel
theorem dX6_begin_36 : decode cX6_begin 36 = .ok (.aload_n 0, 1) := by decide +kernel
theorem dX6_begin_37 : decode cX6_begin 37 = .ok (.getfield 15, 3) := by decide +kernel
theorem dX6_begin_40 : decode cX6_begin 40 = .ok (.iload_n 2, 1) := by decide +kernel
theorem dX6_begin_41 : decode cX6_begin 41 = .ok (.aload_n 1, 1) := by decide +kernel
theorem dX6_begin_42 : decode cX6_begin 42 = .ok (.getfield 70, 3) := by decide +kernel
theorem dX6_begin_45 : decode cX6_begin 45 = .ok (.iload_n 2, 1) := by decide +kernel
theorem dX6_begin_46 : decode cX6_begin 46 = .ok (.invokestatic 62, 3) := by decide +kernel
theorem dX6_begin_49 : decode cX6_begin 49 = .ok (.invokestatic 66, 3) := by decide +kernel
theorem dX6_begin_52 : decode cX6_begin 52 = .ok (.iinc 2 1, 3) := by decide +kernel
theorem dX6_begin_55 : decode cX6_begin 55 = .ok (.goto (-24), 3) := by decide +kernel
theorem dX6_begin_58 : decode cX6_begin 58 = .ok (.aload_n 0, 1) := by decide +kernel
theorem dX6_begin_59 : decode cX6_begin 59 = .ok (.iconst 0, 1) := by decide +kernel
theorem dX6_begin_60 : decode cX6_begin 60 = .ok (.putfield 18, 3) := by decide +kernel
theorem dX6_begin_63 : decode cX6_begin 63 = .ok (.aload_n 0, 1) := by decide +kernel
theorem dX6_begin_64 : decode cX6_begin 64 = .ok (.iconst 0, 1) := by decide +kernel
theorem dX6_begin_65 : decode cX6_begin 65 = .ok (.putfield 22, 3) := by decide +kernel
theorem dX6_begin_68 : decode cX6_begin 68 = .ok (.aload_n 0, 1) := by decide +kernel
theorem dX6_begin_69 : decode cX6_begin 69 = .ok (.iconst 1, 1) := by decide +kernel
theorem dX6_begin_70 : decode cX6_begin 70 = .ok (.aload_n 1, 1) := by decide +kernel
theorem dX6_begin_71 : decode cX6_begin 71 = .ok (.getfield 73, 3) := by decide +kernel
theorem dX6_begin_74 : decode cX6_begin 74 = .ok (.ishl, 1) := by decide +kernel
theorem dX6_begin_75 : decode cX6_begin 75 = .ok (.iconst 1, 1) := by decide +kernel
theorem dX6_begin_76 : decode cX6_begin 76 = .ok (.isub, 1) := by decide +kernel
theorem dX6_begin_77 : decode cX6_begin 77 = .ok (.putfield 25, 3) := by decide +kernel
theorem dX6_begin_80 : decode cX6_begin 80 = .ok (.aload_n 0, 1) := by decide +kernel
theorem dX6_begin_81 : decode cX6_begin 81 = .ok (.bipush (-9), 2) := by decide +kernel
theorem dX6_begin_83 : decode cX6_begin 83 = .ok (.putfield 28, 3) := by decide +kernel
theorem dX6_begin_86 : decode cX6_begin 86 = .ok (.return_, 1) := by decide +kernel
set_option maxRecDepth 20000 in
theorem ggX6_eveningComes_X7_at : GoodIn wsX6_eveningComes wsX7_at := goodIn_r _ [12] (by decide +kernel) (by decide +kernel)
set_option maxRecDepth 20000 in
theorem gX6_eveningComes_X7_at_n62 : GoodIn wsX6_eveningComes (wsX7_at) := ggX6_eveningComes_X7_at
set_option maxRecDepth 20000 in
theorem ggX6_eveningComes_X2_drying : GoodIn wsX6_eveningComes wsX2_drying := goodIn_r _ [17, 18, 19, 10, 11, 12, 20, 21, 22, 16, 23, 37, 38, 39, 40, 41, 42, 43] (by decide +kernel) (by decide +kernel)
set_option maxRecDepth 20000 in
theorem gX6_eveningComes_X2_drying : GoodIn wsX6_eveningComes (wsV RX6 79 RX2 yX2_drying wsX2_drying) := goodIn_app (goodIn_of _ (by decide +kernel)) ggX6_eveningComes_X2_drying
set_option maxRecDepth 20000 in
theorem ggX6_eveningComes_X7_set : GoodIn wsX6_eveningComes wsX7_set := goodIn_r _ [25] (by decide +kernel) (by decide +kernel)
set_option maxRecDepth 20000 in
theorem gX6_eveningComes_X7_set_n66 : GoodIn wsX6_eveningComes (wsX7_set) := ggX6_eveningComes_X7_set
set_option maxRecDepth 20000 in
theorem ggX6_eveningComes_X6_lawsNow : GoodIn wsX6_eveningComes wsX6_lawsNow := goodIn_r _ [30, 3, 4, 10, 11, 12, 37, 38, 39, 40, 41, 42, 43, 31, 32, 33, 34, 35, 36] (by decide +kernel) (by decide +kernel)
set_option maxRecDepth 20000 in
theorem gX6_eveningComes_X6_lawsNow : GoodIn wsX6_eveningComes (wsV RX6 88 RX6 yX6_lawsNow wsX6_lawsNow) := goodIn_app (goodIn_of _ (by decide +kernel)) ggX6_eveningComes_X6_lawsNow
theorem dX6_eveningComes_0 : decode cX6_eveningComes 0 = .ok (.aload_n 0, 1) := by decide +kernel
theorem dX6_eveningComes_1 : decode cX6_eveningComes 1 = .ok (.getfield 18, 3) := by decide +kernel
theorem dX6_eveningComes_4 : decode cX6_eveningComes 4 = .ok (.aload_n 1, 1) := by decide +kernel
theorem dX6_eveningComes_5 : decode cX6_eveningComes 5 = .ok (.getfield 76, 3) := by decide +kernel
theorem dX6_eveningComes_8 : decode cX6_eveningComes 8 = .ok (.if_icmp .lt 5, 3) := by decide +kernel
theorem dX6_eveningComes_11 : decode cX6_eveningComes 11 = .ok (.iconst 0, 1) := by decide +kernel
theorem dX6_eveningComes_12 : decode cX6_eveningComes 12 = .ok (.ireturn, 1) := by decide +kernel
theorem dX6_eveningComes_13 : decode cX6_eveningComes 13 = .ok (.iconst 0, 1) := by decide +kernel
theorem dX6_eveningComes_14 : decode cX6_eveningComes 14 = .ok (.istore_n 2, 1) := by decide +kernel
theorem dX6_eveningComes_15 : decode cX6_eveningComes 15 = .ok (.iload_n 2, 1) := by decide +kernel
theorem dX6_eveningComes_16 : decode cX6_eveningComes 16 = .ok (.aload_n 1, 1) := by decide +kernel
theorem dX6_eveningComes_17 : decode cX6_eveningComes 17 = .ok (.getfield 73, 3) := by decide +kernel
theorem dX6_eveningComes_20 : decode cX6_eveningComes 20 = .ok (.if_icmp .ge 39, 3) := by decide +kernel
theorem dX6_eveningComes_23 : decode cX6_eveningComes 23 = .ok (.aload_n 0, 1) := by decide +kernel
theorem dX6_eveningComes_24 : decode cX6_eveningComes 24 = .ok (.getfield 15, 3) := by decide +kernel
theorem dX6_eveningComes_27 : decode cX6_eveningComes 27 = .ok (.iload_n 2, 1) := by decide +kernel
theorem dX6_eveningComes_28 : decode cX6_eveningComes 28 = .ok (.iconst 0, 1) := by decide +kernel
theorem dX6_eveningComes_29 : decode cX6_eveningComes 29 = .ok (.aload_n 0, 1) := by decide +kernel
theorem dX6_eveningComes_30 : decode cX6_eveningComes 30 = .ok (.getfield 15, 3) := by decide +kernel
theorem dX6_eveningComes_33 : decode cX6_eveningComes 33 = .ok (.iload_n 2, 1) := by decide +kernel
theorem dX6_eveningComes_34 : decode cX6_eveningComes 34 = .ok (.invokestatic 62, 3) := by decide +kernel
theorem dX6_eveningComes_37 : decode cX6_eveningComes 37 = .ok (.aload_n 1, 1) := by decide +kernel
theorem dX6_eveningComes_38 : decode cX6_eveningComes 38 = .ok (.iload_n 2, 1) := by decide +kernel
theorem dX6_eveningComes_39 : decode cX6_eveningComes 39 = .ok (.aload_n 0, 1) := by decide +kernel
theorem dX6_eveningComes_40 : decode cX6_eveningComes 40 = .ok (.getfield 18, 3) := by decide +kernel
theorem dX6_eveningComes_43 : decode cX6_eveningComes 43 = .ok (.invokevirtual 79, 3) := by decide +kernel
theorem dX6_eveningComes_46 : decode cX6_eveningComes 46 = .ok (.isub, 1) := by decide +kernel
theorem dX6_eveningComes_47 : decode cX6_eveningComes 47 = .ok (.invokestatic 83, 3) := by decide +kernel
theorem dX6_eveningComes_50 : decode cX6_eveningComes 50 = .ok (.invokestatic 66, 3) := by decide +kernel
theorem dX6_eveningComes_53 : decode cX6_eveningComes 53 = .ok (.iinc 2 1, 3) := by decide +kernel
theorem dX6_eveningComes_56 : decode cX6_eveningComes 56 = .ok (.goto (-41), 3) := by decide +kernel
theorem dX6_eveningComes_59 : decode cX6_eveningComes 59 = .ok (.aload_n 0, 1) := by decide +kernel
theorem dX6_eveningComes_60 : decode cX6_eveningComes 60 = .ok (.dup, 1) := by decide +kernel
theorem dX6_eveningComes_61 : decode cX6_eveningComes 61 = .ok (.getfield 18, 3) := by decide +kernel
theorem dX6_eveningComes_64 : decode cX6_eveningComes 64 = .ok (.iconst 1, 1) := by decide +kernel
theorem dX6_eveningComes_65 : decode cX6_eveningComes 65 = .ok (.iadd, 1) := by decide +kernel
theorem dX6_eveningComes_66 : decode cX6_eveningComes 66 = .ok (.putfield 18, 3) := by decide +kernel
theorem dX6_eveningComes_69 : decode cX6_eveningComes 69 = .ok (.aload_n 0, 1) := by decide +kernel
theorem dX6_eveningComes_70 : decode cX6_eveningComes 70 = .ok (.dup, 1) := by decide +kernel
theorem dX6_eveningComes_71 : decode cX6_eveningComes 71 = .ok (.getfield 25, 3) := by decide +kernel
theorem dX6_eveningComes_74 : decode cX6_eveningComes 74 = .ok (.aload_n 0, 1) := by decide +kernel
theorem dX6_eveningComes_75 : decode cX6_eveningComes 75 = .ok (.aload_n 1, 1) := by decide +kernel
theorem dX6_eveningComes_76 : decode cX6_eveningComes 76 = .ok (.invokevirtual 88, 3) := by decide +kernel
theorem dX6_eveningComes_79 : decode cX6_eveningComes 79 = .ok (.iand, 1) := by decide +kernel
theorem dX6_eveningComes_80 : decode cX6_eveningComes 80 = .ok (.putfield 25, 3) := by decide +kernel
theorem dX6_eveningComes_83 : decode cX6_eveningComes 83 = .ok (.iconst 1, 1) := by decide +kernel
theorem dX6_eveningComes_84 : decode cX6_eveningComes 84 = .ok (.ireturn, 1) := by decide +kernel
set_option maxRecDepth 20000 in
theorem ggX6_weeps_X7_at : GoodIn wsX6_weeps wsX7_at := goodIn_r _ [11] (by decide +kernel) (by decide +kernel)
set_option maxRecDepth 20000 in
theorem gX6_weeps_X7_at_n62 : GoodIn wsX6_weeps (wsX7_at) := ggX6_weeps_X7_at
set_option maxRecDepth 20000 in
theorem ggX6_weeps_X7_set : GoodIn wsX6_weeps wsX7_set := goodIn_r _ [13] (by decide +kernel) (by decide +kernel)
set_option maxRecDepth 20000 in
theorem gX6_weeps_X7_set_n66 : GoodIn wsX6_weeps (wsX7_set) := ggX6_weeps_X7_set
theorem dX6_weeps_0 : decode cX6_weeps 0 = .ok (.aload_n 0, 1) := by decide +kernel
theorem dX6_weeps_1 : decode cX6_weeps 1 = .ok (.getfield 9, 3) := by decide +kernel
theorem dX6_weeps_4 : decode cX6_weeps 4 = .ok (.iload_n 2, 1) := by decide +kernel
theorem dX6_weeps_5 : decode cX6_weeps 5 = .ok (.invokestatic 62, 3) := by decide +kernel
theorem dX6_weeps_8 : decode cX6_weeps 8 = .ok (.ifCond .gt 5, 3) := by decide +kernel
theorem dX6_weeps_11 : decode cX6_weeps 11 = .ok (.iconst 0, 1) := by decide +kernel
theorem dX6_weeps_12 : decode cX6_weeps 12 = .ok (.ireturn, 1) := by decide +kernel
theorem dX6_weeps_13 : decode cX6_weeps 13 = .ok (.aload_n 0, 1) := by decide +kernel
theorem dX6_weeps_14 : decode cX6_weeps 14 = .ok (.getfield 9, 3) := by decide +kernel
theorem dX6_weeps_17 : decode cX6_weeps 17 = .ok (.iload_n 2, 1) := by decide +kernel
theorem dX6_weeps_18 : decode cX6_weeps 18 = .ok (.aload_n 0, 1) := by decide +kernel
theorem dX6_weeps_19 : decode cX6_weeps 19 = .ok (.getfield 9, 3) := by decide +kernel
theorem dX6_weeps_22 : decode cX6_weeps 22 = .ok (.iload_n 2, 1) := by decide +kernel
theorem dX6_weeps_23 : decode cX6_weeps 23 = .ok (.invokestatic 62, 3) := by decide +kernel
theorem dX6_weeps_26 : decode cX6_weeps 26 = .ok (.iconst 1, 1) := by decide +kernel
theorem dX6_weeps_27 : decode cX6_weeps 27 = .ok (.isub, 1) := by decide +kernel
theorem dX6_weeps_28 : decode cX6_weeps 28 = .ok (.invokestatic 66, 3) := by decide +kernel
theorem dX6_weeps_31 : decode cX6_weeps 31 = .ok (.aload_n 1, 1) := by decide +kernel
theorem dX6_weeps_32 : decode cX6_weeps 32 = .ok (.getfield 92, 3) := by decide +kernel
theorem dX6_weeps_35 : decode cX6_weeps 35 = .ok (.iload_n 3, 1) := by decide +kernel
theorem dX6_weeps_36 : decode cX6_weeps 36 = .ok (.invokestatic 62, 3) := by decide +kernel
theorem dX6_weeps_39 : decode cX6_weeps 39 = .ok (.iload_n 2, 1) := by decide +kernel
theorem dX6_weeps_40 : decode cX6_weeps 40 = .ok (.if_icmp .ne 7, 3) := by decide +kernel
theorem dX6_weeps_43 : decode cX6_weeps 43 = .ok (.iconst 1, 1) := by decide +kernel
theorem dX6_weeps_44 : decode cX6_weeps 44 = .ok (.goto 4, 3) := by decide +kernel
theorem dX6_weeps_47 : decode cX6_weeps 47 = .ok (.iconst 0, 1) := by decide +kernel
theorem dX6_weeps_48 : decode cX6_weeps 48 = .ok (.istore 4, 2) := by decide +kernel
theorem dX6_weeps_50 : decode cX6_weeps 50 = .ok (.aload_n 0, 1) := by decide +kernel
theorem dX6_weeps_51 : decode cX6_weeps 51 = .ok (.getfield 15, 3) := by decide +kernel
theorem dX6_weeps_54 : decode cX6_weeps 54 = .ok (.iload_n 3, 1) := by decide +kernel
theorem dX6_weeps_55 : decode cX6_weeps 55 = .ok (.iload 4, 2) := by decide +kernel
theorem dX6_weeps_57 : decode cX6_weeps 57 = .ok (.ifCond .eq 21, 3) := by decide +kernel
theorem dX6_weeps_60 : decode cX6_weeps 60 = .ok (.bipush 9, 2) := by decide +kernel
theorem dX6_weeps_62 : decode cX6_weeps 62 = .ok (.aload_n 0, 1) := by decide +kernel
theorem dX6_weeps_63 : decode cX6_weeps 63 = .ok (.getfield 15, 3) := by decide +kernel
theorem dX6_weeps_66 : decode cX6_weeps 66 = .ok (.iload_n 3, 1) := by decide +kernel
theorem dX6_weeps_67 : decode cX6_weeps 67 = .ok (.invokestatic 62, 3) := by decide +kernel
theorem dX6_weeps_70 : decode cX6_weeps 70 = .ok (.iconst 3, 1) := by decide +kernel
theorem dX6_weeps_71 : decode cX6_weeps 71 = .ok (.iadd, 1) := by decide +kernel
theorem dX6_weeps_72 : decode cX6_weeps 72 = .ok (.invokestatic 95, 3) := by decide +kernel
theorem dX6_weeps_75 : decode cX6_weeps 75 = .ok (.goto 4, 3) := by decide +kernel
theorem dX6_weeps_78 : decode cX6_weeps 78 = .ok (.iconst 0, 1) := by decide +kernel
theorem dX6_weeps_79 : decode cX6_weeps 79 = .ok (.invokestatic 66, 3) := by decide +kernel
theorem dX6_weeps_82 : decode cX6_weeps 82 = .ok (.aload_n 0, 1) := by decide +kernel
theorem dX6_weeps_83 : decode cX6_weeps 83 = .ok (.dup, 1) := by decide +kernel
theorem dX6_weeps_84 : decode cX6_weeps 84 = .ok (.getfield 22, 3) := by decide +kernel
theorem dX6_weeps_87 : decode cX6_weeps 87 = .ok (.iconst 1, 1) := by decide +kernel
theorem dX6_weeps_88 : decode cX6_weeps 88 = .ok (.iadd, 1) := by decide +kernel
theorem dX6_weeps_89 : decode cX6_weeps 89 = .ok (.putfield 22, 3) := by decide +kernel
theorem dX6_weeps_92 : decode cX6_weeps 92 = .ok (.iconst 1, 1) := by decide +kernel
theorem dX6_weeps_93 : decode cX6_weeps 93 = .ok (.ireturn, 1) := by decide +kernel
set_option maxRecDepth 20000 in
theorem ggX6_lawsNow_X7_at : GoodIn wsX6_lawsNow wsX7_at := goodIn_r _ [5] (by decide +kernel) (by decide +kernel)
set_option maxRecDepth 20000 in
theorem gX6_lawsNow_X7_at_n62 : GoodIn wsX6_lawsNow (wsX7_at) := ggX6_lawsNow_X7_at
theorem dX6_lawsNow_0 : decode cX6_lawsNow 0 = .ok (.iconst 0, 1) := by decide +kernel
theorem dX6_lawsNow_1 : decode cX6_lawsNow 1 = .ok (.istore_n 2, 1) := by decide +kernel
theorem dX6_lawsNow_2 : decode cX6_lawsNow 2 = .ok (.iconst 0, 1) := by decide +kernel
theorem dX6_lawsNow_3 : decode cX6_lawsNow 3 = .ok (.istore_n 3, 1) := by decide +kernel
theorem dX6_lawsNow_4 : decode cX6_lawsNow 4 = .ok (.iload_n 3, 1) := by decide +kernel
theorem dX6_lawsNow_5 : decode cX6_lawsNow 5 = .ok (.aload_n 1, 1) := by decide +kernel
theorem dX6_lawsNow_6 : decode cX6_lawsNow 6 = .ok (.getfield 73, 3) := by decide +kernel
theorem dX6_lawsNow_9 : decode cX6_lawsNow 9 = .ok (.if_icmp .ge 26, 3) := by decide +kernel
theorem dX6_lawsNow_12 : decode cX6_lawsNow 12 = .ok (.aload_n 0, 1) := by decide +kernel
theorem dX6_lawsNow_13 : decode cX6_lawsNow 13 = .ok (.getfield 15, 3) := by decide +kernel
theorem dX6_lawsNow_16 : decode cX6_lawsNow 16 = .ok (.iload_n 3, 1) := by decide +kernel
theorem dX6_lawsNow_17 : decode cX6_lawsNow 17 = .ok (.invokestatic 62, 3) := by decide +kernel
theorem dX6_lawsNow_20 : decode cX6_lawsNow 20 = .ok (.ifCond .le 9, 3) := by decide +kernel
theorem dX6_lawsNow_23 : decode cX6_lawsNow 23 = .ok (.iload_n 2, 1) := by decide +kernel
theorem dX6_lawsNow_24 : decode cX6_lawsNow 24 = .ok (.iconst 1, 1) := by decide +kernel
theorem dX6_lawsNow_25 : decode cX6_lawsNow 25 = .ok (.iload_n 3, 1) := by decide +kernel
theorem dX6_lawsNow_26 : decode cX6_lawsNow 26 = .ok (.ishl, 1) := by decide +kernel
theorem dX6_lawsNow_27 : decode cX6_lawsNow 27 = .ok (.ior, 1) := by decide +kernel
theorem dX6_lawsNow_28 : decode cX6_lawsNow 28 = .ok (.istore_n 2, 1) := by decide +kernel
theorem dX6_lawsNow_29 : decode cX6_lawsNow 29 = .ok (.iinc 3 1, 3) := by decide +kernel
theorem dX6_lawsNow_32 : decode cX6_lawsNow 32 = .ok (.goto (-28), 3) := by decide +kernel
theorem dX6_lawsNow_35 : decode cX6_lawsNow 35 = .ok (.iload_n 2, 1) := by decide +kernel
theorem dX6_lawsNow_36 : decode cX6_lawsNow 36 = .ok (.ireturn, 1) := by decide +kernel
set_option maxRecDepth 20000 in
theorem ggX6_answer_X6_lawsNow : GoodIn wsX6_answer wsX6_lawsNow := goodIn_r _ [10, 11, 5, 12, 13, 14, 29, 30, 31, 32, 33, 34, 35, 23, 24, 25, 26, 27, 28] (by decide +kernel) (by decide +kernel)
set_option maxRecDepth 20000 in
theorem gX6_answer_X6_lawsNow : GoodIn wsX6_answer (wsV RX6 88 RX6 yX6_lawsNow wsX6_lawsNow) := goodIn_app (goodIn_of _ (by decide +kernel)) ggX6_answer_X6_lawsNow
set_option maxRecDepth 20000 in
theorem ggX6_answer_X7_at : GoodIn wsX6_answer wsX7_at := goodIn_r _ [14] (by decide +kernel) (by decide +kernel)
set_option maxRecDepth 20000 in
theorem gX6_answer_X7_at_n62 : GoodIn wsX6_answer (wsX7_at) := ggX6_answer_X7_at
set_option maxRecDepth 20000 in
theorem ggX6_answer_X2_hasLinen : GoodIn wsX6_answer wsX2_hasLinen := goodIn_r _ [19, 20, 21, 13, 22, 29, 30, 31, 32, 33, 34, 35] (by decide +kernel) (by decide +kernel)
set_option maxRecDepth 20000 in
theorem gX6_answer_X2_hasLinen : GoodIn wsX6_answer (wsV RX6 41 RX2 yX2_hasLinen wsX2_hasLinen) := goodIn_app (goodIn_of _ (by decide +kernel)) ggX6_answer_X2_hasLinen
theorem dX6_answer_0 : decode cX6_answer 0 = .ok (.iload_n 2, 1) := by decide +kernel
theorem dX6_answer_1 : decode cX6_answer 1 = .ok (.iconst 1, 1) := by decide +kernel
theorem dX6_answer_2 : decode cX6_answer 2 = .ok (.if_icmp .ne 8, 3) := by decide +kernel
theorem dX6_answer_5 : decode cX6_answer 5 = .ok (.aload_n 0, 1) := by decide +kernel
theorem dX6_answer_6 : decode cX6_answer 6 = .ok (.getfield 28, 3) := by decide +kernel
theorem dX6_answer_9 : decode cX6_answer 9 = .ok (.ireturn, 1) := by decide +kernel
theorem dX6_answer_10 : decode cX6_answer 10 = .ok (.aload_n 0, 1) := by decide +kernel
theorem dX6_answer_11 : decode cX6_answer 11 = .ok (.getfield 28, 3) := by decide +kernel
theorem dX6_answer_14 : decode cX6_answer 14 = .ok (.bipush (-9), 2) := by decide +kernel
theorem dX6_answer_16 : decode cX6_answer 16 = .ok (.if_icmp .eq 11, 3) := by decide +kernel
theorem dX6_answer_19 : decode cX6_answer 19 = .ok (.bipush (-100), 2) := by decide +kernel
theorem dX6_answer_21 : decode cX6_answer 21 = .ok (.aload_n 0, 1) := by decide +kernel
theorem dX6_answer_22 : decode cX6_answer 22 = .ok (.getfield 28, 3) := by decide +kernel
theorem dX6_answer_25 : decode cX6_answer 25 = .ok (.isub, 1) := by decide +kernel
theorem dX6_answer_26 : decode cX6_answer 26 = .ok (.ireturn, 1) := by decide +kernel
theorem dX6_answer_27 : decode cX6_answer 27 = .ok (.iload_n 2, 1) := by decide +kernel
theorem dX6_answer_28 : decode cX6_answer 28 = .ok (.ifCond .ne 9, 3) := by decide +kernel
theorem dX6_answer_31 : decode cX6_answer 31 = .ok (.aload_n 0, 1) := by decide +kernel
theorem dX6_answer_32 : decode cX6_answer 32 = .ok (.aload_n 1, 1) := by decide +kernel
theorem dX6_answer_33 : decode cX6_answer 33 = .ok (.invokevirtual 88, 3) := by decide +kernel
theorem dX6_answer_36 : decode cX6_answer 36 = .ok (.ireturn, 1) := by decide +kernel
theorem dX6_answer_37 : decode cX6_answer 37 = .ok (.iload_n 2, 1) := by decide +kernel
theorem dX6_answer_38 : decode cX6_answer 38 = .ok (.iconst 2, 1) := by decide +kernel
theorem dX6_answer_39 : decode cX6_answer 39 = .ok (.if_icmp .ne 8, 3) := by decide +kernel
theorem dX6_answer_42 : decode cX6_answer 42 = .ok (.aload_n 0, 1) := by decide +kernel
theorem dX6_answer_43 : decode cX6_answer 43 = .ok (.getfield 25, 3) := by decide +kernel
theorem dX6_answer_46 : decode cX6_answer 46 = .ok (.ireturn, 1) := by decide +kernel
theorem dX6_answer_47 : decode cX6_answer 47 = .ok (.iload_n 2, 1) := by decide +kernel
theorem dX6_answer_48 : decode cX6_answer 48 = .ok (.iconst 3, 1) := by decide +kernel
theorem dX6_answer_49 : decode cX6_answer 49 = .ok (.if_icmp .ne 8, 3) := by decide +kernel
theorem dX6_answer_52 : decode cX6_answer 52 = .ok (.aload_n 0, 1) := by decide +kernel
theorem dX6_answer_53 : decode cX6_answer 53 = .ok (.getfield 22, 3) := by decide +kernel
theorem dX6_answer_56 : decode cX6_answer 56 = .ok (.ireturn, 1) := by decide +kernel
theorem dX6_answer_57 : decode cX6_answer 57 = .ok (.iload_n 2, 1) := by decide +kernel
theorem dX6_answer_58 : decode cX6_answer 58 = .ok (.bipush 20, 2) := by decide +kernel
theorem dX6_answer_60 : decode cX6_answer 60 = .ok (.if_icmp .lt 15, 3) := by decide +kernel
theorem dX6_answer_63 : decode cX6_answer 63 = .ok (.aload_n 0, 1) := by decide +kernel
theorem dX6_answer_64 : decode cX6_answer 64 = .ok (.getfield 9, 3) := by decide +kernel
theorem dX6_answer_67 : decode cX6_answer 67 = .ok (.iload_n 2, 1) := by decide +kernel
theorem dX6_answer_68 : decode cX6_answer 68 = .ok (.bipush 20, 2) := by decide +kernel
theorem dX6_answer_70 : decode cX6_answer 70 = .ok (.isub, 1) := by decide +kernel
theorem dX6_answer_71 : decode cX6_answer 71 = .ok (.invokestatic 62, 3) := by decide +kernel
theorem dX6_answer_74 : decode cX6_answer 74 = .ok (.ireturn, 1) := by decide +kernel
theorem dX6_answer_75 : decode cX6_answer 75 = .ok (.aload_n 1, 1) := by decide +kernel
theorem dX6_answer_76 : decode cX6_answer 76 = .ok (.iload_n 2, 1) := by decide +kernel
theorem dX6_answer_77 : decode cX6_answer 77 = .ok (.bipush 10, 2) := by decide +kernel
theorem dX6_answer_79 : decode cX6_answer 79 = .ok (.isub, 1) := by decide +kernel
theorem dX6_answer_80 : decode cX6_answer 80 = .ok (.invokevirtual 41, 3) := by decide +kernel
theorem dX6_answer_83 : decode cX6_answer 83 = .ok (.ifCond .eq 17, 3) := by decide +kernel
theorem dX6_answer_86 : decode cX6_answer 86 = .ok (.aload_n 0, 1) := by decide +kernel
theorem dX6_answer_87 : decode cX6_answer 87 = .ok (.getfield 15, 3) := by decide +kernel
theorem dX6_answer_90 : decode cX6_answer 90 = .ok (.iload_n 2, 1) := by decide +kernel
theorem dX6_answer_91 : decode cX6_answer 91 = .ok (.bipush 10, 2) := by decide +kernel
theorem dX6_answer_93 : decode cX6_answer 93 = .ok (.isub, 1) := by decide +kernel
theorem dX6_answer_94 : decode cX6_answer 94 = .ok (.invokestatic 62, 3) := by decide +kernel
theorem dX6_answer_97 : decode cX6_answer 97 = .ok (.goto 5, 3) := by decide +kernel
theorem dX6_answer_100 : decode cX6_answer 100 = .ok (.bipush (-9), 2) := by decide +kernel
theorem dX6_answer_102 : decode cX6_answer 102 = .ok (.ireturn, 1) := by decide +kernel
set_option maxRecDepth 20000 in
theorem ggX7_init_X2_init : GoodIn wsX7_init wsX2_init := goodIn_r _ [34, 35, 2, 3, 36, 37, 38, 39, 40, 41, 42, 43, 84, 85, 86, 87, 88, 89, 90] (by decide +kernel) (by decide +kernel)
set_option maxRecDepth 20000 in
theorem gX7_init_X2_init_n11 : GoodIn wsX7_init (wsX2_init) := ggX7_init_X2_init
set_option maxRecDepth 20000 in
theorem ggX7_init_X3_init : GoodIn wsX7_init wsX3_init := goodIn_r _ [45, 46, 2, 3, 47, 48, 49, 50, 51, 99, 100, 101, 102, 103] (by decide +kernel) (by decide +kernel)
set_option maxRecDepth 20000 in
theorem gX7_init_X3_init_n20 : GoodIn wsX7_init (wsX3_init) := ggX7_init_X3_init
set_option maxRecDepth 20000 in
theorem ggX7_init_X6_init : GoodIn wsX7_init wsX6_init := goodIn_r _ [53, 54, 2, 3, 36, 55, 56, 57, 58, 59, 60, 104, 105, 106, 107, 108, 109] (by decide +kernel) (by decide +kernel)
set_option maxRecDepth 20000 in
theorem gX7_init_X6_init_n27 : GoodIn wsX7_init (wsX6_init) := ggX7_init_X6_init
set_option maxRecDepth 20000 in
theorem ggX7_init_X0_init : GoodIn wsX7_init wsX0_init := goodIn_r _ [62, 63, 2, 3, 36, 64, 65, 110, 111] (by decide +kernel) (by decide +kernel)
set_option maxRecDepth 20000 in
theorem gX7_init_X0_init_n34 : GoodIn wsX7_init (wsX0_init) := ggX7_init_X0_init
set_option maxRecDepth 20000 in
theorem ggX7_init_X1_init : GoodIn wsX7_init wsX1_init := goodIn_r _ [67, 68, 2, 3, 36, 69, 70, 71, 72, 112, 113, 114, 115] (by decide +kernel) (by decide +kernel)
set_option maxRecDepth 20000 in
theorem gX7_init_X1_init_n41 : GoodIn wsX7_init (wsX1_init) := ggX7_init_X1_init
set_option maxRecDepth 20000 in
theorem ggX7_init_X5_init : GoodIn wsX7_init wsX5_init := goodIn_r _ [74, 75, 2, 3, 76, 116] (by decide +kernel) (by decide +kernel)
set_option maxRecDepth 20000 in
theorem gX7_init_X5_init_n48 : GoodIn wsX7_init (wsX5_init) := ggX7_init_X5_init
set_option maxRecDepth 20000 in
theorem ggX7_init_X4_init : GoodIn wsX7_init wsX4_init := goodIn_r _ [78, 79, 2, 3, 36, 80, 81, 82, 83, 117, 118, 119, 120] (by decide +kernel) (by decide +kernel)
set_option maxRecDepth 20000 in
theorem gX7_init_X4_init_n63 : GoodIn wsX7_init (wsX4_init) := ggX7_init_X4_init
theorem dX7_init_0 : decode cX7_init 0 = .ok (.aload_n 0, 1) := by decide +kernel
theorem dX7_init_1 : decode cX7_init 1 = .ok (.invokespecial 3, 3) := by decide +kernel
theorem dX7_init_4 : decode cX7_init 4 = .ok (.aload_n 0, 1) := by decide +kernel
theorem dX7_init_5 : decode cX7_init 5 = .ok (.new 9, 3) := by decide +kernel
theorem dX7_init_8 : decode cX7_init 8 = .ok (.dup, 1) := by decide +kernel
theorem dX7_init_9 : decode cX7_init 9 = .ok (.invokespecial 11, 3) := by decide +kernel
theorem dX7_init_12 : decode cX7_init 12 = .ok (.putfield 12, 3) := by decide +kernel
theorem dX7_init_15 : decode cX7_init 15 = .ok (.aload_n 0, 1) := by decide +kernel
theorem dX7_init_16 : decode cX7_init 16 = .ok (.new 18, 3) := by decide +kernel
theorem dX7_init_19 : decode cX7_init 19 = .ok (.dup, 1) := by decide +kernel
theorem dX7_init_20 : decode cX7_init 20 = .ok (.invokespecial 20, 3) := by decide +kernel
theorem dX7_init_23 : decode cX7_init 23 = .ok (.putfield 21, 3) := by decide +kernel
theorem dX7_init_26 : decode cX7_init 26 = .ok (.aload_n 0, 1) := by decide +kernel
theorem dX7_init_27 : decode cX7_init 27 = .ok (.new 25, 3) := by decide +kernel
theorem dX7_init_30 : decode cX7_init 30 = .ok (.dup, 1) := by decide +kernel
theorem dX7_init_31 : decode cX7_init 31 = .ok (.invokespecial 27, 3) := by decide +kernel
theorem dX7_init_34 : decode cX7_init 34 = .ok (.putfield 28, 3) := by decide +kernel
theorem dX7_init_37 : decode cX7_init 37 = .ok (.aload_n 0, 1) := by decide +kernel
theorem dX7_init_38 : decode cX7_init 38 = .ok (.new 32, 3) := by decide +kernel
theorem dX7_init_41 : decode cX7_init 41 = .ok (.dup, 1) := by decide +kernel
theorem dX7_init_42 : decode cX7_init 42 = .ok (.invokespecial 34, 3) := by decide +kernel
theorem dX7_init_45 : decode cX7_init 45 = .ok (.putfield 35, 3) := by decide +kernel
theorem dX7_init_48 : decode cX7_init 48 = .ok (.aload_n 0, 1) := by decide +kernel
theorem dX7_init_49 : decode cX7_init 49 = .ok (.new 39, 3) := by decide +kernel
theorem dX7_init_52 : decode cX7_init 52 = .ok (.dup, 1) := by decide +kernel
theorem dX7_init_53 : decode cX7_init 53 = .ok (.invokespecial 41, 3) := by decide +kernel
theorem dX7_init_56 : decode cX7_init 56 = .ok (.putfield 42, 3) := by decide +kernel
theorem dX7_init_59 : decode cX7_init 59 = .ok (.aload_n 0, 1) := by decide +kernel
theorem dX7_init_60 : decode cX7_init 60 = .ok (.new 46, 3) := by decide +kernel
theorem dX7_init_63 : decode cX7_init 63 = .ok (.dup, 1) := by decide +kernel
theorem dX7_init_64 : decode cX7_init 64 = .ok (.invokespecial 48, 3) := by decide +kernel
theorem dX7_init_67 : decode cX7_init 67 = .ok (.putfield 49, 3) := by decide +kernel
theorem dX7_init_70 : decode cX7_init 70 = .ok (.aload_n 0, 1) := by decide +kernel
theorem dX7_init_71 : decode cX7_init 71 = .ok (.iconst 4, 1) := by decide +kernel
theorem dX7_init_72 : decode cX7_init 72 = .ok (.anewarray 53, 3) := by decide +kernel
theorem dX7_init_75 : decode cX7_init 75 = .ok (.putfield 55, 3) := by decide +kernel
theorem dX7_init_78 : decode cX7_init 78 = .ok (.aload_n 0, 1) := by decide +kernel
theorem dX7_init_79 : decode cX7_init 79 = .ok (.iconst 0, 1) := by decide +kernel
theorem dX7_init_80 : decode cX7_init 80 = .ok (.putfield 59, 3) := by decide +kernel
theorem dX7_init_83 : decode cX7_init 83 = .ok (.iconst 0, 1) := by decide +kernel
theorem dX7_init_84 : decode cX7_init 84 = .ok (.istore_n 1, 1) := by decide +kernel
theorem dX7_init_85 : decode cX7_init 85 = .ok (.iload_n 1, 1) := by decide +kernel
theorem dX7_init_86 : decode cX7_init 86 = .ok (.aload_n 0, 1) := by decide +kernel
theorem dX7_init_87 : decode cX7_init 87 = .ok (.getfield 55, 3) := by decide +kernel
theorem dX7_init_90 : decode cX7_init 90 = .ok (.arraylength, 1) := by decide +kernel
theorem dX7_init_91 : decode cX7_init 91 = .ok (.if_icmp .ge 22, 3) := by decide +kernel
theorem dX7_init_94 : decode cX7_init 94 = .ok (.aload_n 0, 1) := by decide +kernel
theorem dX7_init_95 : decode cX7_init 95 = .ok (.getfield 55, 3) := by decide +kernel
theorem dX7_init_98 : decode cX7_init 98 = .ok (.iload_n 1, 1) := by decide +kernel
theorem dX7_init_99 : decode cX7_init 99 = .ok (.new 53, 3) := by decide +kernel
theorem dX7_init_102 : decode cX7_init 102 = .ok (.dup, 1) := by decide +kernel
theorem dX7_init_103 : decode cX7_init 103 = .ok (.invokespecial 63, 3) := by decide +kernel
theorem dX7_init_106 : decode cX7_init 106 = .ok (.aastore, 1) := by decide +kernel
theorem dX7_init_107 : decode cX7_init 107 = .ok (.iinc 1 1, 3) := by decide +kernel
theorem dX7_init_110 : decode cX7_init 110 = .ok (.goto (-25), 3) := by decide +kernel
theorem dX7_init_113 : decode cX7_init 113 = .ok (.return_, 1) := by decide +kernel
set_option maxRecDepth 20000 in
theorem ggX7_realm_X7_sheetOf : GoodIn wsX7_realm wsX7_sheetOf := goodIn_r _ [11, 12, 85, 86, 87, 88, 89, 90, 91, 92] (by decide +kernel) (by decide +kernel)
set_option maxRecDepth 20000 in
theorem gX7_realm_X7_sheetOf : GoodIn wsX7_realm (wsV RX7 64 RX7 yX7_sheetOf wsX7_sheetOf) := goodIn_app (goodIn_of _ (by decide +kernel)) ggX7_realm_X7_sheetOf
set_option maxRecDepth 20000 in
theorem ggX7_realm_X7_isBelow : GoodIn wsX7_realm wsX7_isBelow := goodIn_r _ [15] (by decide +kernel) (by decide +kernel)
set_option maxRecDepth 20000 in
theorem gX7_realm_X7_isBelow : GoodIn wsX7_realm (va_wsS RX7 68 yX7_isBelow wsX7_isBelow) := goodIn_app (goodIn_of _ (by decide +kernel)) ggX7_realm_X7_isBelow
set_option maxRecDepth 20000 in
theorem ggX7_realm_X4_faultOfCells : GoodIn wsX7_realm wsX4_faultOfCells := goodIn_r _ [20, 21, 22, 23, 24, 25, 19, 26, 27, 104, 105, 106, 107] (by decide +kernel) (by decide +kernel)
set_option maxRecDepth 20000 in
theorem gX7_realm_X4_faultOfCells : GoodIn wsX7_realm (wsV RX7 72 RX4 yX4_faultOfCells wsX4_faultOfCells) := goodIn_app (goodIn_of _ (by decide +kernel)) ggX7_realm_X4_faultOfCells
set_option maxRecDepth 20000 in
theorem ggX7_realm_X7_faulted : GoodIn wsX7_realm wsX7_faulted := goodIn_r _ [31, 1, 85, 86, 87, 88, 89, 90, 91, 92] (by decide +kernel) (by decide +kernel)
set_option maxRecDepth 20000 in
theorem gX7_realm_X7_faulted : GoodIn wsX7_realm (wsV RX7 76 RX7 yX7_faulted wsX7_faulted) := goodIn_app (goodIn_of _ (by decide +kernel)) ggX7_realm_X7_faulted
set_option maxRecDepth 20000 in
theorem ggX7_realm_X3_firstFault : GoodIn wsX7_realm wsX3_firstFault := goodIn_r _ [36, 37, 38, 39, 40, 41, 42, 43, 35, 44, 14, 10, 15, 45, 46, 47, 19, 48, 49, 50, 51, 52, 53, 54, 55, 56, 57, 58, 59, 60, 61, 62, 63, 64, 65, 66, 67, 108, 109, 110, 111, 112, 104, 105, 106, 107] (by decide +kernel) (by decide +kernel)
set_option maxRecDepth 20000 in
theorem gX7_realm_X3_firstFault : GoodIn wsX7_realm (wsV RX7 80 RX3 yX3_firstFault wsX3_firstFault) := goodIn_app (goodIn_of _ (by decide +kernel)) ggX7_realm_X3_firstFault
set_option maxRecDepth 20000 in
theorem ggX7_realm_X3_fill : GoodIn wsX7_realm wsX3_fill := goodIn_r _ [71, 40, 72, 60, 73, 74, 75, 76, 77, 78, 79, 80, 81, 35, 82, 41, 42, 43, 44, 37, 39, 38, 14, 10, 15, 45, 46, 47, 19, 48, 49, 50, 51, 83, 84, 61, 62, 63, 64, 65, 66, 67, 108, 109, 110, 111, 112, 97, 98, 99, 100, 101, 102, 103, 104, 105, 106, 107] (by decide +kernel) (by decide +kernel)
set_option maxRecDepth 20000 in
theorem gX7_realm_X3_fill : GoodIn wsX7_realm (wsV RX7 84 RX3 yX3_fill wsX3_fill) := goodIn_app (goodIn_of _ (by decide +kernel)) ggX7_realm_X3_fill
theorem dX7_realm_0 : decode cX7_realm 0 = .ok (.aload_n 0, 1) := by decide +kernel
theorem dX7_realm_1 : decode cX7_realm 1 = .ok (.iconst 0, 1) := by decide +kernel
theorem dX7_realm_2 : decode cX7_realm 2 = .ok (.putfield 59, 3) := by decide +kernel
theorem dX7_realm_5 : decode cX7_realm 5 = .ok (.aload_n 0, 1) := by decide +kernel
theorem dX7_realm_6 : decode cX7_realm 6 = .ok (.iload_n 1, 1) := by decide +kernel
theorem dX7_realm_7 : decode cX7_realm 7 = .ok (.invokevirtual 64, 3) := by decide +kernel
theorem dX7_realm_10 : decode cX7_realm 10 = .ok (.astore 5, 2) := by decide +kernel
theorem dX7_realm_12 : decode cX7_realm 12 = .ok (.aload 5, 2) := by decide +kernel
theorem dX7_realm_14 : decode cX7_realm 14 = .ok (.ifnonnull 5, 3) := by decide +kernel
theorem dX7_realm_17 : decode cX7_realm 17 = .ok (.iconst (-1), 1) := by decide +kernel
theorem dX7_realm_18 : decode cX7_realm 18 = .ok (.ireturn, 1) := by decide +kernel
theorem dX7_realm_19 : decode cX7_realm 19 = .ok (.iload_n 2, 1) := by decide +kernel
theorem dX7_realm_20 : decode cX7_realm 20 = .ok (.iconst 3, 1) := by decide +kernel
theorem dX7_realm_21 : decode cX7_realm 21 = .ok (.invokestatic 68, 3) := by decide +kernel
theorem dX7_realm_24 : decode cX7_realm 24 = .ok (.ifCond .ne 6, 3) := by decide +kernel
theorem dX7_realm_27 : decode cX7_realm 27 = .ok (.bipush (-2), 2) := by decide +kernel
theorem dX7_realm_29 : decode cX7_realm 29 = .ok (.ireturn, 1) := by decide +kernel
theorem dX7_realm_30 : decode cX7_realm 30 = .ok (.aload 5, 2) := by decide +kernel
theorem dX7_realm_32 : decode cX7_realm 32 = .ok (.iload_n 2, 1) := by decide +kernel
theorem dX7_realm_33 : decode cX7_realm 33 = .ok (.iload_n 3, 1) := by decide +kernel
theorem dX7_realm_34 : decode cX7_realm 34 = .ok (.iload 4, 2) := by decide +kernel
theorem dX7_realm_36 : decode cX7_realm 36 = .ok (.invokevirtual 72, 3) := by decide +kernel
theorem dX7_realm_39 : decode cX7_realm 39 = .ok (.istore 6, 2) := by decide +kernel
theorem dX7_realm_41 : decode cX7_realm 41 = .ok (.iload 6, 2) := by decide +kernel
theorem dX7_realm_43 : decode cX7_realm 43 = .ok (.ifCond .eq 10, 3) := by decide +kernel
theorem dX7_realm_46 : decode cX7_realm 46 = .ok (.aload_n 0, 1) := by decide +kernel
theorem dX7_realm_47 : decode cX7_realm 47 = .ok (.iload 6, 2) := by decide +kernel
theorem dX7_realm_49 : decode cX7_realm 49 = .ok (.invokevirtual 76, 3) := by decide +kernel
theorem dX7_realm_52 : decode cX7_realm 52 = .ok (.ireturn, 1) := by decide +kernel
theorem dX7_realm_53 : decode cX7_realm 53 = .ok (.aload_n 0, 1) := by decide +kernel
theorem dX7_realm_54 : decode cX7_realm 54 = .ok (.getfield 21, 3) := by decide +kernel
theorem dX7_realm_57 : decode cX7_realm 57 = .ok (.aload 5, 2) := by decide +kernel
theorem dX7_realm_59 : decode cX7_realm 59 = .ok (.iload_n 3, 1) := by decide +kernel
theorem dX7_realm_60 : decode cX7_realm 60 = .ok (.iload 4, 2) := by decide +kernel
theorem dX7_realm_62 : decode cX7_realm 62 = .ok (.invokevirtual 80, 3) := by decide +kernel
theorem dX7_realm_65 : decode cX7_realm 65 = .ok (.istore 7, 2) := by decide +kernel
theorem dX7_realm_67 : decode cX7_realm 67 = .ok (.iload 7, 2) := by decide +kernel
theorem dX7_realm_69 : decode cX7_realm 69 = .ok (.bipush (-9), 2) := by decide +kernel
theorem dX7_realm_71 : decode cX7_realm 71 = .ok (.if_icmp .eq 9, 3) := by decide +kernel
theorem dX7_realm_74 : decode cX7_realm 74 = .ok (.bipush (-100), 2) := by decide +kernel
theorem dX7_realm_76 : decode cX7_realm 76 = .ok (.iload 7, 2) := by decide +kernel
theorem dX7_realm_78 : decode cX7_realm 78 = .ok (.isub, 1) := by decide +kernel
theorem dX7_realm_79 : decode cX7_realm 79 = .ok (.ireturn, 1) := by decide +kernel
theorem dX7_realm_80 : decode cX7_realm 80 = .ok (.aload_n 0, 1) := by decide +kernel
theorem dX7_realm_81 : decode cX7_realm 81 = .ok (.getfield 21, 3) := by decide +kernel
theorem dX7_realm_84 : decode cX7_realm 84 = .ok (.aload_n 0, 1) := by decide +kernel
theorem dX7_realm_85 : decode cX7_realm 85 = .ok (.getfield 12, 3) := by decide +kernel
theorem dX7_realm_88 : decode cX7_realm 88 = .ok (.invokevirtual 84, 3) := by decide +kernel
theorem dX7_realm_91 : decode cX7_realm 91 = .ok (.aload_n 0, 1) := by decide +kernel
theorem dX7_realm_92 : decode cX7_realm 92 = .ok (.getfield 42, 3) := by decide +kernel
theorem dX7_realm_95 : decode cX7_realm 95 = .ok (.iconst 0, 1) := by decide +kernel
theorem dX7_realm_96 : decode cX7_realm 96 = .ok (.putfield 88, 3) := by decide +kernel
theorem dX7_realm_99 : decode cX7_realm 99 = .ok (.aload_n 0, 1) := by decide +kernel
theorem dX7_realm_100 : decode cX7_realm 100 = .ok (.getfield 12, 3) := by decide +kernel
theorem dX7_realm_103 : decode cX7_realm 103 = .ok (.getfield 91, 3) := by decide +kernel
theorem dX7_realm_106 : decode cX7_realm 106 = .ok (.ireturn, 1) := by decide +kernel
set_option maxRecDepth 20000 in
theorem ggX7_ofLinen_X2_hasLinen : GoodIn wsX7_ofLinen wsX2_hasLinen := goodIn_r _ [9, 10, 11, 12, 13, 25, 26, 27, 28, 29, 30, 31] (by decide +kernel) (by decide +kernel)
set_option maxRecDepth 20000 in
theorem gX7_ofLinen_X2_hasLinen : GoodIn wsX7_ofLinen (wsV RX7 94 RX2 yX2_hasLinen wsX2_hasLinen) := goodIn_app (goodIn_of _ (by decide +kernel)) ggX7_ofLinen_X2_hasLinen
set_option maxRecDepth 20000 in
theorem ggX7_ofLinen_X7_at : GoodIn wsX7_ofLinen wsX7_at := goodIn_r _ [16] (by decide +kernel) (by decide +kernel)
set_option maxRecDepth 20000 in
theorem gX7_ofLinen_X7_at : GoodIn wsX7_ofLinen (va_wsS RX7 102 yX7_at wsX7_at) := goodIn_app (goodIn_of _ (by decide +kernel)) ggX7_ofLinen_X7_at
theorem dX7_ofLinen_0 : decode cX7_ofLinen 0 = .ok (.aload_n 0, 1) := by decide +kernel
theorem dX7_ofLinen_1 : decode cX7_ofLinen 1 = .ok (.getfield 12, 3) := by decide +kernel
theorem dX7_ofLinen_4 : decode cX7_ofLinen 4 = .ok (.iload_n 1, 1) := by decide +kernel
theorem dX7_ofLinen_5 : decode cX7_ofLinen 5 = .ok (.invokevirtual 94, 3) := by decide +kernel
theorem dX7_ofLinen_8 : decode cX7_ofLinen 8 = .ok (.ifCond .ne 5, 3) := by decide +kernel
theorem dX7_ofLinen_11 : decode cX7_ofLinen 11 = .ok (.iconst (-1), 1) := by decide +kernel
theorem dX7_ofLinen_12 : decode cX7_ofLinen 12 = .ok (.ireturn, 1) := by decide +kernel
theorem dX7_ofLinen_13 : decode cX7_ofLinen 13 = .ok (.iload_n 2, 1) := by decide +kernel
theorem dX7_ofLinen_14 : decode cX7_ofLinen 14 = .ok (.ifCond .ne 15, 3) := by decide +kernel
theorem dX7_ofLinen_17 : decode cX7_ofLinen 17 = .ok (.aload_n 0, 1) := by decide +kernel
theorem dX7_ofLinen_18 : decode cX7_ofLinen 18 = .ok (.getfield 12, 3) := by decide +kernel
theorem dX7_ofLinen_21 : decode cX7_ofLinen 21 = .ok (.getfield 98, 3) := by decide +kernel
theorem dX7_ofLinen_24 : decode cX7_ofLinen 24 = .ok (.iload_n 1, 1) := by decide +kernel
theorem dX7_ofLinen_25 : decode cX7_ofLinen 25 = .ok (.invokestatic 102, 3) := by decide +kernel
theorem dX7_ofLinen_28 : decode cX7_ofLinen 28 = .ok (.ireturn, 1) := by decide +kernel
theorem dX7_ofLinen_29 : decode cX7_ofLinen 29 = .ok (.iload_n 2, 1) := by decide +kernel
theorem dX7_ofLinen_30 : decode cX7_ofLinen 30 = .ok (.iconst 1, 1) := by decide +kernel
theorem dX7_ofLinen_31 : decode cX7_ofLinen 31 = .ok (.if_icmp .ne 15, 3) := by decide +kernel
theorem dX7_ofLinen_34 : decode cX7_ofLinen 34 = .ok (.aload_n 0, 1) := by decide +kernel
theorem dX7_ofLinen_35 : decode cX7_ofLinen 35 = .ok (.getfield 12, 3) := by decide +kernel
theorem dX7_ofLinen_38 : decode cX7_ofLinen 38 = .ok (.getfield 106, 3) := by decide +kernel
theorem dX7_ofLinen_41 : decode cX7_ofLinen 41 = .ok (.iload_n 1, 1) := by decide +kernel
theorem dX7_ofLinen_42 : decode cX7_ofLinen 42 = .ok (.invokestatic 102, 3) := by decide +kernel
theorem dX7_ofLinen_45 : decode cX7_ofLinen 45 = .ok (.ireturn, 1) := by decide +kernel
theorem dX7_ofLinen_46 : decode cX7_ofLinen 46 = .ok (.iload_n 2, 1) := by decide +kernel
theorem dX7_ofLinen_47 : decode cX7_ofLinen 47 = .ok (.iconst 2, 1) := by decide +kernel
theorem dX7_ofLinen_48 : decode cX7_ofLinen 48 = .ok (.if_icmp .ne 17, 3) := by decide +kernel
theorem dX7_ofLinen_51 : decode cX7_ofLinen 51 = .ok (.aload_n 0, 1) := by decide +kernel
theorem dX7_ofLinen_52 : decode cX7_ofLinen 52 = .ok (.getfield 12, 3) := by decide +kernel
theorem dX7_ofLinen_55 : decode cX7_ofLinen 55 = .ok (.getfield 109, 3) := by decide +kernel
theorem dX7_ofLinen_58 : decode cX7_ofLinen 58 = .ok (.iload_n 1, 1) := by decide +kernel
theorem dX7_ofLinen_59 : decode cX7_ofLinen 59 = .ok (.invokestatic 102, 3) := by decide +kernel
theorem dX7_ofLinen_62 : decode cX7_ofLinen 62 = .ok (.goto 5, 3) := by decide +kernel
theorem dX7_ofLinen_65 : decode cX7_ofLinen 65 = .ok (.bipush (-2), 2) := by decide +kernel
theorem dX7_ofLinen_67 : decode cX7_ofLinen 67 = .ok (.ireturn, 1) := by decide +kernel
set_option maxRecDepth 20000 in
theorem ggX7_heat_X2_hasDay : GoodIn wsX7_heat wsX2_hasDay := goodIn_r _ [7, 8, 9, 10, 11, 23, 24, 25, 26, 27, 28, 29] (by decide +kernel) (by decide +kernel)
set_option maxRecDepth 20000 in
theorem gX7_heat_X2_hasDay : GoodIn wsX7_heat (wsV RX7 112 RX2 yX2_hasDay wsX2_hasDay) := goodIn_app (goodIn_of _ (by decide +kernel)) ggX7_heat_X2_hasDay
set_option maxRecDepth 20000 in
theorem ggX7_heat_X7_at : GoodIn wsX7_heat wsX7_at := goodIn_r _ [14] (by decide +kernel) (by decide +kernel)
set_option maxRecDepth 20000 in
theorem gX7_heat_X7_at : GoodIn wsX7_heat (va_wsS RX7 102 yX7_at wsX7_at) := goodIn_app (goodIn_of _ (by decide +kernel)) ggX7_heat_X7_at
theorem dX7_heat_0 : decode cX7_heat 0 = .ok (.aload_n 0, 1) := by decide +kernel
theorem dX7_heat_1 : decode cX7_heat 1 = .ok (.getfield 12, 3) := by decide +kernel
theorem dX7_heat_4 : decode cX7_heat 4 = .ok (.iload_n 1, 1) := by decide +kernel
theorem dX7_heat_5 : decode cX7_heat 5 = .ok (.invokevirtual 112, 3) := by decide +kernel
theorem dX7_heat_8 : decode cX7_heat 8 = .ok (.ifCond .eq 17, 3) := by decide +kernel
theorem dX7_heat_11 : decode cX7_heat 11 = .ok (.aload_n 0, 1) := by decide +kernel
theorem dX7_heat_12 : decode cX7_heat 12 = .ok (.getfield 12, 3) := by decide +kernel
theorem dX7_heat_15 : decode cX7_heat 15 = .ok (.getfield 115, 3) := by decide +kernel
theorem dX7_heat_18 : decode cX7_heat 18 = .ok (.iload_n 1, 1) := by decide +kernel
theorem dX7_heat_19 : decode cX7_heat 19 = .ok (.invokestatic 102, 3) := by decide +kernel
theorem dX7_heat_22 : decode cX7_heat 22 = .ok (.goto 4, 3) := by decide +kernel
theorem dX7_heat_25 : decode cX7_heat 25 = .ok (.iconst (-1), 1) := by decide +kernel
theorem dX7_heat_26 : decode cX7_heat 26 = .ok (.ireturn, 1) := by decide +kernel
set_option maxRecDepth 20000 in
theorem ggX7_warm_X2_hasDay : GoodIn wsX7_warm wsX2_hasDay := goodIn_r _ [7, 8, 9, 10, 11, 30, 31, 32, 33, 34, 35, 36] (by decide +kernel) (by decide +kernel)
set_option maxRecDepth 20000 in
theorem gX7_warm_X2_hasDay : GoodIn wsX7_warm (wsV RX7 112 RX2 yX2_hasDay wsX2_hasDay) := goodIn_app (goodIn_of _ (by decide +kernel)) ggX7_warm_X2_hasDay
set_option maxRecDepth 20000 in
theorem ggX7_warm_X7_isBelow : GoodIn wsX7_warm wsX7_isBelow := goodIn_r _ [11] (by decide +kernel) (by decide +kernel)
set_option maxRecDepth 20000 in
theorem gX7_warm_X7_isBelow : GoodIn wsX7_warm (va_wsS RX7 68 yX7_isBelow wsX7_isBelow) := goodIn_app (goodIn_of _ (by decide +kernel)) ggX7_warm_X7_isBelow
set_option maxRecDepth 20000 in
theorem ggX7_warm_X7_exchange : GoodIn wsX7_warm wsX7_exchange := goodIn_r _ [15, 16, 17, 10, 18, 19, 20, 21] (by decide +kernel) (by decide +kernel)
set_option maxRecDepth 20000 in
theorem gX7_warm_X7_exchange : GoodIn wsX7_warm (va_wsS RX7 118 yX7_exchange wsX7_exchange) := goodIn_app (goodIn_of _ (by decide +kernel)) ggX7_warm_X7_exchange
theorem dX7_warm_0 : decode cX7_warm 0 = .ok (.aload_n 0, 1) := by decide +kernel
theorem dX7_warm_1 : decode cX7_warm 1 = .ok (.getfield 12, 3) := by decide +kernel
theorem dX7_warm_4 : decode cX7_warm 4 = .ok (.iload_n 1, 1) := by decide +kernel
theorem dX7_warm_5 : decode cX7_warm 5 = .ok (.invokevirtual 112, 3) := by decide +kernel
theorem dX7_warm_8 : decode cX7_warm 8 = .ok (.ifCond .ne 5, 3) := by decide +kernel
theorem dX7_warm_11 : decode cX7_warm 11 = .ok (.iconst (-1), 1) := by decide +kernel
theorem dX7_warm_12 : decode cX7_warm 12 = .ok (.ireturn, 1) := by decide +kernel
theorem dX7_warm_13 : decode cX7_warm 13 = .ok (.iload_n 2, 1) := by decide +kernel
theorem dX7_warm_14 : decode cX7_warm 14 = .ok (.bipush 10, 2) := by decide +kernel
theorem dX7_warm_16 : decode cX7_warm 16 = .ok (.invokestatic 68, 3) := by decide +kernel
theorem dX7_warm_19 : decode cX7_warm 19 = .ok (.ifCond .eq 18, 3) := by decide +kernel
theorem dX7_warm_22 : decode cX7_warm 22 = .ok (.aload_n 0, 1) := by decide +kernel
theorem dX7_warm_23 : decode cX7_warm 23 = .ok (.getfield 12, 3) := by decide +kernel
theorem dX7_warm_26 : decode cX7_warm 26 = .ok (.getfield 115, 3) := by decide +kernel
theorem dX7_warm_29 : decode cX7_warm 29 = .ok (.iload_n 1, 1) := by decide +kernel
theorem dX7_warm_30 : decode cX7_warm 30 = .ok (.iload_n 2, 1) := by decide +kernel
theorem dX7_warm_31 : decode cX7_warm 31 = .ok (.invokestatic 118, 3) := by decide +kernel
theorem dX7_warm_34 : decode cX7_warm 34 = .ok (.goto 5, 3) := by decide +kernel
theorem dX7_warm_37 : decode cX7_warm 37 = .ok (.bipush (-2), 2) := by decide +kernel
theorem dX7_warm_39 : decode cX7_warm 39 = .ok (.ireturn, 1) := by decide +kernel
set_option maxRecDepth 20000 in
theorem ggX7_grieve_X7_isBelow : GoodIn wsX7_grieve wsX7_isBelow := goodIn_r _ [6] (by decide +kernel) (by decide +kernel)
set_option maxRecDepth 20000 in
theorem gX7_grieve_X7_isBelow : GoodIn wsX7_grieve (va_wsS RX7 68 yX7_isBelow wsX7_isBelow) := goodIn_app (goodIn_of _ (by decide +kernel)) ggX7_grieve_X7_isBelow
set_option maxRecDepth 20000 in
theorem ggX7_grieve_X2_stands : GoodIn wsX7_grieve wsX2_stands := goodIn_r _ [11, 12, 30, 31, 32, 33, 34, 35, 36] (by decide +kernel) (by decide +kernel)
set_option maxRecDepth 20000 in
theorem gX7_grieve_X2_stands : GoodIn wsX7_grieve (wsV RX7 122 RX2 yX2_stands wsX2_stands) := goodIn_app (goodIn_of _ (by decide +kernel)) ggX7_grieve_X2_stands
set_option maxRecDepth 20000 in
theorem ggX7_grieve_X7_exchange : GoodIn wsX7_grieve wsX7_exchange := goodIn_r _ [15, 16, 17, 5, 18, 19, 20, 21] (by decide +kernel) (by decide +kernel)
set_option maxRecDepth 20000 in
theorem gX7_grieve_X7_exchange : GoodIn wsX7_grieve (va_wsS RX7 118 yX7_exchange wsX7_exchange) := goodIn_app (goodIn_of _ (by decide +kernel)) ggX7_grieve_X7_exchange
theorem dX7_grieve_0 : decode cX7_grieve 0 = .ok (.iload_n 1, 1) := by decide +kernel
theorem dX7_grieve_1 : decode cX7_grieve 1 = .ok (.iconst 4, 1) := by decide +kernel
theorem dX7_grieve_2 : decode cX7_grieve 2 = .ok (.invokestatic 68, 3) := by decide +kernel
theorem dX7_grieve_5 : decode cX7_grieve 5 = .ok (.ifCond .ne 5, 3) := by decide +kernel
theorem dX7_grieve_8 : decode cX7_grieve 8 = .ok (.iconst (-1), 1) := by decide +kernel
theorem dX7_grieve_9 : decode cX7_grieve 9 = .ok (.ireturn, 1) := by decide +kernel
theorem dX7_grieve_10 : decode cX7_grieve 10 = .ok (.iload_n 2, 1) := by decide +kernel
theorem dX7_grieve_11 : decode cX7_grieve 11 = .ok (.bipush 10, 2) := by decide +kernel
theorem dX7_grieve_13 : decode cX7_grieve 13 = .ok (.invokestatic 68, 3) := by decide +kernel
theorem dX7_grieve_16 : decode cX7_grieve 16 = .ok (.ifCond .ne 6, 3) := by decide +kernel
theorem dX7_grieve_19 : decode cX7_grieve 19 = .ok (.bipush (-2), 2) := by decide +kernel
theorem dX7_grieve_21 : decode cX7_grieve 21 = .ok (.ireturn, 1) := by decide +kernel
theorem dX7_grieve_22 : decode cX7_grieve 22 = .ok (.aload_n 0, 1) := by decide +kernel
theorem dX7_grieve_23 : decode cX7_grieve 23 = .ok (.getfield 12, 3) := by decide +kernel
theorem dX7_grieve_26 : decode cX7_grieve 26 = .ok (.invokevirtual 122, 3) := by decide +kernel
theorem dX7_grieve_29 : decode cX7_grieve 29 = .ok (.ifCond .eq 18, 3) := by decide +kernel
theorem dX7_grieve_32 : decode cX7_grieve 32 = .ok (.aload_n 0, 1) := by decide +kernel
theorem dX7_grieve_33 : decode cX7_grieve 33 = .ok (.getfield 12, 3) := by decide +kernel
theorem dX7_grieve_36 : decode cX7_grieve 36 = .ok (.getfield 126, 3) := by decide +kernel
theorem dX7_grieve_39 : decode cX7_grieve 39 = .ok (.iload_n 1, 1) := by decide +kernel
theorem dX7_grieve_40 : decode cX7_grieve 40 = .ok (.iload_n 2, 1) := by decide +kernel
theorem dX7_grieve_41 : decode cX7_grieve 41 = .ok (.invokestatic 118, 3) := by decide +kernel
theorem dX7_grieve_44 : decode cX7_grieve 44 = .ok (.goto 5, 3) := by decide +kernel
theorem dX7_grieve_47 : decode cX7_grieve 47 = .ok (.bipush (-3), 2) := by decide +kernel
theorem dX7_grieve_49 : decode cX7_grieve 49 = .ok (.ireturn, 1) := by decide +kernel
set_option maxRecDepth 20000 in
theorem ggX7_give_X2_hasLinen : GoodIn wsX7_give wsX2_hasLinen := goodIn_r _ [7, 8, 9, 10, 11, 30, 31, 32, 33, 34, 35, 36] (by decide +kernel) (by decide +kernel)
set_option maxRecDepth 20000 in
theorem gX7_give_X2_hasLinen : GoodIn wsX7_give (wsV RX7 94 RX2 yX2_hasLinen wsX2_hasLinen) := goodIn_app (goodIn_of _ (by decide +kernel)) ggX7_give_X2_hasLinen
set_option maxRecDepth 20000 in
theorem ggX7_give_X7_isBelow : GoodIn wsX7_give wsX7_isBelow := goodIn_r _ [11] (by decide +kernel) (by decide +kernel)
set_option maxRecDepth 20000 in
theorem gX7_give_X7_isBelow : GoodIn wsX7_give (va_wsS RX7 68 yX7_isBelow wsX7_isBelow) := goodIn_app (goodIn_of _ (by decide +kernel)) ggX7_give_X7_isBelow
set_option maxRecDepth 20000 in
theorem ggX7_give_X7_exchange : GoodIn wsX7_give wsX7_exchange := goodIn_r _ [15, 16, 17, 10, 18, 19, 20, 21] (by decide +kernel) (by decide +kernel)
set_option maxRecDepth 20000 in
theorem gX7_give_X7_exchange : GoodIn wsX7_give (va_wsS RX7 118 yX7_exchange wsX7_exchange) := goodIn_app (goodIn_of _ (by decide +kernel)) ggX7_give_X7_exchange
theorem dX7_give_0 : decode cX7_give 0 = .ok (.aload_n 0, 1) := by decide +kernel
theorem dX7_give_1 : decode cX7_give 1 = .ok (.getfield 12, 3) := by decide +kernel
theorem dX7_give_4 : decode cX7_give 4 = .ok (.iload_n 1, 1) := by decide +kernel
theorem dX7_give_5 : decode cX7_give 5 = .ok (.invokevirtual 94, 3) := by decide +kernel
theorem dX7_give_8 : decode cX7_give 8 = .ok (.ifCond .eq 11, 3) := by decide +kernel
theorem dX7_give_11 : decode cX7_give 11 = .ok (.iload_n 2, 1) := by decide +kernel
theorem dX7_give_12 : decode cX7_give 12 = .ok (.iconst 4, 1) := by decide +kernel
theorem dX7_give_13 : decode cX7_give 13 = .ok (.invokestatic 68, 3) := by decide +kernel
theorem dX7_give_16 : decode cX7_give 16 = .ok (.ifCond .ne 5, 3) := by decide +kernel
theorem dX7_give_19 : decode cX7_give 19 = .ok (.iconst (-1), 1) := by decide +kernel
theorem dX7_give_20 : decode cX7_give 20 = .ok (.ireturn, 1) := by decide +kernel
theorem dX7_give_21 : decode cX7_give 21 = .ok (.aload_n 0, 1) := by decide +kernel
theorem dX7_give_22 : decode cX7_give 22 = .ok (.getfield 12, 3) := by decide +kernel
theorem dX7_give_25 : decode cX7_give 25 = .ok (.getfield 106, 3) := by decide +kernel
theorem dX7_give_28 : decode cX7_give 28 = .ok (.iload_n 1, 1) := by decide +kernel
theorem dX7_give_29 : decode cX7_give 29 = .ok (.iload_n 2, 1) := by decide +kernel
theorem dX7_give_30 : decode cX7_give 30 = .ok (.invokestatic 118, 3) := by decide +kernel
theorem dX7_give_33 : decode cX7_give 33 = .ok (.ireturn, 1) := by decide +kernel
set_option maxRecDepth 20000 in
theorem ggX7_dries_X2_hasLinen : GoodIn wsX7_dries wsX2_hasLinen := goodIn_r _ [6, 7, 8, 9, 10, 36, 37, 38, 39, 40, 41, 42] (by decide +kernel) (by decide +kernel)
set_option maxRecDepth 20000 in
theorem gX7_dries_X2_hasLinen : GoodIn wsX7_dries (wsV RX7 94 RX2 yX2_hasLinen wsX2_hasLinen) := goodIn_app (goodIn_of _ (by decide +kernel)) ggX7_dries_X2_hasLinen
set_option maxRecDepth 20000 in
theorem ggX7_dries_X2_hasDay : GoodIn wsX7_dries wsX2_hasDay := goodIn_r _ [14, 15, 8, 9, 10, 36, 37, 38, 39, 40, 41, 42] (by decide +kernel) (by decide +kernel)
set_option maxRecDepth 20000 in
theorem gX7_dries_X2_hasDay : GoodIn wsX7_dries (wsV RX7 112 RX2 yX2_hasDay wsX2_hasDay) := goodIn_app (goodIn_of _ (by decide +kernel)) ggX7_dries_X2_hasDay
set_option maxRecDepth 20000 in
theorem ggX7_dries_X2_drying : GoodIn wsX7_dries wsX2_drying := goodIn_r _ [19, 20, 21, 22, 9, 23, 24, 25, 26, 5, 27, 36, 37, 38, 39, 40, 41, 42] (by decide +kernel) (by decide +kernel)
set_option maxRecDepth 20000 in
theorem gX7_dries_X2_drying : GoodIn wsX7_dries (wsV RX7 129 RX2 yX2_drying wsX2_drying) := goodIn_app (goodIn_of _ (by decide +kernel)) ggX7_dries_X2_drying
theorem dX7_dries_0 : decode cX7_dries 0 = .ok (.aload_n 0, 1) := by decide +kernel
theorem dX7_dries_1 : decode cX7_dries 1 = .ok (.getfield 12, 3) := by decide +kernel
theorem dX7_dries_4 : decode cX7_dries 4 = .ok (.iload_n 1, 1) := by decide +kernel
theorem dX7_dries_5 : decode cX7_dries 5 = .ok (.invokevirtual 94, 3) := by decide +kernel
theorem dX7_dries_8 : decode cX7_dries 8 = .ok (.ifCond .eq 14, 3) := by decide +kernel
theorem dX7_dries_11 : decode cX7_dries 11 = .ok (.aload_n 0, 1) := by decide +kernel
theorem dX7_dries_12 : decode cX7_dries 12 = .ok (.getfield 12, 3) := by decide +kernel
theorem dX7_dries_15 : decode cX7_dries 15 = .ok (.iload_n 2, 1) := by decide +kernel
theorem dX7_dries_16 : decode cX7_dries 16 = .ok (.invokevirtual 112, 3) := by decide +kernel
theorem dX7_dries_19 : decode cX7_dries 19 = .ok (.ifCond .ne 5, 3) := by decide +kernel
theorem dX7_dries_22 : decode cX7_dries 22 = .ok (.iconst (-1), 1) := by decide +kernel
theorem dX7_dries_23 : decode cX7_dries 23 = .ok (.ireturn, 1) := by decide +kernel
theorem dX7_dries_24 : decode cX7_dries 24 = .ok (.aload_n 0, 1) := by decide +kernel
theorem dX7_dries_25 : decode cX7_dries 25 = .ok (.getfield 12, 3) := by decide +kernel
theorem dX7_dries_28 : decode cX7_dries 28 = .ok (.iload_n 1, 1) := by decide +kernel
theorem dX7_dries_29 : decode cX7_dries 29 = .ok (.iload_n 2, 1) := by decide +kernel
theorem dX7_dries_30 : decode cX7_dries 30 = .ok (.invokevirtual 129, 3) := by decide +kernel
theorem dX7_dries_33 : decode cX7_dries 33 = .ok (.ireturn, 1) := by decide +kernel
set_option maxRecDepth 20000 in
theorem ggX7_damp_X2_hasLinen : GoodIn wsX7_damp wsX2_hasLinen := goodIn_r _ [6, 7, 8, 9, 10, 45, 46, 47, 48, 49, 50, 51] (by decide +kernel) (by decide +kernel)
set_option maxRecDepth 20000 in
theorem gX7_damp_X2_hasLinen : GoodIn wsX7_damp (wsV RX7 94 RX2 yX2_hasLinen wsX2_hasLinen) := goodIn_app (goodIn_of _ (by decide +kernel)) ggX7_damp_X2_hasLinen
set_option maxRecDepth 20000 in
theorem ggX7_damp_X2_hasEvenings : GoodIn wsX7_damp wsX2_hasEvenings := goodIn_r _ [14, 15, 45, 46, 47, 48, 49, 50, 51] (by decide +kernel) (by decide +kernel)
set_option maxRecDepth 20000 in
theorem gX7_damp_X2_hasEvenings : GoodIn wsX7_damp (wsV RX7 133 RX2 yX2_hasEvenings wsX2_hasEvenings) := goodIn_app (goodIn_of _ (by decide +kernel)) ggX7_damp_X2_hasEvenings
set_option maxRecDepth 20000 in
theorem ggX7_damp_X2_dampBehind : GoodIn wsX7_damp wsX2_dampBehind := goodIn_r _ [19, 20, 21, 22, 5, 23, 24, 15, 25, 26, 27, 28, 29, 30, 31, 9, 32, 33, 34, 35, 36, 45, 46, 47, 48, 49, 50, 51] (by decide +kernel) (by decide +kernel)
set_option maxRecDepth 20000 in
theorem gX7_damp_X2_dampBehind : GoodIn wsX7_damp (wsV RX7 136 RX2 yX2_dampBehind wsX2_dampBehind) := goodIn_app (goodIn_of _ (by decide +kernel)) ggX7_damp_X2_dampBehind
theorem dX7_damp_0 : decode cX7_damp 0 = .ok (.aload_n 0, 1) := by decide +kernel
theorem dX7_damp_1 : decode cX7_damp 1 = .ok (.getfield 12, 3) := by decide +kernel
theorem dX7_damp_4 : decode cX7_damp 4 = .ok (.iload_n 1, 1) := by decide +kernel
theorem dX7_damp_5 : decode cX7_damp 5 = .ok (.invokevirtual 94, 3) := by decide +kernel
theorem dX7_damp_8 : decode cX7_damp 8 = .ok (.ifCond .ne 5, 3) := by decide +kernel
theorem dX7_damp_11 : decode cX7_damp 11 = .ok (.iconst (-1), 1) := by decide +kernel
theorem dX7_damp_12 : decode cX7_damp 12 = .ok (.ireturn, 1) := by decide +kernel
theorem dX7_damp_13 : decode cX7_damp 13 = .ok (.aload_n 0, 1) := by decide +kernel
theorem dX7_damp_14 : decode cX7_damp 14 = .ok (.getfield 12, 3) := by decide +kernel
theorem dX7_damp_17 : decode cX7_damp 17 = .ok (.iload_n 2, 1) := by decide +kernel
theorem dX7_damp_18 : decode cX7_damp 18 = .ok (.invokevirtual 133, 3) := by decide +kernel
theorem dX7_damp_21 : decode cX7_damp 21 = .ok (.ifCond .eq 15, 3) := by decide +kernel
theorem dX7_damp_24 : decode cX7_damp 24 = .ok (.aload_n 0, 1) := by decide +kernel
theorem dX7_damp_25 : decode cX7_damp 25 = .ok (.getfield 12, 3) := by decide +kernel
theorem dX7_damp_28 : decode cX7_damp 28 = .ok (.iload_n 1, 1) := by decide +kernel
theorem dX7_damp_29 : decode cX7_damp 29 = .ok (.iload_n 2, 1) := by decide +kernel
theorem dX7_damp_30 : decode cX7_damp 30 = .ok (.invokevirtual 136, 3) := by decide +kernel
theorem dX7_damp_33 : decode cX7_damp 33 = .ok (.goto 5, 3) := by decide +kernel
theorem dX7_damp_36 : decode cX7_damp 36 = .ok (.bipush (-2), 2) := by decide +kernel
theorem dX7_damp_38 : decode cX7_damp 38 = .ok (.ireturn, 1) := by decide +kernel
set_option maxRecDepth 20000 in
theorem ggX7_laws_X2_stands : GoodIn wsX7_laws wsX2_stands := goodIn_r _ [6, 7, 47, 48, 49, 50, 51, 52, 53] (by decide +kernel) (by decide +kernel)
set_option maxRecDepth 20000 in
theorem gX7_laws_X2_stands : GoodIn wsX7_laws (wsV RX7 122 RX2 yX2_stands wsX2_stands) := goodIn_app (goodIn_of _ (by decide +kernel)) ggX7_laws_X2_stands
set_option maxRecDepth 20000 in
theorem ggX7_laws_X2_hasEvenings : GoodIn wsX7_laws wsX2_hasEvenings := goodIn_r _ [11, 12, 47, 48, 49, 50, 51, 52, 53] (by decide +kernel) (by decide +kernel)
set_option maxRecDepth 20000 in
theorem gX7_laws_X2_hasEvenings : GoodIn wsX7_laws (wsV RX7 133 RX2 yX2_hasEvenings wsX2_hasEvenings) := goodIn_app (goodIn_of _ (by decide +kernel)) ggX7_laws_X2_hasEvenings
set_option maxRecDepth 20000 in
theorem ggX7_laws_X2_lawsBehind : GoodIn wsX7_laws wsX2_lawsBehind := goodIn_r _ [16, 7, 17, 18, 19, 5, 20, 21, 22, 23, 24, 25, 12, 26, 27, 28, 29, 30, 31, 32, 33, 34, 35, 36, 37, 38, 47, 48, 49, 50, 51, 52, 53] (by decide +kernel) (by decide +kernel)
set_option maxRecDepth 20000 in
theorem gX7_laws_X2_lawsBehind : GoodIn wsX7_laws (wsV RX7 139 RX2 yX2_lawsBehind wsX2_lawsBehind) := goodIn_app (goodIn_of _ (by decide +kernel)) ggX7_laws_X2_lawsBehind
theorem dX7_laws_0 : decode cX7_laws 0 = .ok (.aload_n 0, 1) := by decide +kernel
theorem dX7_laws_1 : decode cX7_laws 1 = .ok (.getfield 12, 3) := by decide +kernel
theorem dX7_laws_4 : decode cX7_laws 4 = .ok (.invokevirtual 122, 3) := by decide +kernel
theorem dX7_laws_7 : decode cX7_laws 7 = .ok (.ifCond .ne 6, 3) := by decide +kernel
theorem dX7_laws_10 : decode cX7_laws 10 = .ok (.bipush (-3), 2) := by decide +kernel
theorem dX7_laws_12 : decode cX7_laws 12 = .ok (.ireturn, 1) := by decide +kernel
theorem dX7_laws_13 : decode cX7_laws 13 = .ok (.aload_n 0, 1) := by decide +kernel
theorem dX7_laws_14 : decode cX7_laws 14 = .ok (.getfield 12, 3) := by decide +kernel
theorem dX7_laws_17 : decode cX7_laws 17 = .ok (.iload_n 1, 1) := by decide +kernel
theorem dX7_laws_18 : decode cX7_laws 18 = .ok (.invokevirtual 133, 3) := by decide +kernel
theorem dX7_laws_21 : decode cX7_laws 21 = .ok (.ifCond .eq 14, 3) := by decide +kernel
theorem dX7_laws_24 : decode cX7_laws 24 = .ok (.aload_n 0, 1) := by decide +kernel
theorem dX7_laws_25 : decode cX7_laws 25 = .ok (.getfield 12, 3) := by decide +kernel
theorem dX7_laws_28 : decode cX7_laws 28 = .ok (.iload_n 1, 1) := by decide +kernel
theorem dX7_laws_29 : decode cX7_laws 29 = .ok (.invokevirtual 139, 3) := by decide +kernel
theorem dX7_laws_32 : decode cX7_laws 32 = .ok (.goto 5, 3) := by decide +kernel
theorem dX7_laws_35 : decode cX7_laws 35 = .ok (.bipush (-2), 2) := by decide +kernel
theorem dX7_laws_37 : decode cX7_laws 37 = .ok (.ireturn, 1) := by decide +kernel
set_option maxRecDepth 20000 in
theorem ggX7_weeping_X7_sheetOf : GoodIn wsX7_weeping wsX7_sheetOf := goodIn_r _ [8, 9, 108, 109, 110, 111, 112, 113, 114, 115] (by decide +kernel) (by decide +kernel)
set_option maxRecDepth 20000 in
theorem gX7_weeping_X7_sheetOf : GoodIn wsX7_weeping (wsV RX7 64 RX7 yX7_sheetOf wsX7_sheetOf) := goodIn_app (goodIn_of _ (by decide +kernel)) ggX7_weeping_X7_sheetOf
set_option maxRecDepth 20000 in
theorem ggX7_weeping_X7_isBelow : GoodIn wsX7_weeping wsX7_isBelow := goodIn_r _ [12] (by decide +kernel) (by decide +kernel)
set_option maxRecDepth 20000 in
theorem gX7_weeping_X7_isBelow : GoodIn wsX7_weeping (va_wsS RX7 68 yX7_isBelow wsX7_isBelow) := goodIn_app (goodIn_of _ (by decide +kernel)) ggX7_weeping_X7_isBelow
set_option maxRecDepth 20000 in
theorem ggX7_weeping_X6_isAsked : GoodIn wsX7_weeping wsX6_isAsked := goodIn_r _ [16] (by decide +kernel) (by decide +kernel)
set_option maxRecDepth 20000 in
theorem gX7_weeping_X6_isAsked : GoodIn wsX7_weeping (va_wsS RX7 142 yX6_isAsked wsX6_isAsked) := goodIn_app (goodIn_of _ (by decide +kernel)) ggX7_weeping_X6_isAsked
set_option maxRecDepth 20000 in
theorem ggX7_weeping_X2_stands : GoodIn wsX7_weeping wsX2_stands := goodIn_r _ [21, 22, 116, 117, 118, 119, 120, 121, 122] (by decide +kernel) (by decide +kernel)
set_option maxRecDepth 20000 in
theorem gX7_weeping_X2_stands : GoodIn wsX7_weeping (wsV RX7 122 RX2 yX2_stands wsX2_stands) := goodIn_app (goodIn_of _ (by decide +kernel)) ggX7_weeping_X2_stands
set_option maxRecDepth 20000 in
theorem ggX7_weeping_X4_faultOfCells : GoodIn wsX7_weeping wsX4_faultOfCells := goodIn_r _ [27, 28, 29, 30, 31, 32, 26, 33, 34, 123, 124, 125, 126] (by decide +kernel) (by decide +kernel)
set_option maxRecDepth 20000 in
theorem gX7_weeping_X4_faultOfCells : GoodIn wsX7_weeping (wsV RX7 72 RX4 yX4_faultOfCells wsX4_faultOfCells) := goodIn_app (goodIn_of _ (by decide +kernel)) ggX7_weeping_X4_faultOfCells
set_option maxRecDepth 20000 in
theorem ggX7_weeping_X7_faulted : GoodIn wsX7_weeping wsX7_faulted := goodIn_r _ [38, 1, 108, 109, 110, 111, 112, 113, 114, 115] (by decide +kernel) (by decide +kernel)
set_option maxRecDepth 20000 in
theorem gX7_weeping_X7_faulted : GoodIn wsX7_weeping (wsV RX7 76 RX7 yX7_faulted wsX7_faulted) := goodIn_app (goodIn_of _ (by decide +kernel)) ggX7_weeping_X7_faulted
set_option maxRecDepth 20000 in
theorem ggX7_weeping_X6_areActs : GoodIn wsX7_weeping wsX6_areActs := goodIn_r _ [42, 43, 44, 45, 26, 46, 47, 48, 7, 49, 11, 12, 50, 51, 52, 20, 53, 22, 123, 124, 125, 126, 116, 117, 118, 119, 120, 121, 122] (by decide +kernel) (by decide +kernel)
set_option maxRecDepth 20000 in
theorem gX7_weeping_X6_areActs : GoodIn wsX7_weeping (wsV RX7 145 RX6 yX6_areActs wsX6_areActs) := goodIn_app (goodIn_of _ (by decide +kernel)) ggX7_weeping_X6_areActs
set_option maxRecDepth 20000 in
theorem ggX7_weeping_X6_play : GoodIn wsX7_weeping wsX6_play := goodIn_r _ [57, 58, 59, 60, 61, 15, 62, 63, 64, 65, 66, 67, 68, 69, 70, 48, 7, 49, 71, 72, 43, 44, 45, 26, 46, 47, 73, 74, 75, 76, 77, 78, 79, 80, 81, 82, 83, 84, 20, 85, 86, 87, 88, 89, 90, 91, 92, 93, 94, 95, 96, 97, 98, 99, 100, 101, 102, 103, 127, 128, 129, 130, 131, 132, 116, 117, 118, 119, 120, 121, 122, 123, 124, 125, 126] (by decide +kernel) (by decide +kernel)
set_option maxRecDepth 20000 in
theorem gX7_weeping_X6_play : GoodIn wsX7_weeping (wsV RX7 149 RX6 yX6_play wsX6_play) := goodIn_app (goodIn_of _ (by decide +kernel)) ggX7_weeping_X6_play
set_option maxRecDepth 20000 in
theorem ggX7_weeping_X6_answer : GoodIn wsX7_weeping wsX6_answer := goodIn_r _ [107, 58, 70, 68, 63, 65, 92, 93, 94, 15, 95, 69, 48, 7, 49, 50, 51, 52, 20, 53, 22, 11, 12, 127, 128, 129, 130, 131, 132, 116, 117, 118, 119, 120, 121, 122] (by decide +kernel) (by decide +kernel)
set_option maxRecDepth 20000 in
theorem gX7_weeping_X6_answer : GoodIn wsX7_weeping (wsV RX7 153 RX6 yX6_answer wsX6_answer) := goodIn_app (goodIn_of _ (by decide +kernel)) ggX7_weeping_X6_answer
theorem dX7_weeping_0 : decode cX7_weeping 0 = .ok (.aload_n 0, 1) := by decide +kernel
theorem dX7_weeping_1 : decode cX7_weeping 1 = .ok (.iconst 0, 1) := by decide +kernel
theorem dX7_weeping_2 : decode cX7_weeping 2 = .ok (.putfield 59, 3) := by decide +kernel
theorem dX7_weeping_5 : decode cX7_weeping 5 = .ok (.aload_n 0, 1) := by decide +kernel
theorem dX7_weeping_6 : decode cX7_weeping 6 = .ok (.iload_n 1, 1) := by decide +kernel
theorem dX7_weeping_7 : decode cX7_weeping 7 = .ok (.invokevirtual 64, 3) := by decide +kernel
theorem dX7_weeping_10 : decode cX7_weeping 10 = .ok (.astore 6, 2) := by decide +kernel
theorem dX7_weeping_12 : decode cX7_weeping 12 = .ok (.aload 6, 2) := by decide +kernel
theorem dX7_weeping_14 : decode cX7_weeping 14 = .ok (.ifnonnull 5, 3) := by decide +kernel
theorem dX7_weeping_17 : decode cX7_weeping 17 = .ok (.iconst (-1), 1) := by decide +kernel
theorem dX7_weeping_18 : decode cX7_weeping 18 = .ok (.ireturn, 1) := by decide +kernel
theorem dX7_weeping_19 : decode cX7_weeping 19 = .ok (.iload_n 2, 1) := by decide +kernel
theorem dX7_weeping_20 : decode cX7_weeping 20 = .ok (.iconst 3, 1) := by decide +kernel
theorem dX7_weeping_21 : decode cX7_weeping 21 = .ok (.invokestatic 68, 3) := by decide +kernel
theorem dX7_weeping_24 : decode cX7_weeping 24 = .ok (.ifCond .eq 21, 3) := by decide +kernel
theorem dX7_weeping_27 : decode cX7_weeping 27 = .ok (.iload 4, 2) := by decide +kernel
theorem dX7_weeping_29 : decode cX7_weeping 29 = .ok (.bipush 41, 2) := by decide +kernel
theorem dX7_weeping_31 : decode cX7_weeping 31 = .ok (.invokestatic 68, 3) := by decide +kernel
theorem dX7_weeping_34 : decode cX7_weeping 34 = .ok (.ifCond .eq 11, 3) := by decide +kernel
theorem dX7_weeping_37 : decode cX7_weeping 37 = .ok (.iload 5, 2) := by decide +kernel
theorem dX7_weeping_39 : decode cX7_weeping 39 = .ok (.invokestatic 142, 3) := by decide +kernel
theorem dX7_weeping_42 : decode cX7_weeping 42 = .ok (.ifCond .ne 6, 3) := by decide +kernel
theorem dX7_weeping_45 : decode cX7_weeping 45 = .ok (.bipush (-2), 2) := by decide +kernel
theorem dX7_weeping_47 : decode cX7_weeping 47 = .ok (.ireturn, 1) := by decide +kernel
theorem dX7_weeping_48 : decode cX7_weeping 48 = .ok (.aload_n 0, 1) := by decide +kernel
theorem dX7_weeping_49 : decode cX7_weeping 49 = .ok (.getfield 12, 3) := by decide +kernel
theorem dX7_weeping_52 : decode cX7_weeping 52 = .ok (.invokevirtual 122, 3) := by decide +kernel
theorem dX7_weeping_55 : decode cX7_weeping 55 = .ok (.ifCond .ne 6, 3) := by decide +kernel
theorem dX7_weeping_58 : decode cX7_weeping 58 = .ok (.bipush (-3), 2) := by decide +kernel
theorem dX7_weeping_60 : decode cX7_weeping 60 = .ok (.ireturn, 1) := by decide +kernel
theorem dX7_weeping_61 : decode cX7_weeping 61 = .ok (.aload 6, 2) := by decide +kernel
theorem dX7_weeping_63 : decode cX7_weeping 63 = .ok (.iload_n 2, 1) := by decide +kernel
theorem dX7_weeping_64 : decode cX7_weeping 64 = .ok (.iload_n 3, 1) := by decide +kernel
theorem dX7_weeping_65 : decode cX7_weeping 65 = .ok (.iload 4, 2) := by decide +kernel
theorem dX7_weeping_67 : decode cX7_weeping 67 = .ok (.invokevirtual 72, 3) := by decide +kernel
theorem dX7_weeping_70 : decode cX7_weeping 70 = .ok (.istore 7, 2) := by decide +kernel
theorem dX7_weeping_72 : decode cX7_weeping 72 = .ok (.iload 7, 2) := by decide +kernel
theorem dX7_weeping_74 : decode cX7_weeping 74 = .ok (.ifCond .eq 10, 3) := by decide +kernel
theorem dX7_weeping_77 : decode cX7_weeping 77 = .ok (.aload_n 0, 1) := by decide +kernel
theorem dX7_weeping_78 : decode cX7_weeping 78 = .ok (.iload 7, 2) := by decide +kernel
theorem dX7_weeping_80 : decode cX7_weeping 80 = .ok (.invokevirtual 76, 3) := by decide +kernel
theorem dX7_weeping_83 : decode cX7_weeping 83 = .ok (.ireturn, 1) := by decide +kernel
theorem dX7_weeping_84 : decode cX7_weeping 84 = .ok (.aload_n 0, 1) := by decide +kernel
theorem dX7_weeping_85 : decode cX7_weeping 85 = .ok (.getfield 28, 3) := by decide +kernel
theorem dX7_weeping_88 : decode cX7_weeping 88 = .ok (.aload_n 0, 1) := by decide +kernel
theorem dX7_weeping_89 : decode cX7_weeping 89 = .ok (.getfield 12, 3) := by decide +kernel
theorem dX7_weeping_92 : decode cX7_weeping 92 = .ok (.aload 6, 2) := by decide +kernel
theorem dX7_weeping_94 : decode cX7_weeping 94 = .ok (.iload_n 3, 1) := by decide +kernel
theorem dX7_weeping_95 : decode cX7_weeping 95 = .ok (.iload 4, 2) := by decide +kernel
theorem dX7_weeping_97 : decode cX7_weeping 97 = .ok (.invokevirtual 145, 3) := by decide +kernel
theorem dX7_weeping_100 : decode cX7_weeping 100 = .ok (.ifCond .ne 6, 3) := by decide +kernel
theorem dX7_weeping_103 : decode cX7_weeping 103 = .ok (.bipush (-2), 2) := by decide +kernel
theorem dX7_weeping_105 : decode cX7_weeping 105 = .ok (.ireturn, 1) := by decide +kernel
theorem dX7_weeping_106 : decode cX7_weeping 106 = .ok (.aload_n 0, 1) := by decide +kernel
theorem dX7_weeping_107 : decode cX7_weeping 107 = .ok (.getfield 28, 3) := by decide +kernel
theorem dX7_weeping_110 : decode cX7_weeping 110 = .ok (.aload_n 0, 1) := by decide +kernel
theorem dX7_weeping_111 : decode cX7_weeping 111 = .ok (.getfield 12, 3) := by decide +kernel
theorem dX7_weeping_114 : decode cX7_weeping 114 = .ok (.aload 6, 2) := by decide +kernel
theorem dX7_weeping_116 : decode cX7_weeping 116 = .ok (.iload_n 3, 1) := by decide +kernel
theorem dX7_weeping_117 : decode cX7_weeping 117 = .ok (.iload 4, 2) := by decide +kernel
theorem dX7_weeping_119 : decode cX7_weeping 119 = .ok (.invokevirtual 149, 3) := by decide +kernel
theorem dX7_weeping_122 : decode cX7_weeping 122 = .ok (.aload_n 0, 1) := by decide +kernel
theorem dX7_weeping_123 : decode cX7_weeping 123 = .ok (.getfield 28, 3) := by decide +kernel
theorem dX7_weeping_126 : decode cX7_weeping 126 = .ok (.aload_n 0, 1) := by decide +kernel
theorem dX7_weeping_127 : decode cX7_weeping 127 = .ok (.getfield 12, 3) := by decide +kernel
theorem dX7_weeping_130 : decode cX7_weeping 130 = .ok (.iload 5, 2) := by decide +kernel
theorem dX7_weeping_132 : decode cX7_weeping 132 = .ok (.invokevirtual 153, 3) := by decide +kernel
theorem dX7_weeping_135 : decode cX7_weeping 135 = .ok (.ireturn, 1) := by decide +kernel
set_option maxRecDepth 20000 in
theorem ggX7_tears_X2_hasLinen : GoodIn wsX7_tears wsX2_hasLinen := goodIn_r _ [7, 8, 9, 10, 11, 58, 59, 60, 61, 62, 63, 64] (by decide +kernel) (by decide +kernel)
set_option maxRecDepth 20000 in
theorem gX7_tears_X2_hasLinen : GoodIn wsX7_tears (wsV RX7 94 RX2 yX2_hasLinen wsX2_hasLinen) := goodIn_app (goodIn_of _ (by decide +kernel)) ggX7_tears_X2_hasLinen
set_option maxRecDepth 20000 in
theorem ggX7_tears_X0_fewestActs : GoodIn wsX7_tears wsX0_fewestActs := goodIn_r _ [16, 17, 18, 19, 20, 21, 22, 23, 24, 25, 26, 27, 28, 10, 29, 30, 31, 32, 33, 34, 15, 35, 36, 37, 38, 6, 39, 40, 41, 42, 43, 44, 45, 46, 47, 48, 49, 65, 66, 58, 59, 60, 61, 62, 63, 64] (by decide +kernel) (by decide +kernel)
set_option maxRecDepth 20000 in
theorem gX7_tears_X0_fewestActs : GoodIn wsX7_tears (wsV RX7 157 RX0 yX0_fewestActs wsX0_fewestActs) := goodIn_app (goodIn_of _ (by decide +kernel)) ggX7_tears_X0_fewestActs
theorem dX7_tears_0 : decode cX7_tears 0 = .ok (.aload_n 0, 1) := by decide +kernel
theorem dX7_tears_1 : decode cX7_tears 1 = .ok (.getfield 12, 3) := by decide +kernel
theorem dX7_tears_4 : decode cX7_tears 4 = .ok (.iload_n 1, 1) := by decide +kernel
theorem dX7_tears_5 : decode cX7_tears 5 = .ok (.invokevirtual 94, 3) := by decide +kernel
theorem dX7_tears_8 : decode cX7_tears 8 = .ok (.ifCond .eq 18, 3) := by decide +kernel
theorem dX7_tears_11 : decode cX7_tears 11 = .ok (.aload_n 0, 1) := by decide +kernel
theorem dX7_tears_12 : decode cX7_tears 12 = .ok (.getfield 35, 3) := by decide +kernel
theorem dX7_tears_15 : decode cX7_tears 15 = .ok (.aload_n 0, 1) := by decide +kernel
theorem dX7_tears_16 : decode cX7_tears 16 = .ok (.getfield 12, 3) := by decide +kernel
theorem dX7_tears_19 : decode cX7_tears 19 = .ok (.iload_n 1, 1) := by decide +kernel
theorem dX7_tears_20 : decode cX7_tears 20 = .ok (.invokevirtual 157, 3) := by decide +kernel
theorem dX7_tears_23 : decode cX7_tears 23 = .ok (.goto 4, 3) := by decide +kernel
theorem dX7_tears_26 : decode cX7_tears 26 = .ok (.iconst (-1), 1) := by decide +kernel
theorem dX7_tears_27 : decode cX7_tears 27 = .ok (.ireturn, 1) := by decide +kernel
set_option maxRecDepth 20000 in
theorem ggX7_keep_X2_stands : GoodIn wsX7_keep wsX2_stands := goodIn_r _ [7, 8, 75, 76, 77, 78, 79, 80, 81] (by decide +kernel) (by decide +kernel)
set_option maxRecDepth 20000 in
theorem gX7_keep_X2_stands : GoodIn wsX7_keep (wsV RX7 122 RX2 yX2_stands wsX2_stands) := goodIn_app (goodIn_of _ (by decide +kernel)) ggX7_keep_X2_stands
set_option maxRecDepth 20000 in
theorem ggX7_keep_X0_largestSet : GoodIn wsX7_keep wsX0_largestSet := goodIn_r _ [13, 14, 15, 16, 17, 18, 12, 19, 20, 21, 22, 23, 24, 25, 26, 27, 28, 29, 30, 31, 32, 33, 34, 35, 36, 37, 38, 39, 40, 41, 42, 6, 43, 44, 45, 46, 47, 48, 49, 50, 51, 52, 53, 54, 55, 56, 57, 58, 59, 60, 61, 62, 63, 64, 65, 66, 75, 76, 77, 78, 79, 80, 81, 82, 83] (by decide +kernel) (by decide +kernel)
set_option maxRecDepth 20000 in
theorem gX7_keep_X0_largestSet : GoodIn wsX7_keep (wsV RX7 160 RX0 yX0_largestSet wsX0_largestSet) := goodIn_app (goodIn_of _ (by decide +kernel)) ggX7_keep_X0_largestSet
theorem dX7_keep_0 : decode cX7_keep 0 = .ok (.aload_n 0, 1) := by decide +kernel
theorem dX7_keep_1 : decode cX7_keep 1 = .ok (.getfield 12, 3) := by decide +kernel
theorem dX7_keep_4 : decode cX7_keep 4 = .ok (.invokevirtual 122, 3) := by decide +kernel
theorem dX7_keep_7 : decode cX7_keep 7 = .ok (.ifCond .eq 17, 3) := by decide +kernel
theorem dX7_keep_10 : decode cX7_keep 10 = .ok (.aload_n 0, 1) := by decide +kernel
theorem dX7_keep_11 : decode cX7_keep 11 = .ok (.getfield 35, 3) := by decide +kernel
theorem dX7_keep_14 : decode cX7_keep 14 = .ok (.aload_n 0, 1) := by decide +kernel
theorem dX7_keep_15 : decode cX7_keep 15 = .ok (.getfield 12, 3) := by decide +kernel
theorem dX7_keep_18 : decode cX7_keep 18 = .ok (.invokevirtual 160, 3) := by decide +kernel
theorem dX7_keep_21 : decode cX7_keep 21 = .ok (.goto 5, 3) := by decide +kernel
theorem dX7_keep_24 : decode cX7_keep 24 = .ok (.bipush (-3), 2) := by decide +kernel
theorem dX7_keep_26 : decode cX7_keep 26 = .ok (.ireturn, 1) := by decide +kernel
set_option maxRecDepth 20000 in
theorem ggX7_appoint_X2_hasLinen : GoodIn wsX7_appoint wsX2_hasLinen := goodIn_r _ [7, 8, 9, 10, 11, 81, 82, 83, 84, 85, 86, 87] (by decide +kernel) (by decide +kernel)
set_option maxRecDepth 20000 in
theorem gX7_appoint_X2_hasLinen : GoodIn wsX7_appoint (wsV RX7 94 RX2 yX2_hasLinen wsX2_hasLinen) := goodIn_app (goodIn_of _ (by decide +kernel)) ggX7_appoint_X2_hasLinen
set_option maxRecDepth 20000 in
theorem ggX7_appoint_X0_bestOffice : GoodIn wsX7_appoint wsX0_bestOffice := goodIn_r _ [16, 17, 18, 10, 19, 20, 21, 22, 23, 24, 15, 25, 26, 27, 28, 29, 30, 31, 32, 33, 34, 35, 36, 37, 38, 39, 40, 41, 42, 43, 44, 45, 46, 47, 48, 49, 6, 50, 51, 52, 53, 54, 55, 56, 57, 58, 59, 60, 61, 62, 63, 64, 65, 66, 67, 68, 69, 70, 71, 72, 81, 82, 83, 84, 85, 86, 87, 88, 89] (by decide +kernel) (by decide +kernel)
set_option maxRecDepth 20000 in
theorem gX7_appoint_X0_bestOffice : GoodIn wsX7_appoint (wsV RX7 164 RX0 yX0_bestOffice wsX0_bestOffice) := goodIn_app (goodIn_of _ (by decide +kernel)) ggX7_appoint_X0_bestOffice
theorem dX7_appoint_0 : decode cX7_appoint 0 = .ok (.aload_n 0, 1) := by decide +kernel
theorem dX7_appoint_1 : decode cX7_appoint 1 = .ok (.getfield 12, 3) := by decide +kernel
theorem dX7_appoint_4 : decode cX7_appoint 4 = .ok (.iload_n 1, 1) := by decide +kernel
theorem dX7_appoint_5 : decode cX7_appoint 5 = .ok (.invokevirtual 94, 3) := by decide +kernel
theorem dX7_appoint_8 : decode cX7_appoint 8 = .ok (.ifCond .eq 18, 3) := by decide +kernel
theorem dX7_appoint_11 : decode cX7_appoint 11 = .ok (.aload_n 0, 1) := by decide +kernel
theorem dX7_appoint_12 : decode cX7_appoint 12 = .ok (.getfield 35, 3) := by decide +kernel
theorem dX7_appoint_15 : decode cX7_appoint 15 = .ok (.aload_n 0, 1) := by decide +kernel
theorem dX7_appoint_16 : decode cX7_appoint 16 = .ok (.getfield 12, 3) := by decide +kernel
theorem dX7_appoint_19 : decode cX7_appoint 19 = .ok (.iload_n 1, 1) := by decide +kernel
theorem dX7_appoint_20 : decode cX7_appoint 20 = .ok (.invokevirtual 164, 3) := by decide +kernel
theorem dX7_appoint_23 : decode cX7_appoint 23 = .ok (.goto 4, 3) := by decide +kernel
theorem dX7_appoint_26 : decode cX7_appoint 26 = .ok (.iconst (-1), 1) := by decide +kernel
theorem dX7_appoint_27 : decode cX7_appoint 27 = .ok (.ireturn, 1) := by decide +kernel
set_option maxRecDepth 20000 in
theorem ggX7_span_X2_hasLinen : GoodIn wsX7_span wsX2_hasLinen := goodIn_r _ [6, 7, 8, 9, 10, 51, 52, 53, 54, 55, 56, 57] (by decide +kernel) (by decide +kernel)
set_option maxRecDepth 20000 in
theorem gX7_span_X2_hasLinen : GoodIn wsX7_span (wsV RX7 94 RX2 yX2_hasLinen wsX2_hasLinen) := goodIn_app (goodIn_of _ (by decide +kernel)) ggX7_span_X2_hasLinen
set_option maxRecDepth 20000 in
theorem ggX7_span_X2_hasDay : GoodIn wsX7_span wsX2_hasDay := goodIn_r _ [14, 15, 8, 9, 10, 51, 52, 53, 54, 55, 56, 57] (by decide +kernel) (by decide +kernel)
set_option maxRecDepth 20000 in
theorem gX7_span_X2_hasDay : GoodIn wsX7_span (wsV RX7 112 RX2 yX2_hasDay wsX2_hasDay) := goodIn_app (goodIn_of _ (by decide +kernel)) ggX7_span_X2_hasDay
set_option maxRecDepth 20000 in
theorem ggX7_span_X2_mostHeat : GoodIn wsX7_span wsX2_mostHeat := goodIn_r _ [19, 20, 15, 21, 9, 22, 23, 24, 25, 26, 27, 5, 28, 29, 30, 31, 32, 33, 34, 35, 36, 37, 38, 39, 40, 41, 42, 51, 52, 53, 54, 55, 56, 57] (by decide +kernel) (by decide +kernel)
set_option maxRecDepth 20000 in
theorem gX7_span_X2_mostHeat : GoodIn wsX7_span (wsV RX7 167 RX2 yX2_mostHeat wsX2_mostHeat) := goodIn_app (goodIn_of _ (by decide +kernel)) ggX7_span_X2_mostHeat
theorem dX7_span_0 : decode cX7_span 0 = .ok (.aload_n 0, 1) := by decide +kernel
theorem dX7_span_1 : decode cX7_span 1 = .ok (.getfield 12, 3) := by decide +kernel
theorem dX7_span_4 : decode cX7_span 4 = .ok (.iload_n 1, 1) := by decide +kernel
theorem dX7_span_5 : decode cX7_span 5 = .ok (.invokevirtual 94, 3) := by decide +kernel
theorem dX7_span_8 : decode cX7_span 8 = .ok (.ifCond .eq 14, 3) := by decide +kernel
theorem dX7_span_11 : decode cX7_span 11 = .ok (.aload_n 0, 1) := by decide +kernel
theorem dX7_span_12 : decode cX7_span 12 = .ok (.getfield 12, 3) := by decide +kernel
theorem dX7_span_15 : decode cX7_span 15 = .ok (.iload_n 2, 1) := by decide +kernel
theorem dX7_span_16 : decode cX7_span 16 = .ok (.invokevirtual 112, 3) := by decide +kernel
theorem dX7_span_19 : decode cX7_span 19 = .ok (.ifCond .ne 5, 3) := by decide +kernel
theorem dX7_span_22 : decode cX7_span 22 = .ok (.iconst (-1), 1) := by decide +kernel
theorem dX7_span_23 : decode cX7_span 23 = .ok (.ireturn, 1) := by decide +kernel
theorem dX7_span_24 : decode cX7_span 24 = .ok (.aload_n 0, 1) := by decide +kernel
theorem dX7_span_25 : decode cX7_span 25 = .ok (.getfield 12, 3) := by decide +kernel
theorem dX7_span_28 : decode cX7_span 28 = .ok (.iload_n 1, 1) := by decide +kernel
theorem dX7_span_29 : decode cX7_span 29 = .ok (.iload_n 2, 1) := by decide +kernel
theorem dX7_span_30 : decode cX7_span 30 = .ok (.invokevirtual 167, 3) := by decide +kernel
theorem dX7_span_33 : decode cX7_span 33 = .ok (.ireturn, 1) := by decide +kernel
set_option maxRecDepth 20000 in
theorem ggX7_reading_X2_hasLinen : GoodIn wsX7_reading wsX2_hasLinen := goodIn_r _ [8, 9, 10, 11, 12, 42, 43, 44, 45, 46, 47, 48] (by decide +kernel) (by decide +kernel)
set_option maxRecDepth 20000 in
theorem gX7_reading_X2_hasLinen : GoodIn wsX7_reading (wsV RX7 94 RX2 yX2_hasLinen wsX2_hasLinen) := goodIn_app (goodIn_of _ (by decide +kernel)) ggX7_reading_X2_hasLinen
set_option maxRecDepth 20000 in
theorem ggX7_reading_X2_hasEvenings : GoodIn wsX7_reading wsX2_hasEvenings := goodIn_r _ [16, 17, 42, 43, 44, 45, 46, 47, 48] (by decide +kernel) (by decide +kernel)
set_option maxRecDepth 20000 in
theorem gX7_reading_X2_hasEvenings : GoodIn wsX7_reading (wsV RX7 133 RX2 yX2_hasEvenings wsX2_hasEvenings) := goodIn_app (goodIn_of _ (by decide +kernel)) ggX7_reading_X2_hasEvenings
set_option maxRecDepth 20000 in
theorem ggX7_reading_X7_isBelow : GoodIn wsX7_reading wsX7_isBelow := goodIn_r _ [12] (by decide +kernel) (by decide +kernel)
set_option maxRecDepth 20000 in
theorem gX7_reading_X7_isBelow : GoodIn wsX7_reading (va_wsS RX7 68 yX7_isBelow wsX7_isBelow) := goodIn_app (goodIn_of _ (by decide +kernel)) ggX7_reading_X7_isBelow
set_option maxRecDepth 20000 in
theorem ggX7_reading_X1_append : GoodIn wsX7_reading wsX1_append := goodIn_r _ [23, 24, 25, 26, 27, 28, 11, 29, 38, 39, 40, 41] (by decide +kernel) (by decide +kernel)
set_option maxRecDepth 20000 in
theorem gX7_reading_X1_append : GoodIn wsX7_reading (wsV RX7 170 RX1 yX1_append wsX1_append) := goodIn_app (goodIn_of _ (by decide +kernel)) ggX7_reading_X1_append
theorem dX7_reading_0 : decode cX7_reading 0 = .ok (.aload_n 0, 1) := by decide +kernel
theorem dX7_reading_1 : decode cX7_reading 1 = .ok (.getfield 12, 3) := by decide +kernel
theorem dX7_reading_4 : decode cX7_reading 4 = .ok (.iload_n 1, 1) := by decide +kernel
theorem dX7_reading_5 : decode cX7_reading 5 = .ok (.invokevirtual 94, 3) := by decide +kernel
theorem dX7_reading_8 : decode cX7_reading 8 = .ok (.ifCond .ne 5, 3) := by decide +kernel
theorem dX7_reading_11 : decode cX7_reading 11 = .ok (.iconst (-1), 1) := by decide +kernel
theorem dX7_reading_12 : decode cX7_reading 12 = .ok (.ireturn, 1) := by decide +kernel
theorem dX7_reading_13 : decode cX7_reading 13 = .ok (.aload_n 0, 1) := by decide +kernel
theorem dX7_reading_14 : decode cX7_reading 14 = .ok (.getfield 12, 3) := by decide +kernel
theorem dX7_reading_17 : decode cX7_reading 17 = .ok (.iload_n 2, 1) := by decide +kernel
