set_option maxRecDepth 20000 in
theorem gX2_dampOnCoolDays_X7_at_n38 : GoodIn wsX2_dampOnCoolDays (wsX7_at) := ggX2_dampOnCoolDays_X7_at
set_option maxRecDepth 20000 in
theorem ggX2_dampOnCoolDays_X2_dryingBy : GoodIn wsX2_dampOnCoolDays wsX2_dryingBy := goodIn_r _ [16] (by decide +kernel) (by decide +kernel)
set_option maxRecDepth 20000 in
theorem gX2_dampOnCoolDays_X2_dryingBy : GoodIn wsX2_dampOnCoolDays (wsV RX2 42 RX2 yX2_dryingBy wsX2_dryingBy) := goodIn_app (goodIn_of _ (by decide +kernel)) ggX2_dampOnCoolDays_X2_dryingBy
theorem dX2_dampOnCoolDays_0 : decode cX2_dampOnCoolDays 0 = .ok (.aload_n 0, 1) := by decide +kernel
theorem dX2_dampOnCoolDays_1 : decode cX2_dampOnCoolDays 1 = .ok (.getfield 24, 3) := by decide +kernel
theorem dX2_dampOnCoolDays_4 : decode cX2_dampOnCoolDays 4 = .ok (.iload_n 1, 1) := by decide +kernel
theorem dX2_dampOnCoolDays_5 : decode cX2_dampOnCoolDays 5 = .ok (.invokestatic 38, 3) := by decide +kernel
theorem dX2_dampOnCoolDays_8 : decode cX2_dampOnCoolDays 8 = .ok (.istore 4, 2) := by decide +kernel
theorem dX2_dampOnCoolDays_10 : decode cX2_dampOnCoolDays 10 = .ok (.iconst 0, 1) := by decide +kernel
theorem dX2_dampOnCoolDays_11 : decode cX2_dampOnCoolDays 11 = .ok (.istore 5, 2) := by decide +kernel
theorem dX2_dampOnCoolDays_13 : decode cX2_dampOnCoolDays 13 = .ok (.iload 5, 2) := by decide +kernel
theorem dX2_dampOnCoolDays_15 : decode cX2_dampOnCoolDays 15 = .ok (.iload_n 2, 1) := by decide +kernel
theorem dX2_dampOnCoolDays_16 : decode cX2_dampOnCoolDays 16 = .ok (.if_icmp .ge 74, 3) := by decide +kernel
theorem dX2_dampOnCoolDays_19 : decode cX2_dampOnCoolDays 19 = .ok (.iload 5, 2) := by decide +kernel
theorem dX2_dampOnCoolDays_21 : decode cX2_dampOnCoolDays 21 = .ok (.aload_n 0, 1) := by decide +kernel
theorem dX2_dampOnCoolDays_22 : decode cX2_dampOnCoolDays 22 = .ok (.getfield 27, 3) := by decide +kernel
theorem dX2_dampOnCoolDays_25 : decode cX2_dampOnCoolDays 25 = .ok (.if_icmp .ge 65, 3) := by decide +kernel
theorem dX2_dampOnCoolDays_28 : decode cX2_dampOnCoolDays 28 = .ok (.iload_n 3, 1) := by decide +kernel
theorem dX2_dampOnCoolDays_29 : decode cX2_dampOnCoolDays 29 = .ok (.iload 5, 2) := by decide +kernel
theorem dX2_dampOnCoolDays_31 : decode cX2_dampOnCoolDays 31 = .ok (.ishr, 1) := by decide +kernel
theorem dX2_dampOnCoolDays_32 : decode cX2_dampOnCoolDays 32 = .ok (.iconst 1, 1) := by decide +kernel
theorem dX2_dampOnCoolDays_33 : decode cX2_dampOnCoolDays 33 = .ok (.iand, 1) := by decide +kernel
theorem dX2_dampOnCoolDays_34 : decode cX2_dampOnCoolDays 34 = .ok (.iconst 1, 1) := by decide +kernel
theorem dX2_dampOnCoolDays_35 : decode cX2_dampOnCoolDays 35 = .ok (.if_icmp .ne 7, 3) := by decide +kernel
theorem dX2_dampOnCoolDays_38 : decode cX2_dampOnCoolDays 38 = .ok (.iconst 1, 1) := by decide +kernel
theorem dX2_dampOnCoolDays_39 : decode cX2_dampOnCoolDays 39 = .ok (.goto 4, 3) := by decide +kernel
theorem dX2_dampOnCoolDays_42 : decode cX2_dampOnCoolDays 42 = .ok (.iconst 0, 1) := by decide +kernel
theorem dX2_dampOnCoolDays_43 : decode cX2_dampOnCoolDays 43 = .ok (.istore 6, 2) := by decide +kernel
theorem dX2_dampOnCoolDays_45 : decode cX2_dampOnCoolDays 45 = .ok (.iconst 0, 1) := by decide +kernel
theorem dX2_dampOnCoolDays_46 : decode cX2_dampOnCoolDays 46 = .ok (.iload 4, 2) := by decide +kernel
theorem dX2_dampOnCoolDays_48 : decode cX2_dampOnCoolDays 48 = .ok (.aload_n 0, 1) := by decide +kernel
theorem dX2_dampOnCoolDays_49 : decode cX2_dampOnCoolDays 49 = .ok (.aload_n 0, 1) := by decide +kernel
theorem dX2_dampOnCoolDays_50 : decode cX2_dampOnCoolDays 50 = .ok (.getfield 18, 3) := by decide +kernel
theorem dX2_dampOnCoolDays_53 : decode cX2_dampOnCoolDays 53 = .ok (.iload_n 1, 1) := by decide +kernel
theorem dX2_dampOnCoolDays_54 : decode cX2_dampOnCoolDays 54 = .ok (.invokestatic 38, 3) := by decide +kernel
theorem dX2_dampOnCoolDays_57 : decode cX2_dampOnCoolDays 57 = .ok (.iload 6, 2) := by decide +kernel
theorem dX2_dampOnCoolDays_59 : decode cX2_dampOnCoolDays 59 = .ok (.ifCond .eq 7, 3) := by decide +kernel
theorem dX2_dampOnCoolDays_62 : decode cX2_dampOnCoolDays 62 = .ok (.iconst 0, 1) := by decide +kernel
theorem dX2_dampOnCoolDays_63 : decode cX2_dampOnCoolDays 63 = .ok (.goto 12, 3) := by decide +kernel
theorem dX2_dampOnCoolDays_66 : decode cX2_dampOnCoolDays 66 = .ok (.aload_n 0, 1) := by decide +kernel
theorem dX2_dampOnCoolDays_67 : decode cX2_dampOnCoolDays 67 = .ok (.getfield 15, 3) := by decide +kernel
theorem dX2_dampOnCoolDays_70 : decode cX2_dampOnCoolDays 70 = .ok (.iload 5, 2) := by decide +kernel
theorem dX2_dampOnCoolDays_72 : decode cX2_dampOnCoolDays 72 = .ok (.invokestatic 38, 3) := by decide +kernel
theorem dX2_dampOnCoolDays_75 : decode cX2_dampOnCoolDays 75 = .ok (.invokevirtual 42, 3) := by decide +kernel
theorem dX2_dampOnCoolDays_78 : decode cX2_dampOnCoolDays 78 = .ok (.isub, 1) := by decide +kernel
theorem dX2_dampOnCoolDays_79 : decode cX2_dampOnCoolDays 79 = .ok (.invokestatic 50, 3) := by decide +kernel
theorem dX2_dampOnCoolDays_82 : decode cX2_dampOnCoolDays 82 = .ok (.istore 4, 2) := by decide +kernel
theorem dX2_dampOnCoolDays_84 : decode cX2_dampOnCoolDays 84 = .ok (.iinc 5 1, 3) := by decide +kernel
theorem dX2_dampOnCoolDays_87 : decode cX2_dampOnCoolDays 87 = .ok (.goto (-74), 3) := by decide +kernel
theorem dX2_dampOnCoolDays_90 : decode cX2_dampOnCoolDays 90 = .ok (.iload 4, 2) := by decide +kernel
theorem dX2_dampOnCoolDays_92 : decode cX2_dampOnCoolDays 92 = .ok (.ireturn, 1) := by decide +kernel
set_option maxRecDepth 20000 in
theorem ggX2_lawsBehind_X2_dampBehind : GoodIn wsX2_lawsBehind wsX2_dampBehind := goodIn_r _ [6, 7, 8, 9, 5, 10, 11, 12, 13, 14, 15, 16, 17, 18, 19, 20, 21, 22, 23, 24, 25, 26, 27, 28, 29, 30, 31, 32] (by decide +kernel) (by decide +kernel)
set_option maxRecDepth 20000 in
theorem gX2_lawsBehind_X2_dampBehind : GoodIn wsX2_lawsBehind (wsV RX2 55 RX2 yX2_dampBehind wsX2_dampBehind) := goodIn_app (goodIn_of _ (by decide +kernel)) ggX2_lawsBehind_X2_dampBehind
theorem dX2_lawsBehind_0 : decode cX2_lawsBehind 0 = .ok (.iconst 0, 1) := by decide +kernel
theorem dX2_lawsBehind_1 : decode cX2_lawsBehind 1 = .ok (.istore_n 2, 1) := by decide +kernel
theorem dX2_lawsBehind_2 : decode cX2_lawsBehind 2 = .ok (.iconst 0, 1) := by decide +kernel
theorem dX2_lawsBehind_3 : decode cX2_lawsBehind 3 = .ok (.istore_n 3, 1) := by decide +kernel
theorem dX2_lawsBehind_4 : decode cX2_lawsBehind 4 = .ok (.iload_n 3, 1) := by decide +kernel
theorem dX2_lawsBehind_5 : decode cX2_lawsBehind 5 = .ok (.aload_n 0, 1) := by decide +kernel
theorem dX2_lawsBehind_6 : decode cX2_lawsBehind 6 = .ok (.getfield 31, 3) := by decide +kernel
theorem dX2_lawsBehind_9 : decode cX2_lawsBehind 9 = .ok (.if_icmp .ge 24, 3) := by decide +kernel
theorem dX2_lawsBehind_12 : decode cX2_lawsBehind 12 = .ok (.aload_n 0, 1) := by decide +kernel
theorem dX2_lawsBehind_13 : decode cX2_lawsBehind 13 = .ok (.iload_n 3, 1) := by decide +kernel
theorem dX2_lawsBehind_14 : decode cX2_lawsBehind 14 = .ok (.iload_n 1, 1) := by decide +kernel
theorem dX2_lawsBehind_15 : decode cX2_lawsBehind 15 = .ok (.invokevirtual 55, 3) := by decide +kernel
theorem dX2_lawsBehind_18 : decode cX2_lawsBehind 18 = .ok (.ifCond .le 9, 3) := by decide +kernel
theorem dX2_lawsBehind_21 : decode cX2_lawsBehind 21 = .ok (.iload_n 2, 1) := by decide +kernel
theorem dX2_lawsBehind_22 : decode cX2_lawsBehind 22 = .ok (.iconst 1, 1) := by decide +kernel
theorem dX2_lawsBehind_23 : decode cX2_lawsBehind 23 = .ok (.iload_n 3, 1) := by decide +kernel
theorem dX2_lawsBehind_24 : decode cX2_lawsBehind 24 = .ok (.ishl, 1) := by decide +kernel
theorem dX2_lawsBehind_25 : decode cX2_lawsBehind 25 = .ok (.ior, 1) := by decide +kernel
theorem dX2_lawsBehind_26 : decode cX2_lawsBehind 26 = .ok (.istore_n 2, 1) := by decide +kernel
theorem dX2_lawsBehind_27 : decode cX2_lawsBehind 27 = .ok (.iinc 3 1, 3) := by decide +kernel
theorem dX2_lawsBehind_30 : decode cX2_lawsBehind 30 = .ok (.goto (-26), 3) := by decide +kernel
theorem dX2_lawsBehind_33 : decode cX2_lawsBehind 33 = .ok (.iload_n 2, 1) := by decide +kernel
theorem dX2_lawsBehind_34 : decode cX2_lawsBehind 34 = .ok (.ireturn, 1) := by decide +kernel
set_option maxRecDepth 20000 in
theorem ggX2_mostHeat_X7_at : GoodIn wsX2_mostHeat wsX7_at := goodIn_r _ [5] (by decide +kernel) (by decide +kernel)
set_option maxRecDepth 20000 in
theorem gX2_mostHeat_X7_at_n38 : GoodIn wsX2_mostHeat (wsX7_at) := ggX2_mostHeat_X7_at
set_option maxRecDepth 20000 in
theorem ggX2_mostHeat_X7_set : GoodIn wsX2_mostHeat wsX7_set := goodIn_r _ [7] (by decide +kernel) (by decide +kernel)
set_option maxRecDepth 20000 in
theorem gX2_mostHeat_X7_set_n58 : GoodIn wsX2_mostHeat (wsX7_set) := ggX2_mostHeat_X7_set
set_option maxRecDepth 20000 in
theorem ggX2_mostHeat_X2_dampBehind : GoodIn wsX2_mostHeat wsX2_dampBehind := goodIn_r _ [12, 13, 14, 15, 11, 16, 17, 2, 18, 1, 19, 20, 21, 22, 3, 4, 5, 23, 24, 25, 26, 27, 28, 29, 30, 31, 32, 33] (by decide +kernel) (by decide +kernel)
set_option maxRecDepth 20000 in
theorem gX2_mostHeat_X2_dampBehind : GoodIn wsX2_mostHeat (wsV RX2 55 RX2 yX2_dampBehind wsX2_dampBehind) := goodIn_app (goodIn_of _ (by decide +kernel)) ggX2_mostHeat_X2_dampBehind
theorem dX2_mostHeat_0 : decode cX2_mostHeat 0 = .ok (.aload_n 0, 1) := by decide +kernel
theorem dX2_mostHeat_1 : decode cX2_mostHeat 1 = .ok (.getfield 15, 3) := by decide +kernel
theorem dX2_mostHeat_4 : decode cX2_mostHeat 4 = .ok (.iload_n 2, 1) := by decide +kernel
theorem dX2_mostHeat_5 : decode cX2_mostHeat 5 = .ok (.invokestatic 38, 3) := by decide +kernel
theorem dX2_mostHeat_8 : decode cX2_mostHeat 8 = .ok (.istore_n 3, 1) := by decide +kernel
theorem dX2_mostHeat_9 : decode cX2_mostHeat 9 = .ok (.bipush (-9), 2) := by decide +kernel
theorem dX2_mostHeat_11 : decode cX2_mostHeat 11 = .ok (.istore 4, 2) := by decide +kernel
theorem dX2_mostHeat_13 : decode cX2_mostHeat 13 = .ok (.iconst 0, 1) := by decide +kernel
theorem dX2_mostHeat_14 : decode cX2_mostHeat 14 = .ok (.istore 5, 2) := by decide +kernel
theorem dX2_mostHeat_16 : decode cX2_mostHeat 16 = .ok (.iload 5, 2) := by decide +kernel
theorem dX2_mostHeat_18 : decode cX2_mostHeat 18 = .ok (.bipush 10, 2) := by decide +kernel
theorem dX2_mostHeat_20 : decode cX2_mostHeat 20 = .ok (.if_icmp .ge 35, 3) := by decide +kernel
theorem dX2_mostHeat_23 : decode cX2_mostHeat 23 = .ok (.aload_n 0, 1) := by decide +kernel
theorem dX2_mostHeat_24 : decode cX2_mostHeat 24 = .ok (.getfield 15, 3) := by decide +kernel
theorem dX2_mostHeat_27 : decode cX2_mostHeat 27 = .ok (.iload_n 2, 1) := by decide +kernel
theorem dX2_mostHeat_28 : decode cX2_mostHeat 28 = .ok (.iload 5, 2) := by decide +kernel
theorem dX2_mostHeat_30 : decode cX2_mostHeat 30 = .ok (.invokestatic 58, 3) := by decide +kernel
theorem dX2_mostHeat_33 : decode cX2_mostHeat 33 = .ok (.aload_n 0, 1) := by decide +kernel
theorem dX2_mostHeat_34 : decode cX2_mostHeat 34 = .ok (.iload_n 1, 1) := by decide +kernel
theorem dX2_mostHeat_35 : decode cX2_mostHeat 35 = .ok (.aload_n 0, 1) := by decide +kernel
theorem dX2_mostHeat_36 : decode cX2_mostHeat 36 = .ok (.getfield 27, 3) := by decide +kernel
theorem dX2_mostHeat_39 : decode cX2_mostHeat 39 = .ok (.invokevirtual 55, 3) := by decide +kernel
theorem dX2_mostHeat_42 : decode cX2_mostHeat 42 = .ok (.ifCond .le 7, 3) := by decide +kernel
theorem dX2_mostHeat_45 : decode cX2_mostHeat 45 = .ok (.iload 5, 2) := by decide +kernel
theorem dX2_mostHeat_47 : decode cX2_mostHeat 47 = .ok (.istore 4, 2) := by decide +kernel
theorem dX2_mostHeat_49 : decode cX2_mostHeat 49 = .ok (.iinc 5 1, 3) := by decide +kernel
theorem dX2_mostHeat_52 : decode cX2_mostHeat 52 = .ok (.goto (-36), 3) := by decide +kernel
theorem dX2_mostHeat_55 : decode cX2_mostHeat 55 = .ok (.aload_n 0, 1) := by decide +kernel
theorem dX2_mostHeat_56 : decode cX2_mostHeat 56 = .ok (.getfield 15, 3) := by decide +kernel
theorem dX2_mostHeat_59 : decode cX2_mostHeat 59 = .ok (.iload_n 2, 1) := by decide +kernel
theorem dX2_mostHeat_60 : decode cX2_mostHeat 60 = .ok (.iload_n 3, 1) := by decide +kernel
theorem dX2_mostHeat_61 : decode cX2_mostHeat 61 = .ok (.invokestatic 58, 3) := by decide +kernel
theorem dX2_mostHeat_64 : decode cX2_mostHeat 64 = .ok (.iload 4, 2) := by decide +kernel
theorem dX2_mostHeat_66 : decode cX2_mostHeat 66 = .ok (.ireturn, 1) := by decide +kernel
set_option maxRecDepth 20000 in
theorem ggX2_waysToBeLaw_X2_dampOnCoolDays : GoodIn wsX2_waysToBeLaw wsX2_dampOnCoolDays := goodIn_r _ [6, 7, 1, 8, 9, 10, 11, 12, 13, 14, 15, 16, 17, 18, 19, 5, 20, 21, 22, 23, 24, 25, 26, 27] (by decide +kernel) (by decide +kernel)
set_option maxRecDepth 20000 in
theorem gX2_waysToBeLaw_X2_dampOnCoolDays : GoodIn wsX2_waysToBeLaw (wsV RX2 46 RX2 yX2_dampOnCoolDays wsX2_dampOnCoolDays) := goodIn_app (goodIn_of _ (by decide +kernel)) ggX2_waysToBeLaw_X2_dampOnCoolDays
theorem dX2_waysToBeLaw_0 : decode cX2_waysToBeLaw 0 = .ok (.iconst 0, 1) := by decide +kernel
theorem dX2_waysToBeLaw_1 : decode cX2_waysToBeLaw 1 = .ok (.istore_n 2, 1) := by decide +kernel
theorem dX2_waysToBeLaw_2 : decode cX2_waysToBeLaw 2 = .ok (.iconst 0, 1) := by decide +kernel
theorem dX2_waysToBeLaw_3 : decode cX2_waysToBeLaw 3 = .ok (.istore_n 3, 1) := by decide +kernel
theorem dX2_waysToBeLaw_4 : decode cX2_waysToBeLaw 4 = .ok (.iload_n 3, 1) := by decide +kernel
theorem dX2_waysToBeLaw_5 : decode cX2_waysToBeLaw 5 = .ok (.iconst 1, 1) := by decide +kernel
theorem dX2_waysToBeLaw_6 : decode cX2_waysToBeLaw 6 = .ok (.aload_n 0, 1) := by decide +kernel
theorem dX2_waysToBeLaw_7 : decode cX2_waysToBeLaw 7 = .ok (.getfield 27, 3) := by decide +kernel
theorem dX2_waysToBeLaw_10 : decode cX2_waysToBeLaw 10 = .ok (.ishl, 1) := by decide +kernel
theorem dX2_waysToBeLaw_11 : decode cX2_waysToBeLaw 11 = .ok (.if_icmp .ge 25, 3) := by decide +kernel
theorem dX2_waysToBeLaw_14 : decode cX2_waysToBeLaw 14 = .ok (.aload_n 0, 1) := by decide +kernel
theorem dX2_waysToBeLaw_15 : decode cX2_waysToBeLaw 15 = .ok (.iload_n 1, 1) := by decide +kernel
theorem dX2_waysToBeLaw_16 : decode cX2_waysToBeLaw 16 = .ok (.aload_n 0, 1) := by decide +kernel
theorem dX2_waysToBeLaw_17 : decode cX2_waysToBeLaw 17 = .ok (.getfield 27, 3) := by decide +kernel
theorem dX2_waysToBeLaw_20 : decode cX2_waysToBeLaw 20 = .ok (.iload_n 3, 1) := by decide +kernel
theorem dX2_waysToBeLaw_21 : decode cX2_waysToBeLaw 21 = .ok (.invokevirtual 46, 3) := by decide +kernel
theorem dX2_waysToBeLaw_24 : decode cX2_waysToBeLaw 24 = .ok (.ifCond .le 6, 3) := by decide +kernel
theorem dX2_waysToBeLaw_27 : decode cX2_waysToBeLaw 27 = .ok (.iinc 2 1, 3) := by decide +kernel
theorem dX2_waysToBeLaw_30 : decode cX2_waysToBeLaw 30 = .ok (.iinc 3 1, 3) := by decide +kernel
theorem dX2_waysToBeLaw_33 : decode cX2_waysToBeLaw 33 = .ok (.goto (-29), 3) := by decide +kernel
theorem dX2_waysToBeLaw_36 : decode cX2_waysToBeLaw 36 = .ok (.iload_n 2, 1) := by decide +kernel
theorem dX2_waysToBeLaw_37 : decode cX2_waysToBeLaw 37 = .ok (.ireturn, 1) := by decide +kernel
theorem dX3_init_0 : decode cX3_init 0 = .ok (.aload_n 0, 1) := by decide +kernel
theorem dX3_init_1 : decode cX3_init 1 = .ok (.invokespecial 3, 3) := by decide +kernel
theorem dX3_init_4 : decode cX3_init 4 = .ok (.aload_n 0, 1) := by decide +kernel
theorem dX3_init_5 : decode cX3_init 5 = .ok (.aconst_null, 1) := by decide +kernel
theorem dX3_init_6 : decode cX3_init 6 = .ok (.putfield 9, 3) := by decide +kernel
theorem dX3_init_9 : decode cX3_init 9 = .ok (.aload_n 0, 1) := by decide +kernel
theorem dX3_init_10 : decode cX3_init 10 = .ok (.iconst 0, 1) := by decide +kernel
theorem dX3_init_11 : decode cX3_init 11 = .ok (.putfield 15, 3) := by decide +kernel
theorem dX3_init_14 : decode cX3_init 14 = .ok (.aload_n 0, 1) := by decide +kernel
theorem dX3_init_15 : decode cX3_init 15 = .ok (.iconst 0, 1) := by decide +kernel
theorem dX3_init_16 : decode cX3_init 16 = .ok (.putfield 19, 3) := by decide +kernel
theorem dX3_init_19 : decode cX3_init 19 = .ok (.aload_n 0, 1) := by decide +kernel
theorem dX3_init_20 : decode cX3_init 20 = .ok (.iconst 0, 1) := by decide +kernel
theorem dX3_init_21 : decode cX3_init 21 = .ok (.putfield 22, 3) := by decide +kernel
theorem dX3_init_24 : decode cX3_init 24 = .ok (.aload_n 0, 1) := by decide +kernel
theorem dX3_init_25 : decode cX3_init 25 = .ok (.iconst 0, 1) := by decide +kernel
theorem dX3_init_26 : decode cX3_init 26 = .ok (.putfield 25, 3) := by decide +kernel
theorem dX3_init_29 : decode cX3_init 29 = .ok (.return_, 1) := by decide +kernel
set_option maxRecDepth 20000 in
theorem ggX3_firstFault_X3_codeAt : GoodIn wsX3_firstFault wsX3_codeAt := goodIn_r _ [9, 1, 3, 2, 10, 11, 12, 13, 14, 15, 16, 17, 18, 19, 20, 37, 38, 39, 40, 41, 42, 43, 44, 45] (by decide +kernel) (by decide +kernel)
set_option maxRecDepth 20000 in
theorem gX3_firstFault_X3_codeAt : GoodIn wsX3_firstFault (wsV RX3 28 RX3 yX3_codeAt wsX3_codeAt) := goodIn_app (goodIn_of _ (by decide +kernel)) ggX3_firstFault_X3_codeAt
set_option maxRecDepth 20000 in
theorem ggX3_firstFault_X3_hasDigit : GoodIn wsX3_firstFault wsX3_hasDigit := goodIn_r _ [24, 5, 6, 7, 8, 9, 1, 3, 2, 10, 11, 12, 13, 14, 15, 16, 17, 18, 19, 20, 37, 38, 39, 40, 41, 42, 43, 44, 45] (by decide +kernel) (by decide +kernel)
set_option maxRecDepth 20000 in
theorem gX3_firstFault_X3_hasDigit : GoodIn wsX3_firstFault (wsV RX3 32 RX3 yX3_hasDigit wsX3_hasDigit) := goodIn_app (goodIn_of _ (by decide +kernel)) ggX3_firstFault_X3_hasDigit
set_option maxRecDepth 20000 in
theorem ggX3_firstFault_X3_firstFaultOfLinens : GoodIn wsX3_firstFault wsX3_firstFaultOfLinens := goodIn_r _ [28, 29, 3, 30, 31, 32, 8, 33, 4, 5, 6, 7, 9, 1, 2, 10, 11, 12, 13, 14, 15, 16, 17, 18, 19, 20, 34, 35, 36, 21, 22, 23, 24, 37, 38, 39, 40, 41, 42, 43, 44, 45] (by decide +kernel) (by decide +kernel)
set_option maxRecDepth 20000 in
theorem gX3_firstFault_X3_firstFaultOfLinens : GoodIn wsX3_firstFault (wsV RX3 36 RX3 yX3_firstFaultOfLinens wsX3_firstFaultOfLinens) := goodIn_app (goodIn_of _ (by decide +kernel)) ggX3_firstFault_X3_firstFaultOfLinens
theorem dX3_firstFault_0 : decode cX3_firstFault 0 = .ok (.aload_n 0, 1) := by decide +kernel
theorem dX3_firstFault_1 : decode cX3_firstFault 1 = .ok (.aload_n 1, 1) := by decide +kernel
theorem dX3_firstFault_2 : decode cX3_firstFault 2 = .ok (.putfield 9, 3) := by decide +kernel
theorem dX3_firstFault_5 : decode cX3_firstFault 5 = .ok (.aload_n 0, 1) := by decide +kernel
theorem dX3_firstFault_6 : decode cX3_firstFault 6 = .ok (.iload_n 2, 1) := by decide +kernel
theorem dX3_firstFault_7 : decode cX3_firstFault 7 = .ok (.putfield 15, 3) := by decide +kernel
theorem dX3_firstFault_10 : decode cX3_firstFault 10 = .ok (.aload_n 0, 1) := by decide +kernel
theorem dX3_firstFault_11 : decode cX3_firstFault 11 = .ok (.iload_n 3, 1) := by decide +kernel
theorem dX3_firstFault_12 : decode cX3_firstFault 12 = .ok (.putfield 19, 3) := by decide +kernel
theorem dX3_firstFault_15 : decode cX3_firstFault 15 = .ok (.aload_n 0, 1) := by decide +kernel
theorem dX3_firstFault_16 : decode cX3_firstFault 16 = .ok (.iconst 0, 1) := by decide +kernel
theorem dX3_firstFault_17 : decode cX3_firstFault 17 = .ok (.invokevirtual 28, 3) := by decide +kernel
theorem dX3_firstFault_20 : decode cX3_firstFault 20 = .ok (.bipush 107, 2) := by decide +kernel
theorem dX3_firstFault_22 : decode cX3_firstFault 22 = .ok (.if_icmp .eq 5, 3) := by decide +kernel
theorem dX3_firstFault_25 : decode cX3_firstFault 25 = .ok (.iconst 0, 1) := by decide +kernel
theorem dX3_firstFault_26 : decode cX3_firstFault 26 = .ok (.ireturn, 1) := by decide +kernel
theorem dX3_firstFault_27 : decode cX3_firstFault 27 = .ok (.iconst 1, 1) := by decide +kernel
theorem dX3_firstFault_28 : decode cX3_firstFault 28 = .ok (.istore 4, 2) := by decide +kernel
theorem dX3_firstFault_30 : decode cX3_firstFault 30 = .ok (.iload 4, 2) := by decide +kernel
theorem dX3_firstFault_32 : decode cX3_firstFault 32 = .ok (.iconst 5, 1) := by decide +kernel
theorem dX3_firstFault_33 : decode cX3_firstFault 33 = .ok (.if_icmp .ge 23, 3) := by decide +kernel
theorem dX3_firstFault_36 : decode cX3_firstFault 36 = .ok (.aload_n 0, 1) := by decide +kernel
theorem dX3_firstFault_37 : decode cX3_firstFault 37 = .ok (.iload 4, 2) := by decide +kernel
theorem dX3_firstFault_39 : decode cX3_firstFault 39 = .ok (.bipush 9, 2) := by decide +kernel
theorem dX3_firstFault_41 : decode cX3_firstFault 41 = .ok (.invokevirtual 32, 3) := by decide +kernel
theorem dX3_firstFault_44 : decode cX3_firstFault 44 = .ok (.ifCond .ne 6, 3) := by decide +kernel
theorem dX3_firstFault_47 : decode cX3_firstFault 47 = .ok (.iload 4, 2) := by decide +kernel
theorem dX3_firstFault_49 : decode cX3_firstFault 49 = .ok (.ireturn, 1) := by decide +kernel
theorem dX3_firstFault_50 : decode cX3_firstFault 50 = .ok (.iinc 4 1, 3) := by decide +kernel
theorem dX3_firstFault_53 : decode cX3_firstFault 53 = .ok (.goto (-23), 3) := by decide +kernel
theorem dX3_firstFault_56 : decode cX3_firstFault 56 = .ok (.aload_n 0, 1) := by decide +kernel
theorem dX3_firstFault_57 : decode cX3_firstFault 57 = .ok (.iconst 5, 1) := by decide +kernel
theorem dX3_firstFault_58 : decode cX3_firstFault 58 = .ok (.invokevirtual 28, 3) := by decide +kernel
theorem dX3_firstFault_61 : decode cX3_firstFault 61 = .ok (.bipush 44, 2) := by decide +kernel
theorem dX3_firstFault_63 : decode cX3_firstFault 63 = .ok (.if_icmp .eq 5, 3) := by decide +kernel
theorem dX3_firstFault_66 : decode cX3_firstFault 66 = .ok (.iconst 5, 1) := by decide +kernel
theorem dX3_firstFault_67 : decode cX3_firstFault 67 = .ok (.ireturn, 1) := by decide +kernel
theorem dX3_firstFault_68 : decode cX3_firstFault 68 = .ok (.aload_n 0, 1) := by decide +kernel
theorem dX3_firstFault_69 : decode cX3_firstFault 69 = .ok (.iconst 0, 1) := by decide +kernel
theorem dX3_firstFault_70 : decode cX3_firstFault 70 = .ok (.putfield 22, 3) := by decide +kernel
theorem dX3_firstFault_73 : decode cX3_firstFault 73 = .ok (.iconst 0, 1) := by decide +kernel
theorem dX3_firstFault_74 : decode cX3_firstFault 74 = .ok (.istore 4, 2) := by decide +kernel
theorem dX3_firstFault_76 : decode cX3_firstFault 76 = .ok (.iload 4, 2) := by decide +kernel
theorem dX3_firstFault_78 : decode cX3_firstFault 78 = .ok (.bipush 6, 2) := by decide +kernel
theorem dX3_firstFault_80 : decode cX3_firstFault 80 = .ok (.if_icmp .ge 33, 3) := by decide +kernel
theorem dX3_firstFault_83 : decode cX3_firstFault 83 = .ok (.aload_n 0, 1) := by decide +kernel
theorem dX3_firstFault_84 : decode cX3_firstFault 84 = .ok (.bipush 6, 2) := by decide +kernel
theorem dX3_firstFault_86 : decode cX3_firstFault 86 = .ok (.iload 4, 2) := by decide +kernel
theorem dX3_firstFault_88 : decode cX3_firstFault 88 = .ok (.iadd, 1) := by decide +kernel
theorem dX3_firstFault_89 : decode cX3_firstFault 89 = .ok (.bipush 9, 2) := by decide +kernel
theorem dX3_firstFault_91 : decode cX3_firstFault 91 = .ok (.invokevirtual 32, 3) := by decide +kernel
theorem dX3_firstFault_94 : decode cX3_firstFault 94 = .ok (.ifCond .eq 19, 3) := by decide +kernel
theorem dX3_firstFault_97 : decode cX3_firstFault 97 = .ok (.aload_n 0, 1) := by decide +kernel
theorem dX3_firstFault_98 : decode cX3_firstFault 98 = .ok (.dup, 1) := by decide +kernel
theorem dX3_firstFault_99 : decode cX3_firstFault 99 = .ok (.getfield 22, 3) := by decide +kernel
theorem dX3_firstFault_102 : decode cX3_firstFault 102 = .ok (.iconst 1, 1) := by decide +kernel
theorem dX3_firstFault_103 : decode cX3_firstFault 103 = .ok (.iadd, 1) := by decide +kernel
theorem dX3_firstFault_104 : decode cX3_firstFault 104 = .ok (.putfield 22, 3) := by decide +kernel
theorem dX3_firstFault_107 : decode cX3_firstFault 107 = .ok (.iinc 4 1, 3) := by decide +kernel
theorem dX3_firstFault_110 : decode cX3_firstFault 110 = .ok (.goto (-34), 3) := by decide +kernel
theorem dX3_firstFault_113 : decode cX3_firstFault 113 = .ok (.aload_n 0, 1) := by decide +kernel
theorem dX3_firstFault_114 : decode cX3_firstFault 114 = .ok (.getfield 22, 3) := by decide +kernel
theorem dX3_firstFault_117 : decode cX3_firstFault 117 = .ok (.ifCond .ne 8, 3) := by decide +kernel
theorem dX3_firstFault_120 : decode cX3_firstFault 120 = .ok (.bipush 6, 2) := by decide +kernel
theorem dX3_firstFault_122 : decode cX3_firstFault 122 = .ok (.goto 7, 3) := by decide +kernel
theorem dX3_firstFault_125 : decode cX3_firstFault 125 = .ok (.aload_n 0, 1) := by decide +kernel
theorem dX3_firstFault_126 : decode cX3_firstFault 126 = .ok (.invokevirtual 36, 3) := by decide +kernel
theorem dX3_firstFault_129 : decode cX3_firstFault 129 = .ok (.ireturn, 1) := by decide +kernel
set_option maxRecDepth 20000 in
theorem ggX3_firstFaultOfLinens_X3_linenPlace : GoodIn wsX3_firstFaultOfLinens wsX3_linenPlace := goodIn_r _ [7, 8, 33, 34, 35, 36, 37] (by decide +kernel) (by decide +kernel)
set_option maxRecDepth 20000 in
theorem gX3_firstFaultOfLinens_X3_linenPlace : GoodIn wsX3_firstFaultOfLinens (wsV RX3 40 RX3 yX3_linenPlace wsX3_linenPlace) := goodIn_app (goodIn_of _ (by decide +kernel)) ggX3_firstFaultOfLinens_X3_linenPlace
set_option maxRecDepth 20000 in
theorem ggX3_firstFaultOfLinens_X3_codeAt : GoodIn wsX3_firstFaultOfLinens wsX3_codeAt := goodIn_r _ [12, 13, 2, 14, 15, 16, 17, 18, 19, 20, 21, 22, 23, 24, 25, 33, 34, 35, 36, 37, 38, 39, 40, 41] (by decide +kernel) (by decide +kernel)
set_option maxRecDepth 20000 in
theorem gX3_firstFaultOfLinens_X3_codeAt : GoodIn wsX3_firstFaultOfLinens (wsV RX3 28 RX3 yX3_codeAt wsX3_codeAt) := goodIn_app (goodIn_of _ (by decide +kernel)) ggX3_firstFaultOfLinens_X3_codeAt
set_option maxRecDepth 20000 in
theorem ggX3_firstFaultOfLinens_X3_kindOfLetter : GoodIn wsX3_firstFaultOfLinens wsX3_kindOfLetter := goodIn_r _ [28] (by decide +kernel) (by decide +kernel)
set_option maxRecDepth 20000 in
theorem gX3_firstFaultOfLinens_X3_kindOfLetter : GoodIn wsX3_firstFaultOfLinens (va_wsS RX3 43 yX3_kindOfLetter wsX3_kindOfLetter) := goodIn_app (goodIn_of _ (by decide +kernel)) ggX3_firstFaultOfLinens_X3_kindOfLetter
set_option maxRecDepth 20000 in
theorem ggX3_firstFaultOfLinens_X3_hasDigit : GoodIn wsX3_firstFaultOfLinens wsX3_hasDigit := goodIn_r _ [32, 9, 10, 11, 6, 12, 13, 2, 14, 15, 16, 17, 18, 19, 20, 21, 22, 23, 24, 25, 33, 34, 35, 36, 37, 38, 39, 40, 41] (by decide +kernel) (by decide +kernel)
set_option maxRecDepth 20000 in
theorem gX3_firstFaultOfLinens_X3_hasDigit : GoodIn wsX3_firstFaultOfLinens (wsV RX3 32 RX3 yX3_hasDigit wsX3_hasDigit) := goodIn_app (goodIn_of _ (by decide +kernel)) ggX3_firstFaultOfLinens_X3_hasDigit
theorem dX3_firstFaultOfLinens_0 : decode cX3_firstFaultOfLinens 0 = .ok (.aload_n 0, 1) := by decide +kernel
theorem dX3_firstFaultOfLinens_1 : decode cX3_firstFaultOfLinens 1 = .ok (.iconst 0, 1) := by decide +kernel
theorem dX3_firstFaultOfLinens_2 : decode cX3_firstFaultOfLinens 2 = .ok (.putfield 25, 3) := by decide +kernel
theorem dX3_firstFaultOfLinens_5 : decode cX3_firstFaultOfLinens 5 = .ok (.iconst 0, 1) := by decide +kernel
theorem dX3_firstFaultOfLinens_6 : decode cX3_firstFaultOfLinens 6 = .ok (.istore_n 1, 1) := by decide +kernel
theorem dX3_firstFaultOfLinens_7 : decode cX3_firstFaultOfLinens 7 = .ok (.iload_n 1, 1) := by decide +kernel
theorem dX3_firstFaultOfLinens_8 : decode cX3_firstFaultOfLinens 8 = .ok (.iconst 5, 1) := by decide +kernel
theorem dX3_firstFaultOfLinens_9 : decode cX3_firstFaultOfLinens 9 = .ok (.if_icmp .ge 102, 3) := by decide +kernel
theorem dX3_firstFaultOfLinens_12 : decode cX3_firstFaultOfLinens 12 = .ok (.aload_n 0, 1) := by decide +kernel
theorem dX3_firstFaultOfLinens_13 : decode cX3_firstFaultOfLinens 13 = .ok (.iload_n 1, 1) := by decide +kernel
theorem dX3_firstFaultOfLinens_14 : decode cX3_firstFaultOfLinens 14 = .ok (.invokevirtual 40, 3) := by decide +kernel
theorem dX3_firstFaultOfLinens_17 : decode cX3_firstFaultOfLinens 17 = .ok (.istore_n 2, 1) := by decide +kernel
theorem dX3_firstFaultOfLinens_18 : decode cX3_firstFaultOfLinens 18 = .ok (.iload_n 1, 1) := by decide +kernel
theorem dX3_firstFaultOfLinens_19 : decode cX3_firstFaultOfLinens 19 = .ok (.ifCond .le 14, 3) := by decide +kernel
theorem dX3_firstFaultOfLinens_22 : decode cX3_firstFaultOfLinens 22 = .ok (.iload_n 2, 1) := by decide +kernel
theorem dX3_firstFaultOfLinens_23 : decode cX3_firstFaultOfLinens 23 = .ok (.aload_n 0, 1) := by decide +kernel
theorem dX3_firstFaultOfLinens_24 : decode cX3_firstFaultOfLinens 24 = .ok (.getfield 19, 3) := by decide +kernel
theorem dX3_firstFaultOfLinens_27 : decode cX3_firstFaultOfLinens 27 = .ok (.if_icmp .ne 6, 3) := by decide +kernel
theorem dX3_firstFaultOfLinens_30 : decode cX3_firstFaultOfLinens 30 = .ok (.bipush (-9), 2) := by decide +kernel
theorem dX3_firstFaultOfLinens_32 : decode cX3_firstFaultOfLinens 32 = .ok (.ireturn, 1) := by decide +kernel
theorem dX3_firstFaultOfLinens_33 : decode cX3_firstFaultOfLinens 33 = .ok (.aload_n 0, 1) := by decide +kernel
theorem dX3_firstFaultOfLinens_34 : decode cX3_firstFaultOfLinens 34 = .ok (.iload_n 2, 1) := by decide +kernel
theorem dX3_firstFaultOfLinens_35 : decode cX3_firstFaultOfLinens 35 = .ok (.invokevirtual 28, 3) := by decide +kernel
theorem dX3_firstFaultOfLinens_38 : decode cX3_firstFaultOfLinens 38 = .ok (.bipush 59, 2) := by decide +kernel
theorem dX3_firstFaultOfLinens_40 : decode cX3_firstFaultOfLinens 40 = .ok (.if_icmp .eq 5, 3) := by decide +kernel
theorem dX3_firstFaultOfLinens_43 : decode cX3_firstFaultOfLinens 43 = .ok (.iload_n 2, 1) := by decide +kernel
theorem dX3_firstFaultOfLinens_44 : decode cX3_firstFaultOfLinens 44 = .ok (.ireturn, 1) := by decide +kernel
theorem dX3_firstFaultOfLinens_45 : decode cX3_firstFaultOfLinens 45 = .ok (.aload_n 0, 1) := by decide +kernel
theorem dX3_firstFaultOfLinens_46 : decode cX3_firstFaultOfLinens 46 = .ok (.iload_n 2, 1) := by decide +kernel
theorem dX3_firstFaultOfLinens_47 : decode cX3_firstFaultOfLinens 47 = .ok (.iconst 1, 1) := by decide +kernel
theorem dX3_firstFaultOfLinens_48 : decode cX3_firstFaultOfLinens 48 = .ok (.iadd, 1) := by decide +kernel
theorem dX3_firstFaultOfLinens_49 : decode cX3_firstFaultOfLinens 49 = .ok (.invokevirtual 28, 3) := by decide +kernel
theorem dX3_firstFaultOfLinens_52 : decode cX3_firstFaultOfLinens 52 = .ok (.invokestatic 43, 3) := by decide +kernel
theorem dX3_firstFaultOfLinens_55 : decode cX3_firstFaultOfLinens 55 = .ok (.bipush (-9), 2) := by decide +kernel
theorem dX3_firstFaultOfLinens_57 : decode cX3_firstFaultOfLinens 57 = .ok (.if_icmp .ne 7, 3) := by decide +kernel
theorem dX3_firstFaultOfLinens_60 : decode cX3_firstFaultOfLinens 60 = .ok (.iload_n 2, 1) := by decide +kernel
theorem dX3_firstFaultOfLinens_61 : decode cX3_firstFaultOfLinens 61 = .ok (.iconst 1, 1) := by decide +kernel
theorem dX3_firstFaultOfLinens_62 : decode cX3_firstFaultOfLinens 62 = .ok (.iadd, 1) := by decide +kernel
theorem dX3_firstFaultOfLinens_63 : decode cX3_firstFaultOfLinens 63 = .ok (.ireturn, 1) := by decide +kernel
theorem dX3_firstFaultOfLinens_64 : decode cX3_firstFaultOfLinens 64 = .ok (.aload_n 0, 1) := by decide +kernel
theorem dX3_firstFaultOfLinens_65 : decode cX3_firstFaultOfLinens 65 = .ok (.iload_n 2, 1) := by decide +kernel
theorem dX3_firstFaultOfLinens_66 : decode cX3_firstFaultOfLinens 66 = .ok (.iconst 2, 1) := by decide +kernel
theorem dX3_firstFaultOfLinens_67 : decode cX3_firstFaultOfLinens 67 = .ok (.iadd, 1) := by decide +kernel
theorem dX3_firstFaultOfLinens_68 : decode cX3_firstFaultOfLinens 68 = .ok (.iconst 3, 1) := by decide +kernel
theorem dX3_firstFaultOfLinens_69 : decode cX3_firstFaultOfLinens 69 = .ok (.invokevirtual 32, 3) := by decide +kernel
theorem dX3_firstFaultOfLinens_72 : decode cX3_firstFaultOfLinens 72 = .ok (.ifCond .ne 7, 3) := by decide +kernel
theorem dX3_firstFaultOfLinens_75 : decode cX3_firstFaultOfLinens 75 = .ok (.iload_n 2, 1) := by decide +kernel
theorem dX3_firstFaultOfLinens_76 : decode cX3_firstFaultOfLinens 76 = .ok (.iconst 2, 1) := by decide +kernel
theorem dX3_firstFaultOfLinens_77 : decode cX3_firstFaultOfLinens 77 = .ok (.iadd, 1) := by decide +kernel
theorem dX3_firstFaultOfLinens_78 : decode cX3_firstFaultOfLinens 78 = .ok (.ireturn, 1) := by decide +kernel
theorem dX3_firstFaultOfLinens_79 : decode cX3_firstFaultOfLinens 79 = .ok (.aload_n 0, 1) := by decide +kernel
theorem dX3_firstFaultOfLinens_80 : decode cX3_firstFaultOfLinens 80 = .ok (.iload_n 2, 1) := by decide +kernel
theorem dX3_firstFaultOfLinens_81 : decode cX3_firstFaultOfLinens 81 = .ok (.iconst 3, 1) := by decide +kernel
theorem dX3_firstFaultOfLinens_82 : decode cX3_firstFaultOfLinens 82 = .ok (.iadd, 1) := by decide +kernel
theorem dX3_firstFaultOfLinens_83 : decode cX3_firstFaultOfLinens 83 = .ok (.bipush 9, 2) := by decide +kernel
theorem dX3_firstFaultOfLinens_85 : decode cX3_firstFaultOfLinens 85 = .ok (.invokevirtual 32, 3) := by decide +kernel
theorem dX3_firstFaultOfLinens_88 : decode cX3_firstFaultOfLinens 88 = .ok (.ifCond .ne 7, 3) := by decide +kernel
theorem dX3_firstFaultOfLinens_91 : decode cX3_firstFaultOfLinens 91 = .ok (.iload_n 2, 1) := by decide +kernel
theorem dX3_firstFaultOfLinens_92 : decode cX3_firstFaultOfLinens 92 = .ok (.iconst 3, 1) := by decide +kernel
theorem dX3_firstFaultOfLinens_93 : decode cX3_firstFaultOfLinens 93 = .ok (.iadd, 1) := by decide +kernel
theorem dX3_firstFaultOfLinens_94 : decode cX3_firstFaultOfLinens 94 = .ok (.ireturn, 1) := by decide +kernel
theorem dX3_firstFaultOfLinens_95 : decode cX3_firstFaultOfLinens 95 = .ok (.aload_n 0, 1) := by decide +kernel
theorem dX3_firstFaultOfLinens_96 : decode cX3_firstFaultOfLinens 96 = .ok (.dup, 1) := by decide +kernel
theorem dX3_firstFaultOfLinens_97 : decode cX3_firstFaultOfLinens 97 = .ok (.getfield 25, 3) := by decide +kernel
theorem dX3_firstFaultOfLinens_100 : decode cX3_firstFaultOfLinens 100 = .ok (.iconst 1, 1) := by decide +kernel
theorem dX3_firstFaultOfLinens_101 : decode cX3_firstFaultOfLinens 101 = .ok (.iadd, 1) := by decide +kernel
theorem dX3_firstFaultOfLinens_102 : decode cX3_firstFaultOfLinens 102 = .ok (.putfield 25, 3) := by decide +kernel
theorem dX3_firstFaultOfLinens_105 : decode cX3_firstFaultOfLinens 105 = .ok (.iinc 1 1, 3) := by decide +kernel
theorem dX3_firstFaultOfLinens_108 : decode cX3_firstFaultOfLinens 108 = .ok (.goto (-101), 3) := by decide +kernel
theorem dX3_firstFaultOfLinens_111 : decode cX3_firstFaultOfLinens 111 = .ok (.aload_n 0, 1) := by decide +kernel
theorem dX3_firstFaultOfLinens_112 : decode cX3_firstFaultOfLinens 112 = .ok (.iconst 5, 1) := by decide +kernel
theorem dX3_firstFaultOfLinens_113 : decode cX3_firstFaultOfLinens 113 = .ok (.invokevirtual 40, 3) := by decide +kernel
theorem dX3_firstFaultOfLinens_116 : decode cX3_firstFaultOfLinens 116 = .ok (.istore_n 1, 1) := by decide +kernel
theorem dX3_firstFaultOfLinens_117 : decode cX3_firstFaultOfLinens 117 = .ok (.iload_n 1, 1) := by decide +kernel
theorem dX3_firstFaultOfLinens_118 : decode cX3_firstFaultOfLinens 118 = .ok (.aload_n 0, 1) := by decide +kernel
theorem dX3_firstFaultOfLinens_119 : decode cX3_firstFaultOfLinens 119 = .ok (.getfield 19, 3) := by decide +kernel
theorem dX3_firstFaultOfLinens_122 : decode cX3_firstFaultOfLinens 122 = .ok (.if_icmp .ne 8, 3) := by decide +kernel
theorem dX3_firstFaultOfLinens_125 : decode cX3_firstFaultOfLinens 125 = .ok (.bipush (-9), 2) := by decide +kernel
theorem dX3_firstFaultOfLinens_127 : decode cX3_firstFaultOfLinens 127 = .ok (.goto 4, 3) := by decide +kernel
theorem dX3_firstFaultOfLinens_130 : decode cX3_firstFaultOfLinens 130 = .ok (.iload_n 1, 1) := by decide +kernel
theorem dX3_firstFaultOfLinens_131 : decode cX3_firstFaultOfLinens 131 = .ok (.ireturn, 1) := by decide +kernel
set_option maxRecDepth 20000 in
theorem ggX3_fill_X3_digitAt : GoodIn wsX3_fill wsX3_digitAt := goodIn_r _ [14, 15, 16, 17, 13, 18, 19, 20, 21, 22, 23, 24, 25, 26, 27, 28, 29, 30, 31, 32, 42, 43, 44, 45, 46, 54, 55, 56, 57] (by decide +kernel) (by decide +kernel)
set_option maxRecDepth 20000 in
theorem gX3_fill_X3_digitAt : GoodIn wsX3_fill (wsV RX3 54 RX3 yX3_digitAt wsX3_digitAt) := goodIn_app (goodIn_of _ (by decide +kernel)) ggX3_fill_X3_digitAt
set_option maxRecDepth 20000 in
theorem ggX3_fill_X7_set : GoodIn wsX3_fill wsX7_set := goodIn_r _ [34] (by decide +kernel) (by decide +kernel)
set_option maxRecDepth 20000 in
theorem gX3_fill_X7_set_n57 : GoodIn wsX3_fill (wsX7_set) := ggX3_fill_X7_set
set_option maxRecDepth 20000 in
theorem ggX3_fill_X3_linenPlace : GoodIn wsX3_fill wsX3_linenPlace := goodIn_r _ [38, 1, 42, 43, 44, 45, 46] (by decide +kernel) (by decide +kernel)
set_option maxRecDepth 20000 in
theorem gX3_fill_X3_linenPlace : GoodIn wsX3_fill (wsV RX3 40 RX3 yX3_linenPlace wsX3_linenPlace) := goodIn_app (goodIn_of _ (by decide +kernel)) ggX3_fill_X3_linenPlace
set_option maxRecDepth 20000 in
theorem ggX3_fill_X3_codeAt : GoodIn wsX3_fill wsX3_codeAt := goodIn_r _ [18, 19, 20, 21, 22, 23, 24, 25, 26, 27, 28, 29, 30, 31, 32, 42, 43, 44, 45, 46, 54, 55, 56, 57] (by decide +kernel) (by decide +kernel)
set_option maxRecDepth 20000 in
theorem gX3_fill_X3_codeAt : GoodIn wsX3_fill (wsV RX3 28 RX3 yX3_codeAt wsX3_codeAt) := goodIn_app (goodIn_of _ (by decide +kernel)) ggX3_fill_X3_codeAt
set_option maxRecDepth 20000 in
theorem ggX3_fill_X3_kindOfLetter : GoodIn wsX3_fill wsX3_kindOfLetter := goodIn_r _ [41] (by decide +kernel) (by decide +kernel)
set_option maxRecDepth 20000 in
theorem gX3_fill_X3_kindOfLetter : GoodIn wsX3_fill (va_wsS RX3 43 yX3_kindOfLetter wsX3_kindOfLetter) := goodIn_app (goodIn_of _ (by decide +kernel)) ggX3_fill_X3_kindOfLetter
theorem dX3_fill_0 : decode cX3_fill 0 = .ok (.aload_n 1, 1) := by decide +kernel
theorem dX3_fill_1 : decode cX3_fill 1 = .ok (.aload_n 0, 1) := by decide +kernel
theorem dX3_fill_2 : decode cX3_fill 2 = .ok (.getfield 22, 3) := by decide +kernel
theorem dX3_fill_5 : decode cX3_fill 5 = .ok (.putfield 46, 3) := by decide +kernel
theorem dX3_fill_8 : decode cX3_fill 8 = .ok (.aload_n 1, 1) := by decide +kernel
theorem dX3_fill_9 : decode cX3_fill 9 = .ok (.aload_n 0, 1) := by decide +kernel
theorem dX3_fill_10 : decode cX3_fill 10 = .ok (.getfield 25, 3) := by decide +kernel
theorem dX3_fill_13 : decode cX3_fill 13 = .ok (.putfield 49, 3) := by decide +kernel
theorem dX3_fill_16 : decode cX3_fill 16 = .ok (.iconst 0, 1) := by decide +kernel
theorem dX3_fill_17 : decode cX3_fill 17 = .ok (.istore_n 2, 1) := by decide +kernel
theorem dX3_fill_18 : decode cX3_fill 18 = .ok (.iload_n 2, 1) := by decide +kernel
theorem dX3_fill_19 : decode cX3_fill 19 = .ok (.iconst 4, 1) := by decide +kernel
theorem dX3_fill_20 : decode cX3_fill 20 = .ok (.if_icmp .ge 24, 3) := by decide +kernel
theorem dX3_fill_23 : decode cX3_fill 23 = .ok (.aload_n 1, 1) := by decide +kernel
theorem dX3_fill_24 : decode cX3_fill 24 = .ok (.getfield 50, 3) := by decide +kernel
theorem dX3_fill_27 : decode cX3_fill 27 = .ok (.iload_n 2, 1) := by decide +kernel
theorem dX3_fill_28 : decode cX3_fill 28 = .ok (.aload_n 0, 1) := by decide +kernel
theorem dX3_fill_29 : decode cX3_fill 29 = .ok (.iconst 1, 1) := by decide +kernel
theorem dX3_fill_30 : decode cX3_fill 30 = .ok (.iload_n 2, 1) := by decide +kernel
theorem dX3_fill_31 : decode cX3_fill 31 = .ok (.iadd, 1) := by decide +kernel
theorem dX3_fill_32 : decode cX3_fill 32 = .ok (.invokevirtual 54, 3) := by decide +kernel
theorem dX3_fill_35 : decode cX3_fill 35 = .ok (.invokestatic 57, 3) := by decide +kernel
theorem dX3_fill_38 : decode cX3_fill 38 = .ok (.iinc 2 1, 3) := by decide +kernel
theorem dX3_fill_41 : decode cX3_fill 41 = .ok (.goto (-23), 3) := by decide +kernel
theorem dX3_fill_44 : decode cX3_fill 44 = .ok (.iconst 0, 1) := by decide +kernel
theorem dX3_fill_45 : decode cX3_fill 45 = .ok (.istore_n 2, 1) := by decide +kernel
theorem dX3_fill_46 : decode cX3_fill 46 = .ok (.iload_n 2, 1) := by decide +kernel
theorem dX3_fill_47 : decode cX3_fill 47 = .ok (.aload_n 0, 1) := by decide +kernel
theorem dX3_fill_48 : decode cX3_fill 48 = .ok (.getfield 22, 3) := by decide +kernel
theorem dX3_fill_51 : decode cX3_fill 51 = .ok (.if_icmp .ge 25, 3) := by decide +kernel
theorem dX3_fill_54 : decode cX3_fill 54 = .ok (.aload_n 1, 1) := by decide +kernel
theorem dX3_fill_55 : decode cX3_fill 55 = .ok (.getfield 61, 3) := by decide +kernel
theorem dX3_fill_58 : decode cX3_fill 58 = .ok (.iload_n 2, 1) := by decide +kernel
theorem dX3_fill_59 : decode cX3_fill 59 = .ok (.aload_n 0, 1) := by decide +kernel
theorem dX3_fill_60 : decode cX3_fill 60 = .ok (.bipush 6, 2) := by decide +kernel
theorem dX3_fill_62 : decode cX3_fill 62 = .ok (.iload_n 2, 1) := by decide +kernel
theorem dX3_fill_63 : decode cX3_fill 63 = .ok (.iadd, 1) := by decide +kernel
theorem dX3_fill_64 : decode cX3_fill 64 = .ok (.invokevirtual 54, 3) := by decide +kernel
theorem dX3_fill_67 : decode cX3_fill 67 = .ok (.invokestatic 57, 3) := by decide +kernel
theorem dX3_fill_70 : decode cX3_fill 70 = .ok (.iinc 2 1, 3) := by decide +kernel
theorem dX3_fill_73 : decode cX3_fill 73 = .ok (.goto (-27), 3) := by decide +kernel
theorem dX3_fill_76 : decode cX3_fill 76 = .ok (.iconst 0, 1) := by decide +kernel
theorem dX3_fill_77 : decode cX3_fill 77 = .ok (.istore_n 2, 1) := by decide +kernel
theorem dX3_fill_78 : decode cX3_fill 78 = .ok (.iload_n 2, 1) := by decide +kernel
theorem dX3_fill_79 : decode cX3_fill 79 = .ok (.aload_n 0, 1) := by decide +kernel
theorem dX3_fill_80 : decode cX3_fill 80 = .ok (.getfield 25, 3) := by decide +kernel
theorem dX3_fill_83 : decode cX3_fill 83 = .ok (.if_icmp .ge 63, 3) := by decide +kernel
theorem dX3_fill_86 : decode cX3_fill 86 = .ok (.aload_n 0, 1) := by decide +kernel
theorem dX3_fill_87 : decode cX3_fill 87 = .ok (.iload_n 2, 1) := by decide +kernel
theorem dX3_fill_88 : decode cX3_fill 88 = .ok (.invokevirtual 40, 3) := by decide +kernel
theorem dX3_fill_91 : decode cX3_fill 91 = .ok (.istore_n 3, 1) := by decide +kernel
theorem dX3_fill_92 : decode cX3_fill 92 = .ok (.aload_n 1, 1) := by decide +kernel
theorem dX3_fill_93 : decode cX3_fill 93 = .ok (.getfield 64, 3) := by decide +kernel
theorem dX3_fill_96 : decode cX3_fill 96 = .ok (.iload_n 2, 1) := by decide +kernel
theorem dX3_fill_97 : decode cX3_fill 97 = .ok (.aload_n 0, 1) := by decide +kernel
theorem dX3_fill_98 : decode cX3_fill 98 = .ok (.iload_n 3, 1) := by decide +kernel
theorem dX3_fill_99 : decode cX3_fill 99 = .ok (.iconst 1, 1) := by decide +kernel
theorem dX3_fill_100 : decode cX3_fill 100 = .ok (.iadd, 1) := by decide +kernel
theorem dX3_fill_101 : decode cX3_fill 101 = .ok (.invokevirtual 28, 3) := by decide +kernel
theorem dX3_fill_104 : decode cX3_fill 104 = .ok (.invokestatic 43, 3) := by decide +kernel
theorem dX3_fill_107 : decode cX3_fill 107 = .ok (.invokestatic 57, 3) := by decide +kernel
theorem dX3_fill_110 : decode cX3_fill 110 = .ok (.aload_n 1, 1) := by decide +kernel
theorem dX3_fill_111 : decode cX3_fill 111 = .ok (.getfield 67, 3) := by decide +kernel
theorem dX3_fill_114 : decode cX3_fill 114 = .ok (.iload_n 2, 1) := by decide +kernel
theorem dX3_fill_115 : decode cX3_fill 115 = .ok (.aload_n 0, 1) := by decide +kernel
theorem dX3_fill_116 : decode cX3_fill 116 = .ok (.iload_n 3, 1) := by decide +kernel
theorem dX3_fill_117 : decode cX3_fill 117 = .ok (.iconst 2, 1) := by decide +kernel
theorem dX3_fill_118 : decode cX3_fill 118 = .ok (.iadd, 1) := by decide +kernel
theorem dX3_fill_119 : decode cX3_fill 119 = .ok (.invokevirtual 54, 3) := by decide +kernel
theorem dX3_fill_122 : decode cX3_fill 122 = .ok (.invokestatic 57, 3) := by decide +kernel
theorem dX3_fill_125 : decode cX3_fill 125 = .ok (.aload_n 1, 1) := by decide +kernel
theorem dX3_fill_126 : decode cX3_fill 126 = .ok (.getfield 70, 3) := by decide +kernel
theorem dX3_fill_129 : decode cX3_fill 129 = .ok (.iload_n 2, 1) := by decide +kernel
theorem dX3_fill_130 : decode cX3_fill 130 = .ok (.aload_n 0, 1) := by decide +kernel
theorem dX3_fill_131 : decode cX3_fill 131 = .ok (.iload_n 3, 1) := by decide +kernel
theorem dX3_fill_132 : decode cX3_fill 132 = .ok (.iconst 3, 1) := by decide +kernel
theorem dX3_fill_133 : decode cX3_fill 133 = .ok (.iadd, 1) := by decide +kernel
theorem dX3_fill_134 : decode cX3_fill 134 = .ok (.invokevirtual 54, 3) := by decide +kernel
theorem dX3_fill_137 : decode cX3_fill 137 = .ok (.invokestatic 57, 3) := by decide +kernel
theorem dX3_fill_140 : decode cX3_fill 140 = .ok (.iinc 2 1, 3) := by decide +kernel
theorem dX3_fill_143 : decode cX3_fill 143 = .ok (.goto (-65), 3) := by decide +kernel
theorem dX3_fill_146 : decode cX3_fill 146 = .ok (.return_, 1) := by decide +kernel
theorem dX3_linenPlace_0 : decode cX3_linenPlace 0 = .ok (.bipush 6, 2) := by decide +kernel
theorem dX3_linenPlace_2 : decode cX3_linenPlace 2 = .ok (.aload_n 0, 1) := by decide +kernel
theorem dX3_linenPlace_3 : decode cX3_linenPlace 3 = .ok (.getfield 22, 3) := by decide +kernel
theorem dX3_linenPlace_6 : decode cX3_linenPlace 6 = .ok (.iadd, 1) := by decide +kernel
theorem dX3_linenPlace_7 : decode cX3_linenPlace 7 = .ok (.iconst 4, 1) := by decide +kernel
theorem dX3_linenPlace_8 : decode cX3_linenPlace 8 = .ok (.iload_n 1, 1) := by decide +kernel
theorem dX3_linenPlace_9 : decode cX3_linenPlace 9 = .ok (.imul, 1) := by decide +kernel
theorem dX3_linenPlace_10 : decode cX3_linenPlace 10 = .ok (.iadd, 1) := by decide +kernel
theorem dX3_linenPlace_11 : decode cX3_linenPlace 11 = .ok (.ireturn, 1) := by decide +kernel
set_option maxRecDepth 20000 in
theorem ggX3_codeAt_X7_isBelow : GoodIn wsX3_codeAt wsX7_isBelow := goodIn_r _ [6] (by decide +kernel) (by decide +kernel)
set_option maxRecDepth 20000 in
theorem gX3_codeAt_X7_isBelow_n73 : GoodIn wsX3_codeAt (wsX7_isBelow) := ggX3_codeAt_X7_isBelow
set_option maxRecDepth 20000 in
theorem ggX3_codeAt_X4_number : GoodIn wsX3_codeAt wsX4_number := goodIn_r _ [11, 12, 13, 5, 14, 20, 21, 22, 23] (by decide +kernel) (by decide +kernel)
set_option maxRecDepth 20000 in
theorem gX3_codeAt_X4_number : GoodIn wsX3_codeAt (wsV RX3 76 RX4 yX4_number wsX4_number) := goodIn_app (goodIn_of _ (by decide +kernel)) ggX3_codeAt_X4_number
theorem dX3_codeAt_0 : decode cX3_codeAt 0 = .ok (.aload_n 0, 1) := by decide +kernel
theorem dX3_codeAt_1 : decode cX3_codeAt 1 = .ok (.getfield 9, 3) := by decide +kernel
theorem dX3_codeAt_4 : decode cX3_codeAt 4 = .ok (.ifnull 30, 3) := by decide +kernel
theorem dX3_codeAt_7 : decode cX3_codeAt 7 = .ok (.iload_n 1, 1) := by decide +kernel
theorem dX3_codeAt_8 : decode cX3_codeAt 8 = .ok (.aload_n 0, 1) := by decide +kernel
theorem dX3_codeAt_9 : decode cX3_codeAt 9 = .ok (.getfield 19, 3) := by decide +kernel
theorem dX3_codeAt_12 : decode cX3_codeAt 12 = .ok (.invokestatic 73, 3) := by decide +kernel
theorem dX3_codeAt_15 : decode cX3_codeAt 15 = .ok (.ifCond .eq 19, 3) := by decide +kernel
theorem dX3_codeAt_18 : decode cX3_codeAt 18 = .ok (.aload_n 0, 1) := by decide +kernel
theorem dX3_codeAt_19 : decode cX3_codeAt 19 = .ok (.getfield 9, 3) := by decide +kernel
theorem dX3_codeAt_22 : decode cX3_codeAt 22 = .ok (.aload_n 0, 1) := by decide +kernel
theorem dX3_codeAt_23 : decode cX3_codeAt 23 = .ok (.getfield 15, 3) := by decide +kernel
theorem dX3_codeAt_26 : decode cX3_codeAt 26 = .ok (.iload_n 1, 1) := by decide +kernel
theorem dX3_codeAt_27 : decode cX3_codeAt 27 = .ok (.iadd, 1) := by decide +kernel
theorem dX3_codeAt_28 : decode cX3_codeAt 28 = .ok (.invokevirtual 76, 3) := by decide +kernel
theorem dX3_codeAt_31 : decode cX3_codeAt 31 = .ok (.goto 4, 3) := by decide +kernel
theorem dX3_codeAt_34 : decode cX3_codeAt 34 = .ok (.iconst (-1), 1) := by decide +kernel
theorem dX3_codeAt_35 : decode cX3_codeAt 35 = .ok (.ireturn, 1) := by decide +kernel
set_option maxRecDepth 20000 in
theorem ggX3_digitAt_X3_codeAt : GoodIn wsX3_digitAt wsX3_codeAt := goodIn_r _ [5, 6, 7, 8, 9, 10, 11, 12, 13, 14, 15, 16, 17, 18, 19, 20, 21, 22, 23, 24, 25, 26, 27, 28] (by decide +kernel) (by decide +kernel)
set_option maxRecDepth 20000 in
theorem gX3_digitAt_X3_codeAt : GoodIn wsX3_digitAt (wsV RX3 28 RX3 yX3_codeAt wsX3_codeAt) := goodIn_app (goodIn_of _ (by decide +kernel)) ggX3_digitAt_X3_codeAt
theorem dX3_digitAt_0 : decode cX3_digitAt 0 = .ok (.aload_n 0, 1) := by decide +kernel
theorem dX3_digitAt_1 : decode cX3_digitAt 1 = .ok (.iload_n 1, 1) := by decide +kernel
theorem dX3_digitAt_2 : decode cX3_digitAt 2 = .ok (.invokevirtual 28, 3) := by decide +kernel
theorem dX3_digitAt_5 : decode cX3_digitAt 5 = .ok (.bipush 48, 2) := by decide +kernel
theorem dX3_digitAt_7 : decode cX3_digitAt 7 = .ok (.isub, 1) := by decide +kernel
theorem dX3_digitAt_8 : decode cX3_digitAt 8 = .ok (.ireturn, 1) := by decide +kernel
set_option maxRecDepth 20000 in
theorem ggX3_hasDigit_X3_codeAt : GoodIn wsX3_hasDigit wsX3_codeAt := goodIn_r _ [5, 6, 7, 8, 9, 10, 11, 12, 13, 14, 15, 16, 17, 18, 19, 20, 21, 22, 23, 24, 25, 26, 27, 28] (by decide +kernel) (by decide +kernel)
set_option maxRecDepth 20000 in
theorem gX3_hasDigit_X3_codeAt : GoodIn wsX3_hasDigit (wsV RX3 28 RX3 yX3_codeAt wsX3_codeAt) := goodIn_app (goodIn_of _ (by decide +kernel)) ggX3_hasDigit_X3_codeAt
theorem dX3_hasDigit_0 : decode cX3_hasDigit 0 = .ok (.aload_n 0, 1) := by decide +kernel
theorem dX3_hasDigit_1 : decode cX3_hasDigit 1 = .ok (.iload_n 1, 1) := by decide +kernel
theorem dX3_hasDigit_2 : decode cX3_hasDigit 2 = .ok (.invokevirtual 28, 3) := by decide +kernel
theorem dX3_hasDigit_5 : decode cX3_hasDigit 5 = .ok (.bipush 48, 2) := by decide +kernel
theorem dX3_hasDigit_7 : decode cX3_hasDigit 7 = .ok (.if_icmp .lt 19, 3) := by decide +kernel
theorem dX3_hasDigit_10 : decode cX3_hasDigit 10 = .ok (.aload_n 0, 1) := by decide +kernel
theorem dX3_hasDigit_11 : decode cX3_hasDigit 11 = .ok (.iload_n 1, 1) := by decide +kernel
theorem dX3_hasDigit_12 : decode cX3_hasDigit 12 = .ok (.invokevirtual 28, 3) := by decide +kernel
theorem dX3_hasDigit_15 : decode cX3_hasDigit 15 = .ok (.bipush 48, 2) := by decide +kernel
theorem dX3_hasDigit_17 : decode cX3_hasDigit 17 = .ok (.iload_n 2, 1) := by decide +kernel
theorem dX3_hasDigit_18 : decode cX3_hasDigit 18 = .ok (.iadd, 1) := by decide +kernel
theorem dX3_hasDigit_19 : decode cX3_hasDigit 19 = .ok (.if_icmp .gt 7, 3) := by decide +kernel
theorem dX3_hasDigit_22 : decode cX3_hasDigit 22 = .ok (.iconst 1, 1) := by decide +kernel
theorem dX3_hasDigit_23 : decode cX3_hasDigit 23 = .ok (.goto 4, 3) := by decide +kernel
theorem dX3_hasDigit_26 : decode cX3_hasDigit 26 = .ok (.iconst 0, 1) := by decide +kernel
theorem dX3_hasDigit_27 : decode cX3_hasDigit 27 = .ok (.ireturn, 1) := by decide +kernel
theorem dX3_kindOfLetter_0 : decode cX3_kindOfLetter 0 = .ok (.iload_n 0, 1) := by decide +kernel
theorem dX3_kindOfLetter_1 : decode cX3_kindOfLetter 1 = .ok (.lookupswitch 41 #[(99, 35), (108, 37), (115, 39)], 35) := by decide +kernel
theorem dX3_kindOfLetter_36 : decode cX3_kindOfLetter 36 = .ok (.iconst 0, 1) := by decide +kernel
theorem dX3_kindOfLetter_37 : decode cX3_kindOfLetter 37 = .ok (.ireturn, 1) := by decide +kernel
theorem dX3_kindOfLetter_38 : decode cX3_kindOfLetter 38 = .ok (.iconst 1, 1) := by decide +kernel
theorem dX3_kindOfLetter_39 : decode cX3_kindOfLetter 39 = .ok (.ireturn, 1) := by decide +kernel
theorem dX3_kindOfLetter_40 : decode cX3_kindOfLetter 40 = .ok (.iconst 2, 1) := by decide +kernel
theorem dX3_kindOfLetter_41 : decode cX3_kindOfLetter 41 = .ok (.ireturn, 1) := by decide +kernel
theorem dX3_kindOfLetter_42 : decode cX3_kindOfLetter 42 = .ok (.bipush (-9), 2) := by decide +kernel
theorem dX3_kindOfLetter_44 : decode cX3_kindOfLetter 44 = .ok (.ireturn, 1) := by decide +kernel
theorem dX4_init_0 : decode cX4_init 0 = .ok (.aload_n 0, 1) := by decide +kernel
theorem dX4_init_1 : decode cX4_init 1 = .ok (.invokespecial 3, 3) := by decide +kernel
theorem dX4_init_4 : decode cX4_init 4 = .ok (.aload_n 0, 1) := by decide +kernel
theorem dX4_init_5 : decode cX4_init 5 = .ok (.bipush 60, 2) := by decide +kernel
theorem dX4_init_7 : decode cX4_init 7 = .ok (.newarray .int, 2) := by decide +kernel
theorem dX4_init_9 : decode cX4_init 9 = .ok (.putfield 9, 3) := by decide +kernel
theorem dX4_init_12 : decode cX4_init 12 = .ok (.aload_n 0, 1) := by decide +kernel
theorem dX4_init_13 : decode cX4_init 13 = .ok (.iconst 0, 1) := by decide +kernel
theorem dX4_init_14 : decode cX4_init 14 = .ok (.putfield 15, 3) := by decide +kernel
theorem dX4_init_17 : decode cX4_init 17 = .ok (.aload_n 0, 1) := by decide +kernel
theorem dX4_init_18 : decode cX4_init 18 = .ok (.iconst 0, 1) := by decide +kernel
theorem dX4_init_19 : decode cX4_init 19 = .ok (.putfield 19, 3) := by decide +kernel
theorem dX4_init_22 : decode cX4_init 22 = .ok (.aload_n 0, 1) := by decide +kernel
theorem dX4_init_23 : decode cX4_init 23 = .ok (.iconst 0, 1) := by decide +kernel
theorem dX4_init_24 : decode cX4_init 24 = .ok (.putfield 23, 3) := by decide +kernel
theorem dX4_init_27 : decode cX4_init 27 = .ok (.return_, 1) := by decide +kernel
set_option maxRecDepth 20000 in
theorem ggX4_renew_J7_fill_53178 : GoodIn wsX4_renew wsJ7_fill_53178 := goodIn_r _ [15] (by decide +kernel) (by decide +kernel)
set_option maxRecDepth 20000 in
theorem gX4_renew_J7_fill_53178 : GoodIn wsX4_renew (va_wsS RX4 35 yJ7_fill_53178 wsJ7_fill_53178) := goodIn_app (goodIn_of _ (by decide +kernel)) ggX4_renew_J7_fill_53178
theorem dX4_renew_0 : decode cX4_renew 0 = .ok (.aload_n 0, 1) := by decide +kernel
theorem dX4_renew_1 : decode cX4_renew 1 = .ok (.iconst 1, 1) := by decide +kernel
theorem dX4_renew_2 : decode cX4_renew 2 = .ok (.putfield 15, 3) := by decide +kernel
theorem dX4_renew_5 : decode cX4_renew 5 = .ok (.aload_n 0, 1) := by decide +kernel
theorem dX4_renew_6 : decode cX4_renew 6 = .ok (.iload_n 1, 1) := by decide +kernel
theorem dX4_renew_7 : decode cX4_renew 7 = .ok (.putfield 19, 3) := by decide +kernel
theorem dX4_renew_10 : decode cX4_renew 10 = .ok (.aload_n 0, 1) := by decide +kernel
theorem dX4_renew_11 : decode cX4_renew 11 = .ok (.iconst 0, 1) := by decide +kernel
theorem dX4_renew_12 : decode cX4_renew 12 = .ok (.iload_n 2, 1) := by decide +kernel
theorem dX4_renew_13 : decode cX4_renew 13 = .ok (.bipush 60, 2) := by decide +kernel
theorem dX4_renew_15 : decode cX4_renew 15 = .ok (.invokestatic 26, 3) := by decide +kernel
theorem dX4_renew_18 : decode cX4_renew 18 = .ok (.invokestatic 32, 3) := by decide +kernel
theorem dX4_renew_21 : decode cX4_renew 21 = .ok (.putfield 23, 3) := by decide +kernel
theorem dX4_renew_24 : decode cX4_renew 24 = .ok (.aload_n 0, 1) := by decide +kernel
theorem dX4_renew_25 : decode cX4_renew 25 = .ok (.getfield 9, 3) := by decide +kernel
theorem dX4_renew_28 : decode cX4_renew 28 = .ok (.iconst 0, 1) := by decide +kernel
theorem dX4_renew_29 : decode cX4_renew 29 = .ok (.invokestatic 35, 3) := by decide +kernel
theorem dX4_renew_32 : decode cX4_renew 32 = .ok (.return_, 1) := by decide +kernel
set_option maxRecDepth 20000 in
theorem ggX4_faultOfCells_X4_holds : GoodIn wsX4_faultOfCells wsX4_holds := goodIn_r _ [7, 8, 9, 10, 11, 12] (by decide +kernel) (by decide +kernel)
set_option maxRecDepth 20000 in
theorem gX4_faultOfCells_X4_holds : GoodIn wsX4_faultOfCells (wsV RX4 41 RX4 yX4_holds wsX4_holds) := goodIn_app (goodIn_of _ (by decide +kernel)) ggX4_faultOfCells_X4_holds
theorem dX4_faultOfCells_0 : decode cX4_faultOfCells 0 = .ok (.aload_n 0, 1) := by decide +kernel
theorem dX4_faultOfCells_1 : decode cX4_faultOfCells 1 = .ok (.getfield 15, 3) := by decide +kernel
theorem dX4_faultOfCells_4 : decode cX4_faultOfCells 4 = .ok (.ifCond .ne 5, 3) := by decide +kernel
theorem dX4_faultOfCells_7 : decode cX4_faultOfCells 7 = .ok (.iconst 1, 1) := by decide +kernel
theorem dX4_faultOfCells_8 : decode cX4_faultOfCells 8 = .ok (.ireturn, 1) := by decide +kernel
theorem dX4_faultOfCells_9 : decode cX4_faultOfCells 9 = .ok (.aload_n 0, 1) := by decide +kernel
theorem dX4_faultOfCells_10 : decode cX4_faultOfCells 10 = .ok (.getfield 19, 3) := by decide +kernel
theorem dX4_faultOfCells_13 : decode cX4_faultOfCells 13 = .ok (.iload_n 1, 1) := by decide +kernel
theorem dX4_faultOfCells_14 : decode cX4_faultOfCells 14 = .ok (.if_icmp .eq 5, 3) := by decide +kernel
theorem dX4_faultOfCells_17 : decode cX4_faultOfCells 17 = .ok (.iconst 2, 1) := by decide +kernel
theorem dX4_faultOfCells_18 : decode cX4_faultOfCells 18 = .ok (.ireturn, 1) := by decide +kernel
theorem dX4_faultOfCells_19 : decode cX4_faultOfCells 19 = .ok (.iload_n 3, 1) := by decide +kernel
theorem dX4_faultOfCells_20 : decode cX4_faultOfCells 20 = .ok (.ifCond .ge 5, 3) := by decide +kernel
theorem dX4_faultOfCells_23 : decode cX4_faultOfCells 23 = .ok (.iconst 4, 1) := by decide +kernel
theorem dX4_faultOfCells_24 : decode cX4_faultOfCells 24 = .ok (.ireturn, 1) := by decide +kernel
theorem dX4_faultOfCells_25 : decode cX4_faultOfCells 25 = .ok (.aload_n 0, 1) := by decide +kernel
theorem dX4_faultOfCells_26 : decode cX4_faultOfCells 26 = .ok (.iload_n 2, 1) := by decide +kernel
theorem dX4_faultOfCells_27 : decode cX4_faultOfCells 27 = .ok (.iload_n 3, 1) := by decide +kernel
theorem dX4_faultOfCells_28 : decode cX4_faultOfCells 28 = .ok (.invokevirtual 41, 3) := by decide +kernel
theorem dX4_faultOfCells_31 : decode cX4_faultOfCells 31 = .ok (.ifCond .eq 7, 3) := by decide +kernel
theorem dX4_faultOfCells_34 : decode cX4_faultOfCells 34 = .ok (.iconst 0, 1) := by decide +kernel
theorem dX4_faultOfCells_35 : decode cX4_faultOfCells 35 = .ok (.goto 4, 3) := by decide +kernel
theorem dX4_faultOfCells_38 : decode cX4_faultOfCells 38 = .ok (.iconst 3, 1) := by decide +kernel
theorem dX4_faultOfCells_39 : decode cX4_faultOfCells 39 = .ok (.ireturn, 1) := by decide +kernel
theorem dX4_holds_0 : decode cX4_holds 0 = .ok (.iload_n 1, 1) := by decide +kernel
theorem dX4_holds_1 : decode cX4_holds 1 = .ok (.ifCond .lt 29, 3) := by decide +kernel
theorem dX4_holds_4 : decode cX4_holds 4 = .ok (.iload_n 2, 1) := by decide +kernel
theorem dX4_holds_5 : decode cX4_holds 5 = .ok (.ifCond .lt 25, 3) := by decide +kernel
theorem dX4_holds_8 : decode cX4_holds 8 = .ok (.iload_n 1, 1) := by decide +kernel
theorem dX4_holds_9 : decode cX4_holds 9 = .ok (.aload_n 0, 1) := by decide +kernel
theorem dX4_holds_10 : decode cX4_holds 10 = .ok (.getfield 23, 3) := by decide +kernel
theorem dX4_holds_13 : decode cX4_holds 13 = .ok (.if_icmp .gt 17, 3) := by decide +kernel
theorem dX4_holds_16 : decode cX4_holds 16 = .ok (.iload_n 2, 1) := by decide +kernel
theorem dX4_holds_17 : decode cX4_holds 17 = .ok (.aload_n 0, 1) := by decide +kernel
theorem dX4_holds_18 : decode cX4_holds 18 = .ok (.getfield 23, 3) := by decide +kernel
theorem dX4_holds_21 : decode cX4_holds 21 = .ok (.iload_n 1, 1) := by decide +kernel
theorem dX4_holds_22 : decode cX4_holds 22 = .ok (.isub, 1) := by decide +kernel
theorem dX4_holds_23 : decode cX4_holds 23 = .ok (.if_icmp .gt 7, 3) := by decide +kernel
theorem dX4_holds_26 : decode cX4_holds 26 = .ok (.iconst 1, 1) := by decide +kernel
theorem dX4_holds_27 : decode cX4_holds 27 = .ok (.goto 4, 3) := by decide +kernel
theorem dX4_holds_30 : decode cX4_holds 30 = .ok (.iconst 0, 1) := by decide +kernel
theorem dX4_holds_31 : decode cX4_holds 31 = .ok (.ireturn, 1) := by decide +kernel
set_option maxRecDepth 20000 in
theorem ggX4_number_X7_at : GoodIn wsX4_number wsX7_at := goodIn_r _ [4] (by decide +kernel) (by decide +kernel)
set_option maxRecDepth 20000 in
theorem gX4_number_X7_at_n45 : GoodIn wsX4_number (wsX7_at) := ggX4_number_X7_at
theorem dX4_number_0 : decode cX4_number 0 = .ok (.aload_n 0, 1) := by decide +kernel
theorem dX4_number_1 : decode cX4_number 1 = .ok (.getfield 9, 3) := by decide +kernel
theorem dX4_number_4 : decode cX4_number 4 = .ok (.iload_n 1, 1) := by decide +kernel
theorem dX4_number_5 : decode cX4_number 5 = .ok (.invokestatic 45, 3) := by decide +kernel
theorem dX4_number_8 : decode cX4_number 8 = .ok (.ireturn, 1) := by decide +kernel
set_option maxRecDepth 20000 in
theorem ggX4_store_X4_cut : GoodIn wsX4_store wsX4_cut := goodIn_r _ [6, 7, 11, 12, 13, 14] (by decide +kernel) (by decide +kernel)
set_option maxRecDepth 20000 in
theorem gX4_store_X4_cut : GoodIn wsX4_store (wsV RX4 49 RX4 yX4_cut wsX4_cut) := goodIn_app (goodIn_of _ (by decide +kernel)) ggX4_store_X4_cut
set_option maxRecDepth 20000 in
theorem ggX4_store_X7_set : GoodIn wsX4_store wsX7_set := goodIn_r _ [10] (by decide +kernel) (by decide +kernel)
set_option maxRecDepth 20000 in
theorem gX4_store_X7_set_n53 : GoodIn wsX4_store (wsX7_set) := ggX4_store_X7_set
theorem dX4_store_0 : decode cX4_store 0 = .ok (.aload_n 0, 1) := by decide +kernel
theorem dX4_store_1 : decode cX4_store 1 = .ok (.getfield 9, 3) := by decide +kernel
theorem dX4_store_4 : decode cX4_store 4 = .ok (.iload_n 1, 1) := by decide +kernel
theorem dX4_store_5 : decode cX4_store 5 = .ok (.aload_n 0, 1) := by decide +kernel
theorem dX4_store_6 : decode cX4_store 6 = .ok (.iload_n 2, 1) := by decide +kernel
theorem dX4_store_7 : decode cX4_store 7 = .ok (.invokevirtual 49, 3) := by decide +kernel
theorem dX4_store_10 : decode cX4_store 10 = .ok (.invokestatic 53, 3) := by decide +kernel
theorem dX4_store_13 : decode cX4_store 13 = .ok (.return_, 1) := by decide +kernel
theorem dX4_cut_0 : decode cX4_cut 0 = .ok (.aload_n 0, 1) := by decide +kernel
theorem dX4_cut_1 : decode cX4_cut 1 = .ok (.getfield 19, 3) := by decide +kernel
theorem dX4_cut_4 : decode cX4_cut 4 = .ok (.ifCond .ne 6, 3) := by decide +kernel
theorem dX4_cut_7 : decode cX4_cut 7 = .ok (.iload_n 1, 1) := by decide +kernel
theorem dX4_cut_8 : decode cX4_cut 8 = .ok (.i2b, 1) := by decide +kernel
theorem dX4_cut_9 : decode cX4_cut 9 = .ok (.ireturn, 1) := by decide +kernel
theorem dX4_cut_10 : decode cX4_cut 10 = .ok (.aload_n 0, 1) := by decide +kernel
theorem dX4_cut_11 : decode cX4_cut 11 = .ok (.getfield 19, 3) := by decide +kernel
theorem dX4_cut_14 : decode cX4_cut 14 = .ok (.iconst 1, 1) := by decide +kernel
theorem dX4_cut_15 : decode cX4_cut 15 = .ok (.if_icmp .ne 8, 3) := by decide +kernel
theorem dX4_cut_18 : decode cX4_cut 18 = .ok (.iload_n 1, 1) := by decide +kernel
theorem dX4_cut_19 : decode cX4_cut 19 = .ok (.i2s, 1) := by decide +kernel
theorem dX4_cut_20 : decode cX4_cut 20 = .ok (.goto 4, 3) := by decide +kernel
theorem dX4_cut_23 : decode cX4_cut 23 = .ok (.iload_n 1, 1) := by decide +kernel
theorem dX4_cut_24 : decode cX4_cut 24 = .ok (.ireturn, 1) := by decide +kernel
theorem dX5_init_0 : decode cX5_init 0 = .ok (.aload_n 0, 1) := by decide +kernel
theorem dX5_init_1 : decode cX5_init 1 = .ok (.invokespecial 1, 3) := by decide +kernel
theorem dX5_init_4 : decode cX5_init 4 = .ok (.aload_n 0, 1) := by decide +kernel
theorem dX5_init_5 : decode cX5_init 5 = .ok (.iconst 0, 1) := by decide +kernel
theorem dX5_init_6 : decode cX5_init 6 = .ok (.putfield 7, 3) := by decide +kernel
theorem dX5_init_9 : decode cX5_init 9 = .ok (.return_, 1) := by decide +kernel
theorem dX5_leave_0 : decode cX5_leave 0 = .ok (.aload_n 0, 1) := by decide +kernel
theorem dX5_leave_1 : decode cX5_leave 1 = .ok (.bipush 31, 2) := by decide +kernel
theorem dX5_leave_3 : decode cX5_leave 3 = .ok (.aload_n 0, 1) := by decide +kernel
theorem dX5_leave_4 : decode cX5_leave 4 = .ok (.getfield 7, 3) := by decide +kernel
theorem dX5_leave_7 : decode cX5_leave 7 = .ok (.imul, 1) := by decide +kernel
theorem dX5_leave_8 : decode cX5_leave 8 = .ok (.iload_n 1, 1) := by decide +kernel
theorem dX5_leave_9 : decode cX5_leave 9 = .ok (.iadd, 1) := by decide +kernel
theorem dX5_leave_10 : decode cX5_leave 10 = .ok (.putfield 7, 3) := by decide +kernel
theorem dX5_leave_13 : decode cX5_leave 13 = .ok (.return_, 1) := by decide +kernel
set_option maxRecDepth 20000 in
theorem ggX5_cambricTells_X5_leave : GoodIn wsX5_cambricTells wsX5_leave := goodIn_r _ [5, 6, 7] (by decide +kernel) (by decide +kernel)
set_option maxRecDepth 20000 in
theorem gX5_cambricTells_X5_leave : GoodIn wsX5_cambricTells (wsV RX5 13 RX5 yX5_leave wsX5_leave) := goodIn_app (goodIn_of _ (by decide +kernel)) ggX5_cambricTells_X5_leave
theorem dX5_cambricTells_0 : decode cX5_cambricTells 0 = .ok (.aload_n 0, 1) := by decide +kernel
theorem dX5_cambricTells_1 : decode cX5_cambricTells 1 = .ok (.iconst 1, 1) := by decide +kernel
theorem dX5_cambricTells_2 : decode cX5_cambricTells 2 = .ok (.invokevirtual 13, 3) := by decide +kernel
theorem dX5_cambricTells_5 : decode cX5_cambricTells 5 = .ok (.iload_n 1, 1) := by decide +kernel
theorem dX5_cambricTells_6 : decode cX5_cambricTells 6 = .ok (.ireturn, 1) := by decide +kernel
set_option maxRecDepth 20000 in
theorem ggX5_laceTells_X5_leave : GoodIn wsX5_laceTells wsX5_leave := goodIn_r _ [5, 6, 11] (by decide +kernel) (by decide +kernel)
set_option maxRecDepth 20000 in
theorem gX5_laceTells_X5_leave : GoodIn wsX5_laceTells (wsV RX5 13 RX5 yX5_leave wsX5_leave) := goodIn_app (goodIn_of _ (by decide +kernel)) ggX5_laceTells_X5_leave
set_option maxRecDepth 20000 in
theorem ggX5_laceTells_X5_cambricTells : GoodIn wsX5_laceTells wsX5_cambricTells := goodIn_r _ [10, 1, 2, 3, 4, 5, 6, 11] (by decide +kernel) (by decide +kernel)
set_option maxRecDepth 20000 in
theorem gX5_laceTells_X5_cambricTells : GoodIn wsX5_laceTells (wsV RX5 17 RX5 yX5_cambricTells wsX5_cambricTells) := goodIn_app (goodIn_of _ (by decide +kernel)) ggX5_laceTells_X5_cambricTells
theorem dX5_laceTells_0 : decode cX5_laceTells 0 = .ok (.aload_n 0, 1) := by decide +kernel
theorem dX5_laceTells_1 : decode cX5_laceTells 1 = .ok (.iconst 2, 1) := by decide +kernel
theorem dX5_laceTells_2 : decode cX5_laceTells 2 = .ok (.invokevirtual 13, 3) := by decide +kernel
theorem dX5_laceTells_5 : decode cX5_laceTells 5 = .ok (.aload_n 0, 1) := by decide +kernel
theorem dX5_laceTells_6 : decode cX5_laceTells 6 = .ok (.iload_n 1, 1) := by decide +kernel
theorem dX5_laceTells_7 : decode cX5_laceTells 7 = .ok (.invokevirtual 17, 3) := by decide +kernel
theorem dX5_laceTells_10 : decode cX5_laceTells 10 = .ok (.bipush 100, 2) := by decide +kernel
theorem dX5_laceTells_12 : decode cX5_laceTells 12 = .ok (.iadd, 1) := by decide +kernel
theorem dX5_laceTells_13 : decode cX5_laceTells 13 = .ok (.ireturn, 1) := by decide +kernel
set_option maxRecDepth 20000 in
theorem ggX5_silkTells_X5_leave : GoodIn wsX5_silkTells wsX5_leave := goodIn_r _ [5, 6, 15] (by decide +kernel) (by decide +kernel)
set_option maxRecDepth 20000 in
theorem gX5_silkTells_X5_leave : GoodIn wsX5_silkTells (wsV RX5 13 RX5 yX5_leave wsX5_leave) := goodIn_app (goodIn_of _ (by decide +kernel)) ggX5_silkTells_X5_leave
set_option maxRecDepth 20000 in
theorem ggX5_silkTells_X5_laceTells : GoodIn wsX5_silkTells wsX5_laceTells := goodIn_r _ [10, 1, 2, 3, 4, 5, 6, 11, 12, 13, 14, 15] (by decide +kernel) (by decide +kernel)
set_option maxRecDepth 20000 in
theorem gX5_silkTells_X5_laceTells : GoodIn wsX5_silkTells (wsV RX5 21 RX5 yX5_laceTells wsX5_laceTells) := goodIn_app (goodIn_of _ (by decide +kernel)) ggX5_silkTells_X5_laceTells
set_option maxRecDepth 20000 in
theorem ggX5_silkTells_X5_cambricTells : GoodIn wsX5_silkTells wsX5_cambricTells := goodIn_r _ [14, 1, 2, 3, 4, 5, 6, 15] (by decide +kernel) (by decide +kernel)
set_option maxRecDepth 20000 in
theorem gX5_silkTells_X5_cambricTells : GoodIn wsX5_silkTells (wsV RX5 17 RX5 yX5_cambricTells wsX5_cambricTells) := goodIn_app (goodIn_of _ (by decide +kernel)) ggX5_silkTells_X5_cambricTells
theorem dX5_silkTells_0 : decode cX5_silkTells 0 = .ok (.aload_n 0, 1) := by decide +kernel
theorem dX5_silkTells_1 : decode cX5_silkTells 1 = .ok (.iconst 3, 1) := by decide +kernel
theorem dX5_silkTells_2 : decode cX5_silkTells 2 = .ok (.invokevirtual 13, 3) := by decide +kernel
theorem dX5_silkTells_5 : decode cX5_silkTells 5 = .ok (.aload_n 0, 1) := by decide +kernel
theorem dX5_silkTells_6 : decode cX5_silkTells 6 = .ok (.iload_n 1, 1) := by decide +kernel
theorem dX5_silkTells_7 : decode cX5_silkTells 7 = .ok (.invokevirtual 21, 3) := by decide +kernel
theorem dX5_silkTells_10 : decode cX5_silkTells 10 = .ok (.istore_n 2, 1) := by decide +kernel
theorem dX5_silkTells_11 : decode cX5_silkTells 11 = .ok (.iload_n 2, 1) := by decide +kernel
theorem dX5_silkTells_12 : decode cX5_silkTells 12 = .ok (.aload_n 0, 1) := by decide +kernel
theorem dX5_silkTells_13 : decode cX5_silkTells 13 = .ok (.iload_n 1, 1) := by decide +kernel
theorem dX5_silkTells_14 : decode cX5_silkTells 14 = .ok (.invokevirtual 17, 3) := by decide +kernel
theorem dX5_silkTells_17 : decode cX5_silkTells 17 = .ok (.iadd, 1) := by decide +kernel
theorem dX5_silkTells_18 : decode cX5_silkTells 18 = .ok (.ireturn, 1) := by decide +kernel
set_option maxRecDepth 20000 in
theorem ggX5_isKnotted_X5_leave : GoodIn wsX5_isKnotted wsX5_leave := goodIn_r _ [5, 6, 7] (by decide +kernel) (by decide +kernel)
set_option maxRecDepth 20000 in
theorem gX5_isKnotted_X5_leave : GoodIn wsX5_isKnotted (wsV RX5 13 RX5 yX5_leave wsX5_leave) := goodIn_app (goodIn_of _ (by decide +kernel)) ggX5_isKnotted_X5_leave
theorem dX5_isKnotted_0 : decode cX5_isKnotted 0 = .ok (.aload_n 0, 1) := by decide +kernel
theorem dX5_isKnotted_1 : decode cX5_isKnotted 1 = .ok (.iconst 4, 1) := by decide +kernel
theorem dX5_isKnotted_2 : decode cX5_isKnotted 2 = .ok (.invokevirtual 13, 3) := by decide +kernel
theorem dX5_isKnotted_5 : decode cX5_isKnotted 5 = .ok (.iload_n 1, 1) := by decide +kernel
theorem dX5_isKnotted_6 : decode cX5_isKnotted 6 = .ok (.ireturn, 1) := by decide +kernel
set_option maxRecDepth 20000 in
theorem ggX5_silkIsKnotted_X5_leave : GoodIn wsX5_silkIsKnotted wsX5_leave := goodIn_r _ [5, 6, 7] (by decide +kernel) (by decide +kernel)
set_option maxRecDepth 20000 in
theorem gX5_silkIsKnotted_X5_leave : GoodIn wsX5_silkIsKnotted (wsV RX5 13 RX5 yX5_leave wsX5_leave) := goodIn_app (goodIn_of _ (by decide +kernel)) ggX5_silkIsKnotted_X5_leave
theorem dX5_silkIsKnotted_0 : decode cX5_silkIsKnotted 0 = .ok (.aload_n 0, 1) := by decide +kernel
theorem dX5_silkIsKnotted_1 : decode cX5_silkIsKnotted 1 = .ok (.iconst 5, 1) := by decide +kernel
theorem dX5_silkIsKnotted_2 : decode cX5_silkIsKnotted 2 = .ok (.invokevirtual 13, 3) := by decide +kernel
theorem dX5_silkIsKnotted_5 : decode cX5_silkIsKnotted 5 = .ok (.bipush 30, 2) := by decide +kernel
theorem dX5_silkIsKnotted_7 : decode cX5_silkIsKnotted 7 = .ok (.ireturn, 1) := by decide +kernel
theorem dX6_init_0 : decode cX6_init 0 = .ok (.aload_n 0, 1) := by decide +kernel
theorem dX6_init_1 : decode cX6_init 1 = .ok (.invokespecial 3, 3) := by decide +kernel
theorem dX6_init_4 : decode cX6_init 4 = .ok (.aload_n 0, 1) := by decide +kernel
theorem dX6_init_5 : decode cX6_init 5 = .ok (.iconst 4, 1) := by decide +kernel
theorem dX6_init_6 : decode cX6_init 6 = .ok (.newarray .int, 2) := by decide +kernel
theorem dX6_init_8 : decode cX6_init 8 = .ok (.putfield 9, 3) := by decide +kernel
theorem dX6_init_11 : decode cX6_init 11 = .ok (.aload_n 0, 1) := by decide +kernel
theorem dX6_init_12 : decode cX6_init 12 = .ok (.iconst 5, 1) := by decide +kernel
theorem dX6_init_13 : decode cX6_init 13 = .ok (.newarray .int, 2) := by decide +kernel
theorem dX6_init_15 : decode cX6_init 15 = .ok (.putfield 15, 3) := by decide +kernel
theorem dX6_init_18 : decode cX6_init 18 = .ok (.aload_n 0, 1) := by decide +kernel
theorem dX6_init_19 : decode cX6_init 19 = .ok (.iconst 0, 1) := by decide +kernel
theorem dX6_init_20 : decode cX6_init 20 = .ok (.putfield 18, 3) := by decide +kernel
theorem dX6_init_23 : decode cX6_init 23 = .ok (.aload_n 0, 1) := by decide +kernel
theorem dX6_init_24 : decode cX6_init 24 = .ok (.iconst 0, 1) := by decide +kernel
theorem dX6_init_25 : decode cX6_init 25 = .ok (.putfield 22, 3) := by decide +kernel
theorem dX6_init_28 : decode cX6_init 28 = .ok (.aload_n 0, 1) := by decide +kernel
theorem dX6_init_29 : decode cX6_init 29 = .ok (.iconst 0, 1) := by decide +kernel
theorem dX6_init_30 : decode cX6_init 30 = .ok (.putfield 25, 3) := by decide +kernel
theorem dX6_init_33 : decode cX6_init 33 = .ok (.aload_n 0, 1) := by decide +kernel
theorem dX6_init_34 : decode cX6_init 34 = .ok (.bipush (-9), 2) := by decide +kernel
theorem dX6_init_36 : decode cX6_init 36 = .ok (.putfield 28, 3) := by decide +kernel
theorem dX6_init_39 : decode cX6_init 39 = .ok (.return_, 1) := by decide +kernel
theorem dX6_isAsked_0 : decode cX6_isAsked 0 = .ok (.iload_n 0, 1) := by decide +kernel
theorem dX6_isAsked_1 : decode cX6_isAsked 1 = .ok (.ifCond .lt 8, 3) := by decide +kernel
theorem dX6_isAsked_4 : decode cX6_isAsked 4 = .ok (.iload_n 0, 1) := by decide +kernel
theorem dX6_isAsked_5 : decode cX6_isAsked 5 = .ok (.iconst 3, 1) := by decide +kernel
theorem dX6_isAsked_6 : decode cX6_isAsked 6 = .ok (.if_icmp .le 27, 3) := by decide +kernel
theorem dX6_isAsked_9 : decode cX6_isAsked 9 = .ok (.iload_n 0, 1) := by decide +kernel
theorem dX6_isAsked_10 : decode cX6_isAsked 10 = .ok (.bipush 10, 2) := by decide +kernel
theorem dX6_isAsked_12 : decode cX6_isAsked 12 = .ok (.if_icmp .lt 9, 3) := by decide +kernel
theorem dX6_isAsked_15 : decode cX6_isAsked 15 = .ok (.iload_n 0, 1) := by decide +kernel
theorem dX6_isAsked_16 : decode cX6_isAsked 16 = .ok (.bipush 15, 2) := by decide +kernel
theorem dX6_isAsked_18 : decode cX6_isAsked 18 = .ok (.if_icmp .lt 15, 3) := by decide +kernel
theorem dX6_isAsked_21 : decode cX6_isAsked 21 = .ok (.iload_n 0, 1) := by decide +kernel
theorem dX6_isAsked_22 : decode cX6_isAsked 22 = .ok (.bipush 20, 2) := by decide +kernel
theorem dX6_isAsked_24 : decode cX6_isAsked 24 = .ok (.if_icmp .lt 13, 3) := by decide +kernel
theorem dX6_isAsked_27 : decode cX6_isAsked 27 = .ok (.iload_n 0, 1) := by decide +kernel
theorem dX6_isAsked_28 : decode cX6_isAsked 28 = .ok (.bipush 24, 2) := by decide +kernel
theorem dX6_isAsked_30 : decode cX6_isAsked 30 = .ok (.if_icmp .ge 7, 3) := by decide +kernel
theorem dX6_isAsked_33 : decode cX6_isAsked 33 = .ok (.iconst 1, 1) := by decide +kernel
theorem dX6_isAsked_34 : decode cX6_isAsked 34 = .ok (.goto 4, 3) := by decide +kernel
theorem dX6_isAsked_37 : decode cX6_isAsked 37 = .ok (.iconst 0, 1) := by decide +kernel
theorem dX6_isAsked_38 : decode cX6_isAsked 38 = .ok (.ireturn, 1) := by decide +kernel
set_option maxRecDepth 20000 in
theorem ggX6_areActs_X4_number : GoodIn wsX6_areActs wsX4_number := goodIn_r _ [5, 6, 7, 8, 9, 18, 19, 20, 21] (by decide +kernel) (by decide +kernel)
set_option maxRecDepth 20000 in
theorem gX6_areActs_X4_number : GoodIn wsX6_areActs (wsV RX6 31 RX4 yX4_number wsX4_number) := goodIn_app (goodIn_of _ (by decide +kernel)) ggX6_areActs_X4_number
set_option maxRecDepth 20000 in
theorem ggX6_areActs_X7_isBelow : GoodIn wsX6_areActs wsX7_isBelow := goodIn_r _ [11] (by decide +kernel) (by decide +kernel)
set_option maxRecDepth 20000 in
theorem gX6_areActs_X7_isBelow_n37 : GoodIn wsX6_areActs (wsX7_isBelow) := ggX6_areActs_X7_isBelow
set_option maxRecDepth 20000 in
theorem ggX6_areActs_X2_hasLinen : GoodIn wsX6_areActs wsX2_hasLinen := goodIn_r _ [16, 17, 10, 8, 11, 22, 23, 24, 25, 26, 27, 28] (by decide +kernel) (by decide +kernel)
set_option maxRecDepth 20000 in
theorem gX6_areActs_X2_hasLinen : GoodIn wsX6_areActs (wsV RX6 41 RX2 yX2_hasLinen wsX2_hasLinen) := goodIn_app (goodIn_of _ (by decide +kernel)) ggX6_areActs_X2_hasLinen
theorem dX6_areActs_0 : decode cX6_areActs 0 = .ok (.iconst 0, 1) := by decide +kernel
theorem dX6_areActs_1 : decode cX6_areActs 1 = .ok (.istore 5, 2) := by decide +kernel
theorem dX6_areActs_3 : decode cX6_areActs 3 = .ok (.iload 5, 2) := by decide +kernel
theorem dX6_areActs_5 : decode cX6_areActs 5 = .ok (.iload 4, 2) := by decide +kernel
theorem dX6_areActs_7 : decode cX6_areActs 7 = .ok (.if_icmp .ge 62, 3) := by decide +kernel
theorem dX6_areActs_10 : decode cX6_areActs 10 = .ok (.aload_n 2, 1) := by decide +kernel
theorem dX6_areActs_11 : decode cX6_areActs 11 = .ok (.iload_n 3, 1) := by decide +kernel
theorem dX6_areActs_12 : decode cX6_areActs 12 = .ok (.iload 5, 2) := by decide +kernel
theorem dX6_areActs_14 : decode cX6_areActs 14 = .ok (.iadd, 1) := by decide +kernel
theorem dX6_areActs_15 : decode cX6_areActs 15 = .ok (.invokevirtual 31, 3) := by decide +kernel
theorem dX6_areActs_18 : decode cX6_areActs 18 = .ok (.istore 6, 2) := by decide +kernel
theorem dX6_areActs_20 : decode cX6_areActs 20 = .ok (.iload 6, 2) := by decide +kernel
theorem dX6_areActs_22 : decode cX6_areActs 22 = .ok (.bipush 40, 2) := by decide +kernel
theorem dX6_areActs_24 : decode cX6_areActs 24 = .ok (.invokestatic 37, 3) := by decide +kernel
theorem dX6_areActs_27 : decode cX6_areActs 27 = .ok (.ifCond .eq 19, 3) := by decide +kernel
theorem dX6_areActs_30 : decode cX6_areActs 30 = .ok (.aload_n 1, 1) := by decide +kernel
theorem dX6_areActs_31 : decode cX6_areActs 31 = .ok (.iload 6, 2) := by decide +kernel
theorem dX6_areActs_33 : decode cX6_areActs 33 = .ok (.bipush 10, 2) := by decide +kernel
theorem dX6_areActs_35 : decode cX6_areActs 35 = .ok (.irem, 1) := by decide +kernel
theorem dX6_areActs_36 : decode cX6_areActs 36 = .ok (.invokevirtual 41, 3) := by decide +kernel
theorem dX6_areActs_39 : decode cX6_areActs 39 = .ok (.ifCond .eq 7, 3) := by decide +kernel
theorem dX6_areActs_42 : decode cX6_areActs 42 = .ok (.iconst 1, 1) := by decide +kernel
theorem dX6_areActs_43 : decode cX6_areActs 43 = .ok (.goto 4, 3) := by decide +kernel
theorem dX6_areActs_46 : decode cX6_areActs 46 = .ok (.iconst 0, 1) := by decide +kernel
theorem dX6_areActs_47 : decode cX6_areActs 47 = .ok (.istore 7, 2) := by decide +kernel
theorem dX6_areActs_49 : decode cX6_areActs 49 = .ok (.iload 6, 2) := by decide +kernel
theorem dX6_areActs_51 : decode cX6_areActs 51 = .ok (.bipush 40, 2) := by decide +kernel
theorem dX6_areActs_53 : decode cX6_areActs 53 = .ok (.if_icmp .eq 10, 3) := by decide +kernel
theorem dX6_areActs_56 : decode cX6_areActs 56 = .ok (.iload 7, 2) := by decide +kernel
theorem dX6_areActs_58 : decode cX6_areActs 58 = .ok (.ifCond .ne 5, 3) := by decide +kernel
theorem dX6_areActs_61 : decode cX6_areActs 61 = .ok (.iconst 0, 1) := by decide +kernel
theorem dX6_areActs_62 : decode cX6_areActs 62 = .ok (.ireturn, 1) := by decide +kernel
theorem dX6_areActs_63 : decode cX6_areActs 63 = .ok (.iinc 5 1, 3) := by decide +kernel
theorem dX6_areActs_66 : decode cX6_areActs 66 = .ok (.goto (-63), 3) := by decide +kernel
theorem dX6_areActs_69 : decode cX6_areActs 69 = .ok (.iconst 1, 1) := by decide +kernel
theorem dX6_areActs_70 : decode cX6_areActs 70 = .ok (.ireturn, 1) := by decide +kernel
set_option maxRecDepth 20000 in
theorem ggX6_play_X6_begin : GoodIn wsX6_play wsX6_begin := goodIn_r _ [6, 7, 8, 9, 10, 11, 12, 13, 14, 1, 15, 16, 17, 18, 19, 58, 59, 60, 61, 62, 63, 64, 65, 66, 67, 68, 69, 70] (by decide +kernel) (by decide +kernel)
set_option maxRecDepth 20000 in
theorem gX6_play_X6_begin : GoodIn wsX6_play (wsV RX6 47 RX6 yX6_begin wsX6_begin) := goodIn_app (goodIn_of _ (by decide +kernel)) ggX6_play_X6_begin
set_option maxRecDepth 20000 in
theorem ggX6_play_X4_number : GoodIn wsX6_play wsX4_number := goodIn_r _ [24, 25, 15, 16, 17, 71, 72, 73, 74] (by decide +kernel) (by decide +kernel)
set_option maxRecDepth 20000 in
theorem gX6_play_X4_number : GoodIn wsX6_play (wsV RX6 31 RX4 yX4_number wsX4_number) := goodIn_app (goodIn_of _ (by decide +kernel)) ggX6_play_X4_number
set_option maxRecDepth 20000 in
theorem ggX6_play_X6_eveningComes : GoodIn wsX6_play wsX6_eveningComes := goodIn_r _ [29, 11, 30, 13, 9, 31, 32, 33, 34, 14, 15, 16, 17, 35, 36, 37, 38, 39, 40, 41, 42, 43, 44, 45, 18, 19, 46, 47, 48, 5, 49, 58, 59, 60, 61, 62, 63, 64, 65, 66, 67, 68, 69, 70] (by decide +kernel) (by decide +kernel)
set_option maxRecDepth 20000 in
theorem gX6_play_X6_eveningComes : GoodIn wsX6_play (wsV RX6 51 RX6 yX6_eveningComes wsX6_eveningComes) := goodIn_app (goodIn_of _ (by decide +kernel)) ggX6_play_X6_eveningComes
set_option maxRecDepth 20000 in
theorem ggX6_play_X6_weeps : GoodIn wsX6_play wsX6_weeps := goodIn_r _ [53, 7, 54, 9, 55, 56, 33, 57, 12, 15, 16, 17, 18, 19, 58, 59, 60, 61, 62, 63, 64, 65, 66, 67, 68, 69, 70] (by decide +kernel) (by decide +kernel)
set_option maxRecDepth 20000 in
theorem gX6_play_X6_weeps : GoodIn wsX6_play (wsV RX6 55 RX6 yX6_weeps wsX6_weeps) := goodIn_app (goodIn_of _ (by decide +kernel)) ggX6_play_X6_weeps
theorem dX6_play_0 : decode cX6_play 0 = .ok (.aload_n 0, 1) := by decide +kernel
theorem dX6_play_1 : decode cX6_play 1 = .ok (.aload_n 1, 1) := by decide +kernel
theorem dX6_play_2 : decode cX6_play 2 = .ok (.invokevirtual 47, 3) := by decide +kernel
theorem dX6_play_5 : decode cX6_play 5 = .ok (.iconst 0, 1) := by decide +kernel
theorem dX6_play_6 : decode cX6_play 6 = .ok (.istore 5, 2) := by decide +kernel
theorem dX6_play_8 : decode cX6_play 8 = .ok (.iload 5, 2) := by decide +kernel
theorem dX6_play_10 : decode cX6_play 10 = .ok (.iload 4, 2) := by decide +kernel
theorem dX6_play_12 : decode cX6_play 12 = .ok (.if_icmp .ge 71, 3) := by decide +kernel
theorem dX6_play_15 : decode cX6_play 15 = .ok (.aload_n 0, 1) := by decide +kernel
theorem dX6_play_16 : decode cX6_play 16 = .ok (.getfield 28, 3) := by decide +kernel
theorem dX6_play_19 : decode cX6_play 19 = .ok (.bipush (-9), 2) := by decide +kernel
theorem dX6_play_21 : decode cX6_play 21 = .ok (.if_icmp .ne 62, 3) := by decide +kernel
theorem dX6_play_24 : decode cX6_play 24 = .ok (.aload_n 2, 1) := by decide +kernel
theorem dX6_play_25 : decode cX6_play 25 = .ok (.iload_n 3, 1) := by decide +kernel
theorem dX6_play_26 : decode cX6_play 26 = .ok (.iload 5, 2) := by decide +kernel
theorem dX6_play_28 : decode cX6_play 28 = .ok (.iadd, 1) := by decide +kernel
theorem dX6_play_29 : decode cX6_play 29 = .ok (.invokevirtual 31, 3) := by decide +kernel
theorem dX6_play_32 : decode cX6_play 32 = .ok (.istore 6, 2) := by decide +kernel
theorem dX6_play_34 : decode cX6_play 34 = .ok (.iload 6, 2) := by decide +kernel
theorem dX6_play_36 : decode cX6_play 36 = .ok (.bipush 40, 2) := by decide +kernel
theorem dX6_play_38 : decode cX6_play 38 = .ok (.if_icmp .ne 11, 3) := by decide +kernel
theorem dX6_play_41 : decode cX6_play 41 = .ok (.aload_n 0, 1) := by decide +kernel
theorem dX6_play_42 : decode cX6_play 42 = .ok (.aload_n 1, 1) := by decide +kernel
theorem dX6_play_43 : decode cX6_play 43 = .ok (.invokevirtual 51, 3) := by decide +kernel
theorem dX6_play_46 : decode cX6_play 46 = .ok (.goto 18, 3) := by decide +kernel
theorem dX6_play_49 : decode cX6_play 49 = .ok (.aload_n 0, 1) := by decide +kernel
theorem dX6_play_50 : decode cX6_play 50 = .ok (.aload_n 1, 1) := by decide +kernel
theorem dX6_play_51 : decode cX6_play 51 = .ok (.iload 6, 2) := by decide +kernel
theorem dX6_play_53 : decode cX6_play 53 = .ok (.bipush 10, 2) := by decide +kernel
theorem dX6_play_55 : decode cX6_play 55 = .ok (.idiv, 1) := by decide +kernel
theorem dX6_play_56 : decode cX6_play 56 = .ok (.iload 6, 2) := by decide +kernel
theorem dX6_play_58 : decode cX6_play 58 = .ok (.bipush 10, 2) := by decide +kernel
theorem dX6_play_60 : decode cX6_play 60 = .ok (.irem, 1) := by decide +kernel
theorem dX6_play_61 : decode cX6_play 61 = .ok (.invokevirtual 55, 3) := by decide +kernel
theorem dX6_play_64 : decode cX6_play 64 = .ok (.istore 7, 2) := by decide +kernel
theorem dX6_play_66 : decode cX6_play 66 = .ok (.iload 7, 2) := by decide +kernel
theorem dX6_play_68 : decode cX6_play 68 = .ok (.ifCond .ne 9, 3) := by decide +kernel
theorem dX6_play_71 : decode cX6_play 71 = .ok (.aload_n 0, 1) := by decide +kernel
theorem dX6_play_72 : decode cX6_play 72 = .ok (.iload 5, 2) := by decide +kernel
theorem dX6_play_74 : decode cX6_play 74 = .ok (.putfield 28, 3) := by decide +kernel
theorem dX6_play_77 : decode cX6_play 77 = .ok (.iinc 5 1, 3) := by decide +kernel
theorem dX6_play_80 : decode cX6_play 80 = .ok (.goto (-72), 3) := by decide +kernel
theorem dX6_play_83 : decode cX6_play 83 = .ok (.return_, 1) := by decide +kernel
set_option maxRecDepth 20000 in
theorem ggX6_begin_X7_at : GoodIn wsX6_begin wsX7_at := goodIn_r _ [12] (by decide +kernel) (by decide +kernel)
set_option maxRecDepth 20000 in
theorem gX6_begin_X7_at_n62 : GoodIn wsX6_begin (wsX7_at) := ggX6_begin_X7_at
set_option maxRecDepth 20000 in
theorem ggX6_begin_X7_set : GoodIn wsX6_begin wsX7_set := goodIn_r _ [14] (by decide +kernel) (by decide +kernel)
set_option maxRecDepth 20000 in
theorem gX6_begin_X7_set_n66 : GoodIn wsX6_begin (wsX7_set) := ggX6_begin_X7_set
theorem dX6_begin_0 : decode cX6_begin 0 = .ok (.iconst 0, 1) := by decide +kernel
theorem dX6_begin_1 : decode cX6_begin 1 = .ok (.istore_n 2, 1) := by decide +kernel
theorem dX6_begin_2 : decode cX6_begin 2 = .ok (.iload_n 2, 1) := by decide +kernel
theorem dX6_begin_3 : decode cX6_begin 3 = .ok (.iconst 4, 1) := by decide +kernel
theorem dX6_begin_4 : decode cX6_begin 4 = .ok (.if_icmp .ge 25, 3) := by decide +kernel
theorem dX6_begin_7 : decode cX6_begin 7 = .ok (.aload_n 0, 1) := by decide +kernel
theorem dX6_begin_8 : decode cX6_begin 8 = .ok (.getfield 9, 3) := by decide +kernel
theorem dX6_begin_11 : decode cX6_begin 11 = .ok (.iload_n 2, 1) := by decide +kernel
theorem dX6_begin_12 : decode cX6_begin 12 = .ok (.aload_n 1, 1) := by decide +kernel
