theorem dX8_noLinen_1 : decode cX8_noLinen 1 = .ok (.i2l, 1) := by decide +kernel
theorem dX8_noLinen_2 : decode cX8_noLinen 2 = .ok (.lconst 0, 1) := by decide +kernel
theorem dX8_noLinen_3 : decode cX8_noLinen 3 = .ok (.aload_n 0, 1) := by decide +kernel
theorem dX8_noLinen_4 : decode cX8_noLinen 4 = .ok (.getfield 95, 3) := by decide +kernel
theorem dX8_noLinen_7 : decode cX8_noLinen 7 = .ok (.i2l, 1) := by decide +kernel
theorem dX8_noLinen_8 : decode cX8_noLinen 8 = .ok (.lconst 1, 1) := by decide +kernel
theorem dX8_noLinen_9 : decode cX8_noLinen 9 = .ok (.lsub, 1) := by decide +kernel
theorem dX8_noLinen_10 : decode cX8_noLinen 10 = .ok (.invokestatic 88, 3) := by decide +kernel
theorem dX8_noLinen_13 : decode cX8_noLinen 13 = .ok (.ifCond .ne 7, 3) := by decide +kernel
theorem dX8_noLinen_16 : decode cX8_noLinen 16 = .ok (.iconst 1, 1) := by decide +kernel
theorem dX8_noLinen_17 : decode cX8_noLinen 17 = .ok (.goto 4, 3) := by decide +kernel
theorem dX8_noLinen_20 : decode cX8_noLinen 20 = .ok (.iconst 0, 1) := by decide +kernel
theorem dX8_noLinen_21 : decode cX8_noLinen 21 = .ok (.ireturn, 1) := by decide +kernel
theorem dX8_codeAt_0 : decode cX8_codeAt 0 = .ok (.aload_n 0, 1) := by decide +kernel
theorem dX8_codeAt_1 : decode cX8_codeAt 1 = .ok (.getfield 98, 3) := by decide +kernel
theorem dX8_codeAt_4 : decode cX8_codeAt 4 = .ok (.iload_n 2, 1) := by decide +kernel
theorem dX8_codeAt_5 : decode cX8_codeAt 5 = .ok (.if_icmp .ge 17, 3) := by decide +kernel
theorem dX8_codeAt_8 : decode cX8_codeAt 8 = .ok (.aload_n 0, 1) := by decide +kernel
theorem dX8_codeAt_9 : decode cX8_codeAt 9 = .ok (.getfield 70, 3) := by decide +kernel
theorem dX8_codeAt_12 : decode cX8_codeAt 12 = .ok (.iload_n 1, 1) := by decide +kernel
theorem dX8_codeAt_13 : decode cX8_codeAt 13 = .ok (.aload_n 0, 1) := by decide +kernel
theorem dX8_codeAt_14 : decode cX8_codeAt 14 = .ok (.getfield 98, 3) := by decide +kernel
theorem dX8_codeAt_17 : decode cX8_codeAt 17 = .ok (.iadd, 1) := by decide +kernel
theorem dX8_codeAt_18 : decode cX8_codeAt 18 = .ok (.iaload, 1) := by decide +kernel
theorem dX8_codeAt_19 : decode cX8_codeAt 19 = .ok (.goto 5, 3) := by decide +kernel
theorem dX8_codeAt_22 : decode cX8_codeAt 22 = .ok (.bipush (-9), 2) := by decide +kernel
theorem dX8_codeAt_24 : decode cX8_codeAt 24 = .ok (.ireturn, 1) := by decide +kernel
set_option maxRecDepth 20000 in
theorem ggX8_figure_X8_codeAt : GoodIn wsX8_figure wsX8_codeAt := goodIn_r _ [6, 1, 7, 11, 12, 13, 14, 15, 16, 17, 18, 19, 20, 21, 22, 23, 24, 25, 26, 27, 28, 29, 30, 31, 32, 33, 34, 35, 36, 37, 38, 39, 40, 41, 42, 43, 44, 45] (by decide +kernel) (by decide +kernel)
set_option maxRecDepth 20000 in
theorem gX8_figure_X8_codeAt : GoodIn wsX8_figure (wsV RX8 101 RX8 yX8_codeAt wsX8_codeAt) := goodIn_app (goodIn_of _ (by decide +kernel)) ggX8_figure_X8_codeAt
set_option maxRecDepth 20000 in
theorem ggX8_figure_X8_in : GoodIn wsX8_figure wsX8_in := goodIn_r _ [10] (by decide +kernel) (by decide +kernel)
set_option maxRecDepth 20000 in
theorem gX8_figure_X8_in : GoodIn wsX8_figure (va_wsS RX8 88 yX8_in wsX8_in) := goodIn_app (goodIn_of _ (by decide +kernel)) ggX8_figure_X8_in
theorem dX8_figure_0 : decode cX8_figure 0 = .ok (.aload_n 0, 1) := by decide +kernel
theorem dX8_figure_1 : decode cX8_figure 1 = .ok (.iload_n 1, 1) := by decide +kernel
theorem dX8_figure_2 : decode cX8_figure 2 = .ok (.iload_n 2, 1) := by decide +kernel
theorem dX8_figure_3 : decode cX8_figure 3 = .ok (.invokevirtual 101, 3) := by decide +kernel
theorem dX8_figure_6 : decode cX8_figure 6 = .ok (.bipush 48, 2) := by decide +kernel
theorem dX8_figure_8 : decode cX8_figure 8 = .ok (.isub, 1) := by decide +kernel
theorem dX8_figure_9 : decode cX8_figure 9 = .ok (.istore 4, 2) := by decide +kernel
theorem dX8_figure_11 : decode cX8_figure 11 = .ok (.iload 4, 2) := by decide +kernel
theorem dX8_figure_13 : decode cX8_figure 13 = .ok (.i2l, 1) := by decide +kernel
theorem dX8_figure_14 : decode cX8_figure 14 = .ok (.lconst 0, 1) := by decide +kernel
theorem dX8_figure_15 : decode cX8_figure 15 = .ok (.iload_n 3, 1) := by decide +kernel
theorem dX8_figure_16 : decode cX8_figure 16 = .ok (.i2l, 1) := by decide +kernel
theorem dX8_figure_17 : decode cX8_figure 17 = .ok (.invokestatic 88, 3) := by decide +kernel
theorem dX8_figure_20 : decode cX8_figure 20 = .ok (.istore 5, 2) := by decide +kernel
theorem dX8_figure_22 : decode cX8_figure 22 = .ok (.aload_n 0, 1) := by decide +kernel
theorem dX8_figure_23 : decode cX8_figure 23 = .ok (.dup, 1) := by decide +kernel
theorem dX8_figure_24 : decode cX8_figure 24 = .ok (.getfield 98, 3) := by decide +kernel
theorem dX8_figure_27 : decode cX8_figure 27 = .ok (.iload 5, 2) := by decide +kernel
theorem dX8_figure_29 : decode cX8_figure 29 = .ok (.ifCond .eq 7, 3) := by decide +kernel
theorem dX8_figure_32 : decode cX8_figure 32 = .ok (.iconst 1, 1) := by decide +kernel
theorem dX8_figure_33 : decode cX8_figure 33 = .ok (.goto 4, 3) := by decide +kernel
theorem dX8_figure_36 : decode cX8_figure 36 = .ok (.iconst 0, 1) := by decide +kernel
theorem dX8_figure_37 : decode cX8_figure 37 = .ok (.iadd, 1) := by decide +kernel
theorem dX8_figure_38 : decode cX8_figure 38 = .ok (.putfield 98, 3) := by decide +kernel
theorem dX8_figure_41 : decode cX8_figure 41 = .ok (.iload 5, 2) := by decide +kernel
theorem dX8_figure_43 : decode cX8_figure 43 = .ok (.ifCond .eq 8, 3) := by decide +kernel
theorem dX8_figure_46 : decode cX8_figure 46 = .ok (.iload 4, 2) := by decide +kernel
theorem dX8_figure_48 : decode cX8_figure 48 = .ok (.goto 5, 3) := by decide +kernel
theorem dX8_figure_51 : decode cX8_figure 51 = .ok (.bipush (-9), 2) := by decide +kernel
theorem dX8_figure_53 : decode cX8_figure 53 = .ok (.ireturn, 1) := by decide +kernel
set_option maxRecDepth 20000 in
theorem ggX8_readsSorrows_X8_figure : GoodIn wsX8_readsSorrows wsX8_figure := goodIn_r _ [7, 2, 8, 9, 10, 6, 11, 12, 13, 14, 15, 16, 17, 18, 19, 20, 21, 22, 23, 24, 25, 26, 27, 28, 29, 30, 31, 32, 33, 34, 35, 36, 37, 38, 39, 40, 41, 42, 43, 44, 45, 46, 47, 48, 49, 50] (by decide +kernel) (by decide +kernel)
set_option maxRecDepth 20000 in
theorem gX8_readsSorrows_X8_figure : GoodIn wsX8_readsSorrows (wsV RX8 105 RX8 yX8_figure wsX8_figure) := goodIn_app (goodIn_of _ (by decide +kernel)) ggX8_readsSorrows_X8_figure
set_option maxRecDepth 20000 in
theorem ggX8_readsSorrows_X8_codeAt : GoodIn wsX8_readsSorrows wsX8_codeAt := goodIn_r _ [11, 2, 12, 16, 17, 18, 19, 20, 21, 22, 23, 24, 25, 26, 27, 28, 29, 30, 31, 32, 33, 34, 35, 36, 37, 38, 39, 40, 41, 42, 43, 44, 45, 46, 47, 48, 49, 50] (by decide +kernel) (by decide +kernel)
set_option maxRecDepth 20000 in
theorem gX8_readsSorrows_X8_codeAt : GoodIn wsX8_readsSorrows (wsV RX8 101 RX8 yX8_codeAt wsX8_codeAt) := goodIn_app (goodIn_of _ (by decide +kernel)) ggX8_readsSorrows_X8_codeAt
theorem dX8_readsSorrows_0 : decode cX8_readsSorrows 0 = .ok (.iconst 1, 1) := by decide +kernel
theorem dX8_readsSorrows_1 : decode cX8_readsSorrows 1 = .ok (.istore_n 3, 1) := by decide +kernel
theorem dX8_readsSorrows_2 : decode cX8_readsSorrows 2 = .ok (.iconst 0, 1) := by decide +kernel
theorem dX8_readsSorrows_3 : decode cX8_readsSorrows 3 = .ok (.istore 4, 2) := by decide +kernel
theorem dX8_readsSorrows_5 : decode cX8_readsSorrows 5 = .ok (.iload 4, 2) := by decide +kernel
theorem dX8_readsSorrows_7 : decode cX8_readsSorrows 7 = .ok (.iconst 4, 1) := by decide +kernel
theorem dX8_readsSorrows_8 : decode cX8_readsSorrows 8 = .ok (.if_icmp .ge 44, 3) := by decide +kernel
theorem dX8_readsSorrows_11 : decode cX8_readsSorrows 11 = .ok (.iload_n 3, 1) := by decide +kernel
theorem dX8_readsSorrows_12 : decode cX8_readsSorrows 12 = .ok (.ifCond .eq 40, 3) := by decide +kernel
theorem dX8_readsSorrows_15 : decode cX8_readsSorrows 15 = .ok (.aload_n 0, 1) := by decide +kernel
theorem dX8_readsSorrows_16 : decode cX8_readsSorrows 16 = .ok (.getfield 25, 3) := by decide +kernel
theorem dX8_readsSorrows_19 : decode cX8_readsSorrows 19 = .ok (.iload 4, 2) := by decide +kernel
theorem dX8_readsSorrows_21 : decode cX8_readsSorrows 21 = .ok (.aload_n 0, 1) := by decide +kernel
theorem dX8_readsSorrows_22 : decode cX8_readsSorrows 22 = .ok (.iload_n 1, 1) := by decide +kernel
theorem dX8_readsSorrows_23 : decode cX8_readsSorrows 23 = .ok (.iload_n 2, 1) := by decide +kernel
theorem dX8_readsSorrows_24 : decode cX8_readsSorrows 24 = .ok (.bipush 9, 2) := by decide +kernel
theorem dX8_readsSorrows_26 : decode cX8_readsSorrows 26 = .ok (.invokevirtual 105, 3) := by decide +kernel
theorem dX8_readsSorrows_29 : decode cX8_readsSorrows 29 = .ok (.iastore, 1) := by decide +kernel
theorem dX8_readsSorrows_30 : decode cX8_readsSorrows 30 = .ok (.aload_n 0, 1) := by decide +kernel
theorem dX8_readsSorrows_31 : decode cX8_readsSorrows 31 = .ok (.getfield 25, 3) := by decide +kernel
theorem dX8_readsSorrows_34 : decode cX8_readsSorrows 34 = .ok (.iload 4, 2) := by decide +kernel
theorem dX8_readsSorrows_36 : decode cX8_readsSorrows 36 = .ok (.iaload, 1) := by decide +kernel
theorem dX8_readsSorrows_37 : decode cX8_readsSorrows 37 = .ok (.ifCond .lt 7, 3) := by decide +kernel
theorem dX8_readsSorrows_40 : decode cX8_readsSorrows 40 = .ok (.iconst 1, 1) := by decide +kernel
theorem dX8_readsSorrows_41 : decode cX8_readsSorrows 41 = .ok (.goto 4, 3) := by decide +kernel
theorem dX8_readsSorrows_44 : decode cX8_readsSorrows 44 = .ok (.iconst 0, 1) := by decide +kernel
theorem dX8_readsSorrows_45 : decode cX8_readsSorrows 45 = .ok (.istore_n 3, 1) := by decide +kernel
theorem dX8_readsSorrows_46 : decode cX8_readsSorrows 46 = .ok (.iinc 4 1, 3) := by decide +kernel
theorem dX8_readsSorrows_49 : decode cX8_readsSorrows 49 = .ok (.goto (-44), 3) := by decide +kernel
theorem dX8_readsSorrows_52 : decode cX8_readsSorrows 52 = .ok (.iload_n 3, 1) := by decide +kernel
theorem dX8_readsSorrows_53 : decode cX8_readsSorrows 53 = .ok (.ifCond .eq 18, 3) := by decide +kernel
theorem dX8_readsSorrows_56 : decode cX8_readsSorrows 56 = .ok (.aload_n 0, 1) := by decide +kernel
theorem dX8_readsSorrows_57 : decode cX8_readsSorrows 57 = .ok (.iload_n 1, 1) := by decide +kernel
theorem dX8_readsSorrows_58 : decode cX8_readsSorrows 58 = .ok (.iload_n 2, 1) := by decide +kernel
theorem dX8_readsSorrows_59 : decode cX8_readsSorrows 59 = .ok (.invokevirtual 101, 3) := by decide +kernel
theorem dX8_readsSorrows_62 : decode cX8_readsSorrows 62 = .ok (.bipush 44, 2) := by decide +kernel
theorem dX8_readsSorrows_64 : decode cX8_readsSorrows 64 = .ok (.if_icmp .ne 7, 3) := by decide +kernel
theorem dX8_readsSorrows_67 : decode cX8_readsSorrows 67 = .ok (.iconst 1, 1) := by decide +kernel
theorem dX8_readsSorrows_68 : decode cX8_readsSorrows 68 = .ok (.goto 4, 3) := by decide +kernel
theorem dX8_readsSorrows_71 : decode cX8_readsSorrows 71 = .ok (.iconst 0, 1) := by decide +kernel
theorem dX8_readsSorrows_72 : decode cX8_readsSorrows 72 = .ok (.istore_n 3, 1) := by decide +kernel
theorem dX8_readsSorrows_73 : decode cX8_readsSorrows 73 = .ok (.aload_n 0, 1) := by decide +kernel
theorem dX8_readsSorrows_74 : decode cX8_readsSorrows 74 = .ok (.dup, 1) := by decide +kernel
theorem dX8_readsSorrows_75 : decode cX8_readsSorrows 75 = .ok (.getfield 98, 3) := by decide +kernel
theorem dX8_readsSorrows_78 : decode cX8_readsSorrows 78 = .ok (.iload_n 3, 1) := by decide +kernel
theorem dX8_readsSorrows_79 : decode cX8_readsSorrows 79 = .ok (.ifCond .eq 7, 3) := by decide +kernel
theorem dX8_readsSorrows_82 : decode cX8_readsSorrows 82 = .ok (.iconst 1, 1) := by decide +kernel
theorem dX8_readsSorrows_83 : decode cX8_readsSorrows 83 = .ok (.goto 4, 3) := by decide +kernel
theorem dX8_readsSorrows_86 : decode cX8_readsSorrows 86 = .ok (.iconst 0, 1) := by decide +kernel
theorem dX8_readsSorrows_87 : decode cX8_readsSorrows 87 = .ok (.iadd, 1) := by decide +kernel
theorem dX8_readsSorrows_88 : decode cX8_readsSorrows 88 = .ok (.putfield 98, 3) := by decide +kernel
theorem dX8_readsSorrows_91 : decode cX8_readsSorrows 91 = .ok (.iload_n 3, 1) := by decide +kernel
theorem dX8_readsSorrows_92 : decode cX8_readsSorrows 92 = .ok (.ireturn, 1) := by decide +kernel
set_option maxRecDepth 20000 in
theorem ggX8_readsDays_X8_figure : GoodIn wsX8_readsDays wsX8_figure := goodIn_r _ [7, 8, 9, 10, 11, 6, 12, 13, 14, 15, 16, 17, 18, 19, 20, 21, 22, 23, 24, 25, 26, 27, 28, 29, 30, 31, 32, 33, 34, 35, 36, 37, 38, 39, 40, 41, 42, 43, 44, 45, 46, 47, 48, 49, 50, 51] (by decide +kernel) (by decide +kernel)
set_option maxRecDepth 20000 in
theorem gX8_readsDays_X8_figure : GoodIn wsX8_readsDays (wsV RX8 105 RX8 yX8_figure wsX8_figure) := goodIn_app (goodIn_of _ (by decide +kernel)) ggX8_readsDays_X8_figure
theorem dX8_readsDays_0 : decode cX8_readsDays 0 = .ok (.iconst 1, 1) := by decide +kernel
theorem dX8_readsDays_1 : decode cX8_readsDays 1 = .ok (.istore_n 3, 1) := by decide +kernel
theorem dX8_readsDays_2 : decode cX8_readsDays 2 = .ok (.aload_n 0, 1) := by decide +kernel
theorem dX8_readsDays_3 : decode cX8_readsDays 3 = .ok (.getfield 109, 3) := by decide +kernel
theorem dX8_readsDays_6 : decode cX8_readsDays 6 = .ok (.bipush 6, 2) := by decide +kernel
theorem dX8_readsDays_8 : decode cX8_readsDays 8 = .ok (.if_icmp .ge 56, 3) := by decide +kernel
theorem dX8_readsDays_11 : decode cX8_readsDays 11 = .ok (.iload_n 3, 1) := by decide +kernel
theorem dX8_readsDays_12 : decode cX8_readsDays 12 = .ok (.ifCond .eq 52, 3) := by decide +kernel
theorem dX8_readsDays_15 : decode cX8_readsDays 15 = .ok (.aload_n 0, 1) := by decide +kernel
theorem dX8_readsDays_16 : decode cX8_readsDays 16 = .ok (.iload_n 1, 1) := by decide +kernel
theorem dX8_readsDays_17 : decode cX8_readsDays 17 = .ok (.iload_n 2, 1) := by decide +kernel
theorem dX8_readsDays_18 : decode cX8_readsDays 18 = .ok (.bipush 9, 2) := by decide +kernel
theorem dX8_readsDays_20 : decode cX8_readsDays 20 = .ok (.invokevirtual 105, 3) := by decide +kernel
theorem dX8_readsDays_23 : decode cX8_readsDays 23 = .ok (.istore 4, 2) := by decide +kernel
theorem dX8_readsDays_25 : decode cX8_readsDays 25 = .ok (.iload 4, 2) := by decide +kernel
theorem dX8_readsDays_27 : decode cX8_readsDays 27 = .ok (.ifCond .lt 7, 3) := by decide +kernel
theorem dX8_readsDays_30 : decode cX8_readsDays 30 = .ok (.iconst 1, 1) := by decide +kernel
theorem dX8_readsDays_31 : decode cX8_readsDays 31 = .ok (.goto 4, 3) := by decide +kernel
theorem dX8_readsDays_34 : decode cX8_readsDays 34 = .ok (.iconst 0, 1) := by decide +kernel
theorem dX8_readsDays_35 : decode cX8_readsDays 35 = .ok (.istore_n 3, 1) := by decide +kernel
theorem dX8_readsDays_36 : decode cX8_readsDays 36 = .ok (.iload_n 3, 1) := by decide +kernel
theorem dX8_readsDays_37 : decode cX8_readsDays 37 = .ok (.ifCond .eq 24, 3) := by decide +kernel
theorem dX8_readsDays_40 : decode cX8_readsDays 40 = .ok (.aload_n 0, 1) := by decide +kernel
theorem dX8_readsDays_41 : decode cX8_readsDays 41 = .ok (.getfield 28, 3) := by decide +kernel
theorem dX8_readsDays_44 : decode cX8_readsDays 44 = .ok (.aload_n 0, 1) := by decide +kernel
theorem dX8_readsDays_45 : decode cX8_readsDays 45 = .ok (.getfield 109, 3) := by decide +kernel
theorem dX8_readsDays_48 : decode cX8_readsDays 48 = .ok (.iload 4, 2) := by decide +kernel
theorem dX8_readsDays_50 : decode cX8_readsDays 50 = .ok (.iastore, 1) := by decide +kernel
theorem dX8_readsDays_51 : decode cX8_readsDays 51 = .ok (.aload_n 0, 1) := by decide +kernel
theorem dX8_readsDays_52 : decode cX8_readsDays 52 = .ok (.dup, 1) := by decide +kernel
theorem dX8_readsDays_53 : decode cX8_readsDays 53 = .ok (.getfield 109, 3) := by decide +kernel
theorem dX8_readsDays_56 : decode cX8_readsDays 56 = .ok (.iconst 1, 1) := by decide +kernel
theorem dX8_readsDays_57 : decode cX8_readsDays 57 = .ok (.iadd, 1) := by decide +kernel
theorem dX8_readsDays_58 : decode cX8_readsDays 58 = .ok (.putfield 109, 3) := by decide +kernel
theorem dX8_readsDays_61 : decode cX8_readsDays 61 = .ok (.goto (-59), 3) := by decide +kernel
theorem dX8_readsDays_64 : decode cX8_readsDays 64 = .ok (.aload_n 0, 1) := by decide +kernel
theorem dX8_readsDays_65 : decode cX8_readsDays 65 = .ok (.getfield 109, 3) := by decide +kernel
theorem dX8_readsDays_68 : decode cX8_readsDays 68 = .ok (.ifCond .le 7, 3) := by decide +kernel
theorem dX8_readsDays_71 : decode cX8_readsDays 71 = .ok (.iconst 1, 1) := by decide +kernel
theorem dX8_readsDays_72 : decode cX8_readsDays 72 = .ok (.goto 4, 3) := by decide +kernel
theorem dX8_readsDays_75 : decode cX8_readsDays 75 = .ok (.iconst 0, 1) := by decide +kernel
theorem dX8_readsDays_76 : decode cX8_readsDays 76 = .ok (.ireturn, 1) := by decide +kernel
set_option maxRecDepth 20000 in
theorem ggX8_readsLinen_X8_codeAt : GoodIn wsX8_readsLinen wsX8_codeAt := goodIn_r _ [10, 2, 11, 19, 20, 21, 22, 23, 24, 25, 26, 27, 28, 29, 30, 31, 32, 33, 34, 35, 36, 37, 38, 39, 40, 41, 42, 43, 44, 45, 46, 47, 48, 49, 50, 51, 52, 53] (by decide +kernel) (by decide +kernel)
set_option maxRecDepth 20000 in
theorem gX8_readsLinen_X8_codeAt : GoodIn wsX8_readsLinen (wsV RX8 101 RX8 yX8_codeAt wsX8_codeAt) := goodIn_app (goodIn_of _ (by decide +kernel)) ggX8_readsLinen_X8_codeAt
set_option maxRecDepth 20000 in
theorem ggX8_readsLinen_X8_figure : GoodIn wsX8_readsLinen wsX8_figure := goodIn_r _ [15, 2, 6, 7, 8, 9, 10, 11, 16, 17, 18, 19, 20, 21, 22, 23, 24, 25, 26, 27, 28, 29, 30, 31, 32, 33, 34, 35, 36, 37, 38, 39, 40, 41, 42, 43, 44, 45, 46, 47, 48, 49, 50, 51, 52, 53] (by decide +kernel) (by decide +kernel)
set_option maxRecDepth 20000 in
theorem gX8_readsLinen_X8_figure : GoodIn wsX8_readsLinen (wsV RX8 105 RX8 yX8_figure wsX8_figure) := goodIn_app (goodIn_of _ (by decide +kernel)) ggX8_readsLinen_X8_figure
theorem dX8_readsLinen_0 : decode cX8_readsLinen 0 = .ok (.aload_n 0, 1) := by decide +kernel
theorem dX8_readsLinen_1 : decode cX8_readsLinen 1 = .ok (.getfield 112, 3) := by decide +kernel
theorem dX8_readsLinen_4 : decode cX8_readsLinen 4 = .ok (.iconst 5, 1) := by decide +kernel
theorem dX8_readsLinen_5 : decode cX8_readsLinen 5 = .ok (.if_icmp .eq 14, 3) := by decide +kernel
theorem dX8_readsLinen_8 : decode cX8_readsLinen 8 = .ok (.aload_n 0, 1) := by decide +kernel
theorem dX8_readsLinen_9 : decode cX8_readsLinen 9 = .ok (.iload_n 1, 1) := by decide +kernel
theorem dX8_readsLinen_10 : decode cX8_readsLinen 10 = .ok (.iload_n 2, 1) := by decide +kernel
theorem dX8_readsLinen_11 : decode cX8_readsLinen 11 = .ok (.invokevirtual 101, 3) := by decide +kernel
theorem dX8_readsLinen_14 : decode cX8_readsLinen 14 = .ok (.bipush 59, 2) := by decide +kernel
theorem dX8_readsLinen_16 : decode cX8_readsLinen 16 = .ok (.if_icmp .eq 5, 3) := by decide +kernel
theorem dX8_readsLinen_19 : decode cX8_readsLinen 19 = .ok (.iconst 0, 1) := by decide +kernel
theorem dX8_readsLinen_20 : decode cX8_readsLinen 20 = .ok (.ireturn, 1) := by decide +kernel
theorem dX8_readsLinen_21 : decode cX8_readsLinen 21 = .ok (.aload_n 0, 1) := by decide +kernel
theorem dX8_readsLinen_22 : decode cX8_readsLinen 22 = .ok (.dup, 1) := by decide +kernel
theorem dX8_readsLinen_23 : decode cX8_readsLinen 23 = .ok (.getfield 98, 3) := by decide +kernel
theorem dX8_readsLinen_26 : decode cX8_readsLinen 26 = .ok (.iconst 1, 1) := by decide +kernel
theorem dX8_readsLinen_27 : decode cX8_readsLinen 27 = .ok (.iadd, 1) := by decide +kernel
theorem dX8_readsLinen_28 : decode cX8_readsLinen 28 = .ok (.putfield 98, 3) := by decide +kernel
theorem dX8_readsLinen_31 : decode cX8_readsLinen 31 = .ok (.aload_n 0, 1) := by decide +kernel
theorem dX8_readsLinen_32 : decode cX8_readsLinen 32 = .ok (.iload_n 1, 1) := by decide +kernel
theorem dX8_readsLinen_33 : decode cX8_readsLinen 33 = .ok (.iload_n 2, 1) := by decide +kernel
theorem dX8_readsLinen_34 : decode cX8_readsLinen 34 = .ok (.invokevirtual 101, 3) := by decide +kernel
theorem dX8_readsLinen_37 : decode cX8_readsLinen 37 = .ok (.istore_n 3, 1) := by decide +kernel
theorem dX8_readsLinen_38 : decode cX8_readsLinen 38 = .ok (.iload_n 3, 1) := by decide +kernel
theorem dX8_readsLinen_39 : decode cX8_readsLinen 39 = .ok (.bipush 99, 2) := by decide +kernel
theorem dX8_readsLinen_41 : decode cX8_readsLinen 41 = .ok (.if_icmp .eq 17, 3) := by decide +kernel
theorem dX8_readsLinen_44 : decode cX8_readsLinen 44 = .ok (.iload_n 3, 1) := by decide +kernel
theorem dX8_readsLinen_45 : decode cX8_readsLinen 45 = .ok (.bipush 108, 2) := by decide +kernel
theorem dX8_readsLinen_47 : decode cX8_readsLinen 47 = .ok (.if_icmp .eq 11, 3) := by decide +kernel
theorem dX8_readsLinen_50 : decode cX8_readsLinen 50 = .ok (.iload_n 3, 1) := by decide +kernel
theorem dX8_readsLinen_51 : decode cX8_readsLinen 51 = .ok (.bipush 115, 2) := by decide +kernel
theorem dX8_readsLinen_53 : decode cX8_readsLinen 53 = .ok (.if_icmp .eq 5, 3) := by decide +kernel
theorem dX8_readsLinen_56 : decode cX8_readsLinen 56 = .ok (.iconst 0, 1) := by decide +kernel
theorem dX8_readsLinen_57 : decode cX8_readsLinen 57 = .ok (.ireturn, 1) := by decide +kernel
theorem dX8_readsLinen_58 : decode cX8_readsLinen 58 = .ok (.aload_n 0, 1) := by decide +kernel
theorem dX8_readsLinen_59 : decode cX8_readsLinen 59 = .ok (.dup, 1) := by decide +kernel
theorem dX8_readsLinen_60 : decode cX8_readsLinen 60 = .ok (.getfield 98, 3) := by decide +kernel
theorem dX8_readsLinen_63 : decode cX8_readsLinen 63 = .ok (.iconst 1, 1) := by decide +kernel
theorem dX8_readsLinen_64 : decode cX8_readsLinen 64 = .ok (.iadd, 1) := by decide +kernel
theorem dX8_readsLinen_65 : decode cX8_readsLinen 65 = .ok (.putfield 98, 3) := by decide +kernel
theorem dX8_readsLinen_68 : decode cX8_readsLinen 68 = .ok (.aload_n 0, 1) := by decide +kernel
theorem dX8_readsLinen_69 : decode cX8_readsLinen 69 = .ok (.iload_n 1, 1) := by decide +kernel
theorem dX8_readsLinen_70 : decode cX8_readsLinen 70 = .ok (.iload_n 2, 1) := by decide +kernel
theorem dX8_readsLinen_71 : decode cX8_readsLinen 71 = .ok (.iconst 3, 1) := by decide +kernel
theorem dX8_readsLinen_72 : decode cX8_readsLinen 72 = .ok (.invokevirtual 105, 3) := by decide +kernel
theorem dX8_readsLinen_75 : decode cX8_readsLinen 75 = .ok (.istore 4, 2) := by decide +kernel
theorem dX8_readsLinen_77 : decode cX8_readsLinen 77 = .ok (.iload 4, 2) := by decide +kernel
theorem dX8_readsLinen_79 : decode cX8_readsLinen 79 = .ok (.ifCond .ge 8, 3) := by decide +kernel
theorem dX8_readsLinen_82 : decode cX8_readsLinen 82 = .ok (.bipush (-9), 2) := by decide +kernel
theorem dX8_readsLinen_84 : decode cX8_readsLinen 84 = .ok (.goto 11, 3) := by decide +kernel
theorem dX8_readsLinen_87 : decode cX8_readsLinen 87 = .ok (.aload_n 0, 1) := by decide +kernel
theorem dX8_readsLinen_88 : decode cX8_readsLinen 88 = .ok (.iload_n 1, 1) := by decide +kernel
theorem dX8_readsLinen_89 : decode cX8_readsLinen 89 = .ok (.iload_n 2, 1) := by decide +kernel
theorem dX8_readsLinen_90 : decode cX8_readsLinen 90 = .ok (.bipush 9, 2) := by decide +kernel
theorem dX8_readsLinen_92 : decode cX8_readsLinen 92 = .ok (.invokevirtual 105, 3) := by decide +kernel
theorem dX8_readsLinen_95 : decode cX8_readsLinen 95 = .ok (.istore 5, 2) := by decide +kernel
theorem dX8_readsLinen_97 : decode cX8_readsLinen 97 = .ok (.iload 5, 2) := by decide +kernel
theorem dX8_readsLinen_99 : decode cX8_readsLinen 99 = .ok (.ifCond .ge 5, 3) := by decide +kernel
theorem dX8_readsLinen_102 : decode cX8_readsLinen 102 = .ok (.iconst 0, 1) := by decide +kernel
theorem dX8_readsLinen_103 : decode cX8_readsLinen 103 = .ok (.ireturn, 1) := by decide +kernel
theorem dX8_readsLinen_104 : decode cX8_readsLinen 104 = .ok (.aload_n 0, 1) := by decide +kernel
theorem dX8_readsLinen_105 : decode cX8_readsLinen 105 = .ok (.getfield 31, 3) := by decide +kernel
theorem dX8_readsLinen_108 : decode cX8_readsLinen 108 = .ok (.aload_n 0, 1) := by decide +kernel
theorem dX8_readsLinen_109 : decode cX8_readsLinen 109 = .ok (.getfield 112, 3) := by decide +kernel
theorem dX8_readsLinen_112 : decode cX8_readsLinen 112 = .ok (.iload_n 3, 1) := by decide +kernel
theorem dX8_readsLinen_113 : decode cX8_readsLinen 113 = .ok (.bipush 99, 2) := by decide +kernel
theorem dX8_readsLinen_115 : decode cX8_readsLinen 115 = .ok (.if_icmp .ne 7, 3) := by decide +kernel
theorem dX8_readsLinen_118 : decode cX8_readsLinen 118 = .ok (.iconst 0, 1) := by decide +kernel
theorem dX8_readsLinen_119 : decode cX8_readsLinen 119 = .ok (.goto 14, 3) := by decide +kernel
theorem dX8_readsLinen_122 : decode cX8_readsLinen 122 = .ok (.iload_n 3, 1) := by decide +kernel
theorem dX8_readsLinen_123 : decode cX8_readsLinen 123 = .ok (.bipush 108, 2) := by decide +kernel
theorem dX8_readsLinen_125 : decode cX8_readsLinen 125 = .ok (.if_icmp .ne 7, 3) := by decide +kernel
theorem dX8_readsLinen_128 : decode cX8_readsLinen 128 = .ok (.iconst 1, 1) := by decide +kernel
theorem dX8_readsLinen_129 : decode cX8_readsLinen 129 = .ok (.goto 4, 3) := by decide +kernel
theorem dX8_readsLinen_132 : decode cX8_readsLinen 132 = .ok (.iconst 2, 1) := by decide +kernel
theorem dX8_readsLinen_133 : decode cX8_readsLinen 133 = .ok (.iastore, 1) := by decide +kernel
theorem dX8_readsLinen_134 : decode cX8_readsLinen 134 = .ok (.aload_n 0, 1) := by decide +kernel
theorem dX8_readsLinen_135 : decode cX8_readsLinen 135 = .ok (.getfield 34, 3) := by decide +kernel
theorem dX8_readsLinen_138 : decode cX8_readsLinen 138 = .ok (.aload_n 0, 1) := by decide +kernel
theorem dX8_readsLinen_139 : decode cX8_readsLinen 139 = .ok (.getfield 112, 3) := by decide +kernel
theorem dX8_readsLinen_142 : decode cX8_readsLinen 142 = .ok (.iload 4, 2) := by decide +kernel
theorem dX8_readsLinen_144 : decode cX8_readsLinen 144 = .ok (.iastore, 1) := by decide +kernel
theorem dX8_readsLinen_145 : decode cX8_readsLinen 145 = .ok (.aload_n 0, 1) := by decide +kernel
theorem dX8_readsLinen_146 : decode cX8_readsLinen 146 = .ok (.getfield 37, 3) := by decide +kernel
theorem dX8_readsLinen_149 : decode cX8_readsLinen 149 = .ok (.aload_n 0, 1) := by decide +kernel
theorem dX8_readsLinen_150 : decode cX8_readsLinen 150 = .ok (.getfield 112, 3) := by decide +kernel
theorem dX8_readsLinen_153 : decode cX8_readsLinen 153 = .ok (.iload 5, 2) := by decide +kernel
theorem dX8_readsLinen_155 : decode cX8_readsLinen 155 = .ok (.iastore, 1) := by decide +kernel
theorem dX8_readsLinen_156 : decode cX8_readsLinen 156 = .ok (.aload_n 0, 1) := by decide +kernel
theorem dX8_readsLinen_157 : decode cX8_readsLinen 157 = .ok (.dup, 1) := by decide +kernel
theorem dX8_readsLinen_158 : decode cX8_readsLinen 158 = .ok (.getfield 112, 3) := by decide +kernel
theorem dX8_readsLinen_161 : decode cX8_readsLinen 161 = .ok (.iconst 1, 1) := by decide +kernel
theorem dX8_readsLinen_162 : decode cX8_readsLinen 162 = .ok (.iadd, 1) := by decide +kernel
theorem dX8_readsLinen_163 : decode cX8_readsLinen 163 = .ok (.putfield 112, 3) := by decide +kernel
theorem dX8_readsLinen_166 : decode cX8_readsLinen 166 = .ok (.iconst 1, 1) := by decide +kernel
theorem dX8_readsLinen_167 : decode cX8_readsLinen 167 = .ok (.ireturn, 1) := by decide +kernel
set_option maxRecDepth 20000 in
theorem ggX8_readsRealm_X8_codeAt : GoodIn wsX8_readsRealm wsX8_codeAt := goodIn_r _ [8, 1, 9, 34, 35, 36, 37, 38, 39, 40, 41, 42, 43, 44, 45, 46, 47, 48, 49, 50, 51, 52, 53, 54, 55, 56, 57, 58, 59, 60, 61, 62, 63, 64, 65, 66, 67, 68] (by decide +kernel) (by decide +kernel)
set_option maxRecDepth 20000 in
theorem gX8_readsRealm_X8_codeAt : GoodIn wsX8_readsRealm (wsV RX8 101 RX8 yX8_codeAt wsX8_codeAt) := goodIn_app (goodIn_of _ (by decide +kernel)) ggX8_readsRealm_X8_codeAt
set_option maxRecDepth 20000 in
theorem ggX8_readsRealm_X8_readsSorrows : GoodIn wsX8_readsRealm wsX8_readsSorrows := goodIn_r _ [13, 14, 1, 15, 16, 17, 7, 18, 4, 5, 6, 8, 9, 19, 20, 21, 34, 35, 36, 37, 38, 39, 40, 41, 42, 43, 44, 45, 46, 47, 48, 49, 50, 51, 52, 53, 54, 55, 56, 57, 58, 59, 60, 61, 62, 63, 64, 65, 66, 67, 68] (by decide +kernel) (by decide +kernel)
set_option maxRecDepth 20000 in
theorem gX8_readsRealm_X8_readsSorrows : GoodIn wsX8_readsRealm (wsV RX8 115 RX8 yX8_readsSorrows wsX8_readsSorrows) := goodIn_app (goodIn_of _ (by decide +kernel)) ggX8_readsRealm_X8_readsSorrows
set_option maxRecDepth 20000 in
theorem ggX8_readsRealm_X8_readsDays : GoodIn wsX8_readsRealm wsX8_readsDays := goodIn_r _ [25, 2, 26, 15, 16, 17, 7, 18, 1, 4, 5, 6, 8, 9, 19, 20, 21, 34, 35, 36, 37, 38, 39, 40, 41, 42, 43, 44, 45, 46, 47, 48, 49, 50, 51, 52, 53, 54, 55, 56, 57, 58, 59, 60, 61, 62, 63, 64, 65, 66, 67, 68] (by decide +kernel) (by decide +kernel)
set_option maxRecDepth 20000 in
theorem gX8_readsRealm_X8_readsDays : GoodIn wsX8_readsRealm (wsV RX8 119 RX8 yX8_readsDays wsX8_readsDays) := goodIn_app (goodIn_of _ (by decide +kernel)) ggX8_readsRealm_X8_readsDays
set_option maxRecDepth 20000 in
theorem ggX8_readsRealm_X8_readsLinen : GoodIn wsX8_readsRealm wsX8_readsLinen := goodIn_r _ [30, 3, 1, 31, 32, 33, 4, 5, 6, 7, 8, 9, 15, 16, 17, 18, 19, 20, 21, 34, 35, 36, 37, 38, 39, 40, 41, 42, 43, 44, 45, 46, 47, 48, 49, 50, 51, 52, 53, 54, 55, 56, 57, 58, 59, 60, 61, 62, 63, 64, 65, 66, 67, 68] (by decide +kernel) (by decide +kernel)
set_option maxRecDepth 20000 in
theorem gX8_readsRealm_X8_readsLinen : GoodIn wsX8_readsRealm (wsV RX8 122 RX8 yX8_readsLinen wsX8_readsLinen) := goodIn_app (goodIn_of _ (by decide +kernel)) ggX8_readsRealm_X8_readsLinen
theorem dX8_readsRealm_0 : decode cX8_readsRealm 0 = .ok (.aload_n 0, 1) := by decide +kernel
theorem dX8_readsRealm_1 : decode cX8_readsRealm 1 = .ok (.iconst 0, 1) := by decide +kernel
theorem dX8_readsRealm_2 : decode cX8_readsRealm 2 = .ok (.putfield 98, 3) := by decide +kernel
theorem dX8_readsRealm_5 : decode cX8_readsRealm 5 = .ok (.aload_n 0, 1) := by decide +kernel
theorem dX8_readsRealm_6 : decode cX8_readsRealm 6 = .ok (.iconst 0, 1) := by decide +kernel
theorem dX8_readsRealm_7 : decode cX8_readsRealm 7 = .ok (.putfield 109, 3) := by decide +kernel
theorem dX8_readsRealm_10 : decode cX8_readsRealm 10 = .ok (.aload_n 0, 1) := by decide +kernel
theorem dX8_readsRealm_11 : decode cX8_readsRealm 11 = .ok (.iconst 0, 1) := by decide +kernel
theorem dX8_readsRealm_12 : decode cX8_readsRealm 12 = .ok (.putfield 112, 3) := by decide +kernel
theorem dX8_readsRealm_15 : decode cX8_readsRealm 15 = .ok (.aload_n 0, 1) := by decide +kernel
theorem dX8_readsRealm_16 : decode cX8_readsRealm 16 = .ok (.iload_n 1, 1) := by decide +kernel
theorem dX8_readsRealm_17 : decode cX8_readsRealm 17 = .ok (.iload_n 2, 1) := by decide +kernel
theorem dX8_readsRealm_18 : decode cX8_readsRealm 18 = .ok (.invokevirtual 101, 3) := by decide +kernel
theorem dX8_readsRealm_21 : decode cX8_readsRealm 21 = .ok (.bipush 107, 2) := by decide +kernel
theorem dX8_readsRealm_23 : decode cX8_readsRealm 23 = .ok (.if_icmp .ne 7, 3) := by decide +kernel
theorem dX8_readsRealm_26 : decode cX8_readsRealm 26 = .ok (.iconst 1, 1) := by decide +kernel
theorem dX8_readsRealm_27 : decode cX8_readsRealm 27 = .ok (.goto 4, 3) := by decide +kernel
theorem dX8_readsRealm_30 : decode cX8_readsRealm 30 = .ok (.iconst 0, 1) := by decide +kernel
theorem dX8_readsRealm_31 : decode cX8_readsRealm 31 = .ok (.istore_n 3, 1) := by decide +kernel
theorem dX8_readsRealm_32 : decode cX8_readsRealm 32 = .ok (.aload_n 0, 1) := by decide +kernel
theorem dX8_readsRealm_33 : decode cX8_readsRealm 33 = .ok (.dup, 1) := by decide +kernel
theorem dX8_readsRealm_34 : decode cX8_readsRealm 34 = .ok (.getfield 98, 3) := by decide +kernel
theorem dX8_readsRealm_37 : decode cX8_readsRealm 37 = .ok (.iload_n 3, 1) := by decide +kernel
theorem dX8_readsRealm_38 : decode cX8_readsRealm 38 = .ok (.ifCond .eq 7, 3) := by decide +kernel
theorem dX8_readsRealm_41 : decode cX8_readsRealm 41 = .ok (.iconst 1, 1) := by decide +kernel
theorem dX8_readsRealm_42 : decode cX8_readsRealm 42 = .ok (.goto 4, 3) := by decide +kernel
theorem dX8_readsRealm_45 : decode cX8_readsRealm 45 = .ok (.iconst 0, 1) := by decide +kernel
theorem dX8_readsRealm_46 : decode cX8_readsRealm 46 = .ok (.iadd, 1) := by decide +kernel
theorem dX8_readsRealm_47 : decode cX8_readsRealm 47 = .ok (.putfield 98, 3) := by decide +kernel
theorem dX8_readsRealm_50 : decode cX8_readsRealm 50 = .ok (.iload_n 3, 1) := by decide +kernel
theorem dX8_readsRealm_51 : decode cX8_readsRealm 51 = .ok (.ifCond .eq 25, 3) := by decide +kernel
theorem dX8_readsRealm_54 : decode cX8_readsRealm 54 = .ok (.aload_n 0, 1) := by decide +kernel
theorem dX8_readsRealm_55 : decode cX8_readsRealm 55 = .ok (.iload_n 1, 1) := by decide +kernel
theorem dX8_readsRealm_56 : decode cX8_readsRealm 56 = .ok (.iload_n 2, 1) := by decide +kernel
theorem dX8_readsRealm_57 : decode cX8_readsRealm 57 = .ok (.invokevirtual 115, 3) := by decide +kernel
theorem dX8_readsRealm_60 : decode cX8_readsRealm 60 = .ok (.ifCond .eq 16, 3) := by decide +kernel
theorem dX8_readsRealm_63 : decode cX8_readsRealm 63 = .ok (.aload_n 0, 1) := by decide +kernel
theorem dX8_readsRealm_64 : decode cX8_readsRealm 64 = .ok (.iload_n 1, 1) := by decide +kernel
theorem dX8_readsRealm_65 : decode cX8_readsRealm 65 = .ok (.iload_n 2, 1) := by decide +kernel
theorem dX8_readsRealm_66 : decode cX8_readsRealm 66 = .ok (.invokevirtual 119, 3) := by decide +kernel
theorem dX8_readsRealm_69 : decode cX8_readsRealm 69 = .ok (.ifCond .eq 7, 3) := by decide +kernel
theorem dX8_readsRealm_72 : decode cX8_readsRealm 72 = .ok (.iconst 1, 1) := by decide +kernel
theorem dX8_readsRealm_73 : decode cX8_readsRealm 73 = .ok (.goto 4, 3) := by decide +kernel
theorem dX8_readsRealm_76 : decode cX8_readsRealm 76 = .ok (.iconst 0, 1) := by decide +kernel
theorem dX8_readsRealm_77 : decode cX8_readsRealm 77 = .ok (.istore_n 3, 1) := by decide +kernel
theorem dX8_readsRealm_78 : decode cX8_readsRealm 78 = .ok (.iload_n 3, 1) := by decide +kernel
theorem dX8_readsRealm_79 : decode cX8_readsRealm 79 = .ok (.ifCond .eq 28, 3) := by decide +kernel
theorem dX8_readsRealm_82 : decode cX8_readsRealm 82 = .ok (.aload_n 0, 1) := by decide +kernel
theorem dX8_readsRealm_83 : decode cX8_readsRealm 83 = .ok (.getfield 112, 3) := by decide +kernel
theorem dX8_readsRealm_86 : decode cX8_readsRealm 86 = .ok (.ifCond .eq 11, 3) := by decide +kernel
theorem dX8_readsRealm_89 : decode cX8_readsRealm 89 = .ok (.aload_n 0, 1) := by decide +kernel
theorem dX8_readsRealm_90 : decode cX8_readsRealm 90 = .ok (.getfield 98, 3) := by decide +kernel
theorem dX8_readsRealm_93 : decode cX8_readsRealm 93 = .ok (.iload_n 2, 1) := by decide +kernel
theorem dX8_readsRealm_94 : decode cX8_readsRealm 94 = .ok (.if_icmp .ge 13, 3) := by decide +kernel
theorem dX8_readsRealm_97 : decode cX8_readsRealm 97 = .ok (.aload_n 0, 1) := by decide +kernel
theorem dX8_readsRealm_98 : decode cX8_readsRealm 98 = .ok (.iload_n 1, 1) := by decide +kernel
theorem dX8_readsRealm_99 : decode cX8_readsRealm 99 = .ok (.iload_n 2, 1) := by decide +kernel
theorem dX8_readsRealm_100 : decode cX8_readsRealm 100 = .ok (.invokevirtual 122, 3) := by decide +kernel
theorem dX8_readsRealm_103 : decode cX8_readsRealm 103 = .ok (.istore_n 3, 1) := by decide +kernel
theorem dX8_readsRealm_104 : decode cX8_readsRealm 104 = .ok (.goto (-26), 3) := by decide +kernel
theorem dX8_readsRealm_107 : decode cX8_readsRealm 107 = .ok (.iload_n 3, 1) := by decide +kernel
theorem dX8_readsRealm_108 : decode cX8_readsRealm 108 = .ok (.ireturn, 1) := by decide +kernel
set_option maxRecDepth 20000 in
theorem ggX8_cellsBarred_X8_failed : GoodIn wsX8_cellsBarred wsX8_failed := goodIn_r _ [7, 8, 12, 13, 14, 15, 16, 17, 18, 19, 20, 21, 22, 23, 24, 25, 26, 27, 28, 29, 30, 31, 32, 33, 34, 35, 36, 37, 38, 39, 40, 41, 42, 43, 44, 45, 46] (by decide +kernel) (by decide +kernel)
set_option maxRecDepth 20000 in
theorem gX8_cellsBarred_X8_failed : GoodIn wsX8_cellsBarred (wsV RX8 125 RX8 yX8_failed wsX8_failed) := goodIn_app (goodIn_of _ (by decide +kernel)) ggX8_cellsBarred_X8_failed
set_option maxRecDepth 20000 in
theorem ggX8_cellsBarred_X8_isBeyond : GoodIn wsX8_cellsBarred wsX8_isBeyond := goodIn_r _ [11] (by decide +kernel) (by decide +kernel)
set_option maxRecDepth 20000 in
theorem gX8_cellsBarred_X8_isBeyond : GoodIn wsX8_cellsBarred (va_wsS RX8 129 yX8_isBeyond wsX8_isBeyond) := goodIn_app (goodIn_of _ (by decide +kernel)) ggX8_cellsBarred_X8_isBeyond
theorem dX8_cellsBarred_0 : decode cX8_cellsBarred 0 = .ok (.aload_n 0, 1) := by decide +kernel
theorem dX8_cellsBarred_1 : decode cX8_cellsBarred 1 = .ok (.getfield 64, 3) := by decide +kernel
theorem dX8_cellsBarred_4 : decode cX8_cellsBarred 4 = .ok (.iload_n 1, 1) := by decide +kernel
theorem dX8_cellsBarred_5 : decode cX8_cellsBarred 5 = .ok (.iaload, 1) := by decide +kernel
theorem dX8_cellsBarred_6 : decode cX8_cellsBarred 6 = .ok (.ifCond .lt 19, 3) := by decide +kernel
theorem dX8_cellsBarred_9 : decode cX8_cellsBarred 9 = .ok (.aload_n 0, 1) := by decide +kernel
theorem dX8_cellsBarred_10 : decode cX8_cellsBarred 10 = .ok (.getfield 67, 3) := by decide +kernel
theorem dX8_cellsBarred_13 : decode cX8_cellsBarred 13 = .ok (.iload_n 1, 1) := by decide +kernel
theorem dX8_cellsBarred_14 : decode cX8_cellsBarred 14 = .ok (.iaload, 1) := by decide +kernel
theorem dX8_cellsBarred_15 : decode cX8_cellsBarred 15 = .ok (.iload_n 2, 1) := by decide +kernel
theorem dX8_cellsBarred_16 : decode cX8_cellsBarred 16 = .ok (.if_icmp .eq 9, 3) := by decide +kernel
theorem dX8_cellsBarred_19 : decode cX8_cellsBarred 19 = .ok (.aload_n 0, 1) := by decide +kernel
theorem dX8_cellsBarred_20 : decode cX8_cellsBarred 20 = .ok (.iconst 2, 1) := by decide +kernel
theorem dX8_cellsBarred_21 : decode cX8_cellsBarred 21 = .ok (.invokevirtual 125, 3) := by decide +kernel
theorem dX8_cellsBarred_24 : decode cX8_cellsBarred 24 = .ok (.ireturn, 1) := by decide +kernel
theorem dX8_cellsBarred_25 : decode cX8_cellsBarred 25 = .ok (.aload_n 0, 1) := by decide +kernel
theorem dX8_cellsBarred_26 : decode cX8_cellsBarred 26 = .ok (.getfield 64, 3) := by decide +kernel
theorem dX8_cellsBarred_29 : decode cX8_cellsBarred 29 = .ok (.iload_n 1, 1) := by decide +kernel
theorem dX8_cellsBarred_30 : decode cX8_cellsBarred 30 = .ok (.iaload, 1) := by decide +kernel
theorem dX8_cellsBarred_31 : decode cX8_cellsBarred 31 = .ok (.ifCond .ge 9, 3) := by decide +kernel
theorem dX8_cellsBarred_34 : decode cX8_cellsBarred 34 = .ok (.aload_n 0, 1) := by decide +kernel
theorem dX8_cellsBarred_35 : decode cX8_cellsBarred 35 = .ok (.iconst 1, 1) := by decide +kernel
theorem dX8_cellsBarred_36 : decode cX8_cellsBarred 36 = .ok (.invokevirtual 125, 3) := by decide +kernel
theorem dX8_cellsBarred_39 : decode cX8_cellsBarred 39 = .ok (.ireturn, 1) := by decide +kernel
theorem dX8_cellsBarred_40 : decode cX8_cellsBarred 40 = .ok (.lload 4, 2) := by decide +kernel
theorem dX8_cellsBarred_42 : decode cX8_cellsBarred 42 = .ok (.lconst 0, 1) := by decide +kernel
theorem dX8_cellsBarred_43 : decode cX8_cellsBarred 43 = .ok (.lcmp, 1) := by decide +kernel
theorem dX8_cellsBarred_44 : decode cX8_cellsBarred 44 = .ok (.ifCond .ge 9, 3) := by decide +kernel
theorem dX8_cellsBarred_47 : decode cX8_cellsBarred 47 = .ok (.aload_n 0, 1) := by decide +kernel
theorem dX8_cellsBarred_48 : decode cX8_cellsBarred 48 = .ok (.iconst 4, 1) := by decide +kernel
theorem dX8_cellsBarred_49 : decode cX8_cellsBarred 49 = .ok (.invokevirtual 125, 3) := by decide +kernel
theorem dX8_cellsBarred_52 : decode cX8_cellsBarred 52 = .ok (.ireturn, 1) := by decide +kernel
theorem dX8_cellsBarred_53 : decode cX8_cellsBarred 53 = .ok (.iload_n 3, 1) := by decide +kernel
theorem dX8_cellsBarred_54 : decode cX8_cellsBarred 54 = .ok (.lload 4, 2) := by decide +kernel
theorem dX8_cellsBarred_56 : decode cX8_cellsBarred 56 = .ok (.aload_n 0, 1) := by decide +kernel
theorem dX8_cellsBarred_57 : decode cX8_cellsBarred 57 = .ok (.getfield 64, 3) := by decide +kernel
theorem dX8_cellsBarred_60 : decode cX8_cellsBarred 60 = .ok (.iload_n 1, 1) := by decide +kernel
theorem dX8_cellsBarred_61 : decode cX8_cellsBarred 61 = .ok (.iaload, 1) := by decide +kernel
theorem dX8_cellsBarred_62 : decode cX8_cellsBarred 62 = .ok (.invokestatic 129, 3) := by decide +kernel
theorem dX8_cellsBarred_65 : decode cX8_cellsBarred 65 = .ok (.ifCond .eq 11, 3) := by decide +kernel
theorem dX8_cellsBarred_68 : decode cX8_cellsBarred 68 = .ok (.aload_n 0, 1) := by decide +kernel
theorem dX8_cellsBarred_69 : decode cX8_cellsBarred 69 = .ok (.iconst 3, 1) := by decide +kernel
theorem dX8_cellsBarred_70 : decode cX8_cellsBarred 70 = .ok (.invokevirtual 125, 3) := by decide +kernel
theorem dX8_cellsBarred_73 : decode cX8_cellsBarred 73 = .ok (.goto 4, 3) := by decide +kernel
theorem dX8_cellsBarred_76 : decode cX8_cellsBarred 76 = .ok (.iconst 0, 1) := by decide +kernel
theorem dX8_cellsBarred_77 : decode cX8_cellsBarred 77 = .ok (.ireturn, 1) := by decide +kernel
set_option maxRecDepth 20000 in
theorem ggX8_realm_X8_noSheet : GoodIn wsX8_realm wsX8_noSheet := goodIn_r _ [21, 22, 23, 24, 20, 25] (by decide +kernel) (by decide +kernel)
set_option maxRecDepth 20000 in
theorem gX8_realm_X8_noSheet : GoodIn wsX8_realm (va_wsS RX8 133 yX8_noSheet wsX8_noSheet) := goodIn_app (goodIn_of _ (by decide +kernel)) ggX8_realm_X8_noSheet
set_option maxRecDepth 20000 in
theorem ggX8_realm_X8_refused : GoodIn wsX8_realm wsX8_refused := goodIn_r _ [29, 30, 69, 70, 71, 72, 73, 74, 75, 76, 77, 78, 79, 80, 81, 82, 83, 84, 85, 86, 87, 88, 89, 90, 91, 92, 93, 94, 95, 96, 97, 98, 99, 100, 101, 102, 103] (by decide +kernel) (by decide +kernel)
set_option maxRecDepth 20000 in
theorem gX8_realm_X8_refused : GoodIn wsX8_realm (wsV RX8 137 RX8 yX8_refused wsX8_refused) := goodIn_app (goodIn_of _ (by decide +kernel)) ggX8_realm_X8_refused
set_option maxRecDepth 20000 in
theorem ggX8_realm_X8_in : GoodIn wsX8_realm wsX8_in := goodIn_r _ [25] (by decide +kernel) (by decide +kernel)
set_option maxRecDepth 20000 in
theorem gX8_realm_X8_in : GoodIn wsX8_realm (va_wsS RX8 88 yX8_in wsX8_in) := goodIn_app (goodIn_of _ (by decide +kernel)) ggX8_realm_X8_in
set_option maxRecDepth 20000 in
theorem ggX8_realm_X8_cellsBarred : GoodIn wsX8_realm wsX8_cellsBarred := goodIn_r _ [34, 35, 36, 37, 38, 39, 20, 40, 30, 41, 42, 43, 69, 70, 71, 72, 73, 74, 75, 76, 77, 78, 79, 80, 81, 82, 83, 84, 85, 86, 87, 88, 89, 90, 91, 92, 93, 94, 95, 96, 97, 98, 99, 100, 101, 102, 103] (by decide +kernel) (by decide +kernel)
set_option maxRecDepth 20000 in
theorem gX8_realm_X8_cellsBarred : GoodIn wsX8_realm (wsV RX8 142 RX8 yX8_cellsBarred wsX8_cellsBarred) := goodIn_app (goodIn_of _ (by decide +kernel)) ggX8_realm_X8_cellsBarred
set_option maxRecDepth 20000 in
theorem ggX8_realm_X8_readsRealm : GoodIn wsX8_realm wsX8_readsRealm := goodIn_r _ [47, 2, 3, 5, 48, 49, 50, 20, 51, 52, 53, 54, 55, 56, 8, 57, 58, 59, 60, 23, 24, 25, 61, 62, 63, 64, 10, 65, 66, 67, 68, 12, 14, 16, 69, 70, 71, 72, 73, 74, 75, 76, 77, 78, 79, 80, 81, 82, 83, 84, 85, 86, 87, 88, 89, 90, 91, 92, 93, 94, 95, 96, 97, 98, 99, 100, 101, 102, 103] (by decide +kernel) (by decide +kernel)
set_option maxRecDepth 20000 in
theorem gX8_realm_X8_readsRealm : GoodIn wsX8_realm (wsV RX8 146 RX8 yX8_readsRealm wsX8_readsRealm) := goodIn_app (goodIn_of _ (by decide +kernel)) ggX8_realm_X8_readsRealm
theorem dX8_realm_0 : decode cX8_realm 0 = .ok (.iload_n 1, 1) := by decide +kernel
theorem dX8_realm_1 : decode cX8_realm 1 = .ok (.invokestatic 133, 3) := by decide +kernel
theorem dX8_realm_4 : decode cX8_realm 4 = .ok (.ifCond .eq 9, 3) := by decide +kernel
theorem dX8_realm_7 : decode cX8_realm 7 = .ok (.aload_n 0, 1) := by decide +kernel
theorem dX8_realm_8 : decode cX8_realm 8 = .ok (.iconst (-1), 1) := by decide +kernel
theorem dX8_realm_9 : decode cX8_realm 9 = .ok (.invokevirtual 137, 3) := by decide +kernel
theorem dX8_realm_12 : decode cX8_realm 12 = .ok (.ireturn, 1) := by decide +kernel
theorem dX8_realm_13 : decode cX8_realm 13 = .ok (.iload_n 2, 1) := by decide +kernel
theorem dX8_realm_14 : decode cX8_realm 14 = .ok (.i2l, 1) := by decide +kernel
theorem dX8_realm_15 : decode cX8_realm 15 = .ok (.lconst 0, 1) := by decide +kernel
theorem dX8_realm_16 : decode cX8_realm 16 = .ok (.ldc2_w 140, 3) := by decide +kernel
theorem dX8_realm_19 : decode cX8_realm 19 = .ok (.invokestatic 88, 3) := by decide +kernel
theorem dX8_realm_22 : decode cX8_realm 22 = .ok (.ifCond .ne 10, 3) := by decide +kernel
theorem dX8_realm_25 : decode cX8_realm 25 = .ok (.aload_n 0, 1) := by decide +kernel
theorem dX8_realm_26 : decode cX8_realm 26 = .ok (.bipush (-2), 2) := by decide +kernel
theorem dX8_realm_28 : decode cX8_realm 28 = .ok (.invokevirtual 137, 3) := by decide +kernel
theorem dX8_realm_31 : decode cX8_realm 31 = .ok (.ireturn, 1) := by decide +kernel
theorem dX8_realm_32 : decode cX8_realm 32 = .ok (.aload_n 0, 1) := by decide +kernel
theorem dX8_realm_33 : decode cX8_realm 33 = .ok (.iload_n 1, 1) := by decide +kernel
theorem dX8_realm_34 : decode cX8_realm 34 = .ok (.iload_n 2, 1) := by decide +kernel
theorem dX8_realm_35 : decode cX8_realm 35 = .ok (.iload_n 3, 1) := by decide +kernel
theorem dX8_realm_36 : decode cX8_realm 36 = .ok (.iload 4, 2) := by decide +kernel
theorem dX8_realm_38 : decode cX8_realm 38 = .ok (.i2l, 1) := by decide +kernel
theorem dX8_realm_39 : decode cX8_realm 39 = .ok (.invokevirtual 142, 3) := by decide +kernel
theorem dX8_realm_42 : decode cX8_realm 42 = .ok (.istore 5, 2) := by decide +kernel
theorem dX8_realm_44 : decode cX8_realm 44 = .ok (.iload 5, 2) := by decide +kernel
theorem dX8_realm_46 : decode cX8_realm 46 = .ok (.ifCond .ge 6, 3) := by decide +kernel
theorem dX8_realm_49 : decode cX8_realm 49 = .ok (.iload 5, 2) := by decide +kernel
theorem dX8_realm_51 : decode cX8_realm 51 = .ok (.ireturn, 1) := by decide +kernel
theorem dX8_realm_52 : decode cX8_realm 52 = .ok (.aload_n 0, 1) := by decide +kernel
theorem dX8_realm_53 : decode cX8_realm 53 = .ok (.bipush 60, 2) := by decide +kernel
theorem dX8_realm_55 : decode cX8_realm 55 = .ok (.iload_n 1, 1) := by decide +kernel
theorem dX8_realm_56 : decode cX8_realm 56 = .ok (.imul, 1) := by decide +kernel
theorem dX8_realm_57 : decode cX8_realm 57 = .ok (.iload_n 3, 1) := by decide +kernel
theorem dX8_realm_58 : decode cX8_realm 58 = .ok (.iadd, 1) := by decide +kernel
theorem dX8_realm_59 : decode cX8_realm 59 = .ok (.iload 4, 2) := by decide +kernel
theorem dX8_realm_61 : decode cX8_realm 61 = .ok (.invokevirtual 146, 3) := by decide +kernel
theorem dX8_realm_64 : decode cX8_realm 64 = .ok (.ifCond .ne 15, 3) := by decide +kernel
theorem dX8_realm_67 : decode cX8_realm 67 = .ok (.aload_n 0, 1) := by decide +kernel
theorem dX8_realm_68 : decode cX8_realm 68 = .ok (.bipush (-100), 2) := by decide +kernel
theorem dX8_realm_70 : decode cX8_realm 70 = .ok (.aload_n 0, 1) := by decide +kernel
theorem dX8_realm_71 : decode cX8_realm 71 = .ok (.getfield 98, 3) := by decide +kernel
theorem dX8_realm_74 : decode cX8_realm 74 = .ok (.isub, 1) := by decide +kernel
theorem dX8_realm_75 : decode cX8_realm 75 = .ok (.invokevirtual 137, 3) := by decide +kernel
theorem dX8_realm_78 : decode cX8_realm 78 = .ok (.ireturn, 1) := by decide +kernel
theorem dX8_realm_79 : decode cX8_realm 79 = .ok (.aload_n 0, 1) := by decide +kernel
theorem dX8_realm_80 : decode cX8_realm 80 = .ok (.aload_n 0, 1) := by decide +kernel
theorem dX8_realm_81 : decode cX8_realm 81 = .ok (.getfield 109, 3) := by decide +kernel
theorem dX8_realm_84 : decode cX8_realm 84 = .ok (.putfield 92, 3) := by decide +kernel
theorem dX8_realm_87 : decode cX8_realm 87 = .ok (.aload_n 0, 1) := by decide +kernel
theorem dX8_realm_88 : decode cX8_realm 88 = .ok (.aload_n 0, 1) := by decide +kernel
theorem dX8_realm_89 : decode cX8_realm 89 = .ok (.getfield 112, 3) := by decide +kernel
theorem dX8_realm_92 : decode cX8_realm 92 = .ok (.putfield 95, 3) := by decide +kernel
theorem dX8_realm_95 : decode cX8_realm 95 = .ok (.iconst 0, 1) := by decide +kernel
theorem dX8_realm_96 : decode cX8_realm 96 = .ok (.istore 6, 2) := by decide +kernel
theorem dX8_realm_98 : decode cX8_realm 98 = .ok (.iload 6, 2) := by decide +kernel
theorem dX8_realm_100 : decode cX8_realm 100 = .ok (.iconst 4, 1) := by decide +kernel
theorem dX8_realm_101 : decode cX8_realm 101 = .ok (.if_icmp .ge 23, 3) := by decide +kernel
theorem dX8_realm_104 : decode cX8_realm 104 = .ok (.aload_n 0, 1) := by decide +kernel
theorem dX8_realm_105 : decode cX8_realm 105 = .ok (.getfield 7, 3) := by decide +kernel
theorem dX8_realm_108 : decode cX8_realm 108 = .ok (.iload 6, 2) := by decide +kernel
theorem dX8_realm_110 : decode cX8_realm 110 = .ok (.aload_n 0, 1) := by decide +kernel
theorem dX8_realm_111 : decode cX8_realm 111 = .ok (.getfield 25, 3) := by decide +kernel
theorem dX8_realm_114 : decode cX8_realm 114 = .ok (.iload 6, 2) := by decide +kernel
theorem dX8_realm_116 : decode cX8_realm 116 = .ok (.iaload, 1) := by decide +kernel
theorem dX8_realm_117 : decode cX8_realm 117 = .ok (.iastore, 1) := by decide +kernel
theorem dX8_realm_118 : decode cX8_realm 118 = .ok (.iinc 6 1, 3) := by decide +kernel
theorem dX8_realm_121 : decode cX8_realm 121 = .ok (.goto (-23), 3) := by decide +kernel
theorem dX8_realm_124 : decode cX8_realm 124 = .ok (.iconst 0, 1) := by decide +kernel
theorem dX8_realm_125 : decode cX8_realm 125 = .ok (.istore 6, 2) := by decide +kernel
theorem dX8_realm_127 : decode cX8_realm 127 = .ok (.iload 6, 2) := by decide +kernel
theorem dX8_realm_129 : decode cX8_realm 129 = .ok (.aload_n 0, 1) := by decide +kernel
theorem dX8_realm_130 : decode cX8_realm 130 = .ok (.getfield 92, 3) := by decide +kernel
theorem dX8_realm_133 : decode cX8_realm 133 = .ok (.if_icmp .ge 23, 3) := by decide +kernel
theorem dX8_realm_136 : decode cX8_realm 136 = .ok (.aload_n 0, 1) := by decide +kernel
theorem dX8_realm_137 : decode cX8_realm 137 = .ok (.getfield 13, 3) := by decide +kernel
theorem dX8_realm_140 : decode cX8_realm 140 = .ok (.iload 6, 2) := by decide +kernel
theorem dX8_realm_142 : decode cX8_realm 142 = .ok (.aload_n 0, 1) := by decide +kernel
theorem dX8_realm_143 : decode cX8_realm 143 = .ok (.getfield 28, 3) := by decide +kernel
theorem dX8_realm_146 : decode cX8_realm 146 = .ok (.iload 6, 2) := by decide +kernel
theorem dX8_realm_148 : decode cX8_realm 148 = .ok (.iaload, 1) := by decide +kernel
theorem dX8_realm_149 : decode cX8_realm 149 = .ok (.iastore, 1) := by decide +kernel
theorem dX8_realm_150 : decode cX8_realm 150 = .ok (.iinc 6 1, 3) := by decide +kernel
theorem dX8_realm_153 : decode cX8_realm 153 = .ok (.goto (-26), 3) := by decide +kernel
theorem dX8_realm_156 : decode cX8_realm 156 = .ok (.iconst 0, 1) := by decide +kernel
theorem dX8_realm_157 : decode cX8_realm 157 = .ok (.istore 6, 2) := by decide +kernel
theorem dX8_realm_159 : decode cX8_realm 159 = .ok (.iload 6, 2) := by decide +kernel
theorem dX8_realm_161 : decode cX8_realm 161 = .ok (.aload_n 0, 1) := by decide +kernel
theorem dX8_realm_162 : decode cX8_realm 162 = .ok (.getfield 95, 3) := by decide +kernel
theorem dX8_realm_165 : decode cX8_realm 165 = .ok (.if_icmp .ge 51, 3) := by decide +kernel
theorem dX8_realm_168 : decode cX8_realm 168 = .ok (.aload_n 0, 1) := by decide +kernel
theorem dX8_realm_169 : decode cX8_realm 169 = .ok (.getfield 16, 3) := by decide +kernel
theorem dX8_realm_172 : decode cX8_realm 172 = .ok (.iload 6, 2) := by decide +kernel
theorem dX8_realm_174 : decode cX8_realm 174 = .ok (.aload_n 0, 1) := by decide +kernel
theorem dX8_realm_175 : decode cX8_realm 175 = .ok (.getfield 31, 3) := by decide +kernel
theorem dX8_realm_178 : decode cX8_realm 178 = .ok (.iload 6, 2) := by decide +kernel
theorem dX8_realm_180 : decode cX8_realm 180 = .ok (.iaload, 1) := by decide +kernel
theorem dX8_realm_181 : decode cX8_realm 181 = .ok (.iastore, 1) := by decide +kernel
theorem dX8_realm_182 : decode cX8_realm 182 = .ok (.aload_n 0, 1) := by decide +kernel
theorem dX8_realm_183 : decode cX8_realm 183 = .ok (.getfield 19, 3) := by decide +kernel
theorem dX8_realm_186 : decode cX8_realm 186 = .ok (.iload 6, 2) := by decide +kernel
theorem dX8_realm_188 : decode cX8_realm 188 = .ok (.aload_n 0, 1) := by decide +kernel
theorem dX8_realm_189 : decode cX8_realm 189 = .ok (.getfield 34, 3) := by decide +kernel
theorem dX8_realm_192 : decode cX8_realm 192 = .ok (.iload 6, 2) := by decide +kernel
theorem dX8_realm_194 : decode cX8_realm 194 = .ok (.iaload, 1) := by decide +kernel
theorem dX8_realm_195 : decode cX8_realm 195 = .ok (.iastore, 1) := by decide +kernel
theorem dX8_realm_196 : decode cX8_realm 196 = .ok (.aload_n 0, 1) := by decide +kernel
theorem dX8_realm_197 : decode cX8_realm 197 = .ok (.getfield 22, 3) := by decide +kernel
theorem dX8_realm_200 : decode cX8_realm 200 = .ok (.iload 6, 2) := by decide +kernel
theorem dX8_realm_202 : decode cX8_realm 202 = .ok (.aload_n 0, 1) := by decide +kernel
theorem dX8_realm_203 : decode cX8_realm 203 = .ok (.getfield 37, 3) := by decide +kernel
theorem dX8_realm_206 : decode cX8_realm 206 = .ok (.iload 6, 2) := by decide +kernel
theorem dX8_realm_208 : decode cX8_realm 208 = .ok (.iaload, 1) := by decide +kernel
theorem dX8_realm_209 : decode cX8_realm 209 = .ok (.iastore, 1) := by decide +kernel
theorem dX8_realm_210 : decode cX8_realm 210 = .ok (.iinc 6 1, 3) := by decide +kernel
theorem dX8_realm_213 : decode cX8_realm 213 = .ok (.goto (-54), 3) := by decide +kernel
theorem dX8_realm_216 : decode cX8_realm 216 = .ok (.aload_n 0, 1) := by decide +kernel
theorem dX8_realm_217 : decode cX8_realm 217 = .ok (.iconst 0, 1) := by decide +kernel
theorem dX8_realm_218 : decode cX8_realm 218 = .ok (.putfield 149, 3) := by decide +kernel
theorem dX8_realm_221 : decode cX8_realm 221 = .ok (.aload_n 0, 1) := by decide +kernel
theorem dX8_realm_222 : decode cX8_realm 222 = .ok (.aload_n 0, 1) := by decide +kernel
theorem dX8_realm_223 : decode cX8_realm 223 = .ok (.getfield 95, 3) := by decide +kernel
theorem dX8_realm_226 : decode cX8_realm 226 = .ok (.invokevirtual 137, 3) := by decide +kernel
theorem dX8_realm_229 : decode cX8_realm 229 = .ok (.ireturn, 1) := by decide +kernel
set_option maxRecDepth 20000 in
theorem ggX8_ofLinen_X8_noLinen : GoodIn wsX8_ofLinen wsX8_noLinen := goodIn_r _ [8, 9, 10, 11, 7, 12, 13, 14, 15, 16, 17, 18, 19, 20, 21, 22, 23, 24, 25, 26, 27, 28, 29, 30, 31, 32, 33, 34, 35, 36, 37, 38, 39, 40, 41, 42, 43, 44, 45, 46, 47] (by decide +kernel) (by decide +kernel)
set_option maxRecDepth 20000 in
theorem gX8_ofLinen_X8_noLinen : GoodIn wsX8_ofLinen (wsV RX8 152 RX8 yX8_noLinen wsX8_noLinen) := goodIn_app (goodIn_of _ (by decide +kernel)) ggX8_ofLinen_X8_noLinen
theorem dX8_ofLinen_0 : decode cX8_ofLinen 0 = .ok (.aload_n 0, 1) := by decide +kernel
theorem dX8_ofLinen_1 : decode cX8_ofLinen 1 = .ok (.iload_n 1, 1) := by decide +kernel
theorem dX8_ofLinen_2 : decode cX8_ofLinen 2 = .ok (.invokevirtual 152, 3) := by decide +kernel
theorem dX8_ofLinen_5 : decode cX8_ofLinen 5 = .ok (.ifCond .eq 5, 3) := by decide +kernel
theorem dX8_ofLinen_8 : decode cX8_ofLinen 8 = .ok (.iconst (-1), 1) := by decide +kernel
theorem dX8_ofLinen_9 : decode cX8_ofLinen 9 = .ok (.ireturn, 1) := by decide +kernel
theorem dX8_ofLinen_10 : decode cX8_ofLinen 10 = .ok (.iload_n 2, 1) := by decide +kernel
theorem dX8_ofLinen_11 : decode cX8_ofLinen 11 = .ok (.ifCond .ne 12, 3) := by decide +kernel
theorem dX8_ofLinen_14 : decode cX8_ofLinen 14 = .ok (.aload_n 0, 1) := by decide +kernel
theorem dX8_ofLinen_15 : decode cX8_ofLinen 15 = .ok (.getfield 16, 3) := by decide +kernel
theorem dX8_ofLinen_18 : decode cX8_ofLinen 18 = .ok (.iload_n 1, 1) := by decide +kernel
theorem dX8_ofLinen_19 : decode cX8_ofLinen 19 = .ok (.iaload, 1) := by decide +kernel
theorem dX8_ofLinen_20 : decode cX8_ofLinen 20 = .ok (.goto 33, 3) := by decide +kernel
theorem dX8_ofLinen_23 : decode cX8_ofLinen 23 = .ok (.iload_n 2, 1) := by decide +kernel
theorem dX8_ofLinen_24 : decode cX8_ofLinen 24 = .ok (.iconst 1, 1) := by decide +kernel
theorem dX8_ofLinen_25 : decode cX8_ofLinen 25 = .ok (.if_icmp .ne 12, 3) := by decide +kernel
theorem dX8_ofLinen_28 : decode cX8_ofLinen 28 = .ok (.aload_n 0, 1) := by decide +kernel
theorem dX8_ofLinen_29 : decode cX8_ofLinen 29 = .ok (.getfield 19, 3) := by decide +kernel
theorem dX8_ofLinen_32 : decode cX8_ofLinen 32 = .ok (.iload_n 1, 1) := by decide +kernel
theorem dX8_ofLinen_33 : decode cX8_ofLinen 33 = .ok (.iaload, 1) := by decide +kernel
theorem dX8_ofLinen_34 : decode cX8_ofLinen 34 = .ok (.goto 19, 3) := by decide +kernel
theorem dX8_ofLinen_37 : decode cX8_ofLinen 37 = .ok (.iload_n 2, 1) := by decide +kernel
theorem dX8_ofLinen_38 : decode cX8_ofLinen 38 = .ok (.iconst 2, 1) := by decide +kernel
theorem dX8_ofLinen_39 : decode cX8_ofLinen 39 = .ok (.if_icmp .ne 12, 3) := by decide +kernel
theorem dX8_ofLinen_42 : decode cX8_ofLinen 42 = .ok (.aload_n 0, 1) := by decide +kernel
theorem dX8_ofLinen_43 : decode cX8_ofLinen 43 = .ok (.getfield 22, 3) := by decide +kernel
theorem dX8_ofLinen_46 : decode cX8_ofLinen 46 = .ok (.iload_n 1, 1) := by decide +kernel
theorem dX8_ofLinen_47 : decode cX8_ofLinen 47 = .ok (.iaload, 1) := by decide +kernel
theorem dX8_ofLinen_48 : decode cX8_ofLinen 48 = .ok (.goto 5, 3) := by decide +kernel
theorem dX8_ofLinen_51 : decode cX8_ofLinen 51 = .ok (.bipush (-2), 2) := by decide +kernel
theorem dX8_ofLinen_53 : decode cX8_ofLinen 53 = .ok (.ireturn, 1) := by decide +kernel
set_option maxRecDepth 20000 in
theorem ggX8_heat_X8_noDay : GoodIn wsX8_heat wsX8_noDay := goodIn_r _ [6, 7, 8, 9, 5, 10, 11, 12, 13, 14, 15, 16, 17, 18, 19, 20, 21, 22, 23, 24, 25, 26, 27, 28, 29, 30, 31, 32, 33, 34, 35, 36, 37, 38, 39, 40, 41, 42, 43, 44, 45] (by decide +kernel) (by decide +kernel)
set_option maxRecDepth 20000 in
theorem gX8_heat_X8_noDay : GoodIn wsX8_heat (wsV RX8 155 RX8 yX8_noDay wsX8_noDay) := goodIn_app (goodIn_of _ (by decide +kernel)) ggX8_heat_X8_noDay
theorem dX8_heat_0 : decode cX8_heat 0 = .ok (.aload_n 0, 1) := by decide +kernel
theorem dX8_heat_1 : decode cX8_heat 1 = .ok (.iload_n 1, 1) := by decide +kernel
theorem dX8_heat_2 : decode cX8_heat 2 = .ok (.invokevirtual 155, 3) := by decide +kernel
theorem dX8_heat_5 : decode cX8_heat 5 = .ok (.ifCond .eq 7, 3) := by decide +kernel
theorem dX8_heat_8 : decode cX8_heat 8 = .ok (.iconst (-1), 1) := by decide +kernel
theorem dX8_heat_9 : decode cX8_heat 9 = .ok (.goto 9, 3) := by decide +kernel
theorem dX8_heat_12 : decode cX8_heat 12 = .ok (.aload_n 0, 1) := by decide +kernel
theorem dX8_heat_13 : decode cX8_heat 13 = .ok (.getfield 13, 3) := by decide +kernel
theorem dX8_heat_16 : decode cX8_heat 16 = .ok (.iload_n 1, 1) := by decide +kernel
theorem dX8_heat_17 : decode cX8_heat 17 = .ok (.iaload, 1) := by decide +kernel
theorem dX8_heat_18 : decode cX8_heat 18 = .ok (.ireturn, 1) := by decide +kernel
set_option maxRecDepth 20000 in
theorem ggX8_warm_X8_noDay : GoodIn wsX8_warm wsX8_noDay := goodIn_r _ [7, 8, 9, 10, 6, 11, 12, 13, 14, 15, 16, 17, 18, 19, 20, 21, 22, 23, 24, 25, 26, 27, 28, 29, 30, 31, 32, 33, 34, 35, 36, 37, 38, 39, 40, 41, 42, 43, 44, 45, 46] (by decide +kernel) (by decide +kernel)
set_option maxRecDepth 20000 in
theorem gX8_warm_X8_noDay : GoodIn wsX8_warm (wsV RX8 155 RX8 yX8_noDay wsX8_noDay) := goodIn_app (goodIn_of _ (by decide +kernel)) ggX8_warm_X8_noDay
set_option maxRecDepth 20000 in
theorem ggX8_warm_X8_in : GoodIn wsX8_warm wsX8_in := goodIn_r _ [11] (by decide +kernel) (by decide +kernel)
set_option maxRecDepth 20000 in
theorem gX8_warm_X8_in : GoodIn wsX8_warm (va_wsS RX8 88 yX8_in wsX8_in) := goodIn_app (goodIn_of _ (by decide +kernel)) ggX8_warm_X8_in
theorem dX8_warm_0 : decode cX8_warm 0 = .ok (.aload_n 0, 1) := by decide +kernel
theorem dX8_warm_1 : decode cX8_warm 1 = .ok (.iload_n 1, 1) := by decide +kernel
theorem dX8_warm_2 : decode cX8_warm 2 = .ok (.invokevirtual 155, 3) := by decide +kernel
theorem dX8_warm_5 : decode cX8_warm 5 = .ok (.ifCond .eq 5, 3) := by decide +kernel
theorem dX8_warm_8 : decode cX8_warm 8 = .ok (.iconst (-1), 1) := by decide +kernel
theorem dX8_warm_9 : decode cX8_warm 9 = .ok (.ireturn, 1) := by decide +kernel
theorem dX8_warm_10 : decode cX8_warm 10 = .ok (.iload_n 2, 1) := by decide +kernel
theorem dX8_warm_11 : decode cX8_warm 11 = .ok (.i2l, 1) := by decide +kernel
theorem dX8_warm_12 : decode cX8_warm 12 = .ok (.lconst 0, 1) := by decide +kernel
theorem dX8_warm_13 : decode cX8_warm 13 = .ok (.ldc2_w 158, 3) := by decide +kernel
theorem dX8_warm_16 : decode cX8_warm 16 = .ok (.invokestatic 88, 3) := by decide +kernel
theorem dX8_warm_19 : decode cX8_warm 19 = .ok (.ifCond .ne 6, 3) := by decide +kernel
theorem dX8_warm_22 : decode cX8_warm 22 = .ok (.bipush (-2), 2) := by decide +kernel
theorem dX8_warm_24 : decode cX8_warm 24 = .ok (.ireturn, 1) := by decide +kernel
theorem dX8_warm_25 : decode cX8_warm 25 = .ok (.aload_n 0, 1) := by decide +kernel
theorem dX8_warm_26 : decode cX8_warm 26 = .ok (.getfield 13, 3) := by decide +kernel
theorem dX8_warm_29 : decode cX8_warm 29 = .ok (.iload_n 1, 1) := by decide +kernel
theorem dX8_warm_30 : decode cX8_warm 30 = .ok (.iaload, 1) := by decide +kernel
theorem dX8_warm_31 : decode cX8_warm 31 = .ok (.istore_n 3, 1) := by decide +kernel
theorem dX8_warm_32 : decode cX8_warm 32 = .ok (.aload_n 0, 1) := by decide +kernel
theorem dX8_warm_33 : decode cX8_warm 33 = .ok (.getfield 13, 3) := by decide +kernel
theorem dX8_warm_36 : decode cX8_warm 36 = .ok (.iload_n 1, 1) := by decide +kernel
theorem dX8_warm_37 : decode cX8_warm 37 = .ok (.iload_n 2, 1) := by decide +kernel
theorem dX8_warm_38 : decode cX8_warm 38 = .ok (.iastore, 1) := by decide +kernel
theorem dX8_warm_39 : decode cX8_warm 39 = .ok (.iload_n 3, 1) := by decide +kernel
theorem dX8_warm_40 : decode cX8_warm 40 = .ok (.ireturn, 1) := by decide +kernel
set_option maxRecDepth 20000 in
theorem ggX8_grieve_X8_noWeeper : GoodIn wsX8_grieve wsX8_noWeeper := goodIn_r _ [7, 8, 9, 10, 6, 11] (by decide +kernel) (by decide +kernel)
set_option maxRecDepth 20000 in
theorem gX8_grieve_X8_noWeeper : GoodIn wsX8_grieve (va_wsS RX8 160 yX8_noWeeper wsX8_noWeeper) := goodIn_app (goodIn_of _ (by decide +kernel)) ggX8_grieve_X8_noWeeper
set_option maxRecDepth 20000 in
theorem ggX8_grieve_X8_in : GoodIn wsX8_grieve wsX8_in := goodIn_r _ [11] (by decide +kernel) (by decide +kernel)
set_option maxRecDepth 20000 in
theorem gX8_grieve_X8_in : GoodIn wsX8_grieve (va_wsS RX8 88 yX8_in wsX8_in) := goodIn_app (goodIn_of _ (by decide +kernel)) ggX8_grieve_X8_in
theorem dX8_grieve_0 : decode cX8_grieve 0 = .ok (.iload_n 1, 1) := by decide +kernel
theorem dX8_grieve_1 : decode cX8_grieve 1 = .ok (.invokestatic 160, 3) := by decide +kernel
theorem dX8_grieve_4 : decode cX8_grieve 4 = .ok (.ifCond .eq 5, 3) := by decide +kernel
theorem dX8_grieve_7 : decode cX8_grieve 7 = .ok (.iconst (-1), 1) := by decide +kernel
theorem dX8_grieve_8 : decode cX8_grieve 8 = .ok (.ireturn, 1) := by decide +kernel
theorem dX8_grieve_9 : decode cX8_grieve 9 = .ok (.iload_n 2, 1) := by decide +kernel
theorem dX8_grieve_10 : decode cX8_grieve 10 = .ok (.i2l, 1) := by decide +kernel
theorem dX8_grieve_11 : decode cX8_grieve 11 = .ok (.lconst 0, 1) := by decide +kernel
theorem dX8_grieve_12 : decode cX8_grieve 12 = .ok (.ldc2_w 158, 3) := by decide +kernel
theorem dX8_grieve_15 : decode cX8_grieve 15 = .ok (.invokestatic 88, 3) := by decide +kernel
theorem dX8_grieve_18 : decode cX8_grieve 18 = .ok (.ifCond .ne 6, 3) := by decide +kernel
theorem dX8_grieve_21 : decode cX8_grieve 21 = .ok (.bipush (-2), 2) := by decide +kernel
theorem dX8_grieve_23 : decode cX8_grieve 23 = .ok (.ireturn, 1) := by decide +kernel
theorem dX8_grieve_24 : decode cX8_grieve 24 = .ok (.aload_n 0, 1) := by decide +kernel
theorem dX8_grieve_25 : decode cX8_grieve 25 = .ok (.getfield 95, 3) := by decide +kernel
theorem dX8_grieve_28 : decode cX8_grieve 28 = .ok (.ifCond .ne 6, 3) := by decide +kernel
theorem dX8_grieve_31 : decode cX8_grieve 31 = .ok (.bipush (-3), 2) := by decide +kernel
theorem dX8_grieve_33 : decode cX8_grieve 33 = .ok (.ireturn, 1) := by decide +kernel
theorem dX8_grieve_34 : decode cX8_grieve 34 = .ok (.aload_n 0, 1) := by decide +kernel
theorem dX8_grieve_35 : decode cX8_grieve 35 = .ok (.getfield 7, 3) := by decide +kernel
theorem dX8_grieve_38 : decode cX8_grieve 38 = .ok (.iload_n 1, 1) := by decide +kernel
theorem dX8_grieve_39 : decode cX8_grieve 39 = .ok (.iaload, 1) := by decide +kernel
theorem dX8_grieve_40 : decode cX8_grieve 40 = .ok (.istore_n 3, 1) := by decide +kernel
theorem dX8_grieve_41 : decode cX8_grieve 41 = .ok (.aload_n 0, 1) := by decide +kernel
theorem dX8_grieve_42 : decode cX8_grieve 42 = .ok (.getfield 7, 3) := by decide +kernel
theorem dX8_grieve_45 : decode cX8_grieve 45 = .ok (.iload_n 1, 1) := by decide +kernel
theorem dX8_grieve_46 : decode cX8_grieve 46 = .ok (.iload_n 2, 1) := by decide +kernel
theorem dX8_grieve_47 : decode cX8_grieve 47 = .ok (.iastore, 1) := by decide +kernel
theorem dX8_grieve_48 : decode cX8_grieve 48 = .ok (.iload_n 3, 1) := by decide +kernel
theorem dX8_grieve_49 : decode cX8_grieve 49 = .ok (.ireturn, 1) := by decide +kernel
set_option maxRecDepth 20000 in
theorem ggX8_give_X8_noLinen : GoodIn wsX8_give wsX8_noLinen := goodIn_r _ [6, 7, 8, 9, 5, 10, 15, 16, 17, 18, 19, 20, 21, 22, 23, 24, 25, 26, 27, 28, 29, 30, 31, 32, 33, 34, 35, 36, 37, 38, 39, 40, 41, 42, 43, 44, 45, 46, 47, 48, 49] (by decide +kernel) (by decide +kernel)
set_option maxRecDepth 20000 in
theorem gX8_give_X8_noLinen : GoodIn wsX8_give (wsV RX8 152 RX8 yX8_noLinen wsX8_noLinen) := goodIn_app (goodIn_of _ (by decide +kernel)) ggX8_give_X8_noLinen
set_option maxRecDepth 20000 in
theorem ggX8_give_X8_noWeeper : GoodIn wsX8_give wsX8_noWeeper := goodIn_r _ [13, 14, 8, 9, 5, 10] (by decide +kernel) (by decide +kernel)
set_option maxRecDepth 20000 in
theorem gX8_give_X8_noWeeper : GoodIn wsX8_give (va_wsS RX8 160 yX8_noWeeper wsX8_noWeeper) := goodIn_app (goodIn_of _ (by decide +kernel)) ggX8_give_X8_noWeeper
theorem dX8_give_0 : decode cX8_give 0 = .ok (.aload_n 0, 1) := by decide +kernel
theorem dX8_give_1 : decode cX8_give 1 = .ok (.iload_n 1, 1) := by decide +kernel
theorem dX8_give_2 : decode cX8_give 2 = .ok (.invokevirtual 152, 3) := by decide +kernel
theorem dX8_give_5 : decode cX8_give 5 = .ok (.ifCond .ne 10, 3) := by decide +kernel
theorem dX8_give_8 : decode cX8_give 8 = .ok (.iload_n 2, 1) := by decide +kernel
theorem dX8_give_9 : decode cX8_give 9 = .ok (.invokestatic 160, 3) := by decide +kernel
theorem dX8_give_12 : decode cX8_give 12 = .ok (.ifCond .eq 5, 3) := by decide +kernel
theorem dX8_give_15 : decode cX8_give 15 = .ok (.iconst (-1), 1) := by decide +kernel
theorem dX8_give_16 : decode cX8_give 16 = .ok (.ireturn, 1) := by decide +kernel
theorem dX8_give_17 : decode cX8_give 17 = .ok (.aload_n 0, 1) := by decide +kernel
theorem dX8_give_18 : decode cX8_give 18 = .ok (.getfield 19, 3) := by decide +kernel
theorem dX8_give_21 : decode cX8_give 21 = .ok (.iload_n 1, 1) := by decide +kernel
theorem dX8_give_22 : decode cX8_give 22 = .ok (.iaload, 1) := by decide +kernel
theorem dX8_give_23 : decode cX8_give 23 = .ok (.istore_n 3, 1) := by decide +kernel
theorem dX8_give_24 : decode cX8_give 24 = .ok (.aload_n 0, 1) := by decide +kernel
theorem dX8_give_25 : decode cX8_give 25 = .ok (.getfield 19, 3) := by decide +kernel
theorem dX8_give_28 : decode cX8_give 28 = .ok (.iload_n 1, 1) := by decide +kernel
theorem dX8_give_29 : decode cX8_give 29 = .ok (.iload_n 2, 1) := by decide +kernel
theorem dX8_give_30 : decode cX8_give 30 = .ok (.iastore, 1) := by decide +kernel
theorem dX8_give_31 : decode cX8_give 31 = .ok (.iload_n 3, 1) := by decide +kernel
theorem dX8_give_32 : decode cX8_give 32 = .ok (.ireturn, 1) := by decide +kernel
set_option maxRecDepth 20000 in
theorem ggX8_driesOn_X8_isIn : GoodIn wsX8_driesOn wsX8_isIn := goodIn_r _ [7] (by decide +kernel) (by decide +kernel)
set_option maxRecDepth 20000 in
theorem gX8_driesOn_X8_isIn : GoodIn wsX8_driesOn (va_wsS RX8 166 yX8_isIn wsX8_isIn) := goodIn_app (goodIn_of _ (by decide +kernel)) ggX8_driesOn_X8_isIn
theorem dX8_driesOn_0 : decode cX8_driesOn 0 = .ok (.aload_n 0, 1) := by decide +kernel
theorem dX8_driesOn_1 : decode cX8_driesOn 1 = .ok (.getfield 163, 3) := by decide +kernel
theorem dX8_driesOn_4 : decode cX8_driesOn 4 = .ok (.iload_n 2, 1) := by decide +kernel
theorem dX8_driesOn_5 : decode cX8_driesOn 5 = .ok (.invokestatic 166, 3) := by decide +kernel
theorem dX8_driesOn_8 : decode cX8_driesOn 8 = .ok (.ifCond .eq 7, 3) := by decide +kernel
theorem dX8_driesOn_11 : decode cX8_driesOn 11 = .ok (.iconst 0, 1) := by decide +kernel
theorem dX8_driesOn_12 : decode cX8_driesOn 12 = .ok (.goto 9, 3) := by decide +kernel
theorem dX8_driesOn_15 : decode cX8_driesOn 15 = .ok (.aload_n 0, 1) := by decide +kernel
theorem dX8_driesOn_16 : decode cX8_driesOn 16 = .ok (.getfield 13, 3) := by decide +kernel
theorem dX8_driesOn_19 : decode cX8_driesOn 19 = .ok (.iload_n 2, 1) := by decide +kernel
theorem dX8_driesOn_20 : decode cX8_driesOn 20 = .ok (.iaload, 1) := by decide +kernel
theorem dX8_driesOn_21 : decode cX8_driesOn 21 = .ok (.istore_n 3, 1) := by decide +kernel
theorem dX8_driesOn_22 : decode cX8_driesOn 22 = .ok (.aload_n 0, 1) := by decide +kernel
theorem dX8_driesOn_23 : decode cX8_driesOn 23 = .ok (.getfield 16, 3) := by decide +kernel
theorem dX8_driesOn_26 : decode cX8_driesOn 26 = .ok (.iload_n 1, 1) := by decide +kernel
theorem dX8_driesOn_27 : decode cX8_driesOn 27 = .ok (.iaload, 1) := by decide +kernel
theorem dX8_driesOn_28 : decode cX8_driesOn 28 = .ok (.ifCond .ne 7, 3) := by decide +kernel
theorem dX8_driesOn_31 : decode cX8_driesOn 31 = .ok (.iload_n 3, 1) := by decide +kernel
theorem dX8_driesOn_32 : decode cX8_driesOn 32 = .ok (.goto 24, 3) := by decide +kernel
theorem dX8_driesOn_35 : decode cX8_driesOn 35 = .ok (.aload_n 0, 1) := by decide +kernel
theorem dX8_driesOn_36 : decode cX8_driesOn 36 = .ok (.getfield 16, 3) := by decide +kernel
theorem dX8_driesOn_39 : decode cX8_driesOn 39 = .ok (.iload_n 1, 1) := by decide +kernel
theorem dX8_driesOn_40 : decode cX8_driesOn 40 = .ok (.iaload, 1) := by decide +kernel
theorem dX8_driesOn_41 : decode cX8_driesOn 41 = .ok (.iconst 1, 1) := by decide +kernel
theorem dX8_driesOn_42 : decode cX8_driesOn 42 = .ok (.if_icmp .ne 9, 3) := by decide +kernel
theorem dX8_driesOn_45 : decode cX8_driesOn 45 = .ok (.iload_n 3, 1) := by decide +kernel
theorem dX8_driesOn_46 : decode cX8_driesOn 46 = .ok (.iconst 1, 1) := by decide +kernel
theorem dX8_driesOn_47 : decode cX8_driesOn 47 = .ok (.iadd, 1) := by decide +kernel
theorem dX8_driesOn_48 : decode cX8_driesOn 48 = .ok (.goto 8, 3) := by decide +kernel
theorem dX8_driesOn_51 : decode cX8_driesOn 51 = .ok (.iconst 2, 1) := by decide +kernel
theorem dX8_driesOn_52 : decode cX8_driesOn 52 = .ok (.iload_n 3, 1) := by decide +kernel
theorem dX8_driesOn_53 : decode cX8_driesOn 53 = .ok (.iconst 1, 1) := by decide +kernel
theorem dX8_driesOn_54 : decode cX8_driesOn 54 = .ok (.iadd, 1) := by decide +kernel
theorem dX8_driesOn_55 : decode cX8_driesOn 55 = .ok (.imul, 1) := by decide +kernel
theorem dX8_driesOn_56 : decode cX8_driesOn 56 = .ok (.ireturn, 1) := by decide +kernel
set_option maxRecDepth 20000 in
theorem ggX8_dries_X8_noLinen : GoodIn wsX8_dries wsX8_noLinen := goodIn_r _ [5, 6, 7, 8, 4, 9, 25, 26, 27, 28, 29, 30, 31, 32, 33, 34, 35, 36, 37, 38, 39, 40, 41, 42, 43, 44, 45, 46, 47, 48, 49, 50, 51, 52, 53, 54, 55, 56, 57, 58, 59] (by decide +kernel) (by decide +kernel)
set_option maxRecDepth 20000 in
theorem gX8_dries_X8_noLinen : GoodIn wsX8_dries (wsV RX8 152 RX8 yX8_noLinen wsX8_noLinen) := goodIn_app (goodIn_of _ (by decide +kernel)) ggX8_dries_X8_noLinen
set_option maxRecDepth 20000 in
theorem ggX8_dries_X8_noDay : GoodIn wsX8_dries wsX8_noDay := goodIn_r _ [13, 14, 7, 8, 4, 9, 25, 26, 27, 28, 29, 30, 31, 32, 33, 34, 35, 36, 37, 38, 39, 40, 41, 42, 43, 44, 45, 46, 47, 48, 49, 50, 51, 52, 53, 54, 55, 56, 57, 58, 59] (by decide +kernel) (by decide +kernel)
set_option maxRecDepth 20000 in
theorem gX8_dries_X8_noDay : GoodIn wsX8_dries (wsV RX8 155 RX8 yX8_noDay wsX8_noDay) := goodIn_app (goodIn_of _ (by decide +kernel)) ggX8_dries_X8_noDay
set_option maxRecDepth 20000 in
theorem ggX8_dries_X8_driesOn : GoodIn wsX8_dries wsX8_driesOn := goodIn_r _ [18, 19, 20, 21, 22, 23, 4, 24, 25, 26, 27, 28, 29, 30, 31, 32, 33, 34, 35, 36, 37, 38, 39, 40, 41, 42, 43, 44, 45, 46, 47, 48, 49, 50, 51, 52, 53, 54, 55, 56, 57, 58, 59] (by decide +kernel) (by decide +kernel)
set_option maxRecDepth 20000 in
theorem gX8_dries_X8_driesOn : GoodIn wsX8_dries (wsV RX8 169 RX8 yX8_driesOn wsX8_driesOn) := goodIn_app (goodIn_of _ (by decide +kernel)) ggX8_dries_X8_driesOn
theorem dX8_dries_0 : decode cX8_dries 0 = .ok (.aload_n 0, 1) := by decide +kernel
theorem dX8_dries_1 : decode cX8_dries 1 = .ok (.iload_n 1, 1) := by decide +kernel
theorem dX8_dries_2 : decode cX8_dries 2 = .ok (.invokevirtual 152, 3) := by decide +kernel
theorem dX8_dries_5 : decode cX8_dries 5 = .ok (.ifCond .ne 11, 3) := by decide +kernel
theorem dX8_dries_8 : decode cX8_dries 8 = .ok (.aload_n 0, 1) := by decide +kernel
theorem dX8_dries_9 : decode cX8_dries 9 = .ok (.iload_n 2, 1) := by decide +kernel
theorem dX8_dries_10 : decode cX8_dries 10 = .ok (.invokevirtual 155, 3) := by decide +kernel
theorem dX8_dries_13 : decode cX8_dries 13 = .ok (.ifCond .eq 7, 3) := by decide +kernel
theorem dX8_dries_16 : decode cX8_dries 16 = .ok (.iconst (-1), 1) := by decide +kernel
theorem dX8_dries_17 : decode cX8_dries 17 = .ok (.goto 9, 3) := by decide +kernel
theorem dX8_dries_20 : decode cX8_dries 20 = .ok (.aload_n 0, 1) := by decide +kernel
theorem dX8_dries_21 : decode cX8_dries 21 = .ok (.iload_n 1, 1) := by decide +kernel
theorem dX8_dries_22 : decode cX8_dries 22 = .ok (.iload_n 2, 1) := by decide +kernel
theorem dX8_dries_23 : decode cX8_dries 23 = .ok (.invokevirtual 169, 3) := by decide +kernel
theorem dX8_dries_26 : decode cX8_dries 26 = .ok (.ireturn, 1) := by decide +kernel
set_option maxRecDepth 20000 in
theorem ggX8_dried_X8_driesOn : GoodIn wsX8_dried wsX8_driesOn := goodIn_r _ [5, 6, 7, 8, 9, 10, 4, 11, 12, 13, 14, 15, 16, 17, 18, 19, 20, 21, 22, 23, 24, 25, 26, 27, 28, 29, 30, 31, 32, 33, 34, 35, 36, 37, 38, 39, 40, 41, 42, 43, 44, 45, 46] (by decide +kernel) (by decide +kernel)
set_option maxRecDepth 20000 in
theorem gX8_dried_X8_driesOn : GoodIn wsX8_dried (wsV RX8 169 RX8 yX8_driesOn wsX8_driesOn) := goodIn_app (goodIn_of _ (by decide +kernel)) ggX8_dried_X8_driesOn
theorem dX8_dried_0 : decode cX8_dried 0 = .ok (.iload_n 1, 1) := by decide +kernel
theorem dX8_dried_1 : decode cX8_dried 1 = .ok (.aload_n 0, 1) := by decide +kernel
theorem dX8_dried_2 : decode cX8_dried 2 = .ok (.iload_n 2, 1) := by decide +kernel
theorem dX8_dried_3 : decode cX8_dried 3 = .ok (.iload_n 3, 1) := by decide +kernel
theorem dX8_dried_4 : decode cX8_dried 4 = .ok (.invokevirtual 169, 3) := by decide +kernel
theorem dX8_dried_7 : decode cX8_dried 7 = .ok (.isub, 1) := by decide +kernel
theorem dX8_dried_8 : decode cX8_dried 8 = .ok (.istore 4, 2) := by decide +kernel
theorem dX8_dried_10 : decode cX8_dried 10 = .ok (.iload 4, 2) := by decide +kernel
theorem dX8_dried_12 : decode cX8_dried 12 = .ok (.ifCond .ge 7, 3) := by decide +kernel
theorem dX8_dried_15 : decode cX8_dried 15 = .ok (.iconst 0, 1) := by decide +kernel
theorem dX8_dried_16 : decode cX8_dried 16 = .ok (.goto 5, 3) := by decide +kernel
theorem dX8_dried_19 : decode cX8_dried 19 = .ok (.iload 4, 2) := by decide +kernel
theorem dX8_dried_21 : decode cX8_dried 21 = .ok (.ireturn, 1) := by decide +kernel
set_option maxRecDepth 20000 in
theorem ggX8_dampAt_X8_dried : GoodIn wsX8_dampAt wsX8_dried := goodIn_r _ [6, 7, 8, 9, 5, 10, 11, 12, 13, 14, 15, 16, 17, 18, 19, 20, 21, 22, 23, 24, 25, 26, 27, 28, 29, 30, 31, 32, 33, 34, 35, 36, 37, 38, 39, 40, 41, 42, 43, 44, 45, 46, 47, 48, 49, 50, 51] (by decide +kernel) (by decide +kernel)
set_option maxRecDepth 20000 in
theorem gX8_dampAt_X8_dried : GoodIn wsX8_dampAt (wsV RX8 172 RX8 yX8_dried wsX8_dried) := goodIn_app (goodIn_of _ (by decide +kernel)) ggX8_dampAt_X8_dried
theorem dX8_dampAt_0 : decode cX8_dampAt 0 = .ok (.aload_n 0, 1) := by decide +kernel
theorem dX8_dampAt_1 : decode cX8_dampAt 1 = .ok (.getfield 22, 3) := by decide +kernel
theorem dX8_dampAt_4 : decode cX8_dampAt 4 = .ok (.iload_n 1, 1) := by decide +kernel
theorem dX8_dampAt_5 : decode cX8_dampAt 5 = .ok (.iaload, 1) := by decide +kernel
theorem dX8_dampAt_6 : decode cX8_dampAt 6 = .ok (.istore_n 3, 1) := by decide +kernel
theorem dX8_dampAt_7 : decode cX8_dampAt 7 = .ok (.iconst 0, 1) := by decide +kernel
theorem dX8_dampAt_8 : decode cX8_dampAt 8 = .ok (.istore 4, 2) := by decide +kernel
theorem dX8_dampAt_10 : decode cX8_dampAt 10 = .ok (.iload 4, 2) := by decide +kernel
theorem dX8_dampAt_12 : decode cX8_dampAt 12 = .ok (.iload_n 2, 1) := by decide +kernel
theorem dX8_dampAt_13 : decode cX8_dampAt 13 = .ok (.if_icmp .ge 18, 3) := by decide +kernel
theorem dX8_dampAt_16 : decode cX8_dampAt 16 = .ok (.aload_n 0, 1) := by decide +kernel
theorem dX8_dampAt_17 : decode cX8_dampAt 17 = .ok (.iload_n 3, 1) := by decide +kernel
theorem dX8_dampAt_18 : decode cX8_dampAt 18 = .ok (.iload_n 1, 1) := by decide +kernel
theorem dX8_dampAt_19 : decode cX8_dampAt 19 = .ok (.iload 4, 2) := by decide +kernel
theorem dX8_dampAt_21 : decode cX8_dampAt 21 = .ok (.invokevirtual 172, 3) := by decide +kernel
theorem dX8_dampAt_24 : decode cX8_dampAt 24 = .ok (.istore_n 3, 1) := by decide +kernel
theorem dX8_dampAt_25 : decode cX8_dampAt 25 = .ok (.iinc 4 1, 3) := by decide +kernel
theorem dX8_dampAt_28 : decode cX8_dampAt 28 = .ok (.goto (-18), 3) := by decide +kernel
theorem dX8_dampAt_31 : decode cX8_dampAt 31 = .ok (.iload_n 3, 1) := by decide +kernel
theorem dX8_dampAt_32 : decode cX8_dampAt 32 = .ok (.ireturn, 1) := by decide +kernel
set_option maxRecDepth 20000 in
theorem ggX8_damp_X8_noLinen : GoodIn wsX8_damp wsX8_noLinen := goodIn_r _ [6, 7, 8, 9, 5, 10, 30, 31, 32, 33, 34, 35, 36, 37, 38, 39, 40, 41, 42, 43, 44, 45, 46, 47, 48, 49, 50, 51, 52, 53, 54, 55, 56, 57, 58, 59, 60, 61, 62, 63, 64] (by decide +kernel) (by decide +kernel)
set_option maxRecDepth 20000 in
theorem gX8_damp_X8_noLinen : GoodIn wsX8_damp (wsV RX8 152 RX8 yX8_noLinen wsX8_noLinen) := goodIn_app (goodIn_of _ (by decide +kernel)) ggX8_damp_X8_noLinen
set_option maxRecDepth 20000 in
theorem ggX8_damp_X8_in : GoodIn wsX8_damp wsX8_in := goodIn_r _ [10] (by decide +kernel) (by decide +kernel)
set_option maxRecDepth 20000 in
theorem gX8_damp_X8_in : GoodIn wsX8_damp (va_wsS RX8 88 yX8_in wsX8_in) := goodIn_app (goodIn_of _ (by decide +kernel)) ggX8_damp_X8_in
set_option maxRecDepth 20000 in
theorem ggX8_damp_X8_dampAt : GoodIn wsX8_damp wsX8_dampAt := goodIn_r _ [14, 15, 16, 17, 18, 5, 19, 20, 21, 22, 23, 24, 25, 26, 27, 28, 29, 30, 31, 32, 33, 34, 35, 36, 37, 38, 39, 40, 41, 42, 43, 44, 45, 46, 47, 48, 49, 50, 51, 52, 53, 54, 55, 56, 57, 58, 59, 60, 61, 62, 63, 64] (by decide +kernel) (by decide +kernel)
set_option maxRecDepth 20000 in
theorem gX8_damp_X8_dampAt : GoodIn wsX8_damp (wsV RX8 175 RX8 yX8_dampAt wsX8_dampAt) := goodIn_app (goodIn_of _ (by decide +kernel)) ggX8_damp_X8_dampAt
theorem dX8_damp_0 : decode cX8_damp 0 = .ok (.aload_n 0, 1) := by decide +kernel
theorem dX8_damp_1 : decode cX8_damp 1 = .ok (.iload_n 1, 1) := by decide +kernel
theorem dX8_damp_2 : decode cX8_damp 2 = .ok (.invokevirtual 152, 3) := by decide +kernel
theorem dX8_damp_5 : decode cX8_damp 5 = .ok (.ifCond .eq 5, 3) := by decide +kernel
theorem dX8_damp_8 : decode cX8_damp 8 = .ok (.iconst (-1), 1) := by decide +kernel
theorem dX8_damp_9 : decode cX8_damp 9 = .ok (.ireturn, 1) := by decide +kernel
theorem dX8_damp_10 : decode cX8_damp 10 = .ok (.iload_n 2, 1) := by decide +kernel
theorem dX8_damp_11 : decode cX8_damp 11 = .ok (.i2l, 1) := by decide +kernel
theorem dX8_damp_12 : decode cX8_damp 12 = .ok (.lconst 0, 1) := by decide +kernel
theorem dX8_damp_13 : decode cX8_damp 13 = .ok (.aload_n 0, 1) := by decide +kernel
theorem dX8_damp_14 : decode cX8_damp 14 = .ok (.getfield 92, 3) := by decide +kernel
theorem dX8_damp_17 : decode cX8_damp 17 = .ok (.i2l, 1) := by decide +kernel
theorem dX8_damp_18 : decode cX8_damp 18 = .ok (.invokestatic 88, 3) := by decide +kernel
theorem dX8_damp_21 : decode cX8_damp 21 = .ok (.ifCond .eq 12, 3) := by decide +kernel
theorem dX8_damp_24 : decode cX8_damp 24 = .ok (.aload_n 0, 1) := by decide +kernel
theorem dX8_damp_25 : decode cX8_damp 25 = .ok (.iload_n 1, 1) := by decide +kernel
theorem dX8_damp_26 : decode cX8_damp 26 = .ok (.iload_n 2, 1) := by decide +kernel
theorem dX8_damp_27 : decode cX8_damp 27 = .ok (.invokevirtual 175, 3) := by decide +kernel
theorem dX8_damp_30 : decode cX8_damp 30 = .ok (.goto 5, 3) := by decide +kernel
theorem dX8_damp_33 : decode cX8_damp 33 = .ok (.bipush (-2), 2) := by decide +kernel
theorem dX8_damp_35 : decode cX8_damp 35 = .ok (.ireturn, 1) := by decide +kernel
set_option maxRecDepth 20000 in
theorem ggX8_laws_X8_in : GoodIn wsX8_laws wsX8_in := goodIn_r _ [6] (by decide +kernel) (by decide +kernel)
set_option maxRecDepth 20000 in
theorem gX8_laws_X8_in : GoodIn wsX8_laws (va_wsS RX8 88 yX8_in wsX8_in) := goodIn_app (goodIn_of _ (by decide +kernel)) ggX8_laws_X8_in
set_option maxRecDepth 20000 in
theorem ggX8_laws_X8_dampAt : GoodIn wsX8_laws wsX8_dampAt := goodIn_r _ [10, 11, 12, 13, 14, 5, 15, 16, 17, 18, 19, 20, 21, 22, 23, 24, 25, 26, 27, 28, 29, 30, 31, 32, 33, 34, 35, 36, 37, 38, 39, 40, 41, 42, 43, 44, 45, 46, 47, 48, 49, 50, 51, 52, 53, 54, 55, 56, 57, 58, 59, 60] (by decide +kernel) (by decide +kernel)
set_option maxRecDepth 20000 in
theorem gX8_laws_X8_dampAt : GoodIn wsX8_laws (wsV RX8 175 RX8 yX8_dampAt wsX8_dampAt) := goodIn_app (goodIn_of _ (by decide +kernel)) ggX8_laws_X8_dampAt
theorem dX8_laws_0 : decode cX8_laws 0 = .ok (.aload_n 0, 1) := by decide +kernel
theorem dX8_laws_1 : decode cX8_laws 1 = .ok (.getfield 95, 3) := by decide +kernel
theorem dX8_laws_4 : decode cX8_laws 4 = .ok (.ifCond .ne 6, 3) := by decide +kernel
theorem dX8_laws_7 : decode cX8_laws 7 = .ok (.bipush (-3), 2) := by decide +kernel
theorem dX8_laws_9 : decode cX8_laws 9 = .ok (.ireturn, 1) := by decide +kernel
theorem dX8_laws_10 : decode cX8_laws 10 = .ok (.iload_n 1, 1) := by decide +kernel
theorem dX8_laws_11 : decode cX8_laws 11 = .ok (.i2l, 1) := by decide +kernel
theorem dX8_laws_12 : decode cX8_laws 12 = .ok (.lconst 0, 1) := by decide +kernel
theorem dX8_laws_13 : decode cX8_laws 13 = .ok (.aload_n 0, 1) := by decide +kernel
theorem dX8_laws_14 : decode cX8_laws 14 = .ok (.getfield 92, 3) := by decide +kernel
theorem dX8_laws_17 : decode cX8_laws 17 = .ok (.i2l, 1) := by decide +kernel
theorem dX8_laws_18 : decode cX8_laws 18 = .ok (.invokestatic 88, 3) := by decide +kernel
theorem dX8_laws_21 : decode cX8_laws 21 = .ok (.ifCond .ne 6, 3) := by decide +kernel
theorem dX8_laws_24 : decode cX8_laws 24 = .ok (.bipush (-2), 2) := by decide +kernel
theorem dX8_laws_26 : decode cX8_laws 26 = .ok (.ireturn, 1) := by decide +kernel
theorem dX8_laws_27 : decode cX8_laws 27 = .ok (.iconst 0, 1) := by decide +kernel
theorem dX8_laws_28 : decode cX8_laws 28 = .ok (.istore_n 2, 1) := by decide +kernel
theorem dX8_laws_29 : decode cX8_laws 29 = .ok (.iconst 0, 1) := by decide +kernel
theorem dX8_laws_30 : decode cX8_laws 30 = .ok (.istore_n 3, 1) := by decide +kernel
theorem dX8_laws_31 : decode cX8_laws 31 = .ok (.iload_n 3, 1) := by decide +kernel
theorem dX8_laws_32 : decode cX8_laws 32 = .ok (.aload_n 0, 1) := by decide +kernel
theorem dX8_laws_33 : decode cX8_laws 33 = .ok (.getfield 95, 3) := by decide +kernel
theorem dX8_laws_36 : decode cX8_laws 36 = .ok (.if_icmp .ge 28, 3) := by decide +kernel
theorem dX8_laws_39 : decode cX8_laws 39 = .ok (.iload_n 2, 1) := by decide +kernel
theorem dX8_laws_40 : decode cX8_laws 40 = .ok (.aload_n 0, 1) := by decide +kernel
theorem dX8_laws_41 : decode cX8_laws 41 = .ok (.iload_n 3, 1) := by decide +kernel
theorem dX8_laws_42 : decode cX8_laws 42 = .ok (.iload_n 1, 1) := by decide +kernel
theorem dX8_laws_43 : decode cX8_laws 43 = .ok (.invokevirtual 175, 3) := by decide +kernel
theorem dX8_laws_46 : decode cX8_laws 46 = .ok (.ifCond .le 9, 3) := by decide +kernel
theorem dX8_laws_49 : decode cX8_laws 49 = .ok (.iconst 1, 1) := by decide +kernel
theorem dX8_laws_50 : decode cX8_laws 50 = .ok (.iload_n 3, 1) := by decide +kernel
theorem dX8_laws_51 : decode cX8_laws 51 = .ok (.ishl, 1) := by decide +kernel
theorem dX8_laws_52 : decode cX8_laws 52 = .ok (.goto 4, 3) := by decide +kernel
theorem dX8_laws_55 : decode cX8_laws 55 = .ok (.iconst 0, 1) := by decide +kernel
theorem dX8_laws_56 : decode cX8_laws 56 = .ok (.ior, 1) := by decide +kernel
theorem dX8_laws_57 : decode cX8_laws 57 = .ok (.istore_n 2, 1) := by decide +kernel
theorem dX8_laws_58 : decode cX8_laws 58 = .ok (.iinc 3 1, 3) := by decide +kernel
theorem dX8_laws_61 : decode cX8_laws 61 = .ok (.goto (-30), 3) := by decide +kernel
theorem dX8_laws_64 : decode cX8_laws 64 = .ok (.iload_n 2, 1) := by decide +kernel
theorem dX8_laws_65 : decode cX8_laws 65 = .ok (.ireturn, 1) := by decide +kernel
theorem dX8_begin_0 : decode cX8_begin 0 = .ok (.iconst 0, 1) := by decide +kernel
theorem dX8_begin_1 : decode cX8_begin 1 = .ok (.istore_n 1, 1) := by decide +kernel
theorem dX8_begin_2 : decode cX8_begin 2 = .ok (.iload_n 1, 1) := by decide +kernel
theorem dX8_begin_3 : decode cX8_begin 3 = .ok (.aload_n 0, 1) := by decide +kernel
theorem dX8_begin_4 : decode cX8_begin 4 = .ok (.getfield 95, 3) := by decide +kernel
theorem dX8_begin_7 : decode cX8_begin 7 = .ok (.if_icmp .ge 21, 3) := by decide +kernel
theorem dX8_begin_10 : decode cX8_begin 10 = .ok (.aload_n 0, 1) := by decide +kernel
theorem dX8_begin_11 : decode cX8_begin 11 = .ok (.getfield 40, 3) := by decide +kernel
theorem dX8_begin_14 : decode cX8_begin 14 = .ok (.iload_n 1, 1) := by decide +kernel
theorem dX8_begin_15 : decode cX8_begin 15 = .ok (.aload_n 0, 1) := by decide +kernel
