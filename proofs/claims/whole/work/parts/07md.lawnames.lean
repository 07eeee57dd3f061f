theorem inlX0 : ∀ w ∈ wsX00, w ∈ wsL_law := fun _ h => List.mem_append_left _ (List.mem_append_left _ (List.mem_append_left _ (List.mem_append_left _ (List.mem_append_right _ h))))
theorem inX0 : ∀ w ∈ wsX00, w ∈ lw_tbl := fun w h => wsL_law_in w (inlX0 w h)
theorem inlX1 : ∀ w ∈ wsX10, w ∈ wsL_law := fun _ h => List.mem_append_left _ (List.mem_append_left _ (List.mem_append_left _ (List.mem_append_right _ h)))
theorem inX1 : ∀ w ∈ wsX10, w ∈ lw_tbl := fun w h => wsL_law_in w (inlX1 w h)
theorem inlX2 : ∀ w ∈ wsX20, w ∈ wsL_law := fun _ h => List.mem_append_left _ (List.mem_append_left _ (List.mem_append_left _ (List.mem_append_left _ (List.mem_append_left _ (List.mem_append_left _ (List.mem_append_left _ (List.mem_append_right _ h)))))))
theorem inX2 : ∀ w ∈ wsX20, w ∈ lw_tbl := fun w h => wsL_law_in w (inlX2 w h)
theorem inlX3 : ∀ w ∈ wsX30, w ∈ wsL_law := fun _ h => List.mem_append_left _ (List.mem_append_left _ (List.mem_append_left _ (List.mem_append_left _ (List.mem_append_left _ (List.mem_append_left _ (List.mem_append_right _ h))))))
theorem inX3 : ∀ w ∈ wsX30, w ∈ lw_tbl := fun w h => wsL_law_in w (inlX3 w h)
theorem inlX4 : ∀ w ∈ wsX40, w ∈ wsL_law := fun _ h => List.mem_append_left _ (List.mem_append_right _ h)
theorem inX4 : ∀ w ∈ wsX40, w ∈ lw_tbl := fun w h => wsL_law_in w (inlX4 w h)
theorem inlX5 : ∀ w ∈ wsX50, w ∈ wsL_law := fun _ h => List.mem_append_left _ (List.mem_append_left _ (List.mem_append_right _ h))
theorem inX5 : ∀ w ∈ wsX50, w ∈ lw_tbl := fun w h => wsL_law_in w (inlX5 w h)
theorem inlX6 : ∀ w ∈ wsX60, w ∈ wsL_law := fun _ h => List.mem_append_left _ (List.mem_append_left _ (List.mem_append_left _ (List.mem_append_left _ (List.mem_append_left _ (List.mem_append_right _ h)))))
theorem inX6 : ∀ w ∈ wsX60, w ∈ lw_tbl := fun w h => wsL_law_in w (inlX6 w h)
theorem inlX7 : ∀ w ∈ wsX70, w ∈ wsL_law := fun _ h => List.mem_append_left _ (List.mem_append_left _ (List.mem_append_left _ (List.mem_append_left _ (List.mem_append_left _ (List.mem_append_left _ (List.mem_append_left _ (List.mem_append_left _ (List.mem_append_left _ (List.mem_append_right _ h)))))))))
theorem inX7 : ∀ w ∈ wsX70, w ∈ lw_tbl := fun w h => wsL_law_in w (inlX7 w h)
theorem inlX8 : ∀ w ∈ wsX80, w ∈ wsL_law := fun _ h => List.mem_append_left _ (List.mem_append_left _ (List.mem_append_left _ (List.mem_append_left _ (List.mem_append_left _ (List.mem_append_left _ (List.mem_append_left _ (List.mem_append_left _ (List.mem_append_right _ h))))))))
theorem inX8 : ∀ w ∈ wsX80, w ∈ lw_tbl := fun w h => wsL_law_in w (inlX8 w h)
theorem inJ6 : ∀ w ∈ wsJ60, w ∈ lw_tbl := by decide +kernel
theorem inJ9 : ∀ w ∈ wsJ90, w ∈ lw_tbl := by decide +kernel
theorem inJ10 : ∀ w ∈ wsJ100, w ∈ lw_tbl := by decide +kernel
theorem inJ7 : ∀ w ∈ wsJ70, w ∈ lw_tbl := by decide +kernel
set_option maxRecDepth 20000 in
theorem ggL_law_X7_init : GoodIn wsL_law wsX7_init := goodIn_r _ [8, 9, 10, 11, 12, 13, 14, 15, 16, 17, 18, 19, 20, 21, 22, 23, 24, 25, 26, 27, 28, 29, 30, 31, 32, 33, 34, 35, 36, 37, 38, 39, 40, 41, 42, 43, 44, 45, 46, 47, 48, 49, 50, 51, 52, 53, 54, 55, 56, 57, 58, 59, 60, 61, 62, 63, 64, 65, 66, 67, 68, 69, 70, 71, 72, 73, 74, 75, 76, 77, 78, 79, 80, 81, 82, 83, 84, 85, 86, 87, 88, 89, 90, 91, 858, 859, 860, 861, 862, 863, 864, 815, 816, 817, 818, 819, 820, 821, 822, 865, 866, 867, 868, 869, 870, 871, 872, 873, 874, 875, 876, 877, 878, 879, 880, 881, 882, 883, 884, 885, 886] (by decide +kernel) (by decide +kernel)
set_option maxRecDepth 20000 in
theorem gL_law_X7_init : GoodIn wsL_law (wsX7_init) := ggL_law_X7_init
set_option maxRecDepth 20000 in
theorem ggL_law_X8_init : GoodIn wsL_law wsX8_init := goodIn_r _ [94, 95, 10, 11, 44, 96, 97, 98, 99, 100, 101, 102, 103, 104, 105, 106, 107, 108, 109, 110, 111, 112, 113, 114, 115, 116, 117, 823, 824, 825, 826, 827, 828, 829, 830, 831, 832, 833, 834, 835, 836, 837, 838, 839, 840, 841, 842, 843, 844, 845, 846, 847, 848, 849, 850, 851, 852, 853, 854, 855, 856, 857] (by decide +kernel) (by decide +kernel)
set_option maxRecDepth 20000 in
theorem gL_law_X8_init : GoodIn wsL_law (wsX8_init) := ggL_law_X8_init
set_option maxRecDepth 20000 in
theorem ggL_law_X7_realm : GoodIn wsL_law wsX7_realm := goodIn_r _ [121, 38, 19, 15, 31, 122, 123, 124, 125, 126, 2, 127, 37, 128, 129, 130, 131, 132, 133, 40, 134, 89, 90, 135, 136, 137, 138, 91, 139, 140, 141, 142, 143, 144, 145, 18, 146, 55, 56, 57, 58, 147, 148, 149, 150, 151, 152, 153, 154, 88, 155, 156, 157, 158, 159, 160, 161, 162, 163, 164, 59, 165, 166, 167, 168, 169, 170, 171, 172, 173, 174, 175, 176, 177, 178, 179, 180, 181, 182, 183, 184, 185, 186, 187, 188, 815, 816, 817, 818, 819, 820, 821, 822, 878, 879, 880, 881, 858, 859, 860, 861, 862, 863, 864, 883, 884, 885, 886, 865, 866, 867, 868, 869] (by decide +kernel) (by decide +kernel)
set_option maxRecDepth 20000 in
theorem gL_law_X7_realm : GoodIn wsL_law (wsV RL 13 RX7 yX7_realm wsX7_realm) := goodIn_app (goodIn_of _ (by decide +kernel)) ggL_law_X7_realm
set_option maxRecDepth 20000 in
theorem ggL_law_X8_realm : GoodIn wsL_law wsX8_realm := goodIn_r _ [192, 193, 194, 195, 196, 197, 198, 96, 101, 97, 102, 98, 103, 99, 104, 100, 105, 199, 200, 201, 5, 202, 203, 204, 205, 206, 207, 208, 209, 210, 211, 212, 213, 214, 215, 114, 115, 216, 217, 218, 219, 220, 221, 222, 223, 224, 225, 226, 227, 228, 229, 230, 116, 231, 232, 233, 234, 235, 236, 237, 238, 239, 240, 241, 242, 243, 244, 245, 246, 823, 824, 825, 826, 827, 828, 829, 830, 831, 832, 833, 834, 835, 836, 837, 838, 839, 840, 841, 842, 843, 844, 845, 846, 847, 848, 849, 850, 851, 852, 853, 854, 855, 856, 857] (by decide +kernel) (by decide +kernel)
set_option maxRecDepth 20000 in
theorem gL_law_X8_realm : GoodIn wsL_law (wsV RL 17 RX8 yX8_realm wsX8_realm) := goodIn_app (goodIn_of _ (by decide +kernel)) ggL_law_X8_realm
set_option maxRecDepth 20000 in
theorem ggL_law_X7_ofLinen : GoodIn wsL_law wsX7_ofLinen := goodIn_r _ [250, 15, 251, 252, 253, 254, 255, 256, 14, 257, 51, 129, 2, 130, 258, 155, 156, 815, 816, 817, 818, 819, 820, 821, 822, 858, 859, 860, 861, 862, 863, 864] (by decide +kernel) (by decide +kernel)
set_option maxRecDepth 20000 in
theorem gL_law_X7_ofLinen : GoodIn wsL_law (wsV RL 18 RX7 yX7_ofLinen wsX7_ofLinen) := goodIn_app (goodIn_of _ (by decide +kernel)) ggL_law_X7_ofLinen
set_option maxRecDepth 20000 in
theorem ggL_law_X8_ofLinen : GoodIn wsL_law wsX8_ofLinen := goodIn_r _ [262, 98, 99, 100, 263, 264, 265, 5, 266, 198, 204, 205, 206, 823, 824, 825, 826, 827, 828, 829, 830, 831, 832, 833, 834, 835, 836, 837, 838, 839, 840, 841, 842, 843, 844, 845, 846, 847, 848, 849, 850, 851, 852, 853, 854, 855, 856, 857] (by decide +kernel) (by decide +kernel)
set_option maxRecDepth 20000 in
theorem gL_law_X8_ofLinen : GoodIn wsL_law (wsV RL 22 RX8 yX8_ofLinen wsX8_ofLinen) := goodIn_app (goodIn_of _ (by decide +kernel)) ggL_law_X8_ofLinen
set_option maxRecDepth 20000 in
theorem ggL_law_X7_heat : GoodIn wsL_law wsX7_heat := goodIn_r _ [270, 15, 271, 272, 273, 274, 14, 275, 50, 129, 2, 130, 258, 155, 156, 815, 816, 817, 818, 819, 820, 821, 822, 858, 859, 860, 861, 862, 863, 864] (by decide +kernel) (by decide +kernel)
set_option maxRecDepth 20000 in
theorem gL_law_X7_heat : GoodIn wsL_law (wsV RL 23 RX7 yX7_heat wsX7_heat) := goodIn_app (goodIn_of _ (by decide +kernel)) ggL_law_X7_heat
set_option maxRecDepth 20000 in
theorem ggL_law_X8_heat : GoodIn wsL_law wsX8_heat := goodIn_r _ [279, 97, 280, 281, 282, 5, 283, 196, 204, 205, 206, 823, 824, 825, 826, 827, 828, 829, 830, 831, 832, 833, 834, 835, 836, 837, 838, 839, 840, 841, 842, 843, 844, 845, 846, 847, 848, 849, 850, 851, 852, 853, 854, 855, 856, 857] (by decide +kernel) (by decide +kernel)
set_option maxRecDepth 20000 in
theorem gL_law_X8_heat : GoodIn wsL_law (wsV RL 27 RX8 yX8_heat wsX8_heat) := goodIn_app (goodIn_of _ (by decide +kernel)) ggL_law_X8_heat
set_option maxRecDepth 20000 in
theorem ggL_law_X7_warm : GoodIn wsL_law wsX7_warm := goodIn_r _ [287, 15, 271, 272, 273, 274, 14, 275, 50, 129, 2, 130, 128, 288, 289, 290, 258, 155, 156, 291, 187, 188, 815, 816, 817, 818, 819, 820, 821, 822, 858, 859, 860, 861, 862, 863, 864] (by decide +kernel) (by decide +kernel)
set_option maxRecDepth 20000 in
theorem gL_law_X7_warm : GoodIn wsL_law (wsV RL 28 RX7 yX7_warm wsX7_warm) := goodIn_app (goodIn_of _ (by decide +kernel)) ggL_law_X7_warm
set_option maxRecDepth 20000 in
theorem ggL_law_X8_warm : GoodIn wsL_law wsX8_warm := goodIn_r _ [295, 296, 97, 280, 281, 282, 5, 283, 196, 204, 205, 206, 823, 824, 825, 826, 827, 828, 829, 830, 831, 832, 833, 834, 835, 836, 837, 838, 839, 840, 841, 842, 843, 844, 845, 846, 847, 848, 849, 850, 851, 852, 853, 854, 855, 856, 857] (by decide +kernel) (by decide +kernel)
set_option maxRecDepth 20000 in
theorem gL_law_X8_warm : GoodIn wsL_law (wsV RL 31 RX8 yX8_warm wsX8_warm) := goodIn_app (goodIn_of _ (by decide +kernel)) ggL_law_X8_warm
set_option maxRecDepth 20000 in
theorem ggL_law_X7_grieve : GoodIn wsL_law wsX7_grieve := goodIn_r _ [300, 15, 301, 128, 129, 2, 130, 302, 303, 304, 14, 305, 51, 288, 289, 290, 258, 155, 156, 291, 187, 188, 815, 816, 817, 818, 819, 820, 821, 822, 858, 859, 860, 861, 862, 863, 864] (by decide +kernel) (by decide +kernel)
set_option maxRecDepth 20000 in
theorem gL_law_X7_grieve : GoodIn wsL_law (wsV RL 32 RX7 yX7_grieve wsX7_grieve) := goodIn_app (goodIn_of _ (by decide +kernel)) ggL_law_X7_grieve
set_option maxRecDepth 20000 in
theorem ggL_law_X8_grieve : GoodIn wsL_law wsX8_grieve := goodIn_r _ [309, 296, 198, 96, 310, 311, 5, 312, 203, 204, 205, 206, 823, 824, 825, 826, 827, 828, 829, 830, 831, 832, 833, 834, 835, 836, 837, 838, 839, 840, 841, 842, 843, 844, 845, 846, 847, 848, 849, 850, 851, 852, 853, 854, 855, 856, 857] (by decide +kernel) (by decide +kernel)
set_option maxRecDepth 20000 in
theorem gL_law_X8_grieve : GoodIn wsL_law (wsV RL 35 RX8 yX8_grieve wsX8_grieve) := goodIn_app (goodIn_of _ (by decide +kernel)) ggL_law_X8_grieve
set_option maxRecDepth 20000 in
theorem ggL_law_X7_give : GoodIn wsL_law wsX7_give := goodIn_r _ [316, 15, 252, 254, 255, 256, 14, 257, 51, 129, 2, 130, 128, 288, 289, 290, 258, 155, 156, 291, 187, 188, 815, 816, 817, 818, 819, 820, 821, 822, 858, 859, 860, 861, 862, 863, 864] (by decide +kernel) (by decide +kernel)
set_option maxRecDepth 20000 in
theorem gL_law_X7_give : GoodIn wsL_law (wsV RL 36 RX7 yX7_give wsX7_give) := goodIn_app (goodIn_of _ (by decide +kernel)) ggL_law_X7_give
set_option maxRecDepth 20000 in
theorem ggL_law_X8_give : GoodIn wsL_law wsX8_give := goodIn_r _ [320, 99, 263, 264, 265, 5, 266, 198, 204, 205, 206, 310, 311, 312, 203, 823, 824, 825, 826, 827, 828, 829, 830, 831, 832, 833, 834, 835, 836, 837, 838, 839, 840, 841, 842, 843, 844, 845, 846, 847, 848, 849, 850, 851, 852, 853, 854, 855, 856, 857] (by decide +kernel) (by decide +kernel)
set_option maxRecDepth 20000 in
theorem gL_law_X8_give : GoodIn wsL_law (wsV RL 39 RX8 yX8_give wsX8_give) := goodIn_app (goodIn_of _ (by decide +kernel)) ggL_law_X8_give
set_option maxRecDepth 20000 in
theorem ggL_law_X7_dries : GoodIn wsL_law wsX7_dries := goodIn_r _ [324, 15, 254, 255, 256, 14, 257, 51, 129, 2, 130, 272, 273, 274, 275, 50, 325, 326, 327, 328, 47, 46, 155, 156, 329, 330, 331, 332, 815, 816, 817, 818, 819, 820, 821, 822, 858, 859, 860, 861, 862, 863, 864] (by decide +kernel) (by decide +kernel)
set_option maxRecDepth 20000 in
theorem gL_law_X7_dries : GoodIn wsL_law (wsV RL 40 RX7 yX7_dries wsX7_dries) := goodIn_app (goodIn_of _ (by decide +kernel)) ggL_law_X7_dries
set_option maxRecDepth 20000 in
theorem ggL_law_X8_dries : GoodIn wsL_law wsX8_dries := goodIn_r _ [336, 263, 264, 265, 5, 266, 198, 204, 205, 206, 280, 281, 282, 283, 196, 337, 338, 339, 340, 341, 97, 98, 342, 343, 344, 823, 824, 825, 826, 827, 828, 829, 830, 831, 832, 833, 834, 835, 836, 837, 838, 839, 840, 841, 842, 843, 844, 845, 846, 847, 848, 849, 850, 851, 852, 853, 854, 855, 856, 857] (by decide +kernel) (by decide +kernel)
set_option maxRecDepth 20000 in
theorem gL_law_X8_dries : GoodIn wsL_law (wsV RL 43 RX8 yX8_dries wsX8_dries) := goodIn_app (goodIn_of _ (by decide +kernel)) ggL_law_X8_dries
set_option maxRecDepth 20000 in
theorem ggL_law_X7_damp : GoodIn wsL_law wsX7_damp := goodIn_r _ [348, 15, 254, 255, 256, 14, 257, 51, 129, 2, 130, 349, 350, 351, 352, 50, 353, 354, 355, 356, 357, 358, 359, 360, 49, 47, 46, 361, 362, 363, 364, 155, 156, 329, 330, 331, 332, 815, 816, 817, 818, 819, 820, 821, 822, 858, 859, 860, 861, 862, 863, 864] (by decide +kernel) (by decide +kernel)
set_option maxRecDepth 20000 in
theorem gL_law_X7_damp : GoodIn wsL_law (wsV RL 44 RX7 yX7_damp wsX7_damp) := goodIn_app (goodIn_of _ (by decide +kernel)) ggL_law_X7_damp
set_option maxRecDepth 20000 in
theorem ggL_law_X8_damp : GoodIn wsL_law wsX8_damp := goodIn_r _ [368, 196, 263, 264, 265, 5, 266, 198, 204, 205, 206, 369, 370, 371, 372, 100, 373, 374, 375, 376, 337, 338, 339, 340, 341, 97, 98, 342, 343, 344, 823, 824, 825, 826, 827, 828, 829, 830, 831, 832, 833, 834, 835, 836, 837, 838, 839, 840, 841, 842, 843, 844, 845, 846, 847, 848, 849, 850, 851, 852, 853, 854, 855, 856, 857] (by decide +kernel) (by decide +kernel)
set_option maxRecDepth 20000 in
theorem gL_law_X8_damp : GoodIn wsL_law (wsV RL 47 RX8 yX8_damp wsX8_damp) := goodIn_app (goodIn_of _ (by decide +kernel)) ggL_law_X8_damp
set_option maxRecDepth 20000 in
theorem ggL_law_X7_laws : GoodIn wsL_law wsX7_laws := goodIn_r _ [380, 15, 302, 303, 304, 14, 305, 51, 349, 350, 351, 352, 50, 381, 382, 383, 384, 385, 354, 355, 356, 357, 358, 359, 360, 49, 47, 46, 361, 362, 363, 364, 155, 2, 156, 329, 330, 331, 332, 815, 816, 817, 818, 819, 820, 821, 822, 858, 859, 860, 861, 862, 863, 864] (by decide +kernel) (by decide +kernel)
set_option maxRecDepth 20000 in
theorem gL_law_X7_laws : GoodIn wsL_law (wsV RL 48 RX7 yX7_laws wsX7_laws) := goodIn_app (goodIn_of _ (by decide +kernel)) ggL_law_X7_laws
set_option maxRecDepth 20000 in
theorem ggL_law_X8_laws : GoodIn wsL_law wsX8_laws := goodIn_r _ [389, 198, 196, 204, 205, 5, 206, 369, 370, 371, 372, 100, 373, 374, 375, 376, 337, 338, 339, 340, 341, 97, 98, 342, 343, 344, 823, 824, 825, 826, 827, 828, 829, 830, 831, 832, 833, 834, 835, 836, 837, 838, 839, 840, 841, 842, 843, 844, 845, 846, 847, 848, 849, 850, 851, 852, 853, 854, 855, 856, 857] (by decide +kernel) (by decide +kernel)
set_option maxRecDepth 20000 in
theorem gL_law_X8_laws : GoodIn wsL_law (wsV RL 51 RX8 yX8_laws wsX8_laws) := goodIn_app (goodIn_of _ (by decide +kernel)) ggL_law_X8_laws
set_option maxRecDepth 20000 in
theorem ggL_law_X7_weeping : GoodIn wsL_law wsX7_weeping := goodIn_r _ [393, 38, 15, 23, 124, 125, 126, 2, 127, 37, 128, 129, 130, 394, 395, 22, 396, 302, 303, 304, 14, 305, 51, 131, 132, 133, 40, 134, 89, 90, 135, 136, 137, 138, 91, 139, 140, 141, 142, 397, 398, 399, 400, 401, 152, 153, 154, 88, 155, 156, 402, 255, 256, 257, 403, 404, 405, 406, 68, 407, 408, 409, 410, 63, 411, 64, 412, 65, 66, 413, 67, 187, 188, 414, 415, 416, 417, 418, 419, 362, 363, 364, 420, 326, 327, 328, 47, 46, 329, 330, 331, 332, 421, 422, 423, 424, 425, 426, 427, 428, 429, 430, 431, 432, 433, 434, 435, 436, 815, 816, 817, 818, 819, 820, 821, 822, 858, 859, 860, 861, 862, 863, 864, 883, 884, 885, 886, 870, 871, 872, 873, 874, 875] (by decide +kernel) (by decide +kernel)
set_option maxRecDepth 20000 in
theorem gL_law_X7_weeping : GoodIn wsL_law (wsV RL 52 RX7 yX7_weeping wsX7_weeping) := goodIn_app (goodIn_of _ (by decide +kernel)) ggL_law_X7_weeping
set_option maxRecDepth 20000 in
theorem ggL_law_X8_weeping : GoodIn wsL_law wsX8_weeping := goodIn_r _ [440, 203, 441, 442, 443, 444, 193, 445, 198, 116, 200, 201, 5, 202, 204, 205, 206, 207, 208, 209, 210, 211, 212, 213, 214, 215, 114, 115, 216, 217, 218, 219, 220, 221, 222, 446, 447, 448, 449, 450, 263, 264, 265, 266, 451, 452, 453, 454, 455, 456, 457, 458, 459, 106, 100, 107, 96, 460, 461, 462, 463, 464, 465, 466, 196, 373, 374, 375, 376, 337, 338, 339, 340, 341, 97, 98, 342, 343, 344, 467, 468, 469, 470, 471, 472, 473, 474, 99, 475, 476, 477, 478, 479, 480, 481, 823, 824, 825, 826, 827, 828, 829, 830, 831, 832, 833, 834, 835, 836, 837, 838, 839, 840, 841, 842, 843, 844, 845, 846, 847, 848, 849, 850, 851, 852, 853, 854, 855, 856, 857] (by decide +kernel) (by decide +kernel)
set_option maxRecDepth 20000 in
theorem gL_law_X8_weeping : GoodIn wsL_law (wsV RL 56 RX8 yX8_weeping wsX8_weeping) := goodIn_app (goodIn_of _ (by decide +kernel)) ggL_law_X8_weeping
set_option maxRecDepth 20000 in
theorem ggL_law_X7_tears : GoodIn wsL_law wsX7_tears := goodIn_r _ [485, 15, 27, 254, 255, 256, 14, 257, 51, 129, 2, 130, 486, 487, 488, 26, 489, 72, 490, 491, 492, 431, 363, 432, 493, 494, 495, 496, 155, 156, 187, 188, 497, 498, 499, 500, 501, 326, 327, 328, 47, 46, 329, 330, 331, 332, 502, 503, 504, 505, 815, 816, 817, 818, 819, 820, 821, 822, 858, 859, 860, 861, 862, 863, 864, 876, 877] (by decide +kernel) (by decide +kernel)
set_option maxRecDepth 20000 in
theorem gL_law_X7_tears : GoodIn wsL_law (wsV RL 57 RX7 yX7_tears wsX7_tears) := goodIn_app (goodIn_of _ (by decide +kernel)) ggL_law_X7_tears
set_option maxRecDepth 20000 in
theorem ggL_law_X8_tears : GoodIn wsL_law wsX8_tears := goodIn_r _ [509, 263, 264, 265, 5, 266, 198, 204, 205, 206, 510, 511, 512, 513, 108, 196, 100, 514, 515, 516, 517, 373, 374, 375, 376, 337, 338, 339, 340, 341, 97, 98, 342, 343, 344, 475, 476, 477, 823, 824, 825, 826, 827, 828, 829, 830, 831, 832, 833, 834, 835, 836, 837, 838, 839, 840, 841, 842, 843, 844, 845, 846, 847, 848, 849, 850, 851, 852, 853, 854, 855, 856, 857] (by decide +kernel) (by decide +kernel)
set_option maxRecDepth 20000 in
theorem gL_law_X8_tears : GoodIn wsL_law (wsV RL 60 RX8 yX8_tears wsX8_tears) := goodIn_app (goodIn_of _ (by decide +kernel)) ggL_law_X8_tears
set_option maxRecDepth 20000 in
theorem ggL_law_X7_keep : GoodIn wsL_law wsX7_keep := goodIn_r _ [521, 15, 27, 302, 303, 304, 14, 305, 51, 522, 523, 524, 26, 525, 526, 73, 527, 487, 488, 489, 72, 490, 491, 492, 431, 363, 432, 493, 494, 495, 496, 155, 2, 156, 187, 188, 497, 498, 499, 500, 501, 326, 327, 328, 47, 46, 329, 330, 331, 332, 502, 503, 504, 505, 528, 529, 530, 531, 532, 533, 534, 535, 536, 537, 538, 539, 540, 815, 816, 817, 818, 819, 820, 821, 822, 858, 859, 860, 861, 862, 863, 864, 876, 877] (by decide +kernel) (by decide +kernel)
set_option maxRecDepth 20000 in
theorem gL_law_X7_keep : GoodIn wsL_law (wsV RL 61 RX7 yX7_keep wsX7_keep) := goodIn_app (goodIn_of _ (by decide +kernel)) ggL_law_X7_keep
set_option maxRecDepth 20000 in
theorem ggL_law_X8_keep : GoodIn wsL_law wsX8_keep := goodIn_r _ [544, 198, 545, 546, 547, 5, 548, 109, 510, 511, 512, 513, 108, 196, 100, 514, 515, 516, 517, 373, 374, 375, 376, 337, 338, 339, 340, 341, 97, 98, 342, 343, 344, 475, 476, 477, 549, 550, 551, 552, 553, 554, 555, 110, 99, 96, 823, 824, 825, 826, 827, 828, 829, 830, 831, 832, 833, 834, 835, 836, 837, 838, 839, 840, 841, 842, 843, 844, 845, 846, 847, 848, 849, 850, 851, 852, 853, 854, 855, 856, 857] (by decide +kernel) (by decide +kernel)
set_option maxRecDepth 20000 in
theorem gL_law_X8_keep : GoodIn wsL_law (wsV RL 65 RX8 yX8_keep wsX8_keep) := goodIn_app (goodIn_of _ (by decide +kernel)) ggL_law_X8_keep
set_option maxRecDepth 20000 in
theorem ggL_law_X7_appoint : GoodIn wsL_law wsX7_appoint := goodIn_r _ [559, 15, 27, 254, 255, 256, 14, 257, 51, 129, 2, 130, 560, 561, 562, 26, 563, 540, 155, 156, 187, 188, 564, 523, 524, 525, 526, 73, 527, 487, 488, 489, 72, 490, 491, 492, 431, 363, 432, 493, 494, 495, 496, 497, 498, 499, 500, 501, 326, 327, 328, 47, 46, 329, 330, 331, 332, 502, 503, 504, 505, 528, 529, 530, 531, 532, 533, 534, 535, 536, 537, 538, 539, 815, 816, 817, 818, 819, 820, 821, 822, 858, 859, 860, 861, 862, 863, 864, 876, 877] (by decide +kernel) (by decide +kernel)
set_option maxRecDepth 20000 in
theorem gL_law_X7_appoint : GoodIn wsL_law (wsV RL 66 RX7 yX7_appoint wsX7_appoint) := goodIn_app (goodIn_of _ (by decide +kernel)) ggL_law_X7_appoint
set_option maxRecDepth 20000 in
theorem ggL_law_X8_appoint : GoodIn wsL_law wsX8_appoint := goodIn_r _ [568, 99, 263, 264, 265, 5, 266, 198, 204, 205, 206, 545, 546, 547, 548, 109, 510, 511, 512, 513, 108, 196, 100, 514, 515, 516, 517, 373, 374, 375, 376, 337, 338, 339, 340, 341, 97, 98, 342, 343, 344, 475, 476, 477, 549, 550, 551, 552, 553, 554, 555, 110, 96, 823, 824, 825, 826, 827, 828, 829, 830, 831, 832, 833, 834, 835, 836, 837, 838, 839, 840, 841, 842, 843, 844, 845, 846, 847, 848, 849, 850, 851, 852, 853, 854, 855, 856, 857] (by decide +kernel) (by decide +kernel)
set_option maxRecDepth 20000 in
theorem gL_law_X8_appoint : GoodIn wsL_law (wsV RL 69 RX8 yX8_appoint wsX8_appoint) := goodIn_app (goodIn_of _ (by decide +kernel)) ggL_law_X8_appoint
set_option maxRecDepth 20000 in
theorem ggL_law_X7_span : GoodIn wsL_law wsX7_span := goodIn_r _ [572, 15, 254, 255, 256, 14, 257, 51, 129, 2, 130, 272, 273, 274, 275, 50, 573, 574, 575, 576, 46, 155, 156, 187, 188, 385, 354, 355, 356, 357, 358, 359, 360, 49, 47, 361, 362, 363, 364, 329, 330, 331, 332, 815, 816, 817, 818, 819, 820, 821, 822, 858, 859, 860, 861, 862, 863, 864] (by decide +kernel) (by decide +kernel)
set_option maxRecDepth 20000 in
theorem gL_law_X7_span : GoodIn wsL_law (wsV RL 70 RX7 yX7_span wsX7_span) := goodIn_app (goodIn_of _ (by decide +kernel)) ggL_law_X7_span
set_option maxRecDepth 20000 in
theorem ggL_law_X8_span : GoodIn wsL_law wsX8_span := goodIn_r _ [580, 97, 196, 263, 264, 265, 5, 266, 198, 204, 205, 206, 280, 281, 282, 283, 369, 370, 371, 372, 100, 373, 374, 375, 376, 337, 338, 339, 340, 341, 98, 342, 343, 344, 823, 824, 825, 826, 827, 828, 829, 830, 831, 832, 833, 834, 835, 836, 837, 838, 839, 840, 841, 842, 843, 844, 845, 846, 847, 848, 849, 850, 851, 852, 853, 854, 855, 856, 857] (by decide +kernel) (by decide +kernel)
set_option maxRecDepth 20000 in
theorem gL_law_X8_span : GoodIn wsL_law (wsV RL 73 RX8 yX8_span wsX8_span) := goodIn_app (goodIn_of _ (by decide +kernel)) ggL_law_X8_span
set_option maxRecDepth 20000 in
theorem ggL_law_X7_reading : GoodIn wsL_law wsX7_reading := goodIn_r _ [584, 15, 31, 122, 254, 255, 256, 14, 257, 51, 129, 2, 130, 349, 350, 351, 352, 50, 128, 585, 586, 587, 30, 588, 77, 80, 78, 79, 187, 188, 815, 816, 817, 818, 819, 820, 821, 822, 878, 879, 880, 881, 858, 859, 860, 861, 862, 863, 864] (by decide +kernel) (by decide +kernel)
set_option maxRecDepth 20000 in
theorem gL_law_X7_reading : GoodIn wsL_law (wsV RL 74 RX7 yX7_reading wsX7_reading) := goodIn_app (goodIn_of _ (by decide +kernel)) ggL_law_X7_reading
set_option maxRecDepth 20000 in
theorem ggL_law_X8_reading : GoodIn wsL_law wsX8_reading := goodIn_r _ [592, 196, 296, 199, 111, 112, 113, 263, 264, 265, 5, 266, 198, 204, 205, 206, 823, 824, 825, 826, 827, 828, 829, 830, 831, 832, 833, 834, 835, 836, 837, 838, 839, 840, 841, 842, 843, 844, 845, 846, 847, 848, 849, 850, 851, 852, 853, 854, 855, 856, 857] (by decide +kernel) (by decide +kernel)
set_option maxRecDepth 20000 in
theorem gL_law_X8_reading : GoodIn wsL_law (wsV RL 78 RX8 yX8_reading wsX8_reading) := goodIn_app (goodIn_of _ (by decide +kernel)) ggL_law_X8_reading
set_option maxRecDepth 20000 in
theorem ggL_law_X7_back : GoodIn wsL_law wsX7_back := goodIn_r _ [596, 31, 122, 815, 816, 817, 818, 819, 820, 821, 822, 878, 879, 880, 881] (by decide +kernel) (by decide +kernel)
set_option maxRecDepth 20000 in
theorem gL_law_X7_back : GoodIn wsL_law (wsV RL 79 RX7 yX7_back wsX7_back) := goodIn_app (goodIn_of _ (by decide +kernel)) ggL_law_X7_back
set_option maxRecDepth 20000 in
theorem ggL_law_X8_back : GoodIn wsL_law wsX8_back := goodIn_r _ [600, 199, 204, 205, 5, 206, 823, 824, 825, 826, 827, 828, 829, 830, 831, 832, 833, 834, 835, 836, 837, 838, 839, 840, 841, 842, 843, 844, 845, 846, 847, 848, 849, 850, 851, 852, 853, 854, 855, 856, 857] (by decide +kernel) (by decide +kernel)
set_option maxRecDepth 20000 in
theorem gL_law_X8_back : GoodIn wsL_law (wsV RL 82 RX8 yX8_back wsX8_back) := goodIn_app (goodIn_of _ (by decide +kernel)) ggL_law_X8_back
set_option maxRecDepth 20000 in
theorem ggL_law_X7_damps : GoodIn wsL_law wsX7_damps := goodIn_r _ [604, 15, 31, 253, 254, 255, 256, 14, 257, 51, 129, 2, 130, 605, 606, 607, 30, 608, 155, 156, 187, 188, 609, 610, 611, 612, 80, 77, 78, 79, 613, 354, 355, 356, 357, 358, 359, 360, 49, 50, 47, 46, 361, 362, 363, 364, 329, 330, 331, 332, 815, 816, 817, 818, 819, 820, 821, 822, 858, 859, 860, 861, 862, 863, 864, 878, 879, 880, 881] (by decide +kernel) (by decide +kernel)
set_option maxRecDepth 20000 in
theorem gL_law_X7_damps : GoodIn wsL_law (wsV RL 83 RX7 yX7_damps wsX7_damps) := goodIn_app (goodIn_of _ (by decide +kernel)) ggL_law_X7_damps
set_option maxRecDepth 20000 in
theorem ggL_law_X8_damps : GoodIn wsL_law wsX8_damps := goodIn_r _ [617, 100, 263, 264, 265, 5, 266, 198, 204, 205, 206, 618, 619, 620, 621, 199, 111, 112, 113, 369, 370, 371, 372, 373, 374, 375, 376, 337, 338, 339, 340, 341, 97, 98, 342, 343, 344, 823, 824, 825, 826, 827, 828, 829, 830, 831, 832, 833, 834, 835, 836, 837, 838, 839, 840, 841, 842, 843, 844, 845, 846, 847, 848, 849, 850, 851, 852, 853, 854, 855, 856, 857] (by decide +kernel) (by decide +kernel)
set_option maxRecDepth 20000 in
theorem gL_law_X8_damps : GoodIn wsL_law (wsV RL 86 RX8 yX8_damps wsX8_damps) := goodIn_app (goodIn_of _ (by decide +kernel)) ggL_law_X8_damps
set_option maxRecDepth 20000 in
theorem ggL_law_X7_kinds : GoodIn wsL_law wsX7_kinds := goodIn_r _ [625, 15, 31, 251, 254, 255, 256, 14, 257, 51, 129, 2, 130, 605, 606, 607, 30, 608, 155, 156, 187, 188, 609, 610, 611, 612, 80, 77, 78, 79, 613, 354, 355, 356, 357, 358, 359, 360, 49, 50, 47, 46, 361, 362, 363, 364, 329, 330, 331, 332, 815, 816, 817, 818, 819, 820, 821, 822, 858, 859, 860, 861, 862, 863, 864, 878, 879, 880, 881] (by decide +kernel) (by decide +kernel)
set_option maxRecDepth 20000 in
theorem gL_law_X7_kinds : GoodIn wsL_law (wsV RL 87 RX7 yX7_kinds wsX7_kinds) := goodIn_app (goodIn_of _ (by decide +kernel)) ggL_law_X7_kinds
set_option maxRecDepth 20000 in
theorem ggL_law_X8_kinds : GoodIn wsL_law wsX8_kinds := goodIn_r _ [629, 98, 263, 264, 265, 5, 266, 198, 204, 205, 206, 618, 619, 620, 621, 199, 111, 112, 113, 369, 370, 371, 372, 100, 373, 374, 375, 376, 337, 338, 339, 340, 341, 97, 342, 343, 344, 823, 824, 825, 826, 827, 828, 829, 830, 831, 832, 833, 834, 835, 836, 837, 838, 839, 840, 841, 842, 843, 844, 845, 846, 847, 848, 849, 850, 851, 852, 853, 854, 855, 856, 857] (by decide +kernel) (by decide +kernel)
set_option maxRecDepth 20000 in
theorem gL_law_X8_kinds : GoodIn wsL_law (wsV RL 90 RX8 yX8_kinds wsX8_kinds) := goodIn_app (goodIn_of _ (by decide +kernel)) ggL_law_X8_kinds
set_option maxRecDepth 20000 in
theorem ggL_law_X7_heats : GoodIn wsL_law wsX7_heats := goodIn_r _ [633, 15, 31, 271, 272, 273, 274, 14, 275, 50, 129, 2, 130, 605, 606, 607, 30, 608, 155, 156, 187, 188, 609, 610, 611, 612, 80, 77, 78, 79, 613, 354, 355, 356, 357, 358, 359, 360, 49, 47, 46, 361, 362, 363, 364, 329, 330, 331, 332, 815, 816, 817, 818, 819, 820, 821, 822, 858, 859, 860, 861, 862, 863, 864, 878, 879, 880, 881] (by decide +kernel) (by decide +kernel)
set_option maxRecDepth 20000 in
theorem gL_law_X7_heats : GoodIn wsL_law (wsV RL 91 RX7 yX7_heats wsX7_heats) := goodIn_app (goodIn_of _ (by decide +kernel)) ggL_law_X7_heats
set_option maxRecDepth 20000 in
theorem ggL_law_X8_heats : GoodIn wsL_law wsX8_heats := goodIn_r _ [637, 97, 280, 281, 282, 5, 283, 196, 204, 205, 206, 618, 619, 620, 621, 199, 111, 112, 113, 369, 370, 371, 372, 100, 373, 374, 375, 376, 337, 338, 339, 340, 341, 98, 342, 343, 344, 823, 824, 825, 826, 827, 828, 829, 830, 831, 832, 833, 834, 835, 836, 837, 838, 839, 840, 841, 842, 843, 844, 845, 846, 847, 848, 849, 850, 851, 852, 853, 854, 855, 856, 857] (by decide +kernel) (by decide +kernel)
set_option maxRecDepth 20000 in
theorem gL_law_X8_heats : GoodIn wsL_law (wsV RL 94 RX8 yX8_heats wsX8_heats) := goodIn_app (goodIn_of _ (by decide +kernel)) ggL_law_X8_heats
set_option maxRecDepth 20000 in
theorem ggL_law_X7_odds : GoodIn wsL_law wsX7_odds := goodIn_r _ [641, 15, 642, 643, 254, 255, 256, 14, 257, 51, 129, 2, 130, 128, 644, 645, 646, 647, 50, 357, 358, 359, 360, 49, 47, 46, 361, 362, 363, 364, 155, 156, 329, 330, 331, 332, 815, 816, 817, 818, 819, 820, 821, 822, 858, 859, 860, 861, 862, 863, 864] (by decide +kernel) (by decide +kernel)
set_option maxRecDepth 20000 in
theorem gL_law_X7_odds : GoodIn wsL_law (wsV RL 95 RX7 yX7_odds wsX7_odds) := goodIn_app (goodIn_of _ (by decide +kernel)) ggL_law_X7_odds
set_option maxRecDepth 20000 in
theorem ggL_law_X8_odds : GoodIn wsL_law wsX8_odds := goodIn_r _ [651, 196, 341, 263, 264, 265, 5, 266, 198, 204, 205, 206, 652, 653, 654, 655, 369, 370, 371, 372, 100, 373, 374, 375, 376, 337, 338, 339, 340, 97, 98, 342, 343, 344, 656, 657, 658, 823, 824, 825, 826, 827, 828, 829, 830, 831, 832, 833, 834, 835, 836, 837, 838, 839, 840, 841, 842, 843, 844, 845, 846, 847, 848, 849, 850, 851, 852, 853, 854, 855, 856, 857] (by decide +kernel) (by decide +kernel)
set_option maxRecDepth 20000 in
theorem gL_law_X8_odds : GoodIn wsL_law (wsV RL 99 RX8 yX8_odds wsX8_odds) := goodIn_app (goodIn_of _ (by decide +kernel)) ggL_law_X8_odds
set_option maxRecDepth 20000 in
theorem ggL_law_X7_sheet : GoodIn wsL_law wsX7_sheet := goodIn_r _ [662, 38, 124, 125, 126, 2, 127, 37, 128, 129, 130, 139, 140, 141, 142, 663, 664, 665, 40, 666, 89, 90, 667, 431, 363, 432, 668, 362, 364, 91, 88, 669, 494, 495, 496, 815, 816, 817, 818, 819, 820, 821, 822, 883, 884, 885, 886] (by decide +kernel) (by decide +kernel)
set_option maxRecDepth 20000 in
theorem gL_law_X7_sheet : GoodIn wsL_law (wsV RL 100 RX7 yX7_sheet wsX7_sheet) := goodIn_app (goodIn_of _ (by decide +kernel)) ggL_law_X7_sheet
set_option maxRecDepth 20000 in
theorem ggL_law_X8_sheet : GoodIn wsL_law wsX8_sheet := goodIn_r _ [673, 193, 114, 115, 116, 200, 201, 5, 202, 203, 204, 205, 206, 207, 208, 209, 210, 211, 216, 217, 218, 219, 823, 824, 825, 826, 827, 828, 829, 830, 831, 832, 833, 834, 835, 836, 837, 838, 839, 840, 841, 842, 843, 844, 845, 846, 847, 848, 849, 850, 851, 852, 853, 854, 855, 856, 857] (by decide +kernel) (by decide +kernel)
set_option maxRecDepth 20000 in
theorem gL_law_X8_sheet : GoodIn wsL_law (wsV RL 103 RX8 yX8_sheet wsX8_sheet) := goodIn_app (goodIn_of _ (by decide +kernel)) ggL_law_X8_sheet
set_option maxRecDepth 20000 in
theorem ggL_law_X7_lose : GoodIn wsL_law wsX7_lose := goodIn_r _ [677, 678, 124, 125, 126, 2, 127, 37, 883, 884, 885, 886, 815, 816, 817, 818, 819, 820, 821, 822] (by decide +kernel) (by decide +kernel)
set_option maxRecDepth 20000 in
theorem gL_law_X7_lose : GoodIn wsL_law (wsV RL 104 RX7 yX7_lose wsX7_lose) := goodIn_app (goodIn_of _ (by decide +kernel)) ggL_law_X7_lose
set_option maxRecDepth 20000 in
theorem ggL_law_X8_lose : GoodIn wsL_law wsX8_lose := goodIn_r _ [682, 114, 200, 201, 5, 202, 203, 204, 205, 206, 823, 824, 825, 826, 827, 828, 829, 830, 831, 832, 833, 834, 835, 836, 837, 838, 839, 840, 841, 842, 843, 844, 845, 846, 847, 848, 849, 850, 851, 852, 853, 854, 855, 856, 857] (by decide +kernel) (by decide +kernel)
set_option maxRecDepth 20000 in
theorem gL_law_X8_lose : GoodIn wsL_law (wsV RL 107 RX8 yX8_lose wsX8_lose) := goodIn_app (goodIn_of _ (by decide +kernel)) ggL_law_X8_lose
set_option maxRecDepth 20000 in
theorem ggL_law_X7_put : GoodIn wsL_law wsX7_put := goodIn_r _ [686, 38, 678, 124, 125, 126, 2, 127, 37, 139, 140, 141, 142, 687, 136, 137, 40, 138, 91, 688, 689, 690, 691, 88, 692, 693, 694, 695, 90, 187, 188, 815, 816, 817, 818, 819, 820, 821, 822, 883, 884, 885, 886] (by decide +kernel) (by decide +kernel)
set_option maxRecDepth 20000 in
theorem gL_law_X7_put : GoodIn wsL_law (wsV RL 108 RX7 yX7_put wsX7_put) := goodIn_app (goodIn_of _ (by decide +kernel)) ggL_law_X7_put
set_option maxRecDepth 20000 in
theorem ggL_law_X8_put : GoodIn wsL_law wsX8_put := goodIn_r _ [699, 116, 115, 200, 201, 5, 202, 203, 204, 205, 206, 207, 208, 209, 210, 211, 700, 701, 702, 703, 114, 216, 217, 218, 219, 823, 824, 825, 826, 827, 828, 829, 830, 831, 832, 833, 834, 835, 836, 837, 838, 839, 840, 841, 842, 843, 844, 845, 846, 847, 848, 849, 850, 851, 852, 853, 854, 855, 856, 857] (by decide +kernel) (by decide +kernel)
set_option maxRecDepth 20000 in
theorem gL_law_X8_put : GoodIn wsL_law (wsV RL 111 RX8 yX8_put wsX8_put) := goodIn_app (goodIn_of _ (by decide +kernel)) ggL_law_X8_put
set_option maxRecDepth 20000 in
theorem ggL_law_X7_cell : GoodIn wsL_law wsX7_cell := goodIn_r _ [707, 38, 642, 124, 125, 126, 2, 127, 37, 128, 129, 130, 131, 132, 133, 40, 134, 89, 90, 135, 136, 137, 138, 91, 708, 152, 153, 154, 88, 155, 156, 815, 816, 817, 818, 819, 820, 821, 822, 883, 884, 885, 886] (by decide +kernel) (by decide +kernel)
set_option maxRecDepth 20000 in
theorem gL_law_X7_cell : GoodIn wsL_law (wsV RL 112 RX7 yX7_cell wsX7_cell) := goodIn_app (goodIn_of _ (by decide +kernel)) ggL_law_X7_cell
set_option maxRecDepth 20000 in
theorem ggL_law_X8_cell : GoodIn wsL_law wsX8_cell := goodIn_r _ [712, 211, 193, 114, 115, 116, 200, 201, 5, 202, 203, 204, 205, 206, 652, 653, 654, 655, 713, 714, 715, 716, 700, 701, 702, 703, 823, 824, 825, 826, 827, 828, 829, 830, 831, 832, 833, 834, 835, 836, 837, 838, 839, 840, 841, 842, 843, 844, 845, 846, 847, 848, 849, 850, 851, 852, 853, 854, 855, 856, 857] (by decide +kernel) (by decide +kernel)
set_option maxRecDepth 20000 in
theorem gL_law_X8_cell : GoodIn wsL_law (wsV RL 116 RX8 yX8_cell wsX8_cell) := goodIn_app (goodIn_of _ (by decide +kernel)) ggL_law_X8_cell
set_option maxRecDepth 20000 in
theorem ggL_law_X7_copy : GoodIn wsL_law wsX7_copy := goodIn_r _ [720, 38, 678, 721, 722, 723, 724, 725, 726, 124, 125, 126, 2, 127, 37, 139, 140, 141, 142, 687, 136, 137, 40, 138, 91, 815, 816, 817, 818, 819, 820, 821, 822, 883, 884, 885, 886] (by decide +kernel) (by decide +kernel)
set_option maxRecDepth 20000 in
theorem gL_law_X7_copy : GoodIn wsL_law (wsV RL 117 RX7 yX7_copy wsX7_copy) := goodIn_app (goodIn_of _ (by decide +kernel)) ggL_law_X7_copy
set_option maxRecDepth 20000 in
theorem ggL_law_X8_copy : GoodIn wsL_law wsX8_copy := goodIn_r _ [730, 114, 115, 117, 116, 200, 201, 5, 202, 203, 204, 205, 206, 207, 208, 209, 210, 211, 216, 217, 218, 219, 220, 221, 222, 823, 824, 825, 826, 827, 828, 829, 830, 831, 832, 833, 834, 835, 836, 837, 838, 839, 840, 841, 842, 843, 844, 845, 846, 847, 848, 849, 850, 851, 852, 853, 854, 855, 856, 857] (by decide +kernel) (by decide +kernel)
set_option maxRecDepth 20000 in
theorem gL_law_X8_copy : GoodIn wsL_law (wsV RL 120 RX8 yX8_copy wsX8_copy) := goodIn_app (goodIn_of _ (by decide +kernel)) ggL_law_X8_copy
set_option maxRecDepth 20000 in
theorem ggL_law_X7_tell : GoodIn wsL_law wsX7_tell := goodIn_r _ [734, 15, 253, 251, 35, 254, 255, 256, 14, 257, 51, 129, 2, 130, 258, 155, 156, 735, 736, 737, 34, 738, 739, 740, 741, 742, 84, 743, 744, 745, 746, 747, 748, 749, 750, 751, 752, 815, 816, 817, 818, 819, 820, 821, 822, 858, 859, 860, 861, 862, 863, 864, 882] (by decide +kernel) (by decide +kernel)
set_option maxRecDepth 20000 in
theorem gL_law_X7_tell : GoodIn wsL_law (wsV RL 121 RX7 yX7_tell wsX7_tell) := goodIn_app (goodIn_of _ (by decide +kernel)) ggL_law_X7_tell
set_option maxRecDepth 20000 in
theorem ggL_law_X8_tell : GoodIn wsL_law wsX8_tell := goodIn_r _ [756, 98, 100, 263, 264, 265, 5, 266, 198, 204, 205, 206, 757, 758, 759, 760, 761, 823, 824, 825, 826, 827, 828, 829, 830, 831, 832, 833, 834, 835, 836, 837, 838, 839, 840, 841, 842, 843, 844, 845, 846, 847, 848, 849, 850, 851, 852, 853, 854, 855, 856, 857] (by decide +kernel) (by decide +kernel)
set_option maxRecDepth 20000 in
theorem gL_law_X8_tell : GoodIn wsL_law (wsV RL 124 RX8 yX8_tell wsX8_tell) := goodIn_app (goodIn_of _ (by decide +kernel)) ggL_law_X8_tell
set_option maxRecDepth 20000 in
theorem ggL_law_X7_knot : GoodIn wsL_law wsX7_knot := goodIn_r _ [765, 15, 251, 35, 254, 255, 256, 14, 257, 51, 129, 2, 130, 258, 155, 156, 766, 767, 768, 34, 769, 739, 740, 741, 742, 84, 770, 771, 772, 773, 815, 816, 817, 818, 819, 820, 821, 822, 858, 859, 860, 861, 862, 863, 864, 882] (by decide +kernel) (by decide +kernel)
set_option maxRecDepth 20000 in
theorem gL_law_X7_knot : GoodIn wsL_law (wsV RL 125 RX7 yX7_knot wsX7_knot) := goodIn_app (goodIn_of _ (by decide +kernel)) ggL_law_X7_knot
set_option maxRecDepth 20000 in
theorem ggL_law_X8_knot : GoodIn wsL_law wsX8_knot := goodIn_r _ [777, 98, 263, 264, 265, 5, 266, 198, 204, 205, 206, 757, 758, 759, 760, 761, 823, 824, 825, 826, 827, 828, 829, 830, 831, 832, 833, 834, 835, 836, 837, 838, 839, 840, 841, 842, 843, 844, 845, 846, 847, 848, 849, 850, 851, 852, 853, 854, 855, 856, 857] (by decide +kernel) (by decide +kernel)
set_option maxRecDepth 20000 in
theorem gL_law_X8_knot : GoodIn wsL_law (wsV RL 128 RX8 yX8_knot wsX8_knot) := goodIn_app (goodIn_of _ (by decide +kernel)) ggL_law_X8_knot
set_option maxRecDepth 20000 in
theorem ggL_law_X7_as : GoodIn wsL_law wsX7_as := goodIn_r _ [781, 38, 15, 251, 254, 255, 256, 14, 257, 51, 129, 2, 130, 128, 258, 155, 156, 139, 140, 141, 142, 815, 816, 817, 818, 819, 820, 821, 822, 858, 859, 860, 861, 862, 863, 864] (by decide +kernel) (by decide +kernel)
set_option maxRecDepth 20000 in
theorem gL_law_X7_as : GoodIn wsL_law (wsV RL 129 RX7 yX7_as wsX7_as) := goodIn_app (goodIn_of _ (by decide +kernel)) ggL_law_X7_as
set_option maxRecDepth 20000 in
theorem ggL_law_X8_as : GoodIn wsL_law wsX8_as := goodIn_r _ [785, 193, 98, 263, 264, 265, 5, 266, 198, 204, 205, 206, 207, 208, 209, 210, 211, 216, 217, 218, 219, 823, 824, 825, 826, 827, 828, 829, 830, 831, 832, 833, 834, 835, 836, 837, 838, 839, 840, 841, 842, 843, 844, 845, 846, 847, 848, 849, 850, 851, 852, 853, 854, 855, 856, 857] (by decide +kernel) (by decide +kernel)
set_option maxRecDepth 20000 in
theorem gL_law_X8_as : GoodIn wsL_law (wsV RL 132 RX8 yX8_as wsX8_as) := goodIn_app (goodIn_of _ (by decide +kernel)) ggL_law_X8_as
set_option maxRecDepth 20000 in
theorem ggL_law_X7_trace : GoodIn wsL_law wsX7_trace := goodIn_r _ [789, 35, 790, 815, 816, 817, 818, 819, 820, 821, 822, 882] (by decide +kernel) (by decide +kernel)
set_option maxRecDepth 20000 in
theorem gL_law_X7_trace : GoodIn wsL_law (wsV RL 133 RX7 yX7_trace wsX7_trace) := goodIn_app (goodIn_of _ (by decide +kernel)) ggL_law_X7_trace
set_option maxRecDepth 20000 in
theorem ggL_law_X8_trace : GoodIn wsL_law wsX8_trace := goodIn_r _ [794, 761, 823, 824, 825, 826, 827, 828, 829, 830, 831, 832, 833, 834, 835, 836, 837, 838, 839, 840, 841, 842, 843, 844, 845, 846, 847, 848, 849, 850, 851, 852, 853, 854, 855, 856, 857] (by decide +kernel) (by decide +kernel)
set_option maxRecDepth 20000 in
theorem gL_law_X8_trace : GoodIn wsL_law (wsV RL 136 RX8 yX8_trace wsX8_trace) := goodIn_app (goodIn_of _ (by decide +kernel)) ggL_law_X8_trace
set_option maxRecDepth 20000 in
theorem ggL_law_X7_fault : GoodIn wsL_law wsX7_fault := goodIn_r _ [798, 38, 815, 816, 817, 818, 819, 820, 821, 822] (by decide +kernel) (by decide +kernel)
set_option maxRecDepth 20000 in
theorem gL_law_X7_fault : GoodIn wsL_law (wsV RL 137 RX7 yX7_fault wsX7_fault) := goodIn_app (goodIn_of _ (by decide +kernel)) ggL_law_X7_fault
set_option maxRecDepth 20000 in
theorem ggL_law_X8_fault : GoodIn wsL_law wsX8_fault := goodIn_r _ [802, 211, 823, 824, 825, 826, 827, 828, 829, 830, 831, 832, 833, 834, 835, 836, 837, 838, 839, 840, 841, 842, 843, 844, 845, 846, 847, 848, 849, 850, 851, 852, 853, 854, 855, 856, 857] (by decide +kernel) (by decide +kernel)
set_option maxRecDepth 20000 in
theorem gL_law_X8_fault : GoodIn wsL_law (wsV RL 140 RX8 yX8_fault wsX8_fault) := goodIn_app (goodIn_of _ (by decide +kernel)) ggL_law_X8_fault
set_option maxRecDepth 20000 in
theorem ggL_law_X7_many : GoodIn wsL_law wsX7_many := goodIn_r _ [806, 15, 123, 643, 31, 122, 807, 808, 809, 14, 810, 45, 155, 2, 156, 815, 816, 817, 818, 819, 820, 821, 822, 858, 859, 860, 861, 862, 863, 864, 878, 879, 880, 881] (by decide +kernel) (by decide +kernel)
set_option maxRecDepth 20000 in
theorem gL_law_X7_many : GoodIn wsL_law (wsV RL 141 RX7 yX7_many wsX7_many) := goodIn_app (goodIn_of _ (by decide +kernel)) ggL_law_X7_many
set_option maxRecDepth 20000 in
theorem ggL_law_X8_many : GoodIn wsL_law wsX8_many := goodIn_r _ [814, 198, 196, 96, 199, 823, 824, 825, 826, 827, 828, 829, 830, 831, 832, 833, 834, 835, 836, 837, 838, 839, 840, 841, 842, 843, 844, 845, 846, 847, 848, 849, 850, 851, 852, 853, 854, 855, 856, 857] (by decide +kernel) (by decide +kernel)
set_option maxRecDepth 20000 in
theorem gL_law_X8_many : GoodIn wsL_law (wsV RL 144 RX8 yX8_many wsX8_many) := goodIn_app (goodIn_of _ (by decide +kernel)) ggL_law_X8_many
