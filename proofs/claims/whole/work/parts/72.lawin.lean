theorem wsL_law_in : ∀ w ∈ wsL_law, w ∈ lw_tbl := (wl_app (wl_app (wl_app (wl_app (wl_app (wl_app (wl_app (wl_app (wl_app (wl_app (wl_app wl_wsL_law_r1 (wl_app wl_wsL_law_r2 (wl_app wl_wsL_law_r3 (wl_app wl_wsL_law_r4 (wl_app wl_wsL_law_r5 (wl_app wl_wsL_law_r6 (wl_app wl_wsL_law_r7 (wl_app wl_wsL_law_r8 (wl_app wl_wsL_law_r9 (wl_app wl_wsL_law_r10 (wl_app wl_wsL_law_r11 (wl_app wl_wsL_law_r12 (wl_app wl_wsL_law_r13 (wl_app wl_wsL_law_r14 (wl_app wl_wsL_law_r15 (wl_app wl_wsL_law_r16 (wl_app wl_wsL_law_r17 (wl_app wl_wsL_law_r18 (wl_app wl_wsL_law_r19 (wl_app wl_wsL_law_r20 (wl_app wl_wsL_law_r21 (wl_app wl_wsL_law_r22 (wl_app wl_wsL_law_r23 (wl_app wl_wsL_law_r24 (wl_app wl_wsL_law_r25 (wl_app wl_wsL_law_r26 (wl_app wl_wsL_law_r27 (wl_app wl_wsL_law_r28 (wl_app wl_wsL_law_r29 (wl_app wl_wsL_law_r30 (wl_app wl_wsL_law_r31 (wl_app wl_wsL_law_r32 (wl_app wl_wsL_law_r33 (wl_app wl_wsL_law_r34 (wl_app wl_wsL_law_r35 wl_wsL_law_r36))))))))))))))))))))))))))))))))))) wl_wsX70) wl_wsX80) wl_wsX00) wl_wsX20) wl_wsX50) wl_wsX10) wl_wsX30) wl_wsX60) wl_wsX40) (fun _ h => absurd h List.not_mem_nil))
theorem inlX0 : ∀ w ∈ wsX00, w ∈ wsL_law := fun _ h => List.mem_append_left _ (List.mem_append_left _ (List.mem_append_left _ (List.mem_append_left _ (List.mem_append_left _ (List.mem_append_left _ (List.mem_append_left _ (List.mem_append_right _ h)))))))
theorem inX0 : ∀ w ∈ wsX00, w ∈ lw_tbl := fun w h => wsL_law_in w (inlX0 w h)
theorem inlX1 : ∀ w ∈ wsX10, w ∈ wsL_law := fun _ h => List.mem_append_left _ (List.mem_append_left _ (List.mem_append_left _ (List.mem_append_left _ (List.mem_append_right _ h))))
theorem inX1 : ∀ w ∈ wsX10, w ∈ lw_tbl := fun w h => wsL_law_in w (inlX1 w h)
theorem inlX2 : ∀ w ∈ wsX20, w ∈ wsL_law := fun _ h => List.mem_append_left _ (List.mem_append_left _ (List.mem_append_left _ (List.mem_append_left _ (List.mem_append_left _ (List.mem_append_left _ (List.mem_append_right _ h))))))
theorem inX2 : ∀ w ∈ wsX20, w ∈ lw_tbl := fun w h => wsL_law_in w (inlX2 w h)
theorem inlX3 : ∀ w ∈ wsX30, w ∈ wsL_law := fun _ h => List.mem_append_left _ (List.mem_append_left _ (List.mem_append_left _ (List.mem_append_right _ h)))
theorem inX3 : ∀ w ∈ wsX30, w ∈ lw_tbl := fun w h => wsL_law_in w (inlX3 w h)
theorem inlX4 : ∀ w ∈ wsX40, w ∈ wsL_law := fun _ h => List.mem_append_left _ (List.mem_append_right _ h)
theorem inX4 : ∀ w ∈ wsX40, w ∈ lw_tbl := fun w h => wsL_law_in w (inlX4 w h)
theorem inlX5 : ∀ w ∈ wsX50, w ∈ wsL_law := fun _ h => List.mem_append_left _ (List.mem_append_left _ (List.mem_append_left _ (List.mem_append_left _ (List.mem_append_left _ (List.mem_append_right _ h)))))
theorem inX5 : ∀ w ∈ wsX50, w ∈ lw_tbl := fun w h => wsL_law_in w (inlX5 w h)
theorem inlX6 : ∀ w ∈ wsX60, w ∈ wsL_law := fun _ h => List.mem_append_left _ (List.mem_append_left _ (List.mem_append_right _ h))
theorem inX6 : ∀ w ∈ wsX60, w ∈ lw_tbl := fun w h => wsL_law_in w (inlX6 w h)
theorem inlX7 : ∀ w ∈ wsX70, w ∈ wsL_law := fun _ h => List.mem_append_left _ (List.mem_append_left _ (List.mem_append_left _ (List.mem_append_left _ (List.mem_append_left _ (List.mem_append_left _ (List.mem_append_left _ (List.mem_append_left _ (List.mem_append_left _ (List.mem_append_right _ h)))))))))
theorem inX7 : ∀ w ∈ wsX70, w ∈ lw_tbl := fun w h => wsL_law_in w (inlX7 w h)
theorem inlX8 : ∀ w ∈ wsX80, w ∈ wsL_law := fun _ h => List.mem_append_left _ (List.mem_append_left _ (List.mem_append_left _ (List.mem_append_left _ (List.mem_append_left _ (List.mem_append_left _ (List.mem_append_left _ (List.mem_append_left _ (List.mem_append_right _ h))))))))
theorem inX8 : ∀ w ∈ wsX80, w ∈ lw_tbl := fun w h => wsL_law_in w (inlX8 w h)
theorem inJ13 : ∀ w ∈ wsJ130, w ∈ lw_tbl := by decide +kernel
theorem inJ9 : ∀ w ∈ wsJ90, w ∈ lw_tbl := by decide +kernel
theorem inJ7 : ∀ w ∈ wsJ70, w ∈ lw_tbl := by decide +kernel
set_option maxRecDepth 20000 in
theorem ggL_law_X7_init : GoodIn wsL_law wsX7_init := goodIn_r _ [8, 9, 10, 11, 12, 13, 14, 15, 16, 17, 18, 19, 20, 21, 22, 23, 24, 25, 26, 27, 28, 29, 30, 31, 32, 33, 34, 35, 36, 37, 38, 39, 40, 41, 42, 43, 44, 45, 46, 47, 48, 49, 50, 51, 52, 53, 54, 55, 56, 57, 58, 59, 60, 61, 62, 63, 64, 65, 66, 67, 68, 69, 70, 71, 72, 73, 74, 75, 76, 77, 78, 79, 80, 81, 82, 83, 84, 85, 86, 87, 88, 89, 90, 91, 92, 93, 94, 95, 96, 97, 878, 879, 880, 847, 848, 849, 850, 851, 852, 853, 854, 855, 856, 881, 882, 883, 884, 885, 886, 887, 888, 889, 890, 891, 892, 893, 894, 895, 896, 897, 898, 899, 900, 901] (by decide +kernel) (by decide +kernel)
set_option maxRecDepth 20000 in
theorem gL_law_X7_init : GoodIn wsL_law (wsX7_init) := ggL_law_X7_init
set_option maxRecDepth 20000 in
theorem ggL_law_X8_init : GoodIn wsL_law wsX8_init := goodIn_r _ [100, 101, 10, 11, 42, 102, 103, 104, 105, 106, 107, 108, 109, 110, 111, 112, 113, 114, 115, 857, 858, 859, 860, 861, 862, 863, 864, 865, 866, 867, 868, 869, 870, 871, 872, 873, 874, 875, 876, 877] (by decide +kernel) (by decide +kernel)
set_option maxRecDepth 20000 in
theorem gL_law_X8_init : GoodIn wsL_law (wsX8_init) := ggL_law_X8_init
set_option maxRecDepth 20000 in
theorem ggL_law_X7_pay : GoodIn wsL_law wsX7_pay := goodIn_r _ [119, 15, 120, 121, 2, 122, 123, 124, 125, 126, 127, 128, 14, 129, 47, 847, 848, 849, 850, 851, 852, 853, 854, 855, 856, 878, 879, 880] (by decide +kernel) (by decide +kernel)
set_option maxRecDepth 20000 in
theorem gL_law_X7_pay : GoodIn wsL_law (wsV RL 13 RX7 yX7_pay wsX7_pay) := goodIn_app (goodIn_of _ (by decide +kernel)) ggL_law_X7_pay
set_option maxRecDepth 20000 in
theorem ggL_law_X8_pay : GoodIn wsL_law wsX8_pay := goodIn_r _ [133, 134, 135, 136, 102, 137, 138, 5, 139, 857, 858, 859, 860, 861, 862, 863, 864, 865, 866, 867, 868, 869, 870, 871, 872, 873, 874, 875, 876, 877] (by decide +kernel) (by decide +kernel)
set_option maxRecDepth 20000 in
theorem gL_law_X8_pay : GoodIn wsL_law (wsV RL 17 RX8 yX8_pay wsX8_pay) := goodIn_app (goodIn_of _ (by decide +kernel)) ggL_law_X8_pay
set_option maxRecDepth 20000 in
theorem ggL_law_X7_discount : GoodIn wsL_law wsX7_discount := goodIn_r _ [143, 15, 123, 124, 2, 125, 144, 145, 146, 14, 147, 48, 50, 847, 848, 849, 850, 851, 852, 853, 854, 855, 856, 878, 879, 880] (by decide +kernel) (by decide +kernel)
set_option maxRecDepth 20000 in
theorem gL_law_X7_discount : GoodIn wsL_law (wsV RL 18 RX7 yX7_discount wsX7_discount) := goodIn_app (goodIn_of _ (by decide +kernel)) ggL_law_X7_discount
set_option maxRecDepth 20000 in
theorem ggL_law_X8_discount : GoodIn wsL_law wsX8_discount := goodIn_r _ [151, 134, 152, 103, 104, 137, 138, 5, 139, 857, 858, 859, 860, 861, 862, 863, 864, 865, 866, 867, 868, 869, 870, 871, 872, 873, 874, 875, 876, 877] (by decide +kernel) (by decide +kernel)
set_option maxRecDepth 20000 in
theorem gL_law_X8_discount : GoodIn wsL_law (wsV RL 22 RX8 yX8_discount wsX8_discount) := goodIn_app (goodIn_of _ (by decide +kernel)) ggL_law_X8_discount
set_option maxRecDepth 20000 in
theorem ggL_law_X7_machine : GoodIn wsL_law wsX7_machine := goodIn_r _ [156, 19, 123, 124, 2, 125, 157, 158, 159, 18, 160, 57, 161, 162, 163, 164, 54, 165, 166, 167, 168, 55, 169, 170, 171, 172, 56, 847, 848, 849, 850, 851, 852, 853, 854, 855, 856, 881, 882, 883, 884] (by decide +kernel) (by decide +kernel)
set_option maxRecDepth 20000 in
theorem gL_law_X7_machine : GoodIn wsL_law (wsV RL 23 RX7 yX7_machine wsX7_machine) := goodIn_app (goodIn_of _ (by decide +kernel)) ggL_law_X7_machine
set_option maxRecDepth 20000 in
theorem ggL_law_X8_machine : GoodIn wsL_law wsX8_machine := goodIn_r _ [176, 152, 177, 105, 106, 107, 137, 138, 5, 139, 857, 858, 859, 860, 861, 862, 863, 864, 865, 866, 867, 868, 869, 870, 871, 872, 873, 874, 875, 876, 877] (by decide +kernel) (by decide +kernel)
set_option maxRecDepth 20000 in
theorem gL_law_X8_machine : GoodIn wsL_law (wsV RL 27 RX8 yX8_machine wsX8_machine) := goodIn_app (goodIn_of _ (by decide +kernel)) ggL_law_X8_machine
set_option maxRecDepth 20000 in
theorem ggL_law_X7_does : GoodIn wsL_law wsX7_does := goodIn_r _ [181, 19, 182, 183, 184, 18, 185, 54, 186, 187, 188, 189, 57, 120, 121, 2, 122, 123, 124, 125, 190, 166, 167, 168, 55, 847, 848, 849, 850, 851, 852, 853, 854, 855, 856, 881, 882, 883, 884] (by decide +kernel) (by decide +kernel)
set_option maxRecDepth 20000 in
theorem gL_law_X7_does : GoodIn wsL_law (wsV RL 28 RX7 yX7_does wsX7_does) := goodIn_app (goodIn_of _ (by decide +kernel)) ggL_law_X7_does
set_option maxRecDepth 20000 in
theorem ggL_law_X8_does : GoodIn wsL_law wsX8_does := goodIn_r _ [194, 134, 106, 195, 196, 197, 5, 198, 105, 199, 200, 201, 202, 177, 137, 138, 139, 857, 858, 859, 860, 861, 862, 863, 864, 865, 866, 867, 868, 869, 870, 871, 872, 873, 874, 875, 876, 877] (by decide +kernel) (by decide +kernel)
set_option maxRecDepth 20000 in
theorem gL_law_X8_does : GoodIn wsL_law (wsV RL 31 RX8 yX8_does wsX8_does) := goodIn_app (goodIn_of _ (by decide +kernel)) ggL_law_X8_does
set_option maxRecDepth 20000 in
theorem ggL_law_X7_goes : GoodIn wsL_law wsX7_goes := goodIn_r _ [206, 19, 182, 183, 184, 18, 185, 54, 186, 187, 188, 189, 57, 120, 121, 2, 122, 123, 124, 125, 207, 170, 171, 172, 56, 847, 848, 849, 850, 851, 852, 853, 854, 855, 856, 881, 882, 883, 884] (by decide +kernel) (by decide +kernel)
set_option maxRecDepth 20000 in
theorem gL_law_X7_goes : GoodIn wsL_law (wsV RL 32 RX7 yX7_goes wsX7_goes) := goodIn_app (goodIn_of _ (by decide +kernel)) ggL_law_X7_goes
set_option maxRecDepth 20000 in
theorem ggL_law_X8_goes : GoodIn wsL_law wsX8_goes := goodIn_r _ [211, 134, 107, 195, 196, 197, 5, 198, 105, 199, 200, 201, 202, 177, 137, 138, 139, 857, 858, 859, 860, 861, 862, 863, 864, 865, 866, 867, 868, 869, 870, 871, 872, 873, 874, 875, 876, 877] (by decide +kernel) (by decide +kernel)
set_option maxRecDepth 20000 in
theorem gL_law_X8_goes : GoodIn wsL_law (wsV RL 36 RX8 yX8_goes wsX8_goes) := goodIn_app (goodIn_of _ (by decide +kernel)) ggL_law_X8_goes
set_option maxRecDepth 20000 in
theorem ggL_law_X7_told : GoodIn wsL_law wsX7_told := goodIn_r _ [215, 19, 182, 183, 184, 18, 185, 54, 186, 187, 188, 189, 57, 123, 124, 2, 125, 216, 217, 218, 219, 55, 220, 221, 222, 223, 56, 847, 848, 849, 850, 851, 852, 853, 854, 855, 856, 881, 882, 883, 884] (by decide +kernel) (by decide +kernel)
set_option maxRecDepth 20000 in
theorem gL_law_X7_told : GoodIn wsL_law (wsV RL 37 RX7 yX7_told wsX7_told) := goodIn_app (goodIn_of _ (by decide +kernel)) ggL_law_X7_told
set_option maxRecDepth 20000 in
theorem ggL_law_X8_told : GoodIn wsL_law wsX8_told := goodIn_r _ [227, 228, 106, 107, 195, 196, 197, 5, 198, 105, 199, 200, 201, 202, 177, 137, 138, 139, 857, 858, 859, 860, 861, 862, 863, 864, 865, 866, 867, 868, 869, 870, 871, 872, 873, 874, 875, 876, 877] (by decide +kernel) (by decide +kernel)
set_option maxRecDepth 20000 in
theorem gL_law_X8_told : GoodIn wsL_law (wsV RL 40 RX8 yX8_told wsX8_told) := goodIn_app (goodIn_of _ (by decide +kernel)) ggL_law_X8_told
set_option maxRecDepth 20000 in
theorem ggL_law_X7_drop : GoodIn wsL_law wsX7_drop := goodIn_r _ [232, 19, 233, 234, 235, 18, 236, 57, 237, 238, 239, 240, 847, 848, 849, 850, 851, 852, 853, 854, 855, 856, 881, 882, 883, 884] (by decide +kernel) (by decide +kernel)
set_option maxRecDepth 20000 in
theorem gL_law_X7_drop : GoodIn wsL_law (wsV RL 41 RX7 yX7_drop wsX7_drop) := goodIn_app (goodIn_of _ (by decide +kernel)) ggL_law_X7_drop
set_option maxRecDepth 20000 in
theorem ggL_law_X8_drop : GoodIn wsL_law wsX8_drop := goodIn_r _ [244, 177, 857, 858, 859, 860, 861, 862, 863, 864, 865, 866, 867, 868, 869, 870, 871, 872, 873, 874, 875, 876, 877] (by decide +kernel) (by decide +kernel)
set_option maxRecDepth 20000 in
theorem gL_law_X8_drop : GoodIn wsL_law (wsV RL 45 RX8 yX8_drop wsX8_drop) := goodIn_app (goodIn_of _ (by decide +kernel)) ggL_law_X8_drop
set_option maxRecDepth 20000 in
theorem ggL_law_X7_sheet : GoodIn wsL_law wsX7_sheet := goodIn_r _ [248, 23, 249, 250, 22, 251, 252, 253, 254, 255, 256, 257, 258, 62, 63, 64, 259, 260, 67, 261, 262, 263, 264, 847, 848, 849, 850, 851, 852, 853, 854, 855, 856, 885, 886, 887] (by decide +kernel) (by decide +kernel)
set_option maxRecDepth 20000 in
theorem gL_law_X7_sheet : GoodIn wsL_law (wsV RL 46 RX7 yX7_sheet wsX7_sheet) := goodIn_app (goodIn_of _ (by decide +kernel)) ggL_law_X7_sheet
set_option maxRecDepth 20000 in
theorem ggL_law_X8_sheet : GoodIn wsL_law wsX8_sheet := goodIn_r _ [268, 108, 109, 110, 269, 270, 5, 271, 228, 134, 137, 138, 139, 857, 858, 859, 860, 861, 862, 863, 864, 865, 866, 867, 868, 869, 870, 871, 872, 873, 874, 875, 876, 877] (by decide +kernel) (by decide +kernel)
set_option maxRecDepth 20000 in
theorem gL_law_X8_sheet : GoodIn wsL_law (wsV RL 49 RX8 yX8_sheet wsX8_sheet) := goodIn_app (goodIn_of _ (by decide +kernel)) ggL_law_X8_sheet
set_option maxRecDepth 20000 in
theorem ggL_law_X7_lay : GoodIn wsL_law wsX7_lay := goodIn_r _ [275, 23, 249, 250, 22, 251, 276, 277, 278, 279, 62, 280, 281, 282, 283, 63, 284, 285, 286, 287, 64, 288, 289, 290, 847, 848, 849, 850, 851, 852, 853, 854, 855, 856, 885, 886, 887] (by decide +kernel) (by decide +kernel)
set_option maxRecDepth 20000 in
theorem gL_law_X7_lay : GoodIn wsL_law (wsV RL 50 RX7 yX7_lay wsX7_lay) := goodIn_app (goodIn_of _ (by decide +kernel)) ggL_law_X7_lay
set_option maxRecDepth 20000 in
theorem ggL_law_X8_lay : GoodIn wsL_law wsX8_lay := goodIn_r _ [294, 108, 109, 110, 269, 270, 5, 271, 228, 134, 137, 138, 139, 857, 858, 859, 860, 861, 862, 863, 864, 865, 866, 867, 868, 869, 870, 871, 872, 873, 874, 875, 876, 877] (by decide +kernel) (by decide +kernel)
set_option maxRecDepth 20000 in
theorem gL_law_X8_lay : GoodIn wsL_law (wsV RL 53 RX8 yX8_lay wsX8_lay) := goodIn_app (goodIn_of _ (by decide +kernel)) ggL_law_X8_lay
set_option maxRecDepth 20000 in
theorem ggL_law_X7_draw : GoodIn wsL_law wsX7_draw := goodIn_r _ [298, 23, 19, 249, 250, 22, 251, 252, 253, 254, 123, 124, 2, 125, 276, 277, 278, 279, 62, 299, 300, 301, 302, 303, 304, 305, 306, 280, 281, 282, 283, 63, 307, 308, 309, 310, 64, 157, 158, 159, 18, 160, 57, 311, 312, 313, 314, 161, 162, 163, 164, 54, 165, 166, 167, 168, 55, 169, 170, 171, 172, 56, 190, 207, 847, 848, 849, 850, 851, 852, 853, 854, 855, 856, 885, 886, 887, 881, 882, 883, 884] (by decide +kernel) (by decide +kernel)
set_option maxRecDepth 20000 in
theorem gL_law_X7_draw : GoodIn wsL_law (wsV RL 54 RX7 yX7_draw wsX7_draw) := goodIn_app (goodIn_of _ (by decide +kernel)) ggL_law_X7_draw
set_option maxRecDepth 20000 in
theorem ggL_law_X8_draw : GoodIn wsL_law wsX8_draw := goodIn_r _ [318, 152, 108, 109, 110, 134, 106, 107, 269, 270, 5, 271, 228, 137, 138, 139, 319, 174, 175, 176, 177, 105, 857, 858, 859, 860, 861, 862, 863, 864, 865, 866, 867, 868, 869, 870, 871, 872, 873, 874, 875, 876, 877] (by decide +kernel) (by decide +kernel)
set_option maxRecDepth 20000 in
theorem gL_law_X8_draw : GoodIn wsL_law (wsV RL 57 RX8 yX8_draw wsX8_draw) := goodIn_app (goodIn_of _ (by decide +kernel)) ggL_law_X8_draw
set_option maxRecDepth 20000 in
theorem ggL_law_X7_action : GoodIn wsL_law wsX7_action := goodIn_r _ [323, 19, 35, 324, 325, 326, 2, 327, 328, 187, 188, 18, 189, 57, 123, 124, 125, 329, 330, 331, 332, 15, 333, 334, 335, 34, 336, 87, 88, 337, 338, 339, 340, 54, 341, 217, 218, 219, 55, 342, 343, 344, 345, 221, 222, 223, 56, 346, 347, 348, 14, 349, 47, 350, 351, 352, 353, 89, 90, 91, 92, 354, 66, 67, 68, 355, 356, 357, 358, 359, 360, 361, 216, 847, 848, 849, 850, 851, 852, 853, 854, 855, 856, 881, 882, 883, 884, 894, 895, 896, 897, 898, 899, 878, 879, 880] (by decide +kernel) (by decide +kernel)
set_option maxRecDepth 20000 in
theorem gL_law_X7_action : GoodIn wsL_law (wsV RL 58 RX7 yX7_action wsX7_action) := goodIn_app (goodIn_of _ (by decide +kernel)) ggL_law_X7_action
set_option maxRecDepth 20000 in
theorem ggL_law_X8_action : GoodIn wsL_law wsX8_action := goodIn_r _ [365, 366, 367, 368, 369, 5, 370, 199, 200, 201, 202, 177, 137, 138, 139, 371, 372, 373, 374, 375, 376, 377, 378, 106, 379, 380, 381, 382, 383, 384, 385, 386, 107, 857, 858, 859, 860, 861, 862, 863, 864, 865, 866, 867, 868, 869, 870, 871, 872, 873, 874, 875, 876, 877] (by decide +kernel) (by decide +kernel)
set_option maxRecDepth 20000 in
theorem gL_law_X8_action : GoodIn wsL_law (wsV RL 61 RX8 yX8_action wsX8_action) := goodIn_app (goodIn_of _ (by decide +kernel)) ggL_law_X8_action
set_option maxRecDepth 20000 in
theorem ggL_law_X7_match : GoodIn wsL_law wsX7_match := goodIn_r _ [390, 391, 35, 324, 325, 326, 2, 327, 19, 328, 187, 188, 18, 189, 57, 123, 124, 125, 329, 330, 331, 332, 15, 333, 334, 335, 34, 336, 87, 88, 337, 338, 339, 340, 54, 341, 217, 218, 219, 55, 342, 343, 344, 345, 221, 222, 223, 56, 346, 347, 348, 14, 349, 47, 350, 351, 352, 353, 89, 90, 91, 92, 354, 66, 67, 68, 392, 393, 394, 395, 396, 397, 398, 399, 400, 401, 402, 403, 404, 405, 406, 407, 408, 409, 410, 411, 847, 848, 849, 850, 851, 852, 853, 854, 855, 856, 881, 882, 883, 884, 894, 895, 896, 897, 898, 899, 878, 879, 880] (by decide +kernel) (by decide +kernel)
set_option maxRecDepth 20000 in
theorem gL_law_X7_match : GoodIn wsL_law (wsV RL 62 RX7 yX7_match wsX7_match) := goodIn_app (goodIn_of _ (by decide +kernel)) ggL_law_X7_match
set_option maxRecDepth 20000 in
theorem ggL_law_X8_match : GoodIn wsL_law wsX8_match := goodIn_r _ [415, 228, 416, 417, 418, 367, 368, 369, 5, 370, 199, 200, 201, 202, 177, 137, 138, 139, 419, 420, 421, 422, 112, 111, 423, 424, 425, 426, 102, 375, 376, 377, 378, 106, 379, 380, 381, 382, 371, 372, 373, 374, 383, 384, 385, 386, 107, 427, 428, 429, 430, 857, 858, 859, 860, 861, 862, 863, 864, 865, 866, 867, 868, 869, 870, 871, 872, 873, 874, 875, 876, 877] (by decide +kernel) (by decide +kernel)
set_option maxRecDepth 20000 in
theorem gL_law_X8_match : GoodIn wsL_law (wsV RL 65 RX8 yX8_match wsX8_match) := goodIn_app (goodIn_of _ (by decide +kernel)) ggL_law_X8_match
set_option maxRecDepth 20000 in
theorem ggL_law_X7_sum : GoodIn wsL_law wsX7_sum := goodIn_r _ [434, 391, 324, 325, 326, 2, 327, 19, 328, 187, 188, 18, 189, 57, 123, 124, 125, 435, 436, 437, 438, 35, 329, 330, 331, 332, 15, 333, 334, 335, 34, 336, 87, 88, 337, 338, 339, 340, 54, 341, 217, 218, 219, 55, 342, 343, 344, 345, 221, 222, 223, 56, 346, 347, 348, 14, 349, 47, 350, 351, 352, 353, 89, 90, 91, 92, 354, 66, 67, 68, 439, 440, 441, 442, 404, 405, 406, 407, 443, 401, 402, 403, 444, 409, 410, 411, 847, 848, 849, 850, 851, 852, 853, 854, 855, 856, 881, 882, 883, 884, 894, 895, 896, 897, 898, 899, 878, 879, 880] (by decide +kernel) (by decide +kernel)
set_option maxRecDepth 20000 in
theorem gL_law_X7_sum : GoodIn wsL_law (wsV RL 66 RX7 yX7_sum wsX7_sum) := goodIn_app (goodIn_of _ (by decide +kernel)) ggL_law_X7_sum
set_option maxRecDepth 20000 in
theorem ggL_law_X8_sum : GoodIn wsL_law wsX8_sum := goodIn_r _ [448, 366, 416, 367, 368, 369, 5, 370, 199, 200, 201, 202, 177, 137, 138, 139, 449, 450, 451, 452, 423, 424, 425, 426, 102, 375, 376, 377, 378, 106, 379, 380, 381, 382, 371, 372, 373, 374, 383, 384, 385, 386, 107, 857, 858, 859, 860, 861, 862, 863, 864, 865, 866, 867, 868, 869, 870, 871, 872, 873, 874, 875, 876, 877] (by decide +kernel) (by decide +kernel)
set_option maxRecDepth 20000 in
theorem gL_law_X8_sum : GoodIn wsL_law (wsV RL 69 RX8 yX8_sum wsX8_sum) := goodIn_app (goodIn_of _ (by decide +kernel)) ggL_law_X8_sum
set_option maxRecDepth 20000 in
theorem ggL_law_X7_mean : GoodIn wsL_law wsX7_mean := goodIn_r _ [456, 457, 40, 35, 324, 325, 326, 2, 327, 19, 328, 187, 188, 18, 189, 57, 123, 124, 125, 329, 330, 331, 332, 15, 333, 334, 335, 34, 336, 87, 88, 337, 338, 339, 340, 54, 341, 217, 218, 219, 55, 342, 343, 344, 345, 221, 222, 223, 56, 346, 347, 348, 14, 349, 47, 350, 351, 352, 353, 89, 90, 91, 92, 354, 66, 67, 68, 408, 409, 410, 411, 404, 405, 406, 407, 396, 397, 398, 399, 458, 459, 460, 39, 461, 462, 463, 464, 465, 96, 97, 466, 467, 468, 469, 470, 471, 472, 847, 848, 849, 850, 851, 852, 853, 854, 855, 856, 881, 882, 883, 884, 894, 895, 896, 897, 898, 899, 878, 879, 880, 900, 901] (by decide +kernel) (by decide +kernel)
set_option maxRecDepth 20000 in
theorem gL_law_X7_mean : GoodIn wsL_law (wsV RL 70 RX7 yX7_mean wsX7_mean) := goodIn_app (goodIn_of _ (by decide +kernel)) ggL_law_X7_mean
set_option maxRecDepth 20000 in
theorem ggL_law_X8_mean : GoodIn wsL_law wsX8_mean := goodIn_r _ [476, 477, 417, 418, 367, 368, 369, 5, 370, 199, 200, 201, 202, 177, 137, 138, 139, 419, 420, 421, 422, 112, 111, 423, 424, 425, 426, 102, 375, 376, 377, 378, 106, 379, 380, 381, 382, 371, 372, 373, 374, 383, 384, 385, 386, 107, 427, 428, 429, 430, 478, 479, 480, 481, 482, 483, 484, 485, 486, 487, 857, 858, 859, 860, 861, 862, 863, 864, 865, 866, 867, 868, 869, 870, 871, 872, 873, 874, 875, 876, 877] (by decide +kernel) (by decide +kernel)
set_option maxRecDepth 20000 in
theorem gL_law_X8_mean : GoodIn wsL_law (wsV RL 74 RX8 yX8_mean wsX8_mean) := goodIn_app (goodIn_of _ (by decide +kernel)) ggL_law_X8_mean
set_option maxRecDepth 20000 in
theorem ggL_law_X7_worth : GoodIn wsL_law wsX7_worth := goodIn_r _ [491, 457, 40, 324, 325, 326, 2, 327, 19, 328, 187, 188, 18, 189, 57, 123, 124, 125, 492, 493, 494, 495, 35, 15, 329, 330, 331, 332, 333, 334, 335, 34, 336, 87, 88, 337, 338, 339, 340, 54, 341, 217, 218, 219, 55, 342, 343, 344, 345, 221, 222, 223, 56, 346, 347, 348, 14, 349, 47, 350, 351, 352, 353, 89, 90, 91, 92, 354, 66, 67, 68, 496, 497, 498, 499, 500, 501, 502, 503, 48, 504, 505, 506, 507, 50, 508, 509, 510, 511, 512, 513, 514, 515, 459, 460, 39, 461, 462, 463, 464, 465, 96, 97, 466, 467, 468, 469, 470, 471, 472, 847, 848, 849, 850, 851, 852, 853, 854, 855, 856, 881, 882, 883, 884, 894, 895, 896, 897, 898, 899, 878, 879, 880, 900, 901] (by decide +kernel) (by decide +kernel)
set_option maxRecDepth 20000 in
theorem gL_law_X7_worth : GoodIn wsL_law (wsV RL 75 RX7 yX7_worth wsX7_worth) := goodIn_app (goodIn_of _ (by decide +kernel)) ggL_law_X7_worth
set_option maxRecDepth 20000 in
theorem ggL_law_X8_worth : GoodIn wsL_law wsX8_worth := goodIn_r _ [519, 477, 367, 368, 369, 5, 370, 199, 200, 201, 202, 177, 137, 138, 139, 520, 521, 522, 523, 419, 420, 421, 422, 112, 111, 417, 418, 423, 424, 425, 426, 102, 375, 376, 377, 378, 106, 379, 380, 381, 382, 371, 372, 373, 374, 383, 384, 385, 386, 107, 524, 525, 526, 527, 103, 104, 528, 529, 530, 478, 479, 480, 481, 482, 483, 484, 485, 486, 487, 857, 858, 859, 860, 861, 862, 863, 864, 865, 866, 867, 868, 869, 870, 871, 872, 873, 874, 875, 876, 877] (by decide +kernel) (by decide +kernel)
set_option maxRecDepth 20000 in
theorem gL_law_X8_worth : GoodIn wsL_law (wsV RL 78 RX8 yX8_worth wsX8_worth) := goodIn_app (goodIn_of _ (by decide +kernel)) ggL_law_X8_worth
set_option maxRecDepth 20000 in
theorem ggL_law_X7_slip : GoodIn wsL_law wsX7_slip := goodIn_r _ [534, 35, 324, 325, 326, 2, 327, 19, 328, 187, 188, 18, 189, 57, 123, 124, 125, 329, 330, 331, 332, 15, 333, 334, 335, 34, 336, 87, 88, 337, 338, 339, 340, 54, 341, 217, 218, 219, 55, 342, 343, 344, 345, 221, 222, 223, 56, 346, 347, 348, 14, 349, 47, 350, 351, 352, 353, 89, 90, 91, 92, 354, 66, 67, 68, 355, 356, 357, 358, 535, 536, 537, 538, 359, 360, 361, 539, 540, 541, 216, 220, 542, 543, 544, 545, 546, 847, 848, 849, 850, 851, 852, 853, 854, 855, 856, 881, 882, 883, 884, 894, 895, 896, 897, 898, 899, 878, 879, 880] (by decide +kernel) (by decide +kernel)
set_option maxRecDepth 20000 in
theorem gL_law_X7_slip : GoodIn wsL_law (wsV RL 79 RX7 yX7_slip wsX7_slip) := goodIn_app (goodIn_of _ (by decide +kernel)) ggL_law_X7_slip
set_option maxRecDepth 20000 in
theorem ggL_law_X8_slip : GoodIn wsL_law wsX8_slip := goodIn_r _ [550, 551, 367, 368, 369, 5, 370, 199, 200, 201, 202, 177, 137, 138, 139, 371, 372, 373, 374, 375, 376, 377, 378, 106, 379, 380, 381, 382, 383, 384, 385, 386, 107, 857, 858, 859, 860, 861, 862, 863, 864, 865, 866, 867, 868, 869, 870, 871, 872, 873, 874, 875, 876, 877] (by decide +kernel) (by decide +kernel)
set_option maxRecDepth 20000 in
theorem gL_law_X8_slip : GoodIn wsL_law (wsV RL 82 RX8 yX8_slip wsX8_slip) := goodIn_app (goodIn_of _ (by decide +kernel)) ggL_law_X8_slip
set_option maxRecDepth 20000 in
theorem ggL_law_X7_like : GoodIn wsL_law wsX7_like := goodIn_r _ [555, 27, 19, 324, 325, 326, 2, 327, 328, 187, 188, 18, 189, 57, 556, 557, 558, 26, 559, 560, 561, 562, 563, 72, 564, 343, 34, 344, 565, 360, 361, 566, 540, 541, 567, 217, 218, 219, 55, 568, 221, 222, 223, 56, 569, 570, 571, 572, 573, 574, 847, 848, 849, 850, 851, 852, 853, 854, 855, 856, 881, 882, 883, 884, 888] (by decide +kernel) (by decide +kernel)
set_option maxRecDepth 20000 in
theorem gL_law_X7_like : GoodIn wsL_law (wsV RL 83 RX7 yX7_like wsX7_like) := goodIn_app (goodIn_of _ (by decide +kernel)) ggL_law_X7_like
set_option maxRecDepth 20000 in
theorem ggL_law_X8_like : GoodIn wsL_law wsX8_like := goodIn_r _ [578, 367, 368, 369, 5, 370, 199, 200, 201, 202, 177, 137, 138, 139, 579, 580, 581, 582, 114, 583, 584, 585, 586, 105, 106, 107, 857, 858, 859, 860, 861, 862, 863, 864, 865, 866, 867, 868, 869, 870, 871, 872, 873, 874, 875, 876, 877] (by decide +kernel) (by decide +kernel)
set_option maxRecDepth 20000 in
theorem gL_law_X8_like : GoodIn wsL_law (wsV RL 86 RX8 yX8_like wsX8_like) := goodIn_app (goodIn_of _ (by decide +kernel)) ggL_law_X8_like
set_option maxRecDepth 20000 in
theorem ggL_law_X7_smallest : GoodIn wsL_law wsX7_smallest := goodIn_r _ [590, 19, 27, 328, 187, 188, 18, 189, 57, 591, 592, 593, 26, 594, 595, 596, 597, 598, 338, 339, 340, 54, 569, 570, 571, 568, 221, 222, 223, 56, 599, 600, 601, 602, 560, 561, 562, 563, 72, 564, 343, 34, 344, 565, 360, 361, 566, 540, 541, 567, 217, 218, 219, 55, 847, 848, 849, 850, 851, 852, 853, 854, 855, 856, 881, 882, 883, 884, 888] (by decide +kernel) (by decide +kernel)
set_option maxRecDepth 20000 in
theorem gL_law_X7_smallest : GoodIn wsL_law (wsV RL 87 RX7 yX7_smallest wsX7_smallest) := goodIn_app (goodIn_of _ (by decide +kernel)) ggL_law_X7_smallest
set_option maxRecDepth 20000 in
theorem ggL_law_X8_smallest : GoodIn wsL_law wsX8_smallest := goodIn_r _ [606, 105, 107, 114, 199, 200, 201, 5, 202, 177, 137, 138, 139, 583, 584, 585, 586, 106, 857, 858, 859, 860, 861, 862, 863, 864, 865, 866, 867, 868, 869, 870, 871, 872, 873, 874, 875, 876, 877] (by decide +kernel) (by decide +kernel)
set_option maxRecDepth 20000 in
theorem gL_law_X8_smallest : GoodIn wsL_law (wsV RL 90 RX8 yX8_smallest wsX8_smallest) := goodIn_app (goodIn_of _ (by decide +kernel)) ggL_law_X8_smallest
set_option maxRecDepth 20000 in
theorem ggL_law_X7_best : GoodIn wsL_law wsX7_best := goodIn_r _ [610, 19, 31, 15, 182, 183, 184, 18, 185, 54, 186, 187, 188, 189, 57, 611, 612, 613, 30, 614, 83, 615, 616, 617, 618, 81, 619, 620, 621, 34, 622, 87, 88, 337, 338, 339, 340, 345, 221, 222, 223, 56, 341, 217, 218, 219, 55, 346, 347, 348, 14, 349, 47, 623, 351, 352, 353, 89, 90, 91, 92, 354, 66, 67, 68, 624, 497, 498, 499, 500, 501, 502, 503, 48, 504, 505, 506, 507, 50, 508, 509, 510, 511, 512, 513, 514, 515, 459, 460, 39, 461, 462, 463, 464, 465, 96, 97, 466, 467, 468, 625, 626, 627, 628, 629, 630, 631, 76, 78, 79, 632, 470, 471, 472, 633, 634, 635, 636, 637, 638, 639, 640, 641, 642, 643, 644, 645, 646, 647, 648, 649, 650, 651, 652, 847, 848, 849, 850, 851, 852, 853, 854, 855, 856, 881, 882, 883, 884, 889, 890, 891, 892, 893, 894, 895, 896, 897, 898, 899, 878, 879, 880, 900, 901] (by decide +kernel) (by decide +kernel)
set_option maxRecDepth 20000 in
theorem gL_law_X7_best : GoodIn wsL_law (wsV RL 91 RX7 yX7_best wsX7_best) := goodIn_app (goodIn_of _ (by decide +kernel)) ggL_law_X7_best
set_option maxRecDepth 20000 in
theorem ggL_law_X8_best : GoodIn wsL_law wsX8_best := goodIn_r _ [656, 657, 195, 196, 197, 5, 198, 105, 199, 200, 201, 202, 177, 137, 138, 139, 658, 659, 660, 661, 482, 662, 663, 483, 664, 665, 666, 667, 228, 528, 529, 530, 668, 669, 670, 671, 112, 111, 102, 106, 107, 417, 418, 524, 525, 526, 527, 103, 104, 478, 479, 480, 481, 857, 858, 859, 860, 861, 862, 863, 864, 865, 866, 867, 868, 869, 870, 871, 872, 873, 874, 875, 876, 877] (by decide +kernel) (by decide +kernel)
set_option maxRecDepth 20000 in
theorem gL_law_X8_best : GoodIn wsL_law (wsV RL 94 RX8 yX8_best wsX8_best) := goodIn_app (goodIn_of _ (by decide +kernel)) ggL_law_X8_best
set_option maxRecDepth 20000 in
theorem ggL_law_X7_bestWorth : GoodIn wsL_law wsX7_bestWorth := goodIn_r _ [675, 19, 457, 31, 15, 182, 183, 184, 18, 185, 54, 186, 187, 188, 189, 57, 123, 124, 2, 125, 611, 612, 613, 30, 614, 83, 615, 616, 617, 618, 81, 619, 620, 621, 34, 622, 87, 88, 337, 338, 339, 340, 345, 221, 222, 223, 56, 341, 217, 218, 219, 55, 346, 347, 348, 14, 349, 47, 623, 351, 352, 353, 89, 90, 91, 92, 354, 66, 67, 68, 624, 497, 498, 499, 500, 501, 502, 503, 48, 504, 505, 506, 507, 50, 508, 509, 510, 511, 512, 513, 514, 515, 459, 460, 39, 461, 462, 463, 464, 465, 96, 97, 466, 467, 468, 625, 626, 627, 628, 629, 630, 631, 76, 78, 79, 632, 470, 471, 472, 633, 634, 635, 636, 637, 638, 639, 640, 641, 642, 643, 644, 645, 646, 647, 648, 676, 677, 678, 679, 847, 848, 849, 850, 851, 852, 853, 854, 855, 856, 881, 882, 883, 884, 889, 890, 891, 892, 893, 894, 895, 896, 897, 898, 899, 878, 879, 880, 900, 901] (by decide +kernel) (by decide +kernel)
set_option maxRecDepth 20000 in
theorem gL_law_X7_bestWorth : GoodIn wsL_law (wsV RL 95 RX7 yX7_bestWorth wsX7_bestWorth) := goodIn_app (goodIn_of _ (by decide +kernel)) ggL_law_X7_bestWorth
set_option maxRecDepth 20000 in
theorem ggL_law_X8_bestWorth : GoodIn wsL_law wsX8_bestWorth := goodIn_r _ [683, 477, 663, 662, 195, 196, 197, 5, 198, 105, 199, 200, 201, 202, 177, 137, 138, 139, 658, 659, 660, 661, 657, 482, 483, 664, 665, 666, 667, 228, 528, 529, 530, 668, 669, 670, 671, 112, 111, 102, 106, 107, 417, 418, 524, 525, 526, 527, 103, 104, 478, 479, 480, 481, 857, 858, 859, 860, 861, 862, 863, 864, 865, 866, 867, 868, 869, 870, 871, 872, 873, 874, 875, 876, 877] (by decide +kernel) (by decide +kernel)
set_option maxRecDepth 20000 in
theorem gL_law_X8_bestWorth : GoodIn wsL_law (wsV RL 98 RX8 yX8_bestWorth wsX8_bestWorth) := goodIn_app (goodIn_of _ (by decide +kernel)) ggL_law_X8_bestWorth
set_option maxRecDepth 20000 in
theorem ggL_law_X7_planWorth : GoodIn wsL_law wsX7_planWorth := goodIn_r _ [687, 19, 457, 31, 15, 40, 182, 183, 184, 18, 185, 54, 186, 187, 188, 189, 57, 123, 124, 2, 125, 688, 338, 339, 340, 689, 635, 30, 636, 690, 616, 617, 618, 81, 619, 620, 621, 34, 622, 87, 88, 337, 345, 221, 222, 223, 56, 341, 217, 218, 219, 55, 346, 347, 348, 14, 349, 47, 623, 351, 352, 353, 89, 90, 91, 92, 354, 66, 67, 68, 624, 497, 498, 499, 500, 501, 502, 503, 48, 504, 505, 506, 507, 50, 508, 509, 510, 511, 512, 513, 514, 515, 459, 460, 39, 461, 462, 463, 464, 465, 96, 97, 466, 467, 468, 469, 470, 471, 472, 847, 848, 849, 850, 851, 852, 853, 854, 855, 856, 881, 882, 883, 884, 889, 890, 891, 892, 893, 894, 895, 896, 897, 898, 899, 878, 879, 880, 900, 901] (by decide +kernel) (by decide +kernel)
set_option maxRecDepth 20000 in
theorem gL_law_X7_planWorth : GoodIn wsL_law (wsV RL 99 RX7 yX7_planWorth wsX7_planWorth) := goodIn_app (goodIn_of _ (by decide +kernel)) ggL_law_X7_planWorth
set_option maxRecDepth 20000 in
theorem ggL_law_X8_planWorth : GoodIn wsL_law wsX8_planWorth := goodIn_r _ [694, 477, 195, 196, 197, 5, 198, 105, 199, 200, 201, 202, 177, 137, 138, 139, 664, 665, 666, 667, 228, 528, 529, 530, 668, 669, 670, 671, 112, 111, 102, 106, 107, 417, 418, 524, 525, 526, 527, 103, 104, 478, 479, 480, 481, 482, 483, 484, 485, 486, 487, 857, 858, 859, 860, 861, 862, 863, 864, 865, 866, 867, 868, 869, 870, 871, 872, 873, 874, 875, 876, 877] (by decide +kernel) (by decide +kernel)
set_option maxRecDepth 20000 in
theorem gL_law_X8_planWorth : GoodIn wsL_law (wsV RL 103 RX8 yX8_planWorth wsX8_planWorth) := goodIn_app (goodIn_of _ (by decide +kernel)) ggL_law_X8_planWorth
set_option maxRecDepth 20000 in
theorem ggL_law_X7_rest : GoodIn wsL_law wsX7_rest := goodIn_r _ [698, 31, 15, 19, 324, 325, 326, 2, 327, 328, 187, 188, 18, 189, 57, 611, 612, 613, 30, 614, 83, 615, 616, 617, 618, 81, 619, 620, 621, 34, 622, 87, 88, 337, 338, 339, 340, 54, 345, 221, 222, 223, 56, 341, 217, 218, 219, 55, 346, 347, 348, 14, 349, 47, 623, 351, 352, 353, 89, 90, 91, 92, 354, 66, 67, 68, 624, 497, 498, 499, 500, 501, 502, 503, 48, 504, 505, 506, 507, 50, 508, 509, 510, 511, 512, 513, 514, 515, 459, 460, 39, 461, 462, 463, 464, 465, 96, 97, 466, 467, 468, 625, 626, 627, 628, 629, 630, 631, 76, 78, 79, 632, 470, 471, 472, 633, 634, 635, 636, 637, 638, 639, 640, 641, 642, 643, 644, 645, 646, 647, 648, 699, 700, 701, 702, 35, 36, 333, 334, 335, 336, 342, 343, 344, 703, 704, 705, 706, 542, 707, 708, 709, 710, 40, 350, 496, 711, 572, 573, 574, 847, 848, 849, 850, 851, 852, 853, 854, 855, 856, 881, 882, 883, 884, 889, 890, 891, 892, 893, 894, 895, 896, 897, 898, 899, 878, 879, 880, 900, 901] (by decide +kernel) (by decide +kernel)
set_option maxRecDepth 20000 in
theorem gL_law_X7_rest : GoodIn wsL_law (wsV RL 104 RX7 yX7_rest wsX7_rest) := goodIn_app (goodIn_of _ (by decide +kernel)) ggL_law_X7_rest
set_option maxRecDepth 20000 in
theorem ggL_law_X8_rest : GoodIn wsL_law wsX8_rest := goodIn_r _ [715, 367, 368, 369, 5, 370, 199, 200, 201, 202, 177, 137, 138, 139, 716, 717, 718, 719, 720, 721, 722, 723, 482, 663, 483, 662, 658, 659, 660, 661, 657, 664, 665, 666, 667, 228, 105, 528, 529, 530, 668, 669, 670, 671, 112, 111, 102, 106, 107, 417, 418, 524, 525, 526, 527, 103, 104, 478, 479, 480, 481, 520, 521, 522, 523, 419, 420, 421, 422, 423, 424, 425, 426, 375, 376, 377, 378, 379, 380, 381, 382, 371, 372, 373, 374, 383, 384, 385, 386, 724, 725, 726, 857, 858, 859, 860, 861, 862, 863, 864, 865, 866, 867, 868, 869, 870, 871, 872, 873, 874, 875, 876, 877] (by decide +kernel) (by decide +kernel)
set_option maxRecDepth 20000 in
theorem gL_law_X8_rest : GoodIn wsL_law (wsV RL 107 RX8 yX8_rest wsX8_rest) := goodIn_app (goodIn_of _ (by decide +kernel)) ggL_law_X8_rest
set_option maxRecDepth 20000 in
theorem ggL_law_X7_everywhere : GoodIn wsL_law wsX7_everywhere := goodIn_r _ [730, 31, 15, 19, 324, 325, 326, 2, 327, 328, 187, 188, 18, 189, 57, 731, 732, 733, 30, 734, 633, 338, 339, 340, 54, 735, 612, 613, 614, 83, 615, 616, 617, 618, 81, 619, 620, 621, 34, 622, 87, 88, 337, 345, 221, 222, 223, 56, 341, 217, 218, 219, 55, 346, 347, 348, 14, 349, 47, 623, 351, 352, 353, 89, 90, 91, 92, 354, 66, 67, 68, 624, 497, 498, 499, 500, 501, 502, 503, 48, 504, 505, 506, 507, 50, 508, 509, 510, 511, 512, 513, 514, 515, 459, 460, 39, 461, 462, 463, 464, 465, 96, 97, 466, 467, 468, 625, 626, 627, 628, 629, 630, 631, 76, 78, 79, 632, 470, 471, 472, 634, 635, 636, 637, 638, 639, 640, 641, 642, 643, 644, 645, 646, 647, 648, 699, 700, 701, 702, 35, 36, 333, 334, 335, 336, 342, 343, 344, 736, 737, 738, 739, 688, 703, 704, 705, 706, 542, 707, 708, 709, 710, 40, 350, 496, 711, 572, 573, 574, 847, 848, 849, 850, 851, 852, 853, 854, 855, 856, 881, 882, 883, 884, 889, 890, 891, 892, 893, 894, 895, 896, 897, 898, 899, 878, 879, 880, 900, 901] (by decide +kernel) (by decide +kernel)
set_option maxRecDepth 20000 in
theorem gL_law_X7_everywhere : GoodIn wsL_law (wsV RL 108 RX7 yX7_everywhere wsX7_everywhere) := goodIn_app (goodIn_of _ (by decide +kernel)) ggL_law_X7_everywhere
set_option maxRecDepth 20000 in
theorem ggL_law_X8_everywhere : GoodIn wsL_law wsX8_everywhere := goodIn_r _ [743, 367, 368, 369, 5, 370, 199, 200, 201, 202, 177, 137, 138, 139, 744, 745, 746, 747, 105, 716, 717, 718, 719, 720, 721, 722, 723, 482, 663, 483, 662, 658, 659, 660, 661, 657, 664, 665, 666, 667, 228, 528, 529, 530, 668, 669, 670, 671, 112, 111, 102, 106, 107, 417, 418, 524, 525, 526, 527, 103, 104, 478, 479, 480, 481, 520, 521, 522, 523, 419, 420, 421, 422, 423, 424, 425, 426, 375, 376, 377, 378, 379, 380, 381, 382, 371, 372, 373, 374, 383, 384, 385, 386, 724, 725, 726, 857, 858, 859, 860, 861, 862, 863, 864, 865, 866, 867, 868, 869, 870, 871, 872, 873, 874, 875, 876, 877] (by decide +kernel) (by decide +kernel)
set_option maxRecDepth 20000 in
theorem gL_law_X8_everywhere : GoodIn wsL_law (wsV RL 111 RX8 yX8_everywhere wsX8_everywhere) := goodIn_app (goodIn_of _ (by decide +kernel)) ggL_law_X8_everywhere
set_option maxRecDepth 20000 in
theorem ggL_law_X7_deviation : GoodIn wsL_law wsX7_deviation := goodIn_r _ [751, 31, 15, 19, 324, 325, 326, 2, 327, 328, 187, 188, 18, 189, 57, 123, 124, 125, 731, 732, 733, 30, 734, 633, 338, 339, 340, 54, 735, 612, 613, 614, 83, 615, 616, 617, 618, 81, 619, 620, 621, 34, 622, 87, 88, 337, 345, 221, 222, 223, 56, 341, 217, 218, 219, 55, 346, 347, 348, 14, 349, 47, 623, 351, 352, 353, 89, 90, 91, 92, 354, 66, 67, 68, 624, 497, 498, 499, 500, 501, 502, 503, 48, 504, 505, 506, 507, 50, 508, 509, 510, 511, 512, 513, 514, 515, 459, 460, 39, 461, 462, 463, 464, 465, 96, 97, 466, 467, 468, 625, 626, 627, 628, 629, 630, 631, 76, 78, 79, 632, 470, 471, 472, 634, 635, 636, 637, 638, 639, 640, 641, 642, 643, 644, 645, 646, 647, 648, 699, 700, 701, 702, 35, 36, 333, 334, 335, 336, 342, 343, 344, 736, 737, 738, 739, 688, 703, 704, 705, 706, 542, 707, 708, 709, 710, 40, 350, 496, 711, 359, 360, 361, 539, 540, 541, 752, 753, 754, 755, 649, 650, 651, 652, 847, 848, 849, 850, 851, 852, 853, 854, 855, 856, 881, 882, 883, 884, 889, 890, 891, 892, 893, 894, 895, 896, 897, 898, 899, 878, 879, 880, 900, 901] (by decide +kernel) (by decide +kernel)
set_option maxRecDepth 20000 in
theorem gL_law_X7_deviation : GoodIn wsL_law (wsV RL 112 RX7 yX7_deviation wsX7_deviation) := goodIn_app (goodIn_of _ (by decide +kernel)) ggL_law_X7_deviation
set_option maxRecDepth 20000 in
theorem ggL_law_X8_deviation : GoodIn wsL_law wsX8_deviation := goodIn_r _ [759, 134, 657, 367, 368, 369, 5, 370, 199, 200, 201, 202, 177, 137, 138, 139, 744, 745, 746, 747, 105, 716, 717, 718, 719, 720, 721, 722, 723, 482, 663, 483, 662, 658, 659, 660, 661, 664, 665, 666, 667, 228, 528, 529, 530, 668, 669, 670, 671, 112, 111, 102, 106, 107, 417, 418, 524, 525, 526, 527, 103, 104, 478, 479, 480, 481, 520, 521, 522, 523, 419, 420, 421, 422, 423, 424, 425, 426, 375, 376, 377, 378, 379, 380, 381, 382, 371, 372, 373, 374, 383, 384, 385, 386, 724, 725, 726, 857, 858, 859, 860, 861, 862, 863, 864, 865, 866, 867, 868, 869, 870, 871, 872, 873, 874, 875, 876, 877] (by decide +kernel) (by decide +kernel)
set_option maxRecDepth 20000 in
theorem gL_law_X8_deviation : GoodIn wsL_law (wsV RL 115 RX8 yX8_deviation wsX8_deviation) := goodIn_app (goodIn_of _ (by decide +kernel)) ggL_law_X8_deviation
set_option maxRecDepth 20000 in
theorem ggL_law_X7_resists : GoodIn wsL_law wsX7_resists := goodIn_r _ [763, 324, 325, 326, 2, 327, 19, 328, 187, 188, 18, 189, 57, 764, 765, 766, 767, 768, 769, 770, 771, 40, 41, 492, 493, 494, 495, 35, 15, 329, 330, 331, 332, 333, 334, 335, 34, 336, 87, 88, 337, 338, 339, 340, 54, 341, 217, 218, 219, 55, 342, 343, 344, 345, 221, 222, 223, 56, 346, 347, 348, 14, 349, 47, 350, 351, 352, 353, 89, 90, 91, 92, 354, 66, 67, 68, 496, 497, 498, 499, 500, 501, 502, 503, 48, 504, 505, 506, 507, 50, 508, 509, 510, 511, 512, 513, 514, 515, 459, 460, 39, 461, 462, 463, 464, 465, 96, 97, 466, 467, 468, 469, 470, 471, 472, 772, 642, 643, 644, 645, 646, 647, 648, 572, 573, 574, 847, 848, 849, 850, 851, 852, 853, 854, 855, 856, 881, 882, 883, 884, 894, 895, 896, 897, 898, 899, 878, 879, 880, 900, 901] (by decide +kernel) (by decide +kernel)
set_option maxRecDepth 20000 in
theorem gL_law_X7_resists : GoodIn wsL_law (wsV RL 116 RX7 yX7_resists wsX7_resists) := goodIn_app (goodIn_of _ (by decide +kernel)) ggL_law_X7_resists
set_option maxRecDepth 20000 in
theorem ggL_law_X8_resists : GoodIn wsL_law wsX8_resists := goodIn_r _ [776, 367, 368, 369, 5, 370, 199, 200, 201, 202, 177, 137, 138, 139, 777, 778, 779, 780, 781, 782, 783, 784, 482, 483, 520, 521, 522, 523, 419, 420, 421, 422, 112, 111, 417, 418, 423, 424, 425, 426, 102, 375, 376, 377, 378, 106, 379, 380, 381, 382, 371, 372, 373, 374, 383, 384, 385, 386, 107, 524, 525, 526, 527, 103, 104, 528, 529, 530, 478, 479, 480, 481, 857, 858, 859, 860, 861, 862, 863, 864, 865, 866, 867, 868, 869, 870, 871, 872, 873, 874, 875, 876, 877] (by decide +kernel) (by decide +kernel)
set_option maxRecDepth 20000 in
theorem gL_law_X8_resists : GoodIn wsL_law (wsV RL 119 RX8 yX8_resists wsX8_resists) := goodIn_app (goodIn_of _ (by decide +kernel)) ggL_law_X8_resists
set_option maxRecDepth 20000 in
theorem ggL_law_X7_invaders : GoodIn wsL_law wsX7_invaders := goodIn_r _ [788, 19, 328, 187, 188, 18, 189, 57, 233, 234, 235, 236, 764, 765, 766, 2, 767, 768, 769, 770, 771, 40, 41, 492, 493, 494, 495, 35, 15, 329, 330, 331, 332, 333, 334, 335, 34, 336, 87, 88, 337, 338, 339, 340, 54, 341, 217, 218, 219, 55, 342, 343, 344, 345, 221, 222, 223, 56, 346, 347, 348, 14, 349, 47, 350, 351, 352, 353, 89, 90, 91, 92, 354, 66, 67, 68, 496, 497, 498, 499, 500, 501, 502, 503, 48, 504, 505, 506, 507, 50, 508, 509, 510, 511, 512, 513, 514, 515, 459, 460, 39, 461, 462, 463, 464, 465, 96, 97, 466, 467, 468, 469, 470, 471, 472, 772, 642, 643, 644, 645, 646, 647, 648, 847, 848, 849, 850, 851, 852, 853, 854, 855, 856, 881, 882, 883, 884, 894, 895, 896, 897, 898, 899, 878, 879, 880, 900, 901] (by decide +kernel) (by decide +kernel)
set_option maxRecDepth 20000 in
theorem gL_law_X7_invaders : GoodIn wsL_law (wsV RL 120 RX7 yX7_invaders wsX7_invaders) := goodIn_app (goodIn_of _ (by decide +kernel)) ggL_law_X7_invaders
set_option maxRecDepth 20000 in
theorem ggL_law_X8_invaders : GoodIn wsL_law wsX8_invaders := goodIn_r _ [792, 177, 199, 200, 201, 5, 202, 137, 138, 139, 777, 778, 779, 780, 781, 782, 783, 784, 482, 483, 520, 521, 522, 523, 419, 420, 421, 422, 112, 111, 417, 418, 423, 424, 425, 426, 102, 375, 376, 377, 378, 106, 379, 380, 381, 382, 371, 372, 373, 374, 383, 384, 385, 386, 107, 524, 525, 526, 527, 103, 104, 528, 529, 530, 478, 479, 480, 481, 857, 858, 859, 860, 861, 862, 863, 864, 865, 866, 867, 868, 869, 870, 871, 872, 873, 874, 875, 876, 877] (by decide +kernel) (by decide +kernel)
set_option maxRecDepth 20000 in
theorem gL_law_X8_invaders : GoodIn wsL_law (wsV RL 123 RX8 yX8_invaders wsX8_invaders) := goodIn_app (goodIn_of _ (by decide +kernel)) ggL_law_X8_invaders
set_option maxRecDepth 20000 in
theorem ggL_law_X7_score : GoodIn wsL_law wsX7_score := goodIn_r _ [796, 19, 391, 328, 187, 188, 18, 189, 57, 123, 124, 2, 125, 797, 798, 799, 800, 233, 234, 235, 236, 435, 436, 437, 438, 35, 329, 330, 331, 332, 15, 333, 334, 335, 34, 336, 87, 88, 337, 338, 339, 340, 54, 341, 217, 218, 219, 55, 342, 343, 344, 345, 221, 222, 223, 56, 346, 347, 348, 14, 349, 47, 350, 351, 352, 353, 89, 90, 91, 92, 354, 66, 67, 68, 439, 440, 441, 442, 404, 405, 406, 407, 443, 401, 402, 403, 444, 409, 410, 411, 847, 848, 849, 850, 851, 852, 853, 854, 855, 856, 881, 882, 883, 884, 894, 895, 896, 897, 898, 899, 878, 879, 880] (by decide +kernel) (by decide +kernel)
set_option maxRecDepth 20000 in
theorem gL_law_X7_score : GoodIn wsL_law (wsV RL 124 RX7 yX7_score wsX7_score) := goodIn_app (goodIn_of _ (by decide +kernel)) ggL_law_X7_score
set_option maxRecDepth 20000 in
theorem ggL_law_X8_score : GoodIn wsL_law wsX8_score := goodIn_r _ [804, 366, 416, 199, 200, 201, 5, 202, 177, 137, 138, 139, 805, 806, 807, 808, 449, 450, 451, 452, 423, 424, 425, 426, 102, 375, 376, 377, 378, 106, 379, 380, 381, 382, 371, 372, 373, 374, 383, 384, 385, 386, 107, 857, 858, 859, 860, 861, 862, 863, 864, 865, 866, 867, 868, 869, 870, 871, 872, 873, 874, 875, 876, 877] (by decide +kernel) (by decide +kernel)
set_option maxRecDepth 20000 in
theorem gL_law_X8_score : GoodIn wsL_law (wsV RL 127 RX8 yX8_score wsX8_score) := goodIn_app (goodIn_of _ (by decide +kernel)) ggL_law_X8_score
set_option maxRecDepth 20000 in
theorem ggL_law_X7_place : GoodIn wsL_law wsX7_place := goodIn_r _ [812, 19, 43, 123, 124, 2, 125, 233, 234, 235, 18, 236, 57, 797, 798, 799, 800, 435, 436, 437, 438, 35, 329, 330, 331, 332, 15, 333, 334, 335, 34, 336, 87, 88, 337, 338, 339, 340, 54, 341, 217, 218, 219, 55, 342, 343, 344, 345, 221, 222, 223, 56, 346, 347, 348, 14, 349, 47, 350, 351, 352, 353, 89, 90, 91, 92, 354, 66, 67, 68, 439, 440, 441, 442, 404, 405, 406, 407, 443, 401, 402, 403, 444, 409, 410, 411, 813, 814, 815, 816, 847, 848, 849, 850, 851, 852, 853, 854, 855, 856, 881, 882, 883, 884, 894, 895, 896, 897, 898, 899, 878, 879, 880] (by decide +kernel) (by decide +kernel)
set_option maxRecDepth 20000 in
theorem gL_law_X7_place : GoodIn wsL_law (wsV RL 128 RX7 yX7_place wsX7_place) := goodIn_app (goodIn_of _ (by decide +kernel)) ggL_law_X7_place
set_option maxRecDepth 20000 in
theorem ggL_law_X8_place : GoodIn wsL_law wsX8_place := goodIn_r _ [820, 366, 177, 115, 137, 138, 5, 139, 805, 806, 807, 808, 449, 450, 451, 452, 423, 424, 425, 426, 102, 375, 376, 377, 378, 106, 379, 380, 381, 382, 371, 372, 373, 374, 383, 384, 385, 386, 107, 857, 858, 859, 860, 861, 862, 863, 864, 865, 866, 867, 868, 869, 870, 871, 872, 873, 874, 875, 876, 877] (by decide +kernel) (by decide +kernel)
set_option maxRecDepth 20000 in
theorem gL_law_X8_place : GoodIn wsL_law (wsV RL 131 RX8 yX8_place wsX8_place) := goodIn_app (goodIn_of _ (by decide +kernel)) ggL_law_X8_place
set_option maxRecDepth 20000 in
theorem ggL_law_X7_count : GoodIn wsL_law wsX7_count := goodIn_r _ [824, 19, 27, 23, 233, 234, 235, 18, 236, 57, 825, 826, 827, 26, 828, 829, 830, 831, 832, 833, 834, 557, 558, 559, 560, 561, 562, 563, 72, 564, 343, 34, 344, 565, 360, 361, 566, 540, 541, 567, 217, 218, 219, 55, 568, 221, 222, 223, 56, 569, 570, 571, 835, 836, 837, 2, 838, 31, 15, 611, 612, 613, 30, 614, 83, 615, 616, 617, 618, 81, 619, 620, 621, 622, 87, 88, 337, 338, 339, 340, 54, 345, 341, 346, 347, 348, 14, 349, 47, 623, 351, 352, 353, 89, 90, 91, 92, 354, 66, 67, 68, 624, 497, 498, 499, 500, 501, 502, 503, 48, 504, 505, 506, 507, 50, 508, 509, 510, 511, 512, 513, 514, 515, 459, 460, 39, 461, 462, 463, 464, 465, 96, 97, 466, 467, 468, 625, 626, 627, 628, 629, 630, 631, 76, 78, 79, 632, 470, 471, 472, 633, 634, 635, 636, 637, 638, 639, 640, 641, 642, 643, 644, 645, 646, 647, 648, 699, 700, 701, 702, 35, 36, 333, 334, 335, 336, 342, 703, 704, 705, 706, 542, 707, 708, 709, 710, 40, 350, 496, 711, 276, 277, 278, 22, 279, 62, 839, 840, 841, 842, 63, 847, 848, 849, 850, 851, 852, 853, 854, 855, 856, 881, 882, 883, 884, 888, 889, 890, 891, 892, 893, 894, 895, 896, 897, 898, 899, 878, 879, 880, 900, 901, 885, 886, 887] (by decide +kernel) (by decide +kernel)
set_option maxRecDepth 20000 in
theorem gL_law_X7_count : GoodIn wsL_law (wsV RL 132 RX7 yX7_count wsX7_count) := goodIn_app (goodIn_of _ (by decide +kernel)) ggL_law_X7_count
set_option maxRecDepth 20000 in
theorem ggL_law_X8_count : GoodIn wsL_law wsX8_count := goodIn_r _ [846, 177, 108, 109, 579, 580, 581, 5, 582, 114, 583, 584, 585, 586, 105, 106, 107, 716, 717, 718, 719, 720, 721, 722, 723, 482, 663, 483, 662, 658, 659, 660, 661, 657, 664, 665, 666, 667, 228, 528, 529, 530, 668, 669, 670, 671, 112, 111, 102, 417, 418, 524, 525, 526, 527, 103, 104, 478, 479, 480, 481, 520, 521, 522, 523, 419, 420, 421, 422, 423, 424, 425, 426, 375, 376, 377, 378, 379, 380, 381, 382, 371, 372, 373, 374, 383, 384, 385, 386, 724, 725, 726, 857, 858, 859, 860, 861, 862, 863, 864, 865, 866, 867, 868, 869, 870, 871, 872, 873, 874, 875, 876, 877] (by decide +kernel) (by decide +kernel)
set_option maxRecDepth 20000 in
theorem gL_law_X8_count : GoodIn wsL_law (wsV RL 135 RX8 yX8_count wsX8_count) := goodIn_app (goodIn_of _ (by decide +kernel)) ggL_law_X8_count
