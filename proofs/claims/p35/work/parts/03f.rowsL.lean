theorem dL_below_0 : decode cL_below 0 = .ok (.iload_n 0, 1) := by decide +kernel
theorem dL_below_1 : decode cL_below 1 = .ok (.ldc 7, 2) := by decide +kernel
theorem dL_below_3 : decode cL_below 3 = .ok (.iand, 1) := by decide +kernel
theorem dL_below_4 : decode cL_below 4 = .ok (.iload_n 1, 1) := by decide +kernel
theorem dL_below_5 : decode cL_below 5 = .ok (.irem, 1) := by decide +kernel
theorem dL_below_6 : decode cL_below 6 = .ok (.ireturn, 1) := by decide +kernel
theorem dL_cell_0 : decode cL_cell 0 = .ok (.iload_n 1, 1) := by decide +kernel
theorem dL_cell_1 : decode cL_cell 1 = .ok (.aload_n 0, 1) := by decide +kernel
theorem dL_cell_2 : decode cL_cell 2 = .ok (.arraylength, 1) := by decide +kernel
theorem dL_cell_3 : decode cL_cell 3 = .ok (.if_icmp .ge 9, 3) := by decide +kernel
theorem dL_cell_6 : decode cL_cell 6 = .ok (.aload_n 0, 1) := by decide +kernel
theorem dL_cell_7 : decode cL_cell 7 = .ok (.iload_n 1, 1) := by decide +kernel
theorem dL_cell_8 : decode cL_cell 8 = .ok (.iaload, 1) := by decide +kernel
theorem dL_cell_9 : decode cL_cell 9 = .ok (.goto 9, 3) := by decide +kernel
theorem dL_cell_12 : decode cL_cell 12 = .ok (.ldc 8, 2) := by decide +kernel
theorem dL_cell_14 : decode cL_cell 14 = .ok (.iload_n 1, 1) := by decide +kernel
theorem dL_cell_15 : decode cL_cell 15 = .ok (.iconst 3, 1) := by decide +kernel
theorem dL_cell_16 : decode cL_cell 16 = .ok (.iadd, 1) := by decide +kernel
theorem dL_cell_17 : decode cL_cell 17 = .ok (.imul, 1) := by decide +kernel
theorem dL_cell_18 : decode cL_cell 18 = .ok (.ireturn, 1) := by decide +kernel
set_option maxRecDepth 20000 in
theorem ggL_act_L_below : GoodIn wsL_act wsL_below := goodIn_r _ [8, 9] (by decide +kernel) (by decide +kernel)
set_option maxRecDepth 20000 in
theorem gL_act_L_below : GoodIn wsL_act (va_wsS RL 15 yL_below wsL_below) := goodIn_app (goodIn_of _ (by decide +kernel)) ggL_act_L_below
set_option maxRecDepth 20000 in
theorem ggL_act_X2_with : GoodIn wsL_act wsX2_with := goodIn_r _ [13, 14] (by decide +kernel) (by decide +kernel)
set_option maxRecDepth 20000 in
theorem gL_act_X2_with : GoodIn wsL_act (va_wsS RL 21 yX2_with wsX2_with) := goodIn_app (goodIn_of _ (by decide +kernel)) ggL_act_X2_with
set_option maxRecDepth 20000 in
theorem ggL_act_X1_join : GoodIn wsL_act wsX1_join := goodIn_ca (goodIn_ca (goodIn_r _ [19, 20, 21, 22, 23, 24, 25, 26, 27, 28, 29, 30, 31, 32, 33, 34, 35, 36, 37, 38, 39, 40, 41, 42, 43, 44, 45, 46, 47, 48, 49, 50, 51, 52, 53, 54, 55, 56, 57, 58, 59, 60, 61, 62, 63, 64, 65, 66, 67, 68, 69, 70, 71, 72, 73, 74, 75, 76, 77, 78, 79, 80, 81, 82, 83, 84, 85, 86, 87, 88, 89, 90, 91, 92, 93, 94, 95, 96, 97, 98, 99, 100, 101, 102, 103, 104, 268, 269, 270, 271, 272, 273, 274, 275, 276, 277, 278, 279, 280, 281, 282, 283] (by decide +kernel) (by decide +kernel)) (goodIn_sub (fun _ h => List.mem_cons_of_mem _ (List.mem_append_left _ (List.mem_append_left _ (List.mem_append_right _ h)))) (by decide +kernel))) (goodIn_sub (fun _ h => List.mem_cons_of_mem _ (List.mem_append_left _ (List.mem_append_right _ h))) (by decide +kernel))
set_option maxRecDepth 20000 in
theorem gL_act_X1_join : GoodIn wsL_act (wsV RL 25 RX1 yX1_join wsX1_join) := goodIn_app (goodIn_of _ (by decide +kernel)) ggL_act_X1_join
set_option maxRecDepth 20000 in
theorem ggL_act_X1_buyLamp : GoodIn wsL_act wsX1_buyLamp := goodIn_ca (goodIn_ca (goodIn_ca (goodIn_r _ [108, 20, 21, 22, 23, 109, 110, 111, 18, 112, 113, 114, 24, 115, 28, 29, 30, 31, 32, 33, 116, 117, 118, 119, 120, 121, 122, 123, 124, 125, 126, 127, 128, 129, 130, 131, 57, 272, 273, 274, 275, 276, 277, 278, 279, 280, 268, 269, 270, 271, 281, 282, 283] (by decide +kernel) (by decide +kernel)) (goodIn_sub (fun _ h => List.mem_cons_of_mem _ (List.mem_append_left _ (List.mem_append_left _ (List.mem_append_right _ h)))) (by decide +kernel))) (goodIn_sub (fun _ h => List.mem_cons_of_mem _ (List.mem_append_left _ (List.mem_append_right _ h))) (by decide +kernel))) (goodIn_sub (fun _ h => List.mem_cons_of_mem _ (List.mem_append_right _ h)) (by decide +kernel))
set_option maxRecDepth 20000 in
theorem gL_act_X1_buyLamp : GoodIn wsL_act (wsV RL 30 RX1 yX1_buyLamp wsX1_buyLamp) := goodIn_app (goodIn_of _ (by decide +kernel)) ggL_act_X1_buyLamp
set_option maxRecDepth 20000 in
theorem ggL_act_X1_dropLamp : GoodIn wsL_act wsX1_dropLamp := goodIn_ca (goodIn_ca (goodIn_r _ [135, 22, 23, 109, 110, 111, 18, 112, 113, 114, 24, 115, 28, 29, 30, 31, 32, 33, 116, 117, 118, 119, 120, 121, 122, 123, 124, 125, 126, 127, 128, 129, 130, 131, 57, 272, 273, 274, 275, 276, 277, 278, 279, 280, 268, 269, 270, 271, 281, 282, 283] (by decide +kernel) (by decide +kernel)) (goodIn_sub (fun _ h => List.mem_cons_of_mem _ (List.mem_append_left _ (List.mem_append_right _ h))) (by decide +kernel))) (goodIn_sub (fun _ h => List.mem_cons_of_mem _ (List.mem_append_right _ h)) (by decide +kernel))
set_option maxRecDepth 20000 in
theorem gL_act_X1_dropLamp : GoodIn wsL_act (wsV RL 33 RX1 yX1_dropLamp wsX1_dropLamp) := goodIn_app (goodIn_of _ (by decide +kernel)) ggL_act_X1_dropLamp
set_option maxRecDepth 20000 in
theorem ggL_act_X2_canBorrow : GoodIn wsL_act wsX2_canBorrow := goodIn_r _ [139, 140, 264, 265, 266, 267] (by decide +kernel) (by decide +kernel)
set_option maxRecDepth 20000 in
theorem gL_act_X2_canBorrow : GoodIn wsL_act (wsV RL 37 RX2 yX2_canBorrow wsX2_canBorrow) := goodIn_app (goodIn_of _ (by decide +kernel)) ggL_act_X2_canBorrow
set_option maxRecDepth 20000 in
theorem ggL_act_X2_borrow : GoodIn wsL_act wsX2_borrow := goodIn_r _ [144, 140, 264, 265, 266, 267] (by decide +kernel) (by decide +kernel)
set_option maxRecDepth 20000 in
theorem gL_act_X2_borrow : GoodIn wsL_act (wsV RL 41 RX2 yX2_borrow wsX2_borrow) := goodIn_app (goodIn_of _ (by decide +kernel)) ggL_act_X2_borrow
set_option maxRecDepth 20000 in
theorem ggL_act_X1_borrow : GoodIn wsL_act wsX1_borrow := goodIn_ca (goodIn_ca (goodIn_ca (goodIn_r _ [148, 20, 21, 22, 23, 109, 110, 111, 18, 112, 113, 114, 24, 115, 28, 29, 30, 31, 32, 33, 116, 117, 118, 119, 120, 121, 122, 123, 124, 125, 126, 127, 128, 129, 130, 131, 57, 149, 150, 151, 152, 27, 153, 154, 41, 155, 156, 157, 272, 273, 274, 275, 276, 277, 278, 279, 280, 268, 269, 270, 271, 281, 282, 283] (by decide +kernel) (by decide +kernel)) (goodIn_sub (fun _ h => List.mem_cons_of_mem _ (List.mem_append_left _ (List.mem_append_left _ (List.mem_append_right _ h)))) (by decide +kernel))) (goodIn_sub (fun _ h => List.mem_cons_of_mem _ (List.mem_append_left _ (List.mem_append_right _ h))) (by decide +kernel))) (goodIn_sub (fun _ h => List.mem_cons_of_mem _ (List.mem_append_right _ h)) (by decide +kernel))
set_option maxRecDepth 20000 in
theorem gL_act_X1_borrow : GoodIn wsL_act (wsV RL 45 RX1 yX1_borrow wsX1_borrow) := goodIn_app (goodIn_of _ (by decide +kernel)) ggL_act_X1_borrow
set_option maxRecDepth 20000 in
theorem ggL_act_X2_giveBack : GoodIn wsL_act wsX2_giveBack := goodIn_r _ [161, 140, 162, 163, 164, 12, 165, 264, 265, 266, 267] (by decide +kernel) (by decide +kernel)
set_option maxRecDepth 20000 in
theorem gL_act_X2_giveBack : GoodIn wsL_act (wsV RL 47 RX2 yX2_giveBack wsX2_giveBack) := goodIn_app (goodIn_of _ (by decide +kernel)) ggL_act_X2_giveBack
set_option maxRecDepth 20000 in
theorem ggL_act_X1_giveBack : GoodIn wsL_act wsX1_giveBack := goodIn_ca (goodIn_ca (goodIn_r _ [169, 22, 23, 109, 110, 111, 18, 112, 113, 114, 24, 115, 28, 29, 30, 31, 32, 33, 116, 117, 118, 119, 120, 121, 122, 123, 124, 125, 126, 127, 128, 129, 130, 131, 57, 155, 27, 156, 157, 41, 48, 49, 50, 47, 170, 171, 172, 173, 272, 273, 274, 275, 276, 277, 278, 279, 280, 268, 269, 270, 271, 281, 282, 283] (by decide +kernel) (by decide +kernel)) (goodIn_sub (fun _ h => List.mem_cons_of_mem _ (List.mem_append_left _ (List.mem_append_right _ h))) (by decide +kernel))) (goodIn_sub (fun _ h => List.mem_cons_of_mem _ (List.mem_append_right _ h)) (by decide +kernel))
set_option maxRecDepth 20000 in
theorem gL_act_X1_giveBack : GoodIn wsL_act (wsV RL 50 RX1 yX1_giveBack wsX1_giveBack) := goodIn_app (goodIn_of _ (by decide +kernel)) ggL_act_X1_giveBack
set_option maxRecDepth 20000 in
theorem ggL_act_X2_shadow : GoodIn wsL_act wsX2_shadow := goodIn_r _ [177, 140, 178, 179, 180, 181, 12, 182, 183, 184, 185, 264, 265, 266, 267] (by decide +kernel) (by decide +kernel)
set_option maxRecDepth 20000 in
theorem gL_act_X2_shadow : GoodIn wsL_act (wsV RL 51 RX2 yX2_shadow wsX2_shadow) := goodIn_app (goodIn_of _ (by decide +kernel)) ggL_act_X2_shadow
set_option maxRecDepth 20000 in
theorem ggL_act_X1_certify : GoodIn wsL_act wsX1_certify := goodIn_ca (goodIn_ca (goodIn_r _ [189, 22, 23, 109, 110, 111, 18, 112, 113, 114, 24, 115, 28, 29, 30, 31, 32, 33, 116, 117, 118, 119, 120, 121, 122, 123, 124, 125, 126, 127, 128, 129, 130, 131, 57, 190, 27, 191, 192, 44, 193, 194, 195, 196, 197, 198, 199, 200, 46, 40, 201, 202, 203, 204, 41, 47, 205, 206, 207, 208, 73, 209, 272, 273, 274, 275, 276, 277, 278, 279, 280, 268, 269, 270, 271, 281, 282, 283] (by decide +kernel) (by decide +kernel)) (goodIn_sub (fun _ h => List.mem_cons_of_mem _ (List.mem_append_left _ (List.mem_append_right _ h))) (by decide +kernel))) (goodIn_sub (fun _ h => List.mem_cons_of_mem _ (List.mem_append_right _ h)) (by decide +kernel))
set_option maxRecDepth 20000 in
theorem gL_act_X1_certify : GoodIn wsL_act (wsV RL 58 RX1 yX1_certify wsX1_certify) := goodIn_app (goodIn_of _ (by decide +kernel)) ggL_act_X1_certify
set_option maxRecDepth 20000 in
theorem ggL_act_X1_pass : GoodIn wsL_act wsX1_pass := goodIn_ca (goodIn_r _ [213, 20, 21, 214, 215, 216, 217, 18, 218, 197, 193, 194, 195, 196, 219, 220, 221, 222, 24, 115, 223, 28, 29, 30, 31, 32, 33, 116, 117, 118, 119, 120, 121, 122, 123, 124, 125, 126, 127, 128, 129, 130, 131, 57, 224, 27, 225, 226, 40, 227, 228, 229, 230, 48, 49, 50, 47, 41, 231, 232, 233, 234, 235, 236, 237, 42, 238, 239, 240, 43, 241, 242, 243, 244, 245, 46, 205, 206, 207, 208, 73, 209, 246, 247, 248, 249, 268, 269, 270, 271, 272, 273, 274, 275, 276, 277, 278, 279, 280, 281, 282, 283] (by decide +kernel) (by decide +kernel)) (goodIn_sub (fun _ h => List.mem_cons_of_mem _ (List.mem_append_left _ (List.mem_append_left _ (List.mem_append_right _ h)))) (by decide +kernel))
set_option maxRecDepth 20000 in
theorem gL_act_X1_pass : GoodIn wsL_act (wsV RL 61 RX1 yX1_pass wsX1_pass) := goodIn_app (goodIn_of _ (by decide +kernel)) ggL_act_X1_pass
set_option maxRecDepth 20000 in
theorem ggL_act_X2_pass : GoodIn wsL_act wsX2_pass := goodIn_r _ [253, 254, 178, 140, 255, 256, 257, 258, 12, 259, 260, 261, 262, 263, 183, 184, 185, 264, 265, 266, 267] (by decide +kernel) (by decide +kernel)
set_option maxRecDepth 20000 in
theorem gL_act_X2_pass : GoodIn wsL_act (wsV RL 64 RX2 yX2_pass wsX2_pass) := goodIn_app (goodIn_of _ (by decide +kernel)) ggL_act_X2_pass
theorem dL_act_0 : decode cL_act 0 = .ok (.aload_n 1, 1) := by decide +kernel
theorem dL_act_1 : decode cL_act 1 = .ok (.getfield 9, 3) := by decide +kernel
theorem dL_act_4 : decode cL_act 4 = .ok (.arraylength, 1) := by decide +kernel
theorem dL_act_5 : decode cL_act 5 = .ok (.istore_n 3, 1) := by decide +kernel
theorem dL_act_6 : decode cL_act 6 = .ok (.iload_n 2, 1) := by decide +kernel
theorem dL_act_7 : decode cL_act 7 = .ok (.bipush 15, 2) := by decide +kernel
theorem dL_act_9 : decode cL_act 9 = .ok (.invokestatic 15, 3) := by decide +kernel
theorem dL_act_12 : decode cL_act 12 = .ok (.istore 4, 2) := by decide +kernel
theorem dL_act_14 : decode cL_act 14 = .ok (.iconst 1, 1) := by decide +kernel
theorem dL_act_15 : decode cL_act 15 = .ok (.istore 5, 2) := by decide +kernel
theorem dL_act_17 : decode cL_act 17 = .ok (.iload_n 3, 1) := by decide +kernel
theorem dL_act_18 : decode cL_act 18 = .ok (.ifCond .eq 8, 3) := by decide +kernel
theorem dL_act_21 : decode cL_act 21 = .ok (.iload 4, 2) := by decide +kernel
theorem dL_act_23 : decode cL_act 23 = .ok (.ifCond .ne 142, 3) := by decide +kernel
theorem dL_act_26 : decode cL_act 26 = .ok (.iconst 1, 1) := by decide +kernel
theorem dL_act_27 : decode cL_act 27 = .ok (.iload_n 2, 1) := by decide +kernel
theorem dL_act_28 : decode cL_act 28 = .ok (.iconst 4, 1) := by decide +kernel
theorem dL_act_29 : decode cL_act 29 = .ok (.ishr, 1) := by decide +kernel
theorem dL_act_30 : decode cL_act 30 = .ok (.bipush 99, 2) := by decide +kernel
theorem dL_act_32 : decode cL_act 32 = .ok (.invokestatic 15, 3) := by decide +kernel
theorem dL_act_35 : decode cL_act 35 = .ok (.iadd, 1) := by decide +kernel
theorem dL_act_36 : decode cL_act 36 = .ok (.istore 6, 2) := by decide +kernel
theorem dL_act_38 : decode cL_act 38 = .ok (.iload_n 2, 1) := by decide +kernel
theorem dL_act_39 : decode cL_act 39 = .ok (.bipush 6, 2) := by decide +kernel
theorem dL_act_41 : decode cL_act 41 = .ok (.ishr, 1) := by decide +kernel
theorem dL_act_42 : decode cL_act 42 = .ok (.iconst 3, 1) := by decide +kernel
theorem dL_act_43 : decode cL_act 43 = .ok (.invokestatic 15, 3) := by decide +kernel
theorem dL_act_46 : decode cL_act 46 = .ok (.ifCond .ne 7, 3) := by decide +kernel
theorem dL_act_49 : decode cL_act 49 = .ok (.iconst 0, 1) := by decide +kernel
theorem dL_act_50 : decode cL_act 50 = .ok (.goto 11, 3) := by decide +kernel
theorem dL_act_53 : decode cL_act 53 = .ok (.iload_n 2, 1) := by decide +kernel
theorem dL_act_54 : decode cL_act 54 = .ok (.iconst 5, 1) := by decide +kernel
theorem dL_act_55 : decode cL_act 55 = .ok (.ishr, 1) := by decide +kernel
theorem dL_act_56 : decode cL_act 56 = .ok (.bipush 21, 2) := by decide +kernel
theorem dL_act_58 : decode cL_act 58 = .ok (.invokestatic 15, 3) := by decide +kernel
theorem dL_act_61 : decode cL_act 61 = .ok (.istore 7, 2) := by decide +kernel
theorem dL_act_63 : decode cL_act 63 = .ok (.iload_n 3, 1) := by decide +kernel
theorem dL_act_64 : decode cL_act 64 = .ok (.bipush 10, 2) := by decide +kernel
theorem dL_act_66 : decode cL_act 66 = .ok (.if_icmp .ge 7, 3) := by decide +kernel
theorem dL_act_69 : decode cL_act 69 = .ok (.iconst 1, 1) := by decide +kernel
theorem dL_act_70 : decode cL_act 70 = .ok (.goto 4, 3) := by decide +kernel
theorem dL_act_73 : decode cL_act 73 = .ok (.iconst 0, 1) := by decide +kernel
theorem dL_act_74 : decode cL_act 74 = .ok (.istore 5, 2) := by decide +kernel
theorem dL_act_76 : decode cL_act 76 = .ok (.iload 5, 2) := by decide +kernel
theorem dL_act_78 : decode cL_act 78 = .ok (.ifCond .eq 64, 3) := by decide +kernel
theorem dL_act_81 : decode cL_act 81 = .ok (.aload_n 1, 1) := by decide +kernel
theorem dL_act_82 : decode cL_act 82 = .ok (.aload_n 1, 1) := by decide +kernel
theorem dL_act_83 : decode cL_act 83 = .ok (.getfield 9, 3) := by decide +kernel
theorem dL_act_86 : decode cL_act 86 = .ok (.bipush 8, 2) := by decide +kernel
theorem dL_act_88 : decode cL_act 88 = .ok (.newarray .int, 2) := by decide +kernel
theorem dL_act_90 : decode cL_act 90 = .ok (.dup, 1) := by decide +kernel
theorem dL_act_91 : decode cL_act 91 = .ok (.iconst 0, 1) := by decide +kernel
theorem dL_act_92 : decode cL_act 92 = .ok (.iload 6, 2) := by decide +kernel
theorem dL_act_94 : decode cL_act 94 = .ok (.iastore, 1) := by decide +kernel
theorem dL_act_95 : decode cL_act 95 = .ok (.dup, 1) := by decide +kernel
theorem dL_act_96 : decode cL_act 96 = .ok (.iconst 1, 1) := by decide +kernel
theorem dL_act_97 : decode cL_act 97 = .ok (.iload 7, 2) := by decide +kernel
theorem dL_act_99 : decode cL_act 99 = .ok (.iastore, 1) := by decide +kernel
theorem dL_act_100 : decode cL_act 100 = .ok (.dup, 1) := by decide +kernel
theorem dL_act_101 : decode cL_act 101 = .ok (.iconst 2, 1) := by decide +kernel
theorem dL_act_102 : decode cL_act 102 = .ok (.bipush 50, 2) := by decide +kernel
theorem dL_act_104 : decode cL_act 104 = .ok (.iastore, 1) := by decide +kernel
theorem dL_act_105 : decode cL_act 105 = .ok (.dup, 1) := by decide +kernel
theorem dL_act_106 : decode cL_act 106 = .ok (.iconst 3, 1) := by decide +kernel
theorem dL_act_107 : decode cL_act 107 = .ok (.iconst 0, 1) := by decide +kernel
theorem dL_act_108 : decode cL_act 108 = .ok (.iastore, 1) := by decide +kernel
theorem dL_act_109 : decode cL_act 109 = .ok (.dup, 1) := by decide +kernel
theorem dL_act_110 : decode cL_act 110 = .ok (.iconst 4, 1) := by decide +kernel
theorem dL_act_111 : decode cL_act 111 = .ok (.iload 7, 2) := by decide +kernel
theorem dL_act_113 : decode cL_act 113 = .ok (.ifCond .le 7, 3) := by decide +kernel
theorem dL_act_116 : decode cL_act 116 = .ok (.iload_n 3, 1) := by decide +kernel
theorem dL_act_117 : decode cL_act 117 = .ok (.goto 4, 3) := by decide +kernel
theorem dL_act_120 : decode cL_act 120 = .ok (.iconst (-1), 1) := by decide +kernel
theorem dL_act_121 : decode cL_act 121 = .ok (.iastore, 1) := by decide +kernel
theorem dL_act_122 : decode cL_act 122 = .ok (.dup, 1) := by decide +kernel
theorem dL_act_123 : decode cL_act 123 = .ok (.iconst 5, 1) := by decide +kernel
theorem dL_act_124 : decode cL_act 124 = .ok (.iconst (-1), 1) := by decide +kernel
theorem dL_act_125 : decode cL_act 125 = .ok (.iastore, 1) := by decide +kernel
theorem dL_act_126 : decode cL_act 126 = .ok (.dup, 1) := by decide +kernel
theorem dL_act_127 : decode cL_act 127 = .ok (.bipush 6, 2) := by decide +kernel
theorem dL_act_129 : decode cL_act 129 = .ok (.iconst 0, 1) := by decide +kernel
theorem dL_act_130 : decode cL_act 130 = .ok (.iastore, 1) := by decide +kernel
theorem dL_act_131 : decode cL_act 131 = .ok (.dup, 1) := by decide +kernel
theorem dL_act_132 : decode cL_act 132 = .ok (.bipush 7, 2) := by decide +kernel
theorem dL_act_134 : decode cL_act 134 = .ok (.iconst 0, 1) := by decide +kernel
theorem dL_act_135 : decode cL_act 135 = .ok (.iastore, 1) := by decide +kernel
theorem dL_act_136 : decode cL_act 136 = .ok (.invokestatic 21, 3) := by decide +kernel
theorem dL_act_139 : decode cL_act 139 = .ok (.putfield 9, 3) := by decide +kernel
theorem dL_act_142 : decode cL_act 142 = .ok (.aload_n 0, 1) := by decide +kernel
theorem dL_act_143 : decode cL_act 143 = .ok (.iload 6, 2) := by decide +kernel
theorem dL_act_145 : decode cL_act 145 = .ok (.iload 7, 2) := by decide +kernel
theorem dL_act_147 : decode cL_act 147 = .ok (.invokevirtual 25, 3) := by decide +kernel
theorem dL_act_150 : decode cL_act 150 = .ok (.iload_n 3, 1) := by decide +kernel
theorem dL_act_151 : decode cL_act 151 = .ok (.if_icmp .ne 12, 3) := by decide +kernel
theorem dL_act_154 : decode cL_act 154 = .ok (.iload 5, 2) := by decide +kernel
theorem dL_act_156 : decode cL_act 156 = .ok (.ifCond .eq 7, 3) := by decide +kernel
theorem dL_act_159 : decode cL_act 159 = .ok (.iconst 1, 1) := by decide +kernel
theorem dL_act_160 : decode cL_act 160 = .ok (.goto 4, 3) := by decide +kernel
theorem dL_act_163 : decode cL_act 163 = .ok (.iconst 0, 1) := by decide +kernel
theorem dL_act_164 : decode cL_act 164 = .ok (.ireturn, 1) := by decide +kernel
theorem dL_act_165 : decode cL_act 165 = .ok (.iload_n 2, 1) := by decide +kernel
theorem dL_act_166 : decode cL_act 166 = .ok (.iconst 3, 1) := by decide +kernel
theorem dL_act_167 : decode cL_act 167 = .ok (.ishr, 1) := by decide +kernel
theorem dL_act_168 : decode cL_act 168 = .ok (.iload_n 3, 1) := by decide +kernel
theorem dL_act_169 : decode cL_act 169 = .ok (.invokestatic 15, 3) := by decide +kernel
theorem dL_act_172 : decode cL_act 172 = .ok (.istore 6, 2) := by decide +kernel
theorem dL_act_174 : decode cL_act 174 = .ok (.aload_n 1, 1) := by decide +kernel
theorem dL_act_175 : decode cL_act 175 = .ok (.getfield 9, 3) := by decide +kernel
theorem dL_act_178 : decode cL_act 178 = .ok (.iload 6, 2) := by decide +kernel
theorem dL_act_180 : decode cL_act 180 = .ok (.aaload, 1) := by decide +kernel
theorem dL_act_181 : decode cL_act 181 = .ok (.astore 7, 2) := by decide +kernel
theorem dL_act_183 : decode cL_act 183 = .ok (.iload 4, 2) := by decide +kernel
theorem dL_act_185 : decode cL_act 185 = .ok (.tableswitch 383 1 10 #[55, 55, 136, 181, 181, 181, 253, 316, 316, 316], 55) := by decide +kernel
theorem dL_act_240 : decode cL_act 240 = .ok (.iconst 1, 1) := by decide +kernel
theorem dL_act_241 : decode cL_act 241 = .ok (.iload_n 2, 1) := by decide +kernel
theorem dL_act_242 : decode cL_act 242 = .ok (.iconst 5, 1) := by decide +kernel
theorem dL_act_243 : decode cL_act 243 = .ok (.ishr, 1) := by decide +kernel
theorem dL_act_244 : decode cL_act 244 = .ok (.bipush 9, 2) := by decide +kernel
theorem dL_act_246 : decode cL_act 246 = .ok (.invokestatic 15, 3) := by decide +kernel
theorem dL_act_249 : decode cL_act 249 = .ok (.iadd, 1) := by decide +kernel
theorem dL_act_250 : decode cL_act 250 = .ok (.istore 8, 2) := by decide +kernel
theorem dL_act_252 : decode cL_act 252 = .ok (.aload 7, 2) := by decide +kernel
theorem dL_act_254 : decode cL_act 254 = .ok (.iconst 3, 1) := by decide +kernel
theorem dL_act_255 : decode cL_act 255 = .ok (.iaload, 1) := by decide +kernel
theorem dL_act_256 : decode cL_act 256 = .ok (.ifCond .ne 16, 3) := by decide +kernel
theorem dL_act_259 : decode cL_act 259 = .ok (.aload 7, 2) := by decide +kernel
theorem dL_act_261 : decode cL_act 261 = .ok (.iconst 2, 1) := by decide +kernel
theorem dL_act_262 : decode cL_act 262 = .ok (.iaload, 1) := by decide +kernel
theorem dL_act_263 : decode cL_act 263 = .ok (.iload 8, 2) := by decide +kernel
theorem dL_act_265 : decode cL_act 265 = .ok (.if_icmp .lt 7, 3) := by decide +kernel
theorem dL_act_268 : decode cL_act 268 = .ok (.iconst 1, 1) := by decide +kernel
theorem dL_act_269 : decode cL_act 269 = .ok (.goto 4, 3) := by decide +kernel
theorem dL_act_272 : decode cL_act 272 = .ok (.iconst 0, 1) := by decide +kernel
theorem dL_act_273 : decode cL_act 273 = .ok (.istore 5, 2) := by decide +kernel
theorem dL_act_275 : decode cL_act 275 = .ok (.iload 5, 2) := by decide +kernel
theorem dL_act_277 : decode cL_act 277 = .ok (.ifCond .eq 18, 3) := by decide +kernel
theorem dL_act_280 : decode cL_act 280 = .ok (.aload 7, 2) := by decide +kernel
theorem dL_act_282 : decode cL_act 282 = .ok (.iconst 3, 1) := by decide +kernel
theorem dL_act_283 : decode cL_act 283 = .ok (.iload 8, 2) := by decide +kernel
theorem dL_act_285 : decode cL_act 285 = .ok (.iastore, 1) := by decide +kernel
theorem dL_act_286 : decode cL_act 286 = .ok (.aload 7, 2) := by decide +kernel
theorem dL_act_288 : decode cL_act 288 = .ok (.iconst 2, 1) := by decide +kernel
theorem dL_act_289 : decode cL_act 289 = .ok (.dup2, 1) := by decide +kernel
theorem dL_act_290 : decode cL_act 290 = .ok (.iaload, 1) := by decide +kernel
theorem dL_act_291 : decode cL_act 291 = .ok (.iload 8, 2) := by decide +kernel
theorem dL_act_293 : decode cL_act 293 = .ok (.isub, 1) := by decide +kernel
theorem dL_act_294 : decode cL_act 294 = .ok (.iastore, 1) := by decide +kernel
theorem dL_act_295 : decode cL_act 295 = .ok (.aload_n 0, 1) := by decide +kernel
theorem dL_act_296 : decode cL_act 296 = .ok (.iload 6, 2) := by decide +kernel
theorem dL_act_298 : decode cL_act 298 = .ok (.iload 8, 2) := by decide +kernel
theorem dL_act_300 : decode cL_act 300 = .ok (.invokevirtual 30, 3) := by decide +kernel
theorem dL_act_303 : decode cL_act 303 = .ok (.aload 7, 2) := by decide +kernel
theorem dL_act_305 : decode cL_act 305 = .ok (.iconst 2, 1) := by decide +kernel
theorem dL_act_306 : decode cL_act 306 = .ok (.iaload, 1) := by decide +kernel
theorem dL_act_307 : decode cL_act 307 = .ok (.if_icmp .ne 12, 3) := by decide +kernel
theorem dL_act_310 : decode cL_act 310 = .ok (.iload 5, 2) := by decide +kernel
theorem dL_act_312 : decode cL_act 312 = .ok (.ifCond .eq 7, 3) := by decide +kernel
theorem dL_act_315 : decode cL_act 315 = .ok (.iconst 1, 1) := by decide +kernel
theorem dL_act_316 : decode cL_act 316 = .ok (.goto 4, 3) := by decide +kernel
theorem dL_act_319 : decode cL_act 319 = .ok (.iconst 0, 1) := by decide +kernel
theorem dL_act_320 : decode cL_act 320 = .ok (.ireturn, 1) := by decide +kernel
theorem dL_act_321 : decode cL_act 321 = .ok (.aload 7, 2) := by decide +kernel
theorem dL_act_323 : decode cL_act 323 = .ok (.iconst 3, 1) := by decide +kernel
theorem dL_act_324 : decode cL_act 324 = .ok (.iaload, 1) := by decide +kernel
theorem dL_act_325 : decode cL_act 325 = .ok (.istore 8, 2) := by decide +kernel
theorem dL_act_327 : decode cL_act 327 = .ok (.iload 8, 2) := by decide +kernel
theorem dL_act_329 : decode cL_act 329 = .ok (.ifCond .le 7, 3) := by decide +kernel
theorem dL_act_332 : decode cL_act 332 = .ok (.iconst 1, 1) := by decide +kernel
theorem dL_act_333 : decode cL_act 333 = .ok (.goto 4, 3) := by decide +kernel
theorem dL_act_336 : decode cL_act 336 = .ok (.iconst 0, 1) := by decide +kernel
theorem dL_act_337 : decode cL_act 337 = .ok (.istore 5, 2) := by decide +kernel
theorem dL_act_339 : decode cL_act 339 = .ok (.aload 7, 2) := by decide +kernel
theorem dL_act_341 : decode cL_act 341 = .ok (.iconst 3, 1) := by decide +kernel
theorem dL_act_342 : decode cL_act 342 = .ok (.iconst 0, 1) := by decide +kernel
theorem dL_act_343 : decode cL_act 343 = .ok (.iastore, 1) := by decide +kernel
theorem dL_act_344 : decode cL_act 344 = .ok (.aload_n 0, 1) := by decide +kernel
theorem dL_act_345 : decode cL_act 345 = .ok (.iload 6, 2) := by decide +kernel
theorem dL_act_347 : decode cL_act 347 = .ok (.invokevirtual 33, 3) := by decide +kernel
theorem dL_act_350 : decode cL_act 350 = .ok (.iload 8, 2) := by decide +kernel
theorem dL_act_352 : decode cL_act 352 = .ok (.if_icmp .ne 12, 3) := by decide +kernel
theorem dL_act_355 : decode cL_act 355 = .ok (.iload 5, 2) := by decide +kernel
theorem dL_act_357 : decode cL_act 357 = .ok (.ifCond .eq 7, 3) := by decide +kernel
theorem dL_act_360 : decode cL_act 360 = .ok (.iconst 1, 1) := by decide +kernel
theorem dL_act_361 : decode cL_act 361 = .ok (.goto 4, 3) := by decide +kernel
theorem dL_act_364 : decode cL_act 364 = .ok (.iconst 0, 1) := by decide +kernel
theorem dL_act_365 : decode cL_act 365 = .ok (.ireturn, 1) := by decide +kernel
theorem dL_act_366 : decode cL_act 366 = .ok (.iload_n 2, 1) := by decide +kernel
theorem dL_act_367 : decode cL_act 367 = .ok (.iconst 5, 1) := by decide +kernel
theorem dL_act_368 : decode cL_act 368 = .ok (.ishr, 1) := by decide +kernel
theorem dL_act_369 : decode cL_act 369 = .ok (.iload_n 3, 1) := by decide +kernel
theorem dL_act_370 : decode cL_act 370 = .ok (.invokestatic 15, 3) := by decide +kernel
theorem dL_act_373 : decode cL_act 373 = .ok (.istore 8, 2) := by decide +kernel
theorem dL_act_375 : decode cL_act 375 = .ok (.iload 8, 2) := by decide +kernel
theorem dL_act_377 : decode cL_act 377 = .ok (.iload 6, 2) := by decide +kernel
theorem dL_act_379 : decode cL_act 379 = .ok (.if_icmp .ne 5, 3) := by decide +kernel
theorem dL_act_382 : decode cL_act 382 = .ok (.iconst 1, 1) := by decide +kernel
theorem dL_act_383 : decode cL_act 383 = .ok (.ireturn, 1) := by decide +kernel
theorem dL_act_384 : decode cL_act 384 = .ok (.aload_n 1, 1) := by decide +kernel
theorem dL_act_385 : decode cL_act 385 = .ok (.iload 6, 2) := by decide +kernel
theorem dL_act_387 : decode cL_act 387 = .ok (.iload 8, 2) := by decide +kernel
theorem dL_act_389 : decode cL_act 389 = .ok (.invokevirtual 37, 3) := by decide +kernel
theorem dL_act_392 : decode cL_act 392 = .ok (.istore 5, 2) := by decide +kernel
theorem dL_act_394 : decode cL_act 394 = .ok (.iload 5, 2) := by decide +kernel
theorem dL_act_396 : decode cL_act 396 = .ok (.ifCond .eq 11, 3) := by decide +kernel
theorem dL_act_399 : decode cL_act 399 = .ok (.aload_n 1, 1) := by decide +kernel
theorem dL_act_400 : decode cL_act 400 = .ok (.iload 6, 2) := by decide +kernel
theorem dL_act_402 : decode cL_act 402 = .ok (.iload 8, 2) := by decide +kernel
theorem dL_act_404 : decode cL_act 404 = .ok (.invokevirtual 41, 3) := by decide +kernel
theorem dL_act_407 : decode cL_act 407 = .ok (.aload_n 0, 1) := by decide +kernel
theorem dL_act_408 : decode cL_act 408 = .ok (.iload 6, 2) := by decide +kernel
theorem dL_act_410 : decode cL_act 410 = .ok (.iload 8, 2) := by decide +kernel
theorem dL_act_412 : decode cL_act 412 = .ok (.invokevirtual 45, 3) := by decide +kernel
theorem dL_act_415 : decode cL_act 415 = .ok (.aload_n 1, 1) := by decide +kernel
theorem dL_act_416 : decode cL_act 416 = .ok (.getfield 9, 3) := by decide +kernel
theorem dL_act_419 : decode cL_act 419 = .ok (.iload 8, 2) := by decide +kernel
theorem dL_act_421 : decode cL_act 421 = .ok (.aaload, 1) := by decide +kernel
theorem dL_act_422 : decode cL_act 422 = .ok (.iconst 1, 1) := by decide +kernel
theorem dL_act_423 : decode cL_act 423 = .ok (.iaload, 1) := by decide +kernel
theorem dL_act_424 : decode cL_act 424 = .ok (.if_icmp .ne 12, 3) := by decide +kernel
theorem dL_act_427 : decode cL_act 427 = .ok (.iload 5, 2) := by decide +kernel
theorem dL_act_429 : decode cL_act 429 = .ok (.ifCond .eq 7, 3) := by decide +kernel
theorem dL_act_432 : decode cL_act 432 = .ok (.iconst 1, 1) := by decide +kernel
theorem dL_act_433 : decode cL_act 433 = .ok (.goto 4, 3) := by decide +kernel
theorem dL_act_436 : decode cL_act 436 = .ok (.iconst 0, 1) := by decide +kernel
theorem dL_act_437 : decode cL_act 437 = .ok (.ireturn, 1) := by decide +kernel
theorem dL_act_438 : decode cL_act 438 = .ok (.aload 7, 2) := by decide +kernel
theorem dL_act_440 : decode cL_act 440 = .ok (.iconst 4, 1) := by decide +kernel
theorem dL_act_441 : decode cL_act 441 = .ok (.iaload, 1) := by decide +kernel
theorem dL_act_442 : decode cL_act 442 = .ok (.ifCond .lt 16, 3) := by decide +kernel
theorem dL_act_445 : decode cL_act 445 = .ok (.aload 7, 2) := by decide +kernel
theorem dL_act_447 : decode cL_act 447 = .ok (.iconst 4, 1) := by decide +kernel
theorem dL_act_448 : decode cL_act 448 = .ok (.iaload, 1) := by decide +kernel
theorem dL_act_449 : decode cL_act 449 = .ok (.iload 6, 2) := by decide +kernel
theorem dL_act_451 : decode cL_act 451 = .ok (.if_icmp .eq 7, 3) := by decide +kernel
theorem dL_act_454 : decode cL_act 454 = .ok (.iconst 1, 1) := by decide +kernel
theorem dL_act_455 : decode cL_act 455 = .ok (.goto 4, 3) := by decide +kernel
theorem dL_act_458 : decode cL_act 458 = .ok (.iconst 0, 1) := by decide +kernel
theorem dL_act_459 : decode cL_act 459 = .ok (.istore 5, 2) := by decide +kernel
theorem dL_act_461 : decode cL_act 461 = .ok (.iload 5, 2) := by decide +kernel
theorem dL_act_463 : decode cL_act 463 = .ok (.ifCond .eq 12, 3) := by decide +kernel
theorem dL_act_466 : decode cL_act 466 = .ok (.aload_n 1, 1) := by decide +kernel
theorem dL_act_467 : decode cL_act 467 = .ok (.iload 6, 2) := by decide +kernel
theorem dL_act_469 : decode cL_act 469 = .ok (.invokevirtual 47, 3) := by decide +kernel
theorem dL_act_472 : decode cL_act 472 = .ok (.goto 5, 3) := by decide +kernel
theorem dL_act_475 : decode cL_act 475 = .ok (.bipush (-2), 2) := by decide +kernel
theorem dL_act_477 : decode cL_act 477 = .ok (.istore 8, 2) := by decide +kernel
theorem dL_act_479 : decode cL_act 479 = .ok (.aload_n 0, 1) := by decide +kernel
theorem dL_act_480 : decode cL_act 480 = .ok (.iload 6, 2) := by decide +kernel
theorem dL_act_482 : decode cL_act 482 = .ok (.invokevirtual 50, 3) := by decide +kernel
theorem dL_act_485 : decode cL_act 485 = .ok (.iload 8, 2) := by decide +kernel
theorem dL_act_487 : decode cL_act 487 = .ok (.if_icmp .ne 12, 3) := by decide +kernel
theorem dL_act_490 : decode cL_act 490 = .ok (.iload 5, 2) := by decide +kernel
theorem dL_act_492 : decode cL_act 492 = .ok (.ifCond .eq 7, 3) := by decide +kernel
theorem dL_act_495 : decode cL_act 495 = .ok (.iconst 1, 1) := by decide +kernel
theorem dL_act_496 : decode cL_act 496 = .ok (.goto 4, 3) := by decide +kernel
theorem dL_act_499 : decode cL_act 499 = .ok (.iconst 0, 1) := by decide +kernel
theorem dL_act_500 : decode cL_act 500 = .ok (.ireturn, 1) := by decide +kernel
theorem dL_act_501 : decode cL_act 501 = .ok (.aload 7, 2) := by decide +kernel
theorem dL_act_503 : decode cL_act 503 = .ok (.bipush 7, 2) := by decide +kernel
theorem dL_act_505 : decode cL_act 505 = .ok (.iaload, 1) := by decide +kernel
theorem dL_act_506 : decode cL_act 506 = .ok (.iconst 3, 1) := by decide +kernel
theorem dL_act_507 : decode cL_act 507 = .ok (.if_icmp .ge 7, 3) := by decide +kernel
theorem dL_act_510 : decode cL_act 510 = .ok (.iconst 1, 1) := by decide +kernel
theorem dL_act_511 : decode cL_act 511 = .ok (.goto 4, 3) := by decide +kernel
theorem dL_act_514 : decode cL_act 514 = .ok (.iconst 0, 1) := by decide +kernel
theorem dL_act_515 : decode cL_act 515 = .ok (.istore 5, 2) := by decide +kernel
theorem dL_act_517 : decode cL_act 517 = .ok (.iload 5, 2) := by decide +kernel
theorem dL_act_519 : decode cL_act 519 = .ok (.ifCond .eq 25, 3) := by decide +kernel
theorem dL_act_522 : decode cL_act 522 = .ok (.aload 7, 2) := by decide +kernel
theorem dL_act_524 : decode cL_act 524 = .ok (.iconst 5, 1) := by decide +kernel
theorem dL_act_525 : decode cL_act 525 = .ok (.aload_n 1, 1) := by decide +kernel
theorem dL_act_526 : decode cL_act 526 = .ok (.iload 6, 2) := by decide +kernel
theorem dL_act_528 : decode cL_act 528 = .ok (.invokevirtual 51, 3) := by decide +kernel
theorem dL_act_531 : decode cL_act 531 = .ok (.iastore, 1) := by decide +kernel
theorem dL_act_532 : decode cL_act 532 = .ok (.aload 7, 2) := by decide +kernel
theorem dL_act_534 : decode cL_act 534 = .ok (.bipush 6, 2) := by decide +kernel
theorem dL_act_536 : decode cL_act 536 = .ok (.aload_n 1, 1) := by decide +kernel
theorem dL_act_537 : decode cL_act 537 = .ok (.getfield 54, 3) := by decide +kernel
theorem dL_act_540 : decode cL_act 540 = .ok (.bipush 24, 2) := by decide +kernel
theorem dL_act_542 : decode cL_act 542 = .ok (.irem, 1) := by decide +kernel
theorem dL_act_543 : decode cL_act 543 = .ok (.iastore, 1) := by decide +kernel
theorem dL_act_544 : decode cL_act 544 = .ok (.aload_n 0, 1) := by decide +kernel
theorem dL_act_545 : decode cL_act 545 = .ok (.iload 6, 2) := by decide +kernel
theorem dL_act_547 : decode cL_act 547 = .ok (.invokevirtual 58, 3) := by decide +kernel
theorem dL_act_550 : decode cL_act 550 = .ok (.aload 7, 2) := by decide +kernel
theorem dL_act_552 : decode cL_act 552 = .ok (.iconst 5, 1) := by decide +kernel
theorem dL_act_553 : decode cL_act 553 = .ok (.iaload, 1) := by decide +kernel
theorem dL_act_554 : decode cL_act 554 = .ok (.if_icmp .ne 12, 3) := by decide +kernel
theorem dL_act_557 : decode cL_act 557 = .ok (.iload 5, 2) := by decide +kernel
theorem dL_act_559 : decode cL_act 559 = .ok (.ifCond .eq 7, 3) := by decide +kernel
theorem dL_act_562 : decode cL_act 562 = .ok (.iconst 1, 1) := by decide +kernel
theorem dL_act_563 : decode cL_act 563 = .ok (.goto 4, 3) := by decide +kernel
theorem dL_act_566 : decode cL_act 566 = .ok (.iconst 0, 1) := by decide +kernel
theorem dL_act_567 : decode cL_act 567 = .ok (.ireturn, 1) := by decide +kernel
theorem dL_act_568 : decode cL_act 568 = .ok (.iconst 1, 1) := by decide +kernel
theorem dL_act_569 : decode cL_act 569 = .ok (.iload_n 2, 1) := by decide +kernel
theorem dL_act_570 : decode cL_act 570 = .ok (.iconst 4, 1) := by decide +kernel
theorem dL_act_571 : decode cL_act 571 = .ok (.ishr, 1) := by decide +kernel
theorem dL_act_572 : decode cL_act 572 = .ok (.iload_n 2, 1) := by decide +kernel
theorem dL_act_573 : decode cL_act 573 = .ok (.bipush 7, 2) := by decide +kernel
theorem dL_act_575 : decode cL_act 575 = .ok (.ishr, 1) := by decide +kernel
theorem dL_act_576 : decode cL_act 576 = .ok (.bipush 6, 2) := by decide +kernel
theorem dL_act_578 : decode cL_act 578 = .ok (.invokestatic 15, 3) := by decide +kernel
theorem dL_act_581 : decode cL_act 581 = .ok (.ifCond .ne 8, 3) := by decide +kernel
theorem dL_act_584 : decode cL_act 584 = .ok (.bipush 72, 2) := by decide +kernel
theorem dL_act_586 : decode cL_act 586 = .ok (.goto 5, 3) := by decide +kernel
theorem dL_act_589 : decode cL_act 589 = .ok (.bipush 7, 2) := by decide +kernel
theorem dL_act_591 : decode cL_act 591 = .ok (.invokestatic 15, 3) := by decide +kernel
theorem dL_act_594 : decode cL_act 594 = .ok (.iadd, 1) := by decide +kernel
theorem dL_act_595 : decode cL_act 595 = .ok (.istore 8, 2) := by decide +kernel
theorem dL_act_597 : decode cL_act 597 = .ok (.aload_n 0, 1) := by decide +kernel
theorem dL_act_598 : decode cL_act 598 = .ok (.iload 8, 2) := by decide +kernel
theorem dL_act_600 : decode cL_act 600 = .ok (.invokevirtual 61, 3) := by decide +kernel
theorem dL_act_603 : decode cL_act 603 = .ok (.aload_n 1, 1) := by decide +kernel
theorem dL_act_604 : decode cL_act 604 = .ok (.iload 8, 2) := by decide +kernel
theorem dL_act_606 : decode cL_act 606 = .ok (.invokevirtual 64, 3) := by decide +kernel
theorem dL_act_609 : decode cL_act 609 = .ok (.if_icmp .ne 7, 3) := by decide +kernel
theorem dL_act_612 : decode cL_act 612 = .ok (.iconst 1, 1) := by decide +kernel
theorem dL_act_613 : decode cL_act 613 = .ok (.goto 4, 3) := by decide +kernel
theorem dL_act_616 : decode cL_act 616 = .ok (.iconst 0, 1) := by decide +kernel
theorem dL_act_617 : decode cL_act 617 = .ok (.ireturn, 1) := by decide +kernel
theorem dL_act_618 : decode cL_act 618 = .ok (.astore 6, 2) := by decide +kernel
theorem dL_act_620 : decode cL_act 620 = .ok (.iload 5, 2) := by decide +kernel
theorem dL_act_622 : decode cL_act 622 = .ok (.ifCond .ne 7, 3) := by decide +kernel
theorem dL_act_625 : decode cL_act 625 = .ok (.iconst 1, 1) := by decide +kernel
theorem dL_act_626 : decode cL_act 626 = .ok (.goto 4, 3) := by decide +kernel
theorem dL_act_629 : decode cL_act 629 = .ok (.iconst 0, 1) := by decide +kernel
theorem dL_act_630 : decode cL_act 630 = .ok (.ireturn, 1) := by decide +kernel
set_option maxRecDepth 20000 in
theorem ggL_build_X2_init : GoodIn wsL_build wsX2_init := goodIn_r _ [6, 7, 8, 9, 10, 11, 277, 278, 279, 280] (by decide +kernel) (by decide +kernel)
set_option maxRecDepth 20000 in
theorem gL_build_X2_init_n67 : GoodIn wsL_build (wsX2_init) := ggL_build_X2_init
set_option maxRecDepth 20000 in
theorem ggL_build_L_cell : GoodIn wsL_build wsL_cell := goodIn_r _ [15, 16] (by decide +kernel) (by decide +kernel)
set_option maxRecDepth 20000 in
theorem gL_build_L_cell : GoodIn wsL_build (va_wsS RL 68 yL_cell wsL_cell) := goodIn_app (goodIn_of _ (by decide +kernel)) ggL_build_L_cell
set_option maxRecDepth 20000 in
theorem ggL_build_L_below : GoodIn wsL_build wsL_below := goodIn_r _ [19, 20] (by decide +kernel) (by decide +kernel)
set_option maxRecDepth 20000 in
theorem gL_build_L_below : GoodIn wsL_build (va_wsS RL 15 yL_below wsL_below) := goodIn_app (goodIn_of _ (by decide +kernel)) ggL_build_L_below
theorem dL_build_0 : decode cL_build 0 = .ok (.new 10, 3) := by decide +kernel
theorem dL_build_3 : decode cL_build 3 = .ok (.dup, 1) := by decide +kernel
theorem dL_build_4 : decode cL_build 4 = .ok (.invokespecial 67, 3) := by decide +kernel
theorem dL_build_7 : decode cL_build 7 = .ok (.astore_n 2, 1) := by decide +kernel
theorem dL_build_8 : decode cL_build 8 = .ok (.iconst 1, 1) := by decide +kernel
theorem dL_build_9 : decode cL_build 9 = .ok (.aload_n 1, 1) := by decide +kernel
theorem dL_build_10 : decode cL_build 10 = .ok (.iconst 0, 1) := by decide +kernel
theorem dL_build_11 : decode cL_build 11 = .ok (.invokestatic 68, 3) := by decide +kernel
theorem dL_build_14 : decode cL_build 14 = .ok (.bipush 10, 2) := by decide +kernel
theorem dL_build_16 : decode cL_build 16 = .ok (.invokestatic 15, 3) := by decide +kernel
theorem dL_build_19 : decode cL_build 19 = .ok (.iadd, 1) := by decide +kernel
theorem dL_build_20 : decode cL_build 20 = .ok (.istore_n 3, 1) := by decide +kernel
theorem dL_build_21 : decode cL_build 21 = .ok (.iconst 0, 1) := by decide +kernel
theorem dL_build_22 : decode cL_build 22 = .ok (.istore 4, 2) := by decide +kernel
theorem dL_build_24 : decode cL_build 24 = .ok (.iload 4, 2) := by decide +kernel
theorem dL_build_26 : decode cL_build 26 = .ok (.iload_n 3, 1) := by decide +kernel
theorem dL_build_27 : decode cL_build 27 = .ok (.if_icmp .ge 35, 3) := by decide +kernel
theorem dL_build_30 : decode cL_build 30 = .ok (.aload_n 0, 1) := by decide +kernel
theorem dL_build_31 : decode cL_build 31 = .ok (.aload_n 2, 1) := by decide +kernel
theorem dL_build_32 : decode cL_build 32 = .ok (.bipush 15, 2) := by decide +kernel
theorem dL_build_34 : decode cL_build 34 = .ok (.aload_n 1, 1) := by decide +kernel
theorem dL_build_35 : decode cL_build 35 = .ok (.iconst 1, 1) := by decide +kernel
theorem dL_build_36 : decode cL_build 36 = .ok (.iload 4, 2) := by decide +kernel
theorem dL_build_38 : decode cL_build 38 = .ok (.iadd, 1) := by decide +kernel
theorem dL_build_39 : decode cL_build 39 = .ok (.invokestatic 68, 3) := by decide +kernel
theorem dL_build_42 : decode cL_build 42 = .ok (.iconst 5, 1) := by decide +kernel
theorem dL_build_43 : decode cL_build 43 = .ok (.ishr, 1) := by decide +kernel
theorem dL_build_44 : decode cL_build 44 = .ok (.ldc 72, 2) := by decide +kernel
theorem dL_build_46 : decode cL_build 46 = .ok (.iand, 1) := by decide +kernel
theorem dL_build_47 : decode cL_build 47 = .ok (.imul, 1) := by decide +kernel
theorem dL_build_48 : decode cL_build 48 = .ok (.invokestatic 73, 3) := by decide +kernel
theorem dL_build_51 : decode cL_build 51 = .ok (.ifCond .ne 5, 3) := by decide +kernel
theorem dL_build_54 : decode cL_build 54 = .ok (.aconst_null, 1) := by decide +kernel
theorem dL_build_55 : decode cL_build 55 = .ok (.areturn, 1) := by decide +kernel
theorem dL_build_56 : decode cL_build 56 = .ok (.iinc 4 1, 3) := by decide +kernel
theorem dL_build_59 : decode cL_build 59 = .ok (.goto (-35), 3) := by decide +kernel
theorem dL_build_62 : decode cL_build 62 = .ok (.iconst 0, 1) := by decide +kernel
theorem dL_build_63 : decode cL_build 63 = .ok (.istore 4, 2) := by decide +kernel
theorem dL_build_65 : decode cL_build 65 = .ok (.iload 4, 2) := by decide +kernel
theorem dL_build_67 : decode cL_build 67 = .ok (.bipush 14, 2) := by decide +kernel
theorem dL_build_69 : decode cL_build 69 = .ok (.if_icmp .ge 33, 3) := by decide +kernel
theorem dL_build_72 : decode cL_build 72 = .ok (.aload_n 0, 1) := by decide +kernel
theorem dL_build_73 : decode cL_build 73 = .ok (.aload_n 2, 1) := by decide +kernel
theorem dL_build_74 : decode cL_build 74 = .ok (.aload_n 1, 1) := by decide +kernel
theorem dL_build_75 : decode cL_build 75 = .ok (.iload 4, 2) := by decide +kernel
theorem dL_build_77 : decode cL_build 77 = .ok (.invokestatic 68, 3) := by decide +kernel
theorem dL_build_80 : decode cL_build 80 = .ok (.iconst 2, 1) := by decide +kernel
theorem dL_build_81 : decode cL_build 81 = .ok (.ishr, 1) := by decide +kernel
theorem dL_build_82 : decode cL_build 82 = .ok (.bipush 41, 2) := by decide +kernel
theorem dL_build_84 : decode cL_build 84 = .ok (.iload 4, 2) := by decide +kernel
theorem dL_build_86 : decode cL_build 86 = .ok (.imul, 1) := by decide +kernel
theorem dL_build_87 : decode cL_build 87 = .ok (.iadd, 1) := by decide +kernel
theorem dL_build_88 : decode cL_build 88 = .ok (.invokestatic 73, 3) := by decide +kernel
theorem dL_build_91 : decode cL_build 91 = .ok (.ifCond .ne 5, 3) := by decide +kernel
theorem dL_build_94 : decode cL_build 94 = .ok (.aconst_null, 1) := by decide +kernel
theorem dL_build_95 : decode cL_build 95 = .ok (.areturn, 1) := by decide +kernel
theorem dL_build_96 : decode cL_build 96 = .ok (.iinc 4 1, 3) := by decide +kernel
theorem dL_build_99 : decode cL_build 99 = .ok (.goto (-34), 3) := by decide +kernel
theorem dL_build_102 : decode cL_build 102 = .ok (.aload_n 2, 1) := by decide +kernel
theorem dL_build_103 : decode cL_build 103 = .ok (.areturn, 1) := by decide +kernel
set_option maxRecDepth 20000 in
theorem ggL_with_X2_copy : GoodIn wsL_with wsX2_copy := goodIn_r _ [5, 6, 7, 4, 8, 9, 10, 11, 12, 13, 14, 15, 16, 17, 18, 19, 20, 21, 22, 23, 24, 25, 26, 42, 43, 44, 45] (by decide +kernel) (by decide +kernel)
set_option maxRecDepth 20000 in
theorem gL_with_X2_copy : GoodIn wsL_with (wsV RL 132 RX2 yX2_copy wsX2_copy) := goodIn_app (goodIn_of _ (by decide +kernel)) ggL_with_X2_copy
set_option maxRecDepth 20000 in
theorem ggL_with_X2_borrow : GoodIn wsL_with wsX2_borrow := goodIn_r _ [30, 11, 42, 43, 44, 45] (by decide +kernel) (by decide +kernel)
set_option maxRecDepth 20000 in
theorem gL_with_X2_borrow : GoodIn wsL_with (wsV RL 41 RX2 yX2_borrow wsX2_borrow) := goodIn_app (goodIn_of _ (by decide +kernel)) ggL_with_X2_borrow
set_option maxRecDepth 20000 in
theorem ggL_with_X2_shadow : GoodIn wsL_with wsX2_shadow := goodIn_r _ [34, 11, 8, 35, 36, 37, 4, 38, 39, 40, 41, 42, 43, 44, 45] (by decide +kernel) (by decide +kernel)
set_option maxRecDepth 20000 in
theorem gL_with_X2_shadow : GoodIn wsL_with (wsV RL 51 RX2 yX2_shadow wsX2_shadow) := goodIn_app (goodIn_of _ (by decide +kernel)) ggL_with_X2_shadow
theorem dL_with_0 : decode cL_with 0 = .ok (.aload_n 0, 1) := by decide +kernel
theorem dL_with_1 : decode cL_with 1 = .ok (.invokevirtual 132, 3) := by decide +kernel
theorem dL_with_4 : decode cL_with 4 = .ok (.astore_n 3, 1) := by decide +kernel
theorem dL_with_5 : decode cL_with 5 = .ok (.aload_n 3, 1) := by decide +kernel
theorem dL_with_6 : decode cL_with 6 = .ok (.iload_n 1, 1) := by decide +kernel
theorem dL_with_7 : decode cL_with 7 = .ok (.iload_n 2, 1) := by decide +kernel
theorem dL_with_8 : decode cL_with 8 = .ok (.invokevirtual 41, 3) := by decide +kernel
theorem dL_with_11 : decode cL_with 11 = .ok (.aload_n 3, 1) := by decide +kernel
theorem dL_with_12 : decode cL_with 12 = .ok (.iload_n 1, 1) := by decide +kernel
theorem dL_with_13 : decode cL_with 13 = .ok (.invokevirtual 51, 3) := by decide +kernel
theorem dL_with_16 : decode cL_with 16 = .ok (.ireturn, 1) := by decide +kernel
