theorem inlX0 : ∀ w ∈ wsX00, w ∈ wsL_law := fun _ h => List.mem_append_left _ (List.mem_append_left _ (List.mem_append_left _ (List.mem_append_left _ (List.mem_append_right _ h))))
theorem inX0 : ∀ w ∈ wsX00, w ∈ lw_tbl := fun w h => wsL_law_in w (inlX0 w h)
theorem inlX1 : ∀ w ∈ wsX10, w ∈ wsL_law := fun _ h => List.mem_append_left _ (List.mem_append_left _ (List.mem_append_left _ (List.mem_append_left _ (List.mem_append_left _ (List.mem_append_left _ (List.mem_append_left _ (List.mem_append_right _ h)))))))
theorem inX1 : ∀ w ∈ wsX10, w ∈ lw_tbl := fun w h => wsL_law_in w (inlX1 w h)
theorem inlX2 : ∀ w ∈ wsX20, w ∈ wsL_law := fun _ h => List.mem_append_left _ (List.mem_append_left _ (List.mem_append_left _ (List.mem_append_left _ (List.mem_append_left _ (List.mem_append_left _ (List.mem_append_right _ h))))))
theorem inX2 : ∀ w ∈ wsX20, w ∈ lw_tbl := fun w h => wsL_law_in w (inlX2 w h)
theorem inJx145de : ∀ w ∈ wsJx145de0, w ∈ lw_tbl := by decide +kernel
theorem inJx8e188 : ∀ w ∈ wsJx8e1880, w ∈ lw_tbl := by decide +kernel
theorem inJxab1ab : ∀ w ∈ wsJxab1ab0, w ∈ lw_tbl := by decide +kernel
theorem inJ9 : ∀ w ∈ wsJ90, w ∈ lw_tbl := by decide +kernel
theorem inJ0 : ∀ w ∈ wsJ00, w ∈ lw_tbl := by decide +kernel
theorem inJ10 : ∀ w ∈ wsJ100, w ∈ lw_tbl := by decide +kernel
theorem inJxa1e45 : ∀ w ∈ wsJxa1e450, w ∈ lw_tbl := by decide +kernel
theorem inJxc12de : ∀ w ∈ wsJxc12de0, w ∈ lw_tbl := by decide +kernel
theorem inlJx4a65c : ∀ w ∈ wsJx4a65c0, w ∈ wsL_law := fun _ h => List.mem_append_left _ (List.mem_append_left _ (List.mem_append_left _ (List.mem_append_left _ (List.mem_append_left _ (List.mem_append_right _ h)))))
theorem inJx4a65c : ∀ w ∈ wsJx4a65c0, w ∈ lw_tbl := fun w h => wsL_law_in w (inlJx4a65c w h)
theorem inJ7 : ∀ w ∈ wsJ70, w ∈ lw_tbl := by decide +kernel
theorem inJx5ef63 : ∀ w ∈ wsJx5ef630, w ∈ lw_tbl := by decide +kernel
theorem inJxbd725 : ∀ w ∈ wsJxbd7250, w ∈ lw_tbl := by decide +kernel
theorem inJ15 : ∀ w ∈ wsJ150, w ∈ lw_tbl := by decide +kernel
theorem inJxf0a74 : ∀ w ∈ wsJxf0a740, w ∈ lw_tbl := by decide +kernel
theorem inJxa66e6 : ∀ w ∈ wsJxa66e60, w ∈ lw_tbl := by decide +kernel
theorem inJ8 : ∀ w ∈ wsJ80, w ∈ lw_tbl := by decide +kernel
theorem inJ3 : ∀ w ∈ wsJ30, w ∈ lw_tbl := by decide +kernel
set_option maxRecDepth 20000 in
theorem ggL_law_X1_init : GoodIn wsL_law wsX1_init := goodIn_r _ [9, 10, 11, 12, 13, 14, 15, 16, 17, 18, 19, 20, 21, 22, 23, 24, 25, 26, 27, 28, 29, 30, 31, 32, 33, 34, 711, 712, 713, 694, 695, 696, 697] (by decide +kernel) (by decide +kernel)
set_option maxRecDepth 20000 in
theorem gL_law_X1_init : GoodIn wsL_law (wsX1_init) := ggL_law_X1_init
set_option maxRecDepth 20000 in
theorem ggL_law_X2_init : GoodIn wsL_law wsX2_init := goodIn_r _ [37, 38, 11, 12, 39, 40, 41, 42, 43, 44, 45, 46, 47, 698, 699, 700, 701, 702, 703, 704, 705, 706, 707, 708, 709, 710] (by decide +kernel) (by decide +kernel)
set_option maxRecDepth 20000 in
theorem gL_law_X2_init : GoodIn wsL_law (wsX2_init) := ggL_law_X2_init
set_option maxRecDepth 20000 in
theorem ggL_law_L_join : GoodIn wsL_law wsL_join := goodIn_ca (goodIn_ca (goodIn_r _ [51, 52, 53, 54, 55, 56, 2, 57, 58, 59, 60, 61, 16, 62, 63, 64, 65, 66, 67, 15, 68, 69, 70, 71, 72, 11, 12, 73, 74, 75, 76, 77, 78, 79, 80, 81, 82, 83, 84, 85, 86, 87, 88, 89, 90, 24, 91, 92, 93, 94, 95, 96, 97, 98, 99, 100, 101, 102, 23, 103, 104, 105, 106, 107, 108, 109, 110, 111, 112, 113, 114, 115, 116, 117, 118, 119, 120, 121, 122, 123, 124, 125, 126, 127, 128, 129, 130, 131, 132, 133, 134, 135, 136, 694, 695, 696, 697, 714, 715, 716, 717, 718, 719, 720, 721, 722, 711, 712, 713] (by decide +kernel) (by decide +kernel)) (goodIn_sub (fun _ h => List.mem_append_left _ (List.mem_append_left _ (List.mem_append_right _ h))) (by decide +kernel))) (goodIn_sub (fun _ h => List.mem_append_left _ (List.mem_append_right _ h)) (by decide +kernel))
set_option maxRecDepth 20000 in
theorem gL_law_L_join : GoodIn wsL_law (va_wsS RL 82 yL_join wsL_join) := goodIn_app (goodIn_of _ (by decide +kernel)) ggL_law_L_join
set_option maxRecDepth 20000 in
theorem ggL_law_X2_join : GoodIn wsL_law wsX2_join := goodIn_r _ [140, 141, 142, 40, 41, 42, 44, 45, 143, 144, 5, 145, 146, 147, 148, 149, 150, 151, 152, 153, 698, 699, 700, 701, 702, 703, 704, 705, 706, 707, 708, 709, 710] (by decide +kernel) (by decide +kernel)
set_option maxRecDepth 20000 in
theorem gL_law_X2_join : GoodIn wsL_law (wsV RL 87 RX2 yX2_join wsX2_join) := goodIn_app (goodIn_of _ (by decide +kernel)) ggL_law_X2_join
set_option maxRecDepth 20000 in
theorem ggL_law_X2_thrown : GoodIn wsL_law wsX2_thrown := goodIn_r _ [157, 141, 698, 699, 700, 701, 702, 703, 704, 705, 706, 707, 708, 709, 710] (by decide +kernel) (by decide +kernel)
set_option maxRecDepth 20000 in
theorem gL_law_X2_thrown : GoodIn wsL_law (wsV RL 88 RX2 yX2_thrown wsX2_thrown) := goodIn_app (goodIn_of _ (by decide +kernel)) ggL_law_X2_thrown
set_option maxRecDepth 20000 in
theorem ggL_law_L_buyLamp : GoodIn wsL_law wsL_buyLamp := goodIn_ca (goodIn_ca (goodIn_ca (goodIn_r _ [160, 161, 52, 53, 162, 163, 164, 2, 165, 58, 59, 60, 61, 166, 167, 168, 169, 170, 171, 16, 172, 65, 66, 67, 15, 68, 69, 173, 174, 175, 176, 177, 178, 179, 180, 181, 182, 183, 184, 185, 186, 187, 188, 24, 714, 715, 716, 717, 718, 719, 720, 721, 722, 694, 695, 696, 697, 711, 712, 713] (by decide +kernel) (by decide +kernel)) (goodIn_sub (fun _ h => List.mem_append_left _ (List.mem_append_left _ (List.mem_append_right _ h))) (by decide +kernel))) (goodIn_sub (fun _ h => List.mem_append_left _ (List.mem_append_right _ h)) (by decide +kernel))) (goodIn_sub (fun _ h => List.mem_append_right _ h) (by decide +kernel))
set_option maxRecDepth 20000 in
theorem gL_law_L_buyLamp : GoodIn wsL_law (va_wsS RL 92 yL_buyLamp wsL_buyLamp) := goodIn_app (goodIn_of _ (by decide +kernel)) ggL_law_L_buyLamp
set_option maxRecDepth 20000 in
theorem ggL_law_X2_buyLamp : GoodIn wsL_law wsX2_buyLamp := goodIn_r _ [192, 141, 43, 42, 193, 194, 195, 5, 196, 142, 143, 144, 145, 146, 147, 148, 149, 698, 699, 700, 701, 702, 703, 704, 705, 706, 707, 708, 709, 710] (by decide +kernel) (by decide +kernel)
set_option maxRecDepth 20000 in
theorem gL_law_X2_buyLamp : GoodIn wsL_law (wsV RL 94 RX2 yX2_buyLamp wsX2_buyLamp) := goodIn_app (goodIn_of _ (by decide +kernel)) ggL_law_X2_buyLamp
set_option maxRecDepth 20000 in
theorem ggL_law_L_dropLamp : GoodIn wsL_law wsL_dropLamp := goodIn_ca (goodIn_ca (goodIn_r _ [199, 161, 53, 200, 201, 202, 2, 203, 60, 61, 166, 167, 168, 169, 170, 171, 16, 172, 65, 66, 67, 15, 68, 69, 173, 174, 175, 176, 177, 178, 179, 180, 181, 182, 183, 184, 185, 186, 187, 188, 24, 714, 715, 716, 717, 718, 719, 720, 721, 722, 694, 695, 696, 697, 711, 712, 713] (by decide +kernel) (by decide +kernel)) (goodIn_sub (fun _ h => List.mem_append_left _ (List.mem_append_right _ h)) (by decide +kernel))) (goodIn_sub (fun _ h => List.mem_append_right _ h) (by decide +kernel))
set_option maxRecDepth 20000 in
theorem gL_law_L_dropLamp : GoodIn wsL_law (va_wsS RL 95 yL_dropLamp wsL_dropLamp) := goodIn_app (goodIn_of _ (by decide +kernel)) ggL_law_L_dropLamp
set_option maxRecDepth 20000 in
theorem ggL_law_X2_dropLamp : GoodIn wsL_law wsX2_dropLamp := goodIn_r _ [207, 141, 43, 193, 194, 195, 5, 196, 142, 143, 144, 145, 146, 147, 148, 149, 698, 699, 700, 701, 702, 703, 704, 705, 706, 707, 708, 709, 710] (by decide +kernel) (by decide +kernel)
set_option maxRecDepth 20000 in
theorem gL_law_X2_dropLamp : GoodIn wsL_law (wsV RL 98 RX2 yX2_dropLamp wsX2_dropLamp) := goodIn_app (goodIn_of _ (by decide +kernel)) ggL_law_X2_dropLamp
set_option maxRecDepth 20000 in
theorem ggL_law_L_borrow : GoodIn wsL_law wsL_borrow := goodIn_ca (goodIn_ca (goodIn_ca (goodIn_r _ [210, 161, 52, 53, 211, 212, 213, 2, 214, 58, 59, 60, 61, 166, 167, 168, 169, 170, 171, 16, 172, 65, 66, 67, 15, 68, 69, 173, 174, 175, 176, 177, 178, 179, 180, 181, 182, 183, 184, 185, 186, 187, 188, 24, 215, 216, 217, 218, 64, 219, 220, 75, 221, 222, 223, 714, 715, 716, 717, 718, 719, 720, 721, 722, 694, 695, 696, 697, 711, 712, 713] (by decide +kernel) (by decide +kernel)) (goodIn_sub (fun _ h => List.mem_append_left _ (List.mem_append_left _ (List.mem_append_right _ h))) (by decide +kernel))) (goodIn_sub (fun _ h => List.mem_append_left _ (List.mem_append_right _ h)) (by decide +kernel))) (goodIn_sub (fun _ h => List.mem_append_right _ h) (by decide +kernel))
set_option maxRecDepth 20000 in
theorem gL_law_L_borrow : GoodIn wsL_law (va_wsS RL 99 yL_borrow wsL_borrow) := goodIn_app (goodIn_of _ (by decide +kernel)) ggL_law_L_borrow
set_option maxRecDepth 20000 in
theorem ggL_law_X2_borrow : GoodIn wsL_law wsX2_borrow := goodIn_r _ [227, 141, 44, 41, 193, 194, 195, 5, 196, 142, 143, 144, 145, 146, 147, 148, 149, 228, 229, 230, 231, 232, 233, 234, 235, 698, 699, 700, 701, 702, 703, 704, 705, 706, 707, 708, 709, 710] (by decide +kernel) (by decide +kernel)
set_option maxRecDepth 20000 in
theorem gL_law_X2_borrow : GoodIn wsL_law (wsV RL 101 RX2 yX2_borrow wsX2_borrow) := goodIn_app (goodIn_of _ (by decide +kernel)) ggL_law_X2_borrow
set_option maxRecDepth 20000 in
theorem ggL_law_L_giveBack : GoodIn wsL_law wsL_giveBack := goodIn_ca (goodIn_ca (goodIn_r _ [238, 161, 53, 239, 240, 241, 2, 242, 60, 61, 166, 167, 168, 169, 170, 171, 16, 172, 65, 66, 67, 15, 68, 69, 173, 174, 175, 176, 177, 178, 179, 180, 181, 182, 183, 184, 185, 186, 187, 188, 24, 221, 64, 222, 223, 75, 82, 83, 84, 81, 243, 244, 245, 246, 714, 715, 716, 717, 718, 719, 720, 721, 722, 694, 695, 696, 697, 711, 712, 713] (by decide +kernel) (by decide +kernel)) (goodIn_sub (fun _ h => List.mem_append_left _ (List.mem_append_right _ h)) (by decide +kernel))) (goodIn_sub (fun _ h => List.mem_append_right _ h) (by decide +kernel))
set_option maxRecDepth 20000 in
theorem gL_law_L_giveBack : GoodIn wsL_law (va_wsS RL 102 yL_giveBack wsL_giveBack) := goodIn_app (goodIn_of _ (by decide +kernel)) ggL_law_L_giveBack
set_option maxRecDepth 20000 in
theorem ggL_law_X2_giveBack : GoodIn wsL_law wsX2_giveBack := goodIn_r _ [250, 141, 44, 193, 194, 195, 5, 196, 142, 143, 144, 145, 146, 147, 148, 149, 232, 233, 234, 235, 251, 252, 253, 254, 150, 151, 152, 153, 41, 698, 699, 700, 701, 702, 703, 704, 705, 706, 707, 708, 709, 710] (by decide +kernel) (by decide +kernel)
set_option maxRecDepth 20000 in
theorem gL_law_X2_giveBack : GoodIn wsL_law (wsV RL 104 RX2 yX2_giveBack wsX2_giveBack) := goodIn_app (goodIn_of _ (by decide +kernel)) ggL_law_X2_giveBack
set_option maxRecDepth 20000 in
theorem ggL_law_L_certify : GoodIn wsL_law wsL_certify := goodIn_ca (goodIn_ca (goodIn_r _ [257, 161, 53, 258, 259, 260, 2, 261, 60, 61, 166, 167, 168, 169, 170, 171, 16, 172, 65, 66, 67, 15, 68, 69, 173, 174, 175, 176, 177, 178, 179, 180, 181, 182, 183, 184, 185, 186, 187, 188, 24, 262, 64, 263, 264, 78, 265, 266, 267, 268, 17, 269, 270, 271, 80, 74, 272, 273, 274, 275, 75, 81, 276, 277, 278, 279, 105, 280, 714, 715, 716, 717, 718, 719, 720, 721, 722, 694, 695, 696, 697, 711, 712, 713] (by decide +kernel) (by decide +kernel)) (goodIn_sub (fun _ h => List.mem_append_left _ (List.mem_append_right _ h)) (by decide +kernel))) (goodIn_sub (fun _ h => List.mem_append_right _ h) (by decide +kernel))
set_option maxRecDepth 20000 in
theorem gL_law_L_certify : GoodIn wsL_law (va_wsS RL 105 yL_certify wsL_certify) := goodIn_app (goodIn_of _ (by decide +kernel)) ggL_law_L_certify
set_option maxRecDepth 20000 in
theorem ggL_law_X2_certify : GoodIn wsL_law wsX2_certify := goodIn_r _ [284, 141, 45, 46, 193, 194, 195, 5, 196, 142, 143, 144, 145, 146, 147, 148, 149, 285, 286, 287, 288, 47, 289, 290, 291, 292, 43, 293, 294, 295, 296, 44, 41, 297, 298, 299, 300, 301, 302, 303, 304, 305, 40, 306, 307, 308, 309, 279, 105, 280, 698, 699, 700, 701, 702, 703, 704, 705, 706, 707, 708, 709, 710] (by decide +kernel) (by decide +kernel)
set_option maxRecDepth 20000 in
theorem gL_law_X2_certify : GoodIn wsL_law (wsV RL 107 RX2 yX2_certify wsX2_certify) := goodIn_app (goodIn_of _ (by decide +kernel)) ggL_law_X2_certify
set_option maxRecDepth 20000 in
theorem ggL_law_L_pass : GoodIn wsL_law wsL_pass := goodIn_ca (goodIn_r _ [312, 52, 313, 314, 315, 2, 316, 58, 59, 19, 317, 318, 319, 320, 17, 265, 266, 267, 268, 321, 322, 323, 324, 16, 172, 18, 65, 66, 67, 15, 68, 69, 173, 174, 175, 176, 177, 178, 179, 180, 181, 182, 183, 184, 185, 186, 187, 188, 24, 325, 64, 326, 327, 74, 328, 329, 330, 331, 82, 83, 84, 81, 75, 332, 333, 334, 335, 336, 337, 338, 76, 339, 340, 341, 77, 342, 343, 344, 345, 346, 80, 276, 277, 278, 279, 105, 280, 347, 348, 349, 350, 694, 695, 696, 697, 714, 715, 716, 717, 718, 719, 720, 721, 722, 711, 712, 713] (by decide +kernel) (by decide +kernel)) (goodIn_sub (fun _ h => List.mem_append_left _ (List.mem_append_left _ (List.mem_append_right _ h))) (by decide +kernel))
set_option maxRecDepth 20000 in
theorem gL_law_L_pass : GoodIn wsL_law (va_wsS RL 108 yL_pass wsL_pass) := goodIn_app (goodIn_of _ (by decide +kernel)) ggL_law_L_pass
set_option maxRecDepth 20000 in
theorem ggL_law_X2_pass : GoodIn wsL_law wsX2_pass := goodIn_r _ [354, 141, 355, 143, 144, 5, 145, 146, 147, 148, 149, 356, 357, 358, 359, 301, 297, 298, 299, 300, 360, 361, 362, 363, 142, 42, 364, 43, 44, 45, 47, 365, 366, 367, 368, 369, 370, 371, 372, 46, 373, 374, 375, 376, 41, 302, 303, 304, 305, 40, 306, 307, 308, 309, 279, 105, 280, 150, 151, 152, 153, 698, 699, 700, 701, 702, 703, 704, 705, 706, 707, 708, 709, 710] (by decide +kernel) (by decide +kernel)
set_option maxRecDepth 20000 in
theorem gL_law_X2_pass : GoodIn wsL_law (wsV RL 110 RX2 yX2_pass wsX2_pass) := goodIn_app (goodIn_of _ (by decide +kernel)) ggL_law_X2_pass
set_option maxRecDepth 20000 in
theorem ggL_law_X1_members : GoodIn wsL_law wsX1_members := goodIn_r _ [380, 16, 65, 66, 67, 15, 68, 69, 694, 695, 696, 697, 711, 712, 713] (by decide +kernel) (by decide +kernel)
set_option maxRecDepth 20000 in
theorem gL_law_X1_members : GoodIn wsL_law (wsV RL 111 RX1 yX1_members wsX1_members) := goodIn_app (goodIn_of _ (by decide +kernel)) ggL_law_X1_members
set_option maxRecDepth 20000 in
theorem ggL_law_X2_members : GoodIn wsL_law wsX2_members := goodIn_r _ [384, 142, 385, 386, 387, 5, 388, 141, 698, 699, 700, 701, 702, 703, 704, 705, 706, 707, 708, 709, 710] (by decide +kernel) (by decide +kernel)
set_option maxRecDepth 20000 in
theorem gL_law_X2_members : GoodIn wsL_law (wsV RL 114 RX2 yX2_members wsX2_members) := goodIn_app (goodIn_of _ (by decide +kernel)) ggL_law_X2_members
set_option maxRecDepth 20000 in
theorem ggL_law_X1_hour : GoodIn wsL_law wsX1_hour := goodIn_r _ [392, 17, 694, 695, 696, 697] (by decide +kernel) (by decide +kernel)
set_option maxRecDepth 20000 in
theorem gL_law_X1_hour : GoodIn wsL_law (wsV RL 115 RX1 yX1_hour wsX1_hour) := goodIn_app (goodIn_of _ (by decide +kernel)) ggL_law_X1_hour
set_option maxRecDepth 20000 in
theorem ggL_law_X2_hour : GoodIn wsL_law wsX2_hour := goodIn_r _ [396, 301, 385, 386, 387, 5, 388, 141, 698, 699, 700, 701, 702, 703, 704, 705, 706, 707, 708, 709, 710] (by decide +kernel) (by decide +kernel)
set_option maxRecDepth 20000 in
theorem gL_law_X2_hour : GoodIn wsL_law (wsV RL 118 RX2 yX2_hour wsX2_hour) := goodIn_app (goodIn_of _ (by decide +kernel)) ggL_law_X2_hour
set_option maxRecDepth 20000 in
theorem ggL_law_X1_hourOfDay : GoodIn wsL_law wsX1_hourOfDay := goodIn_r _ [268, 17, 694, 695, 696, 697] (by decide +kernel) (by decide +kernel)
set_option maxRecDepth 20000 in
theorem gL_law_X1_hourOfDay : GoodIn wsL_law (wsV RL 119 RX1 yX1_hourOfDay wsX1_hourOfDay) := goodIn_app (goodIn_of _ (by decide +kernel)) ggL_law_X1_hourOfDay
set_option maxRecDepth 20000 in
theorem ggL_law_X2_hourOfDay : GoodIn wsL_law wsX2_hourOfDay := goodIn_r _ [401, 297, 298, 299, 5, 300, 301, 385, 386, 387, 388, 141, 698, 699, 700, 701, 702, 703, 704, 705, 706, 707, 708, 709, 710] (by decide +kernel) (by decide +kernel)
set_option maxRecDepth 20000 in
theorem gL_law_X2_hourOfDay : GoodIn wsL_law (wsV RL 122 RX2 yX2_hourOfDay wsX2_hourOfDay) := goodIn_app (goodIn_of _ (by decide +kernel)) ggL_law_X2_hourOfDay
set_option maxRecDepth 20000 in
theorem ggL_law_X1_seized : GoodIn wsL_law wsX1_seized := goodIn_r _ [405, 18, 694, 695, 696, 697] (by decide +kernel) (by decide +kernel)
set_option maxRecDepth 20000 in
theorem gL_law_X1_seized : GoodIn wsL_law (wsV RL 123 RX1 yX1_seized wsX1_seized) := goodIn_app (goodIn_of _ (by decide +kernel)) ggL_law_X1_seized
set_option maxRecDepth 20000 in
theorem ggL_law_X2_seized : GoodIn wsL_law wsX2_seized := goodIn_r _ [409, 364, 385, 386, 387, 5, 388, 141, 698, 699, 700, 701, 702, 703, 704, 705, 706, 707, 708, 709, 710] (by decide +kernel) (by decide +kernel)
set_option maxRecDepth 20000 in
theorem gL_law_X2_seized : GoodIn wsL_law (wsV RL 126 RX2 yX2_seized wsX2_seized) := goodIn_app (goodIn_of _ (by decide +kernel)) ggL_law_X2_seized
set_option maxRecDepth 20000 in
theorem ggL_law_X1_revoked : GoodIn wsL_law wsX1_revoked := goodIn_r _ [413, 19, 694, 695, 696, 697] (by decide +kernel) (by decide +kernel)
set_option maxRecDepth 20000 in
theorem gL_law_X1_revoked : GoodIn wsL_law (wsV RL 127 RX1 yX1_revoked wsX1_revoked) := goodIn_app (goodIn_of _ (by decide +kernel)) ggL_law_X1_revoked
set_option maxRecDepth 20000 in
theorem ggL_law_X2_revoked : GoodIn wsL_law wsX2_revoked := goodIn_r _ [417, 355, 385, 386, 387, 5, 388, 141, 698, 699, 700, 701, 702, 703, 704, 705, 706, 707, 708, 709, 710] (by decide +kernel) (by decide +kernel)
set_option maxRecDepth 20000 in
theorem gL_law_X2_revoked : GoodIn wsL_law (wsV RL 130 RX2 yX2_revoked wsX2_revoked) := goodIn_app (goodIn_of _ (by decide +kernel)) ggL_law_X2_revoked
set_option maxRecDepth 20000 in
theorem ggL_law_X1_certificates : GoodIn wsL_law wsX1_certificates := goodIn_r _ [421, 16, 172, 65, 66, 67, 15, 68, 69, 173, 174, 175, 176, 177, 178, 179, 180, 181, 182, 183, 184, 185, 186, 187, 188, 24, 336, 64, 337, 338, 76, 694, 695, 696, 697, 711, 712, 713, 714, 715, 716, 717, 718, 719, 720, 721, 722] (by decide +kernel) (by decide +kernel)
set_option maxRecDepth 20000 in
theorem gL_law_X1_certificates : GoodIn wsL_law (wsV RL 131 RX1 yX1_certificates wsX1_certificates) := goodIn_app (goodIn_of _ (by decide +kernel)) ggL_law_X1_certificates
set_option maxRecDepth 20000 in
theorem ggL_law_X2_certificates_ : GoodIn wsL_law wsX2_certificates_ := goodIn_r _ [425, 426, 427, 428, 5, 429, 142, 45, 369, 370, 371, 372, 46, 373, 374, 375, 376, 41, 302, 303, 304, 305, 40, 306, 307, 308, 309, 279, 105, 280, 143, 144, 145, 385, 386, 387, 388, 141, 698, 699, 700, 701, 702, 703, 704, 705, 706, 707, 708, 709, 710] (by decide +kernel) (by decide +kernel)
set_option maxRecDepth 20000 in
theorem gL_law_X2_certificates_ : GoodIn wsL_law (wsV RL 134 RX2 yX2_certificates_ wsX2_certificates_) := goodIn_app (goodIn_of _ (by decide +kernel)) ggL_law_X2_certificates_
set_option maxRecDepth 20000 in
theorem ggL_law_X1_honestOnes : GoodIn wsL_law wsX1_honestOnes := goodIn_r _ [433, 16, 172, 65, 66, 67, 15, 68, 69, 173, 174, 175, 176, 177, 178, 179, 180, 181, 182, 183, 184, 185, 186, 187, 188, 24, 339, 64, 340, 341, 76, 77, 342, 336, 337, 338, 343, 344, 345, 346, 80, 81, 276, 2, 277, 278, 279, 105, 280, 694, 695, 696, 697, 711, 712, 713, 714, 715, 716, 717, 718, 719, 720, 721, 722] (by decide +kernel) (by decide +kernel)
set_option maxRecDepth 20000 in
theorem gL_law_X1_honestOnes : GoodIn wsL_law (wsV RL 135 RX1 yX1_honestOnes wsX1_honestOnes) := goodIn_app (goodIn_of _ (by decide +kernel)) ggL_law_X1_honestOnes
set_option maxRecDepth 20000 in
theorem ggL_law_X2_honestOnes : GoodIn wsL_law wsX2_honestOnes := goodIn_r _ [437, 426, 427, 428, 5, 429, 142, 45, 369, 370, 371, 372, 46, 373, 374, 375, 376, 41, 302, 303, 304, 305, 40, 306, 307, 308, 309, 279, 105, 280, 143, 144, 145, 385, 386, 387, 388, 141, 698, 699, 700, 701, 702, 703, 704, 705, 706, 707, 708, 709, 710] (by decide +kernel) (by decide +kernel)
set_option maxRecDepth 20000 in
theorem gL_law_X2_honestOnes : GoodIn wsL_law (wsV RL 138 RX2 yX2_honestOnes wsX2_honestOnes) := goodIn_app (goodIn_of _ (by decide +kernel)) ggL_law_X2_honestOnes
set_option maxRecDepth 20000 in
theorem ggL_law_L_lampOf : GoodIn wsL_law wsL_lampOf := goodIn_ca (goodIn_r _ [440, 161, 441, 442, 443, 2, 444, 166, 167, 168, 169, 170, 171, 16, 172, 65, 66, 67, 15, 68, 69, 173, 174, 175, 176, 177, 178, 179, 180, 181, 182, 183, 184, 185, 186, 187, 188, 24, 714, 715, 716, 717, 718, 719, 720, 721, 722, 694, 695, 696, 697, 711, 712, 713] (by decide +kernel) (by decide +kernel)) (goodIn_sub (fun _ h => List.mem_append_right _ h) (by decide +kernel))
set_option maxRecDepth 20000 in
theorem gL_law_L_lampOf : GoodIn wsL_law (va_wsS RL 139 yL_lampOf wsL_lampOf) := goodIn_app (goodIn_of _ (by decide +kernel)) ggL_law_L_lampOf
set_option maxRecDepth 20000 in
theorem ggL_law_X2_lampOf : GoodIn wsL_law wsX2_lampOf := goodIn_r _ [448, 43, 449, 450, 451, 5, 452, 141, 193, 194, 195, 196, 142, 143, 144, 145, 146, 147, 148, 149, 698, 699, 700, 701, 702, 703, 704, 705, 706, 707, 708, 709, 710] (by decide +kernel) (by decide +kernel)
set_option maxRecDepth 20000 in
theorem gL_law_X2_lampOf : GoodIn wsL_law (wsV RL 141 RX2 yX2_lampOf wsX2_lampOf) := goodIn_app (goodIn_of _ (by decide +kernel)) ggL_law_X2_lampOf
set_option maxRecDepth 20000 in
theorem ggL_law_L_purseOf : GoodIn wsL_law wsL_purseOf := goodIn_ca (goodIn_r _ [455, 161, 456, 457, 458, 2, 459, 166, 167, 168, 169, 170, 171, 16, 172, 65, 66, 67, 15, 68, 69, 173, 174, 175, 176, 177, 178, 179, 180, 181, 182, 183, 184, 185, 186, 187, 188, 24, 714, 715, 716, 717, 718, 719, 720, 721, 722, 694, 695, 696, 697, 711, 712, 713] (by decide +kernel) (by decide +kernel)) (goodIn_sub (fun _ h => List.mem_append_right _ h) (by decide +kernel))
set_option maxRecDepth 20000 in
theorem gL_law_L_purseOf : GoodIn wsL_law (va_wsS RL 142 yL_purseOf wsL_purseOf) := goodIn_app (goodIn_of _ (by decide +kernel)) ggL_law_L_purseOf
set_option maxRecDepth 20000 in
theorem ggL_law_X2_purseOf : GoodIn wsL_law wsX2_purseOf := goodIn_r _ [463, 42, 449, 450, 451, 5, 452, 141, 193, 194, 195, 196, 142, 143, 144, 145, 146, 147, 148, 149, 698, 699, 700, 701, 702, 703, 704, 705, 706, 707, 708, 709, 710] (by decide +kernel) (by decide +kernel)
set_option maxRecDepth 20000 in
theorem gL_law_X2_purseOf : GoodIn wsL_law (wsV RL 144 RX2 yX2_purseOf wsX2_purseOf) := goodIn_app (goodIn_of _ (by decide +kernel)) ggL_law_X2_purseOf
set_option maxRecDepth 20000 in
theorem ggL_law_L_wears : GoodIn wsL_law wsL_wears := goodIn_ca (goodIn_r _ [466, 161, 467, 468, 469, 2, 470, 166, 167, 168, 169, 170, 171, 16, 172, 65, 66, 67, 15, 68, 69, 173, 174, 175, 176, 177, 178, 179, 180, 181, 182, 183, 184, 185, 186, 187, 188, 24, 471, 64, 472, 473, 75, 79, 694, 695, 696, 697, 711, 712, 713, 714, 715, 716, 717, 718, 719, 720, 721, 722] (by decide +kernel) (by decide +kernel)) (goodIn_sub (fun _ h => List.mem_append_right _ h) (by decide +kernel))
set_option maxRecDepth 20000 in
theorem gL_law_L_wears : GoodIn wsL_law (va_wsS RL 145 yL_wears wsL_wears) := goodIn_app (goodIn_of _ (by decide +kernel)) ggL_law_L_wears
set_option maxRecDepth 20000 in
theorem ggL_law_X2_wears : GoodIn wsL_law wsX2_wears := goodIn_r _ [477, 44, 449, 450, 451, 5, 452, 141, 193, 194, 195, 196, 142, 143, 144, 145, 146, 147, 148, 149, 698, 699, 700, 701, 702, 703, 704, 705, 706, 707, 708, 709, 710] (by decide +kernel) (by decide +kernel)
set_option maxRecDepth 20000 in
theorem gL_law_X2_wears : GoodIn wsL_law (wsV RL 147 RX2 yX2_wears wsX2_wears) := goodIn_app (goodIn_of _ (by decide +kernel)) ggL_law_X2_wears
set_option maxRecDepth 20000 in
theorem ggL_law_L_hatOn : GoodIn wsL_law wsL_hatOn := goodIn_ca (goodIn_r _ [480, 161, 481, 482, 483, 2, 484, 166, 167, 168, 169, 170, 171, 16, 172, 65, 66, 67, 15, 68, 69, 173, 174, 175, 176, 177, 178, 179, 180, 181, 182, 183, 184, 185, 186, 187, 188, 24, 273, 64, 274, 275, 75, 81, 694, 695, 696, 697, 711, 712, 713, 714, 715, 716, 717, 718, 719, 720, 721, 722] (by decide +kernel) (by decide +kernel)) (goodIn_sub (fun _ h => List.mem_append_right _ h) (by decide +kernel))
set_option maxRecDepth 20000 in
theorem gL_law_L_hatOn : GoodIn wsL_law (va_wsS RL 148 yL_hatOn wsL_hatOn) := goodIn_app (goodIn_of _ (by decide +kernel)) ggL_law_L_hatOn
set_option maxRecDepth 20000 in
theorem ggL_law_X2_hatOn : GoodIn wsL_law wsX2_hatOn := goodIn_r _ [488, 141, 193, 194, 195, 5, 196, 142, 143, 144, 145, 293, 294, 295, 296, 44, 41, 146, 147, 148, 149, 698, 699, 700, 701, 702, 703, 704, 705, 706, 707, 708, 709, 710] (by decide +kernel) (by decide +kernel)
set_option maxRecDepth 20000 in
theorem gL_law_X2_hatOn : GoodIn wsL_law (wsV RL 150 RX2 yX2_hatOn wsX2_hatOn) := goodIn_app (goodIn_of _ (by decide +kernel)) ggL_law_X2_hatOn
set_option maxRecDepth 20000 in
theorem ggL_law_L_hasLent : GoodIn wsL_law wsL_hasLent := goodIn_ca (goodIn_r _ [491, 161, 492, 493, 494, 2, 495, 166, 167, 168, 169, 170, 171, 16, 172, 65, 66, 67, 15, 68, 69, 173, 174, 175, 176, 177, 178, 179, 180, 181, 182, 183, 184, 185, 186, 187, 188, 24, 243, 244, 245, 246, 694, 695, 696, 697, 711, 712, 713, 714, 715, 716, 717, 718, 719, 720, 721, 722] (by decide +kernel) (by decide +kernel)) (goodIn_sub (fun _ h => List.mem_append_right _ h) (by decide +kernel))
set_option maxRecDepth 20000 in
theorem gL_law_L_hasLent : GoodIn wsL_law (va_wsS RL 151 yL_hasLent wsL_hasLent) := goodIn_app (goodIn_of _ (by decide +kernel)) ggL_law_L_hasLent
set_option maxRecDepth 20000 in
theorem ggL_law_X2_hasLent : GoodIn wsL_law wsX2_hasLent := goodIn_r _ [499, 141, 193, 194, 195, 5, 196, 142, 143, 144, 145, 251, 252, 253, 254, 44, 500, 501, 502, 503, 698, 699, 700, 701, 702, 703, 704, 705, 706, 707, 708, 709, 710] (by decide +kernel) (by decide +kernel)
set_option maxRecDepth 20000 in
theorem gL_law_X2_hasLent : GoodIn wsL_law (wsV RL 153 RX2 yX2_hasLent wsX2_hasLent) := goodIn_app (goodIn_of _ (by decide +kernel)) ggL_law_X2_hasLent
set_option maxRecDepth 20000 in
theorem ggL_law_L_isExpelled : GoodIn wsL_law wsL_isExpelled := goodIn_ca (goodIn_r _ [506, 161, 507, 508, 509, 2, 510, 166, 167, 168, 169, 170, 171, 16, 172, 65, 66, 67, 15, 68, 69, 173, 174, 175, 176, 177, 178, 179, 180, 181, 182, 183, 184, 185, 186, 187, 188, 24, 262, 64, 263, 264, 78, 694, 695, 696, 697, 711, 712, 713, 714, 715, 716, 717, 718, 719, 720, 721, 722] (by decide +kernel) (by decide +kernel)) (goodIn_sub (fun _ h => List.mem_append_right _ h) (by decide +kernel))
set_option maxRecDepth 20000 in
theorem gL_law_L_isExpelled : GoodIn wsL_law (va_wsS RL 154 yL_isExpelled wsL_isExpelled) := goodIn_app (goodIn_of _ (by decide +kernel)) ggL_law_L_isExpelled
set_option maxRecDepth 20000 in
theorem ggL_law_X2_isExpelled : GoodIn wsL_law wsX2_isExpelled := goodIn_r _ [514, 141, 193, 194, 195, 5, 196, 142, 143, 144, 145, 285, 286, 287, 288, 47, 500, 501, 502, 503, 698, 699, 700, 701, 702, 703, 704, 705, 706, 707, 708, 709, 710] (by decide +kernel) (by decide +kernel)
set_option maxRecDepth 20000 in
theorem gL_law_X2_isExpelled : GoodIn wsL_law (wsV RL 156 RX2 yX2_isExpelled wsX2_isExpelled) := goodIn_app (goodIn_of _ (by decide +kernel)) ggL_law_X2_isExpelled
set_option maxRecDepth 20000 in
theorem ggL_law_L_shadowOf : GoodIn wsL_law wsL_shadowOf := goodIn_ca (goodIn_r _ [517, 161, 518, 519, 520, 2, 521, 166, 167, 168, 169, 170, 171, 16, 172, 65, 66, 67, 15, 68, 69, 173, 174, 175, 176, 177, 178, 179, 180, 181, 182, 183, 184, 185, 186, 187, 188, 24, 265, 266, 267, 268, 17, 269, 64, 270, 271, 80, 74, 272, 273, 274, 275, 75, 81, 276, 277, 278, 279, 105, 280, 694, 695, 696, 697, 711, 712, 713, 714, 715, 716, 717, 718, 719, 720, 721, 722] (by decide +kernel) (by decide +kernel)) (goodIn_sub (fun _ h => List.mem_append_right _ h) (by decide +kernel))
set_option maxRecDepth 20000 in
theorem gL_law_L_shadowOf : GoodIn wsL_law (va_wsS RL 157 yL_shadowOf wsL_shadowOf) := goodIn_app (goodIn_of _ (by decide +kernel)) ggL_law_L_shadowOf
set_option maxRecDepth 20000 in
theorem ggL_law_X2_shadowOf : GoodIn wsL_law wsX2_shadowOf := goodIn_r _ [525, 141, 193, 194, 195, 5, 196, 142, 143, 144, 145, 289, 290, 291, 292, 43, 293, 294, 295, 296, 44, 41, 297, 298, 299, 300, 301, 302, 303, 304, 305, 40, 306, 307, 308, 309, 279, 105, 280, 146, 147, 148, 149, 698, 699, 700, 701, 702, 703, 704, 705, 706, 707, 708, 709, 710] (by decide +kernel) (by decide +kernel)
set_option maxRecDepth 20000 in
theorem gL_law_X2_shadowOf : GoodIn wsL_law (wsV RL 159 RX2 yX2_shadowOf wsX2_shadowOf) := goodIn_app (goodIn_of _ (by decide +kernel)) ggL_law_X2_shadowOf
set_option maxRecDepth 20000 in
theorem ggL_law_L_honestShadow : GoodIn wsL_law wsL_honestShadow := goodIn_ca (goodIn_r _ [528, 161, 529, 530, 531, 2, 532, 170, 171, 166, 167, 168, 169, 16, 172, 65, 66, 67, 15, 68, 69, 173, 174, 175, 176, 177, 178, 179, 180, 181, 182, 183, 184, 185, 186, 187, 188, 24, 344, 64, 345, 346, 80, 81, 276, 277, 278, 279, 105, 280, 694, 695, 696, 697, 711, 712, 713, 714, 715, 716, 717, 718, 719, 720, 721, 722] (by decide +kernel) (by decide +kernel)) (goodIn_sub (fun _ h => List.mem_append_right _ h) (by decide +kernel))
set_option maxRecDepth 20000 in
theorem gL_law_L_honestShadow : GoodIn wsL_law (va_wsS RL 160 yL_honestShadow wsL_honestShadow) := goodIn_app (goodIn_of _ (by decide +kernel)) ggL_law_L_honestShadow
set_option maxRecDepth 20000 in
theorem ggL_law_X2_honestShadow : GoodIn wsL_law wsX2_honestShadow := goodIn_r _ [536, 141, 193, 194, 195, 5, 196, 142, 143, 144, 145, 373, 374, 375, 376, 41, 302, 303, 304, 305, 40, 306, 307, 308, 309, 279, 105, 280, 146, 147, 148, 149, 698, 699, 700, 701, 702, 703, 704, 705, 706, 707, 708, 709, 710] (by decide +kernel) (by decide +kernel)
set_option maxRecDepth 20000 in
theorem gL_law_X2_honestShadow : GoodIn wsL_law (wsV RL 162 RX2 yX2_honestShadow wsX2_honestShadow) := goodIn_app (goodIn_of _ (by decide +kernel)) ggL_law_X2_honestShadow
set_option maxRecDepth 20000 in
theorem ggL_law_L_certified : GoodIn wsL_law wsL_certified := goodIn_ca (goodIn_r _ [539, 161, 540, 541, 542, 2, 543, 166, 167, 168, 169, 170, 171, 16, 172, 65, 66, 67, 15, 68, 69, 173, 174, 175, 176, 177, 178, 179, 180, 181, 182, 183, 184, 185, 186, 187, 188, 24, 714, 715, 716, 717, 718, 719, 720, 721, 722, 694, 695, 696, 697, 711, 712, 713] (by decide +kernel) (by decide +kernel)) (goodIn_sub (fun _ h => List.mem_append_right _ h) (by decide +kernel))
set_option maxRecDepth 20000 in
theorem gL_law_L_certified : GoodIn wsL_law (va_wsS RL 163 yL_certified wsL_certified) := goodIn_app (goodIn_of _ (by decide +kernel)) ggL_law_L_certified
set_option maxRecDepth 20000 in
theorem ggL_law_X2_certified : GoodIn wsL_law wsX2_certified := goodIn_r _ [547, 45, 449, 450, 451, 5, 452, 141, 193, 194, 195, 196, 142, 143, 144, 145, 146, 147, 148, 149, 698, 699, 700, 701, 702, 703, 704, 705, 706, 707, 708, 709, 710] (by decide +kernel) (by decide +kernel)
set_option maxRecDepth 20000 in
theorem gL_law_X2_certified : GoodIn wsL_law (wsV RL 165 RX2 yX2_certified wsX2_certified) := goodIn_app (goodIn_of _ (by decide +kernel)) ggL_law_X2_certified
set_option maxRecDepth 20000 in
theorem ggL_law_L_isHonest : GoodIn wsL_law wsL_isHonest := goodIn_ca (goodIn_ca (goodIn_r _ [550, 161, 53, 551, 552, 553, 2, 554, 60, 61, 166, 167, 168, 169, 170, 171, 16, 172, 65, 66, 67, 15, 68, 69, 173, 174, 175, 176, 177, 178, 179, 180, 181, 182, 183, 184, 185, 186, 187, 188, 24, 336, 64, 337, 338, 76, 339, 340, 341, 77, 342, 343, 344, 345, 346, 80, 81, 276, 277, 278, 279, 105, 280, 694, 695, 696, 697, 711, 712, 713, 714, 715, 716, 717, 718, 719, 720, 721, 722] (by decide +kernel) (by decide +kernel)) (goodIn_sub (fun _ h => List.mem_append_left _ (List.mem_append_right _ h)) (by decide +kernel))) (goodIn_sub (fun _ h => List.mem_append_right _ h) (by decide +kernel))
set_option maxRecDepth 20000 in
theorem gL_law_L_isHonest : GoodIn wsL_law (va_wsS RL 166 yL_isHonest wsL_isHonest) := goodIn_app (goodIn_of _ (by decide +kernel)) ggL_law_L_isHonest
set_option maxRecDepth 20000 in
theorem ggL_law_X2_isHonest : GoodIn wsL_law wsX2_isHonest := goodIn_r _ [558, 141, 45, 193, 194, 195, 5, 196, 142, 143, 144, 145, 500, 501, 502, 503, 369, 370, 371, 372, 46, 373, 374, 375, 376, 41, 302, 303, 304, 305, 40, 306, 307, 308, 309, 279, 105, 280, 698, 699, 700, 701, 702, 703, 704, 705, 706, 707, 708, 709, 710] (by decide +kernel) (by decide +kernel)
set_option maxRecDepth 20000 in
theorem gL_law_X2_isHonest : GoodIn wsL_law (wsV RL 168 RX2 yX2_isHonest wsX2_isHonest) := goodIn_app (goodIn_of _ (by decide +kernel)) ggL_law_X2_isHonest
set_option maxRecDepth 20000 in
theorem ggL_law_X1_longest : GoodIn wsL_law wsX1_longest := goodIn_r _ [562, 16, 172, 65, 66, 67, 15, 68, 69, 173, 174, 175, 176, 177, 178, 179, 180, 181, 182, 183, 184, 185, 186, 187, 188, 24, 265, 266, 267, 2, 268, 17, 269, 64, 270, 271, 80, 74, 272, 273, 274, 275, 75, 81, 276, 277, 278, 279, 105, 280, 694, 695, 696, 697, 711, 712, 713, 714, 715, 716, 717, 718, 719, 720, 721, 722] (by decide +kernel) (by decide +kernel)
set_option maxRecDepth 20000 in
theorem gL_law_X1_longest : GoodIn wsL_law (wsV RL 169 RX1 yX1_longest wsX1_longest) := goodIn_app (goodIn_of _ (by decide +kernel)) ggL_law_X1_longest
set_option maxRecDepth 20000 in
theorem ggL_law_X2_longest : GoodIn wsL_law wsX2_longest := goodIn_r _ [566, 567, 568, 569, 5, 570, 142, 289, 290, 291, 292, 43, 293, 294, 295, 296, 44, 41, 297, 298, 299, 300, 301, 302, 303, 304, 305, 40, 306, 307, 308, 309, 279, 105, 280, 143, 144, 145, 385, 386, 387, 388, 141, 698, 699, 700, 701, 702, 703, 704, 705, 706, 707, 708, 709, 710] (by decide +kernel) (by decide +kernel)
set_option maxRecDepth 20000 in
theorem gL_law_X2_longest : GoodIn wsL_law (wsV RL 172 RX2 yX2_longest wsX2_longest) := goodIn_app (goodIn_of _ (by decide +kernel)) ggL_law_X2_longest
set_option maxRecDepth 20000 in
theorem ggL_law_X1_hoursUntilAudit : GoodIn wsL_law wsX1_hoursUntilAudit := goodIn_r _ [574, 265, 266, 267, 2, 268, 17, 694, 695, 696, 697] (by decide +kernel) (by decide +kernel)
set_option maxRecDepth 20000 in
theorem gL_law_X1_hoursUntilAudit : GoodIn wsL_law (wsV RL 173 RX1 yX1_hoursUntilAudit wsX1_hoursUntilAudit) := goodIn_app (goodIn_of _ (by decide +kernel)) ggL_law_X1_hoursUntilAudit
set_option maxRecDepth 20000 in
theorem ggL_law_X2_hoursUntilAudit : GoodIn wsL_law wsX2_hoursUntilAudit := goodIn_r _ [578, 579, 580, 581, 5, 582, 297, 298, 299, 300, 301, 385, 386, 387, 388, 141, 698, 699, 700, 701, 702, 703, 704, 705, 706, 707, 708, 709, 710] (by decide +kernel) (by decide +kernel)
set_option maxRecDepth 20000 in
theorem gL_law_X2_hoursUntilAudit : GoodIn wsL_law (wsV RL 176 RX2 yX2_hoursUntilAudit wsX2_hoursUntilAudit) := goodIn_app (goodIn_of _ (by decide +kernel)) ggL_law_X2_hoursUntilAudit
set_option maxRecDepth 20000 in
theorem ggL_law_L_auditBrings : GoodIn wsL_law wsL_auditBrings := goodIn_ca (goodIn_r _ [585, 161, 586, 587, 588, 2, 589, 166, 167, 168, 169, 170, 171, 16, 172, 65, 66, 67, 15, 68, 69, 173, 174, 175, 176, 177, 178, 179, 180, 181, 182, 183, 184, 185, 186, 187, 188, 24, 590, 64, 591, 592, 593, 347, 348, 349, 342, 336, 337, 338, 76, 350, 339, 340, 341, 77, 343, 344, 345, 346, 80, 81, 276, 277, 278, 279, 105, 280, 594, 325, 326, 327, 74, 694, 695, 696, 697, 711, 712, 713, 714, 715, 716, 717, 718, 719, 720, 721, 722] (by decide +kernel) (by decide +kernel)) (goodIn_sub (fun _ h => List.mem_append_right _ h) (by decide +kernel))
set_option maxRecDepth 20000 in
theorem gL_law_L_auditBrings : GoodIn wsL_law (va_wsS RL 177 yL_auditBrings wsL_auditBrings) := goodIn_app (goodIn_of _ (by decide +kernel)) ggL_law_L_auditBrings
set_option maxRecDepth 20000 in
theorem ggL_law_X2_auditBrings : GoodIn wsL_law wsX2_auditBrings := goodIn_r _ [598, 141, 193, 194, 195, 5, 196, 142, 143, 144, 145, 365, 366, 367, 368, 43, 45, 369, 370, 371, 372, 46, 373, 374, 375, 376, 41, 302, 303, 304, 305, 40, 306, 307, 308, 309, 279, 105, 280, 146, 147, 148, 149, 698, 699, 700, 701, 702, 703, 704, 705, 706, 707, 708, 709, 710] (by decide +kernel) (by decide +kernel)
set_option maxRecDepth 20000 in
theorem gL_law_X2_auditBrings : GoodIn wsL_law (wsV RL 179 RX2 yX2_auditBrings wsX2_auditBrings) := goodIn_app (goodIn_of _ (by decide +kernel)) ggL_law_X2_auditBrings
set_option maxRecDepth 20000 in
theorem ggL_law_X1_richestThen : GoodIn wsL_law wsX1_richestThen := goodIn_r _ [602, 16, 172, 65, 66, 67, 15, 68, 69, 173, 174, 175, 176, 177, 178, 179, 180, 181, 182, 183, 184, 185, 186, 187, 188, 24, 590, 64, 591, 592, 593, 347, 348, 349, 342, 336, 337, 338, 76, 350, 339, 340, 341, 77, 343, 344, 345, 346, 80, 81, 276, 2, 277, 278, 279, 105, 280, 594, 325, 326, 327, 74, 694, 695, 696, 697, 714, 715, 716, 717, 718, 719, 720, 721, 722, 711, 712, 713] (by decide +kernel) (by decide +kernel)
set_option maxRecDepth 20000 in
theorem gL_law_X1_richestThen : GoodIn wsL_law (wsV RL 180 RX1 yX1_richestThen wsX1_richestThen) := goodIn_app (goodIn_of _ (by decide +kernel)) ggL_law_X1_richestThen
set_option maxRecDepth 20000 in
theorem ggL_law_X2_richestThen : GoodIn wsL_law wsX2_richestThen := goodIn_r _ [606, 607, 608, 609, 5, 610, 142, 42, 365, 366, 367, 368, 43, 45, 369, 370, 371, 372, 46, 373, 374, 375, 376, 41, 302, 303, 304, 305, 40, 306, 307, 308, 309, 279, 105, 280, 143, 144, 145, 385, 386, 387, 388, 141, 698, 699, 700, 701, 702, 703, 704, 705, 706, 707, 708, 709, 710] (by decide +kernel) (by decide +kernel)
set_option maxRecDepth 20000 in
theorem gL_law_X2_richestThen : GoodIn wsL_law (wsV RL 183 RX2 yX2_richestThen wsX2_richestThen) := goodIn_app (goodIn_of _ (by decide +kernel)) ggL_law_X2_richestThen
set_option maxRecDepth 20000 in
theorem ggL_law_L_bestHat : GoodIn wsL_law wsL_bestHat := goodIn_ca (goodIn_r _ [613, 161, 614, 615, 616, 2, 617, 166, 167, 168, 169, 170, 171, 16, 172, 65, 66, 67, 15, 68, 69, 173, 174, 175, 176, 177, 178, 179, 180, 181, 182, 183, 184, 185, 186, 187, 188, 24, 618, 619, 620, 621, 215, 216, 217, 218, 64, 219, 220, 75, 221, 222, 223, 265, 266, 267, 268, 17, 622, 276, 277, 278, 279, 105, 280, 694, 695, 696, 697, 711, 712, 713, 714, 715, 716, 717, 718, 719, 720, 721, 722] (by decide +kernel) (by decide +kernel)) (goodIn_sub (fun _ h => List.mem_append_right _ h) (by decide +kernel))
set_option maxRecDepth 20000 in
theorem gL_law_L_bestHat : GoodIn wsL_law (va_wsS RL 184 yL_bestHat wsL_bestHat) := goodIn_app (goodIn_of _ (by decide +kernel)) ggL_law_L_bestHat
set_option maxRecDepth 20000 in
theorem ggL_law_X2_bestHat : GoodIn wsL_law wsX2_bestHat := goodIn_r _ [626, 141, 193, 194, 195, 5, 196, 142, 143, 144, 145, 627, 628, 629, 630, 41, 232, 233, 234, 235, 44, 228, 229, 230, 231, 297, 298, 299, 300, 301, 302, 303, 304, 305, 40, 306, 307, 308, 309, 279, 105, 280, 146, 147, 148, 149, 698, 699, 700, 701, 702, 703, 704, 705, 706, 707, 708, 709, 710] (by decide +kernel) (by decide +kernel)
set_option maxRecDepth 20000 in
theorem gL_law_X2_bestHat : GoodIn wsL_law (wsV RL 186 RX2 yX2_bestHat wsX2_bestHat) := goodIn_app (goodIn_of _ (by decide +kernel)) ggL_law_X2_bestHat
set_option maxRecDepth 20000 in
theorem ggL_law_L_longestIn : GoodIn wsL_law wsL_longestIn := goodIn_ca (goodIn_r _ [633, 161, 634, 635, 636, 2, 637, 166, 167, 168, 169, 170, 171, 16, 172, 65, 66, 67, 15, 68, 69, 173, 174, 175, 176, 177, 178, 179, 180, 181, 182, 183, 184, 185, 186, 187, 188, 24, 638, 639, 640, 641, 265, 266, 267, 268, 17, 269, 64, 270, 271, 80, 74, 272, 273, 274, 275, 75, 81, 276, 277, 278, 279, 105, 280, 642, 643, 644, 645, 646, 572, 573, 574, 344, 345, 346, 694, 695, 696, 697, 711, 712, 713, 714, 715, 716, 717, 718, 719, 720, 721, 722] (by decide +kernel) (by decide +kernel)) (goodIn_sub (fun _ h => List.mem_append_right _ h) (by decide +kernel))
set_option maxRecDepth 20000 in
theorem gL_law_L_longestIn : GoodIn wsL_law (va_wsS RL 187 yL_longestIn wsL_longestIn) := goodIn_app (goodIn_of _ (by decide +kernel)) ggL_law_L_longestIn
set_option maxRecDepth 20000 in
theorem ggL_law_X2_longestIn : GoodIn wsL_law wsX2_longestIn := goodIn_r _ [650, 141, 193, 194, 195, 5, 196, 142, 143, 144, 145, 651, 652, 653, 654, 301, 43, 579, 580, 581, 582, 297, 298, 299, 300, 293, 294, 295, 296, 44, 41, 302, 303, 304, 305, 40, 306, 307, 308, 309, 279, 105, 280, 373, 374, 375, 376, 146, 147, 148, 149, 698, 699, 700, 701, 702, 703, 704, 705, 706, 707, 708, 709, 710] (by decide +kernel) (by decide +kernel)
set_option maxRecDepth 20000 in
theorem gL_law_X2_longestIn : GoodIn wsL_law (wsV RL 189 RX2 yX2_longestIn wsX2_longestIn) := goodIn_app (goodIn_of _ (by decide +kernel)) ggL_law_X2_longestIn
set_option maxRecDepth 20000 in
theorem ggL_law_X1_meanShadow : GoodIn wsL_law wsX1_meanShadow := goodIn_r _ [658, 16, 172, 659, 660, 661, 15, 662, 69, 65, 66, 67, 68, 173, 174, 175, 176, 177, 178, 179, 180, 181, 182, 183, 184, 185, 186, 187, 188, 24, 265, 266, 267, 2, 268, 17, 269, 64, 270, 271, 80, 74, 272, 273, 274, 275, 75, 81, 276, 277, 278, 279, 105, 280, 694, 695, 696, 697, 711, 712, 713, 714, 715, 716, 717, 718, 719, 720, 721, 722] (by decide +kernel) (by decide +kernel)
set_option maxRecDepth 20000 in
theorem gL_law_X1_meanShadow : GoodIn wsL_law (wsV RL 190 RX1 yX1_meanShadow wsX1_meanShadow) := goodIn_app (goodIn_of _ (by decide +kernel)) ggL_law_X1_meanShadow
set_option maxRecDepth 20000 in
theorem ggL_law_X2_meanShadow : GoodIn wsL_law wsX2_meanShadow := goodIn_r _ [666, 141, 142, 289, 290, 291, 5, 292, 43, 293, 294, 295, 296, 44, 41, 297, 298, 299, 300, 301, 302, 303, 304, 305, 40, 306, 307, 308, 309, 279, 105, 280, 143, 144, 145, 698, 699, 700, 701, 702, 703, 704, 705, 706, 707, 708, 709, 710] (by decide +kernel) (by decide +kernel)
set_option maxRecDepth 20000 in
theorem gL_law_X2_meanShadow : GoodIn wsL_law (wsV RL 194 RX2 yX2_meanShadow wsX2_meanShadow) := goodIn_app (goodIn_of _ (by decide +kernel)) ggL_law_X2_meanShadow
set_option maxRecDepth 20000 in
theorem ggL_law_X1_digest : GoodIn wsL_law wsX1_digest := goodIn_r _ [670, 671, 16, 172, 672, 378, 379, 2, 380, 65, 66, 67, 15, 68, 69, 673, 674, 675, 676, 677, 390, 391, 392, 17, 678, 403, 404, 405, 18, 679, 411, 412, 413, 19, 680, 419, 420, 421, 173, 174, 175, 176, 177, 178, 179, 180, 181, 182, 183, 184, 185, 186, 187, 188, 24, 336, 64, 337, 338, 76, 681, 431, 432, 433, 339, 340, 341, 77, 342, 343, 344, 345, 346, 80, 81, 276, 277, 278, 279, 105, 280, 682, 560, 561, 562, 265, 266, 267, 268, 269, 270, 271, 74, 272, 273, 274, 275, 75, 683, 600, 601, 602, 590, 591, 592, 593, 347, 348, 349, 350, 594, 325, 326, 327, 684, 685, 686, 687, 471, 472, 473, 79, 243, 244, 245, 246, 262, 263, 264, 78, 618, 619, 620, 621, 215, 216, 217, 218, 219, 220, 221, 222, 223, 622, 638, 639, 640, 641, 642, 643, 644, 645, 646, 572, 573, 574, 694, 695, 696, 697, 711, 712, 713, 714, 715, 716, 717, 718, 719, 720, 721, 722] (by decide +kernel) (by decide +kernel)
set_option maxRecDepth 20000 in
theorem gL_law_X1_digest : GoodIn wsL_law (wsV RL 195 RX1 yX1_digest wsX1_digest) := goodIn_app (goodIn_of _ (by decide +kernel)) ggL_law_X1_digest
set_option maxRecDepth 20000 in
theorem ggL_law_X2_digest : GoodIn wsL_law wsX2_digest := goodIn_r _ [691, 141, 39, 142, 301, 364, 355, 692, 693, 43, 42, 44, 45, 426, 427, 428, 5, 429, 369, 370, 371, 372, 46, 373, 374, 375, 376, 41, 302, 303, 304, 305, 40, 306, 307, 308, 309, 279, 105, 280, 143, 144, 145, 567, 568, 569, 570, 289, 290, 291, 292, 293, 294, 295, 296, 297, 298, 299, 300, 607, 608, 609, 610, 365, 366, 367, 368, 251, 252, 253, 254, 285, 286, 287, 288, 47, 627, 628, 629, 630, 232, 233, 234, 235, 228, 229, 230, 231, 651, 652, 653, 654, 579, 580, 581, 582, 698, 699, 700, 701, 702, 703, 704, 705, 706, 707, 708, 709, 710] (by decide +kernel) (by decide +kernel)
set_option maxRecDepth 20000 in
theorem gL_law_X2_digest : GoodIn wsL_law (wsV RL 199 RX2 yX2_digest wsX2_digest) := goodIn_app (goodIn_of _ (by decide +kernel)) ggL_law_X2_digest
