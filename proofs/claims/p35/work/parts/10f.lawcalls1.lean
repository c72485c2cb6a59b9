set_option maxRecDepth 20000 in
theorem ggL_law_X1_init : GoodIn wsL_law wsX1_init := goodIn_r _ [8, 9, 10, 11, 12, 13, 14, 15, 16, 17, 18, 19, 20, 21, 22, 23, 24, 25, 26, 27, 28, 29, 30, 31, 32, 33, 482, 483, 484, 474, 475, 476, 477] (by decide +kernel) (by decide +kernel)
set_option maxRecDepth 20000 in
theorem gL_law_X1_init : GoodIn wsL_law (wsX1_init) := ggL_law_X1_init
set_option maxRecDepth 20000 in
theorem gL_law_L_build : GoodIn wsL_law (va_wsS RL 78 yL_build wsL_build) := goodIn_app (goodIn_of _ (by decide +kernel)) ggL_law_L_build
set_option maxRecDepth 20000 in
theorem ggL_law_L_cell : GoodIn wsL_law wsL_cell := goodIn_r _ [49, 50] (by decide +kernel) (by decide +kernel)
set_option maxRecDepth 20000 in
theorem gL_law_L_cell : GoodIn wsL_law (va_wsS RL 68 yL_cell wsL_cell) := goodIn_app (goodIn_of _ (by decide +kernel)) ggL_law_L_cell
set_option maxRecDepth 20000 in
theorem gL_law_L_act : GoodIn wsL_law (va_wsS RL 73 yL_act wsL_act) := goodIn_app (goodIn_of _ (by decide +kernel)) ggL_law_L_act
set_option maxRecDepth 20000 in
theorem ggL_law_X1_digest : GoodIn wsL_law wsX1_digest := goodIn_r _ [304, 305, 15, 156, 306, 307, 308, 2, 309, 74, 75, 76, 14, 77, 78, 310, 311, 312, 313, 314, 315, 316, 317, 16, 318, 319, 320, 321, 17, 322, 323, 324, 325, 18, 326, 327, 328, 329, 157, 158, 159, 160, 161, 162, 163, 164, 165, 166, 167, 168, 169, 170, 171, 172, 23, 272, 73, 273, 274, 85, 330, 331, 332, 333, 275, 276, 277, 86, 278, 279, 280, 281, 282, 89, 90, 244, 245, 246, 247, 114, 248, 334, 335, 336, 337, 233, 234, 235, 236, 237, 238, 239, 83, 240, 241, 242, 243, 84, 338, 339, 340, 341, 342, 343, 344, 345, 283, 284, 285, 286, 346, 261, 262, 263, 347, 348, 349, 350, 351, 352, 353, 88, 210, 211, 212, 213, 230, 231, 232, 87, 354, 355, 356, 357, 189, 190, 191, 192, 193, 194, 195, 196, 197, 358, 359, 360, 361, 362, 363, 364, 365, 366, 367, 368, 369, 370, 474, 475, 476, 477, 482, 483, 484, 485, 486, 487, 488, 489, 490, 491, 492, 493] (by decide +kernel) (by decide +kernel)
set_option maxRecDepth 20000 in
theorem gL_law_X1_digest : GoodIn wsL_law (wsV RL 82 RX1 yX1_digest wsX1_digest) := goodIn_app (goodIn_of _ (by decide +kernel)) ggL_law_X1_digest
set_option maxRecDepth 20000 in
theorem ggL_law_X1_members : GoodIn wsL_law wsX1_members := goodIn_r _ [309, 15, 74, 75, 76, 14, 77, 78, 474, 475, 476, 477, 482, 483, 484] (by decide +kernel) (by decide +kernel)
set_option maxRecDepth 20000 in
theorem gL_law_X1_members : GoodIn wsL_law (wsV RL 86 RX1 yX1_members wsX1_members) := goodIn_app (goodIn_of _ (by decide +kernel)) ggL_law_X1_members
set_option maxRecDepth 20000 in
theorem ggL_law_X1_hourOfDay : GoodIn wsL_law wsX1_hourOfDay := goodIn_r _ [236, 16, 474, 475, 476, 477] (by decide +kernel) (by decide +kernel)
set_option maxRecDepth 20000 in
theorem gL_law_X1_hourOfDay : GoodIn wsL_law (wsV RL 89 RX1 yX1_hourOfDay wsX1_hourOfDay) := goodIn_app (goodIn_of _ (by decide +kernel)) ggL_law_X1_hourOfDay
set_option maxRecDepth 20000 in
theorem ggL_law_X1_wears : GoodIn wsL_law wsX1_wears := goodIn_ca (goodIn_r _ [376, 150, 151, 152, 2, 153, 154, 155, 15, 156, 74, 75, 76, 14, 77, 78, 157, 158, 159, 160, 161, 162, 163, 164, 165, 166, 167, 168, 169, 170, 171, 172, 23, 351, 73, 352, 353, 84, 88, 474, 475, 476, 477, 482, 483, 484, 485, 486, 487, 488, 489, 490, 491, 492, 493] (by decide +kernel) (by decide +kernel)) (goodIn_sub (fun _ h => List.mem_append_right _ h) (by decide +kernel))
set_option maxRecDepth 20000 in
theorem gL_law_X1_wears : GoodIn wsL_law (wsV RL 92 RX1 yX1_wears wsX1_wears) := goodIn_app (goodIn_of _ (by decide +kernel)) ggL_law_X1_wears
set_option maxRecDepth 20000 in
theorem ggL_law_X1_hatOn : GoodIn wsL_law wsX1_hatOn := goodIn_ca (goodIn_r _ [380, 150, 151, 152, 2, 153, 154, 155, 15, 156, 74, 75, 76, 14, 77, 78, 157, 158, 159, 160, 161, 162, 163, 164, 165, 166, 167, 168, 169, 170, 171, 172, 23, 241, 73, 242, 243, 84, 90, 474, 475, 476, 477, 482, 483, 484, 485, 486, 487, 488, 489, 490, 491, 492, 493] (by decide +kernel) (by decide +kernel)) (goodIn_sub (fun _ h => List.mem_append_right _ h) (by decide +kernel))
set_option maxRecDepth 20000 in
theorem gL_law_X1_hatOn : GoodIn wsL_law (wsV RL 95 RX1 yX1_hatOn wsX1_hatOn) := goodIn_app (goodIn_of _ (by decide +kernel)) ggL_law_X1_hatOn
set_option maxRecDepth 20000 in
theorem ggL_law_X1_lampOf : GoodIn wsL_law wsX1_lampOf := goodIn_ca (goodIn_r _ [384, 150, 151, 152, 2, 153, 154, 155, 15, 156, 74, 75, 76, 14, 77, 78, 157, 158, 159, 160, 161, 162, 163, 164, 165, 166, 167, 168, 169, 170, 171, 172, 23, 485, 486, 487, 488, 489, 490, 491, 492, 493, 474, 475, 476, 477, 482, 483, 484] (by decide +kernel) (by decide +kernel)) (goodIn_sub (fun _ h => List.mem_append_right _ h) (by decide +kernel))
set_option maxRecDepth 20000 in
theorem gL_law_X1_lampOf : GoodIn wsL_law (wsV RL 98 RX1 yX1_lampOf wsX1_lampOf) := goodIn_app (goodIn_of _ (by decide +kernel)) ggL_law_X1_lampOf
set_option maxRecDepth 20000 in
theorem ggL_law_X1_shadowOf : GoodIn wsL_law wsX1_shadowOf := goodIn_ca (goodIn_r _ [388, 150, 151, 152, 2, 153, 154, 155, 15, 156, 74, 75, 76, 14, 77, 78, 157, 158, 159, 160, 161, 162, 163, 164, 165, 166, 167, 168, 169, 170, 171, 172, 23, 233, 234, 235, 236, 16, 237, 73, 238, 239, 89, 83, 240, 241, 242, 243, 84, 90, 244, 245, 246, 247, 114, 248, 474, 475, 476, 477, 482, 483, 484, 485, 486, 487, 488, 489, 490, 491, 492, 493] (by decide +kernel) (by decide +kernel)) (goodIn_sub (fun _ h => List.mem_append_right _ h) (by decide +kernel))
set_option maxRecDepth 20000 in
theorem gL_law_X1_shadowOf : GoodIn wsL_law (wsV RL 101 RX1 yX1_shadowOf wsX1_shadowOf) := goodIn_app (goodIn_of _ (by decide +kernel)) ggL_law_X1_shadowOf
set_option maxRecDepth 20000 in
theorem ggL_law_X1_honestShadow : GoodIn wsL_law wsX1_honestShadow := goodIn_ca (goodIn_r _ [392, 154, 155, 150, 151, 152, 2, 153, 15, 156, 74, 75, 76, 14, 77, 78, 157, 158, 159, 160, 161, 162, 163, 164, 165, 166, 167, 168, 169, 170, 171, 172, 23, 280, 73, 281, 282, 89, 90, 244, 245, 246, 247, 114, 248, 474, 475, 476, 477, 482, 483, 484, 485, 486, 487, 488, 489, 490, 491, 492, 493] (by decide +kernel) (by decide +kernel)) (goodIn_sub (fun _ h => List.mem_append_right _ h) (by decide +kernel))
set_option maxRecDepth 20000 in
theorem gL_law_X1_honestShadow : GoodIn wsL_law (wsV RL 104 RX1 yX1_honestShadow wsX1_honestShadow) := goodIn_app (goodIn_of _ (by decide +kernel)) ggL_law_X1_honestShadow
set_option maxRecDepth 20000 in
theorem ggL_law_X1_longest : GoodIn wsL_law wsX1_longest := goodIn_r _ [337, 15, 156, 74, 75, 76, 14, 77, 78, 157, 158, 159, 160, 161, 162, 163, 164, 165, 166, 167, 168, 169, 170, 171, 172, 23, 233, 234, 235, 2, 236, 16, 237, 73, 238, 239, 89, 83, 240, 241, 242, 243, 84, 90, 244, 245, 246, 247, 114, 248, 474, 475, 476, 477, 482, 483, 484, 485, 486, 487, 488, 489, 490, 491, 492, 493] (by decide +kernel) (by decide +kernel)
set_option maxRecDepth 20000 in
theorem gL_law_X1_longest : GoodIn wsL_law (wsV RL 107 RX1 yX1_longest wsX1_longest) := goodIn_app (goodIn_of _ (by decide +kernel)) ggL_law_X1_longest
set_option maxRecDepth 20000 in
theorem ggL_law_X1_certified : GoodIn wsL_law wsX1_certified := goodIn_ca (goodIn_r _ [397, 150, 151, 152, 2, 153, 154, 155, 15, 156, 74, 75, 76, 14, 77, 78, 157, 158, 159, 160, 161, 162, 163, 164, 165, 166, 167, 168, 169, 170, 171, 172, 23, 485, 486, 487, 488, 489, 490, 491, 492, 493, 474, 475, 476, 477, 482, 483, 484] (by decide +kernel) (by decide +kernel)) (goodIn_sub (fun _ h => List.mem_append_right _ h) (by decide +kernel))
set_option maxRecDepth 20000 in
theorem gL_law_X1_certified : GoodIn wsL_law (wsV RL 110 RX1 yX1_certified wsX1_certified) := goodIn_app (goodIn_of _ (by decide +kernel)) ggL_law_X1_certified
set_option maxRecDepth 20000 in
theorem ggL_law_X1_isHonest : GoodIn wsL_law wsX1_isHonest := goodIn_ca (goodIn_ca (goodIn_r _ [401, 69, 70, 150, 151, 152, 2, 153, 154, 155, 15, 156, 74, 75, 76, 14, 77, 78, 157, 158, 159, 160, 161, 162, 163, 164, 165, 166, 167, 168, 169, 170, 171, 172, 23, 272, 73, 273, 274, 85, 275, 276, 277, 86, 278, 279, 280, 281, 282, 89, 90, 244, 245, 246, 247, 114, 248, 474, 475, 476, 477, 482, 483, 484, 485, 486, 487, 488, 489, 490, 491, 492, 493] (by decide +kernel) (by decide +kernel)) (goodIn_sub (fun _ h => List.mem_append_left _ (List.mem_append_right _ h)) (by decide +kernel))) (goodIn_sub (fun _ h => List.mem_append_right _ h) (by decide +kernel))
set_option maxRecDepth 20000 in
theorem gL_law_X1_isHonest : GoodIn wsL_law (wsV RL 113 RX1 yX1_isHonest wsX1_isHonest) := goodIn_app (goodIn_of _ (by decide +kernel)) ggL_law_X1_isHonest
set_option maxRecDepth 20000 in
theorem ggL_law_X1_hasLent : GoodIn wsL_law wsX1_hasLent := goodIn_ca (goodIn_r _ [405, 150, 151, 152, 2, 153, 154, 155, 15, 156, 74, 75, 76, 14, 77, 78, 157, 158, 159, 160, 161, 162, 163, 164, 165, 166, 167, 168, 169, 170, 171, 172, 23, 210, 211, 212, 213, 474, 475, 476, 477, 482, 483, 484, 485, 486, 487, 488, 489, 490, 491, 492, 493] (by decide +kernel) (by decide +kernel)) (goodIn_sub (fun _ h => List.mem_append_right _ h) (by decide +kernel))
set_option maxRecDepth 20000 in
theorem gL_law_X1_hasLent : GoodIn wsL_law (wsV RL 117 RX1 yX1_hasLent wsX1_hasLent) := goodIn_app (goodIn_of _ (by decide +kernel)) ggL_law_X1_hasLent
