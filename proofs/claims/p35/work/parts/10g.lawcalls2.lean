set_option maxRecDepth 20000 in
theorem ggL_law_X1_certificates : GoodIn wsL_law wsX1_certificates := goodIn_r _ [329, 15, 156, 74, 75, 76, 14, 77, 78, 157, 158, 159, 160, 161, 162, 163, 164, 165, 166, 167, 168, 169, 170, 171, 172, 23, 272, 73, 273, 274, 85, 474, 475, 476, 477, 482, 483, 484, 485, 486, 487, 488, 489, 490, 491, 492, 493] (by decide +kernel) (by decide +kernel)
set_option maxRecDepth 20000 in
theorem gL_law_X1_certificates : GoodIn wsL_law (wsV RL 120 RX1 yX1_certificates wsX1_certificates) := goodIn_app (goodIn_of _ (by decide +kernel)) ggL_law_X1_certificates
set_option maxRecDepth 20000 in
theorem ggL_law_X1_honestOnes : GoodIn wsL_law wsX1_honestOnes := goodIn_r _ [333, 15, 156, 74, 75, 76, 14, 77, 78, 157, 158, 159, 160, 161, 162, 163, 164, 165, 166, 167, 168, 169, 170, 171, 172, 23, 275, 73, 276, 277, 85, 86, 278, 272, 273, 274, 279, 280, 281, 282, 89, 90, 244, 2, 245, 246, 247, 114, 248, 474, 475, 476, 477, 482, 483, 484, 485, 486, 487, 488, 489, 490, 491, 492, 493] (by decide +kernel) (by decide +kernel)
set_option maxRecDepth 20000 in
theorem gL_law_X1_honestOnes : GoodIn wsL_law (wsV RL 123 RX1 yX1_honestOnes wsX1_honestOnes) := goodIn_app (goodIn_of _ (by decide +kernel)) ggL_law_X1_honestOnes
set_option maxRecDepth 20000 in
theorem ggL_law_L_below : GoodIn wsL_law wsL_below := goodIn_r _ [53, 54] (by decide +kernel) (by decide +kernel)
set_option maxRecDepth 20000 in
theorem gL_law_L_below : GoodIn wsL_law (va_wsS RL 15 yL_below wsL_below) := goodIn_app (goodIn_of _ (by decide +kernel)) ggL_law_L_below
set_option maxRecDepth 20000 in
theorem ggL_law_X1_bestHat : GoodIn wsL_law wsX1_bestHat := goodIn_ca (goodIn_r _ [411, 150, 151, 152, 2, 153, 154, 155, 15, 156, 74, 75, 76, 14, 77, 78, 157, 158, 159, 160, 161, 162, 163, 164, 165, 166, 167, 168, 169, 170, 171, 172, 23, 354, 355, 356, 357, 189, 190, 191, 192, 73, 193, 194, 84, 195, 196, 197, 233, 234, 235, 236, 16, 358, 244, 245, 246, 247, 114, 248, 474, 475, 476, 477, 482, 483, 484, 485, 486, 487, 488, 489, 490, 491, 492, 493] (by decide +kernel) (by decide +kernel)) (goodIn_sub (fun _ h => List.mem_append_right _ h) (by decide +kernel))
set_option maxRecDepth 20000 in
theorem gL_law_X1_bestHat : GoodIn wsL_law (wsV RL 126 RX1 yX1_bestHat wsX1_bestHat) := goodIn_app (goodIn_of _ (by decide +kernel)) ggL_law_X1_bestHat
set_option maxRecDepth 20000 in
theorem ggL_law_X2_canBorrow : GoodIn wsL_law wsX2_canBorrow := goodIn_r _ [180, 46, 478, 479, 480, 481] (by decide +kernel) (by decide +kernel)
set_option maxRecDepth 20000 in
theorem gL_law_X2_canBorrow : GoodIn wsL_law (wsV RL 37 RX2 yX2_canBorrow wsX2_canBorrow) := goodIn_app (goodIn_of _ (by decide +kernel)) ggL_law_X2_canBorrow
set_option maxRecDepth 20000 in
theorem ggL_law_L_with : GoodIn wsL_law wsL_with := goodIn_r _ [414, 415, 416, 417, 40, 418, 419, 39, 218, 292, 291, 46, 420, 421, 422, 423, 424, 45, 425, 42, 43, 44, 10, 11, 426, 61, 62, 181, 182, 183, 184, 214, 215, 216, 217, 219, 220, 221, 222, 223, 224, 225, 478, 479, 480, 481] (by decide +kernel) (by decide +kernel)
set_option maxRecDepth 20000 in
theorem gL_law_L_with : GoodIn wsL_law (va_wsS RL 129 yL_with wsL_with) := goodIn_app (goodIn_of _ (by decide +kernel)) ggL_law_L_with
set_option maxRecDepth 20000 in
theorem ggL_law_X2_copy : GoodIn wsL_law wsX2_copy := goodIn_r _ [418, 419, 39, 40, 218, 292, 291, 46, 420, 421, 422, 423, 424, 45, 425, 42, 43, 44, 10, 11, 426, 61, 62, 478, 479, 480, 481] (by decide +kernel) (by decide +kernel)
set_option maxRecDepth 20000 in
theorem gL_law_X2_copy : GoodIn wsL_law (wsV RL 132 RX2 yX2_copy wsX2_copy) := goodIn_app (goodIn_of _ (by decide +kernel)) ggL_law_X2_copy
set_option maxRecDepth 20000 in
theorem ggL_law_X1_longestIn : GoodIn wsL_law wsX1_longestIn := goodIn_ca (goodIn_r _ [430, 150, 151, 152, 2, 153, 154, 155, 15, 156, 74, 75, 76, 14, 77, 78, 157, 158, 159, 160, 161, 162, 163, 164, 165, 166, 167, 168, 169, 170, 171, 172, 23, 359, 360, 361, 362, 233, 234, 235, 236, 16, 237, 73, 238, 239, 89, 83, 240, 241, 242, 243, 84, 90, 244, 245, 246, 247, 114, 248, 363, 364, 365, 366, 367, 368, 369, 370, 280, 281, 282, 474, 475, 476, 477, 482, 483, 484, 485, 486, 487, 488, 489, 490, 491, 492, 493] (by decide +kernel) (by decide +kernel)) (goodIn_sub (fun _ h => List.mem_append_right _ h) (by decide +kernel))
set_option maxRecDepth 20000 in
theorem gL_law_X1_longestIn : GoodIn wsL_law (wsV RL 136 RX1 yX1_longestIn wsX1_longestIn) := goodIn_app (goodIn_of _ (by decide +kernel)) ggL_law_X1_longestIn
set_option maxRecDepth 20000 in
theorem ggL_law_X2_pass : GoodIn wsL_law wsX2_pass := goodIn_r _ [290, 291, 218, 46, 292, 293, 294, 295, 40, 296, 297, 298, 299, 300, 223, 224, 225, 478, 479, 480, 481] (by decide +kernel) (by decide +kernel)
set_option maxRecDepth 20000 in
theorem gL_law_X2_pass : GoodIn wsL_law (wsV RL 64 RX2 yX2_pass wsX2_pass) := goodIn_app (goodIn_of _ (by decide +kernel)) ggL_law_X2_pass
set_option maxRecDepth 20000 in
theorem ggL_law_X2_shadow : GoodIn wsL_law wsX2_shadow := goodIn_r _ [217, 46, 218, 219, 220, 221, 40, 222, 223, 224, 225, 478, 479, 480, 481] (by decide +kernel) (by decide +kernel)
set_option maxRecDepth 20000 in
theorem gL_law_X2_shadow : GoodIn wsL_law (wsV RL 51 RX2 yX2_shadow wsX2_shadow) := goodIn_app (goodIn_of _ (by decide +kernel)) ggL_law_X2_shadow
set_option maxRecDepth 20000 in
theorem ggL_law_X1_hoursUntilAudit : GoodIn wsL_law wsX1_hoursUntilAudit := goodIn_r _ [370, 233, 234, 235, 2, 236, 16, 474, 475, 476, 477] (by decide +kernel) (by decide +kernel)
set_option maxRecDepth 20000 in
theorem gL_law_X1_hoursUntilAudit : GoodIn wsL_law (wsV RL 139 RX1 yX1_hoursUntilAudit wsX1_hoursUntilAudit) := goodIn_app (goodIn_of _ (by decide +kernel)) ggL_law_X1_hoursUntilAudit
set_option maxRecDepth 20000 in
theorem ggL_law_X1_richestThen : GoodIn wsL_law wsX1_richestThen := goodIn_r _ [341, 15, 156, 74, 75, 76, 14, 77, 78, 157, 158, 159, 160, 161, 162, 163, 164, 165, 166, 167, 168, 169, 170, 171, 172, 23, 342, 73, 343, 344, 345, 283, 284, 285, 278, 272, 273, 274, 85, 286, 275, 276, 277, 86, 279, 280, 281, 282, 89, 90, 244, 2, 245, 246, 247, 114, 248, 346, 261, 262, 263, 83, 474, 475, 476, 477, 485, 486, 487, 488, 489, 490, 491, 492, 493, 482, 483, 484] (by decide +kernel) (by decide +kernel)
set_option maxRecDepth 20000 in
theorem gL_law_X1_richestThen : GoodIn wsL_law (wsV RL 142 RX1 yX1_richestThen wsX1_richestThen) := goodIn_app (goodIn_of _ (by decide +kernel)) ggL_law_X1_richestThen
set_option maxRecDepth 20000 in
theorem ggL_law_X1_purseOf : GoodIn wsL_law wsX1_purseOf := goodIn_ca (goodIn_r _ [436, 150, 151, 152, 2, 153, 154, 155, 15, 156, 74, 75, 76, 14, 77, 78, 157, 158, 159, 160, 161, 162, 163, 164, 165, 166, 167, 168, 169, 170, 171, 172, 23, 485, 486, 487, 488, 489, 490, 491, 492, 493, 474, 475, 476, 477, 482, 483, 484] (by decide +kernel) (by decide +kernel)) (goodIn_sub (fun _ h => List.mem_append_right _ h) (by decide +kernel))
set_option maxRecDepth 20000 in
theorem gL_law_X1_purseOf : GoodIn wsL_law (wsV RL 145 RX1 yX1_purseOf wsX1_purseOf) := goodIn_app (goodIn_of _ (by decide +kernel)) ggL_law_X1_purseOf
set_option maxRecDepth 20000 in
theorem ggL_law_X1_auditBrings : GoodIn wsL_law wsX1_auditBrings := goodIn_ca (goodIn_r _ [440, 150, 151, 152, 2, 153, 154, 155, 15, 156, 74, 75, 76, 14, 77, 78, 157, 158, 159, 160, 161, 162, 163, 164, 165, 166, 167, 168, 169, 170, 171, 172, 23, 342, 73, 343, 344, 345, 283, 284, 285, 278, 272, 273, 274, 85, 286, 275, 276, 277, 86, 279, 280, 281, 282, 89, 90, 244, 245, 246, 247, 114, 248, 346, 261, 262, 263, 83, 474, 475, 476, 477, 482, 483, 484, 485, 486, 487, 488, 489, 490, 491, 492, 493] (by decide +kernel) (by decide +kernel)) (goodIn_sub (fun _ h => List.mem_append_right _ h) (by decide +kernel))
set_option maxRecDepth 20000 in
theorem gL_law_X1_auditBrings : GoodIn wsL_law (wsV RL 148 RX1 yX1_auditBrings wsX1_auditBrings) := goodIn_app (goodIn_of _ (by decide +kernel)) ggL_law_X1_auditBrings
set_option maxRecDepth 20000 in
theorem ggL_law_X1_pass : GoodIn wsL_law wsX1_pass := goodIn_ca (goodIn_r _ [252, 67, 68, 18, 253, 254, 255, 2, 256, 16, 233, 234, 235, 236, 257, 258, 259, 260, 15, 156, 17, 74, 75, 76, 14, 77, 78, 157, 158, 159, 160, 161, 162, 163, 164, 165, 166, 167, 168, 169, 170, 171, 172, 23, 261, 73, 262, 263, 83, 264, 265, 266, 267, 91, 92, 93, 90, 84, 268, 269, 270, 271, 272, 273, 274, 85, 275, 276, 277, 86, 278, 279, 280, 281, 282, 89, 244, 245, 246, 247, 114, 248, 283, 284, 285, 286, 474, 475, 476, 477, 485, 486, 487, 488, 489, 490, 491, 492, 493, 482, 483, 484] (by decide +kernel) (by decide +kernel)) (goodIn_sub (fun _ h => List.mem_append_left _ (List.mem_append_left _ (List.mem_append_right _ h))) (by decide +kernel))
set_option maxRecDepth 20000 in
theorem gL_law_X1_pass : GoodIn wsL_law (wsV RL 61 RX1 yX1_pass wsX1_pass) := goodIn_app (goodIn_of _ (by decide +kernel)) ggL_law_X1_pass
set_option maxRecDepth 20000 in
theorem gL_law_X2_isSame : GoodIn wsL_law (wsV RL 151 RX2 yX2_isSame wsX2_isSame) := goodIn_app (goodIn_of _ (by decide +kernel)) ggL_law_X2_isSame
