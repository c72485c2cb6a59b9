set_option maxRecDepth 20000 in
theorem wsL_law_in0_21 : ∀ w ∈ wsL_law0_r21, w ∈ lw_tbl := fun w h => (goodIn_p wsL_law0_r21 [597, 868, 604, 872, 876] (by decide +kernel) (by decide +kernel) w h).1
set_option maxRecDepth 20000 in
theorem wsL_law_in0_22 : ∀ w ∈ wsL_law0_r22, w ∈ lw_tbl := fun w h => (goodIn_p wsL_law0_r22 [611, 880, 618, 884] (by decide +kernel) (by decide +kernel) w h).1
set_option maxRecDepth 20000 in
theorem wsL_law_in0_23 : ∀ w ∈ wsL_law0_r23, w ∈ lw_tbl := fun w h => (goodIn_p wsL_law0_r23 [625, 888, 633, 892] (by decide +kernel) (by decide +kernel) w h).1
set_option maxRecDepth 20000 in
theorem wsL_law_in0_24 : ∀ w ∈ wsL_law0_r24, w ∈ lw_tbl := fun w h => (goodIn_p wsL_law0_r24 [640, 896, 188, 900, 904, 201] (by decide +kernel) (by decide +kernel) w h).1
set_option maxRecDepth 20000 in
theorem wsL_law_in0_25 : ∀ w ∈ wsL_law0_r25, w ∈ lw_tbl := fun w h => (goodIn_p wsL_law0_r25 [908, 912, 648, 209, 916] (by decide +kernel) (by decide +kernel) w h).1
set_option maxRecDepth 20000 in
theorem wsL_law_in0_26 : ∀ w ∈ wsL_law0_r26, w ∈ lw_tbl := fun w h => (goodIn_p wsL_law0_r26 [205, 920, 924, 655, 264] (by decide +kernel) (by decide +kernel) w h).1
set_option maxRecDepth 20000 in
theorem wsL_law_in0_27 : ∀ w ∈ wsL_law0_r27, w ∈ lw_tbl := fun w h => (goodIn_p wsL_law0_r27 [928, 932, 662, 280, 284] (by decide +kernel) (by decide +kernel) w h).1
set_option maxRecDepth 20000 in
theorem wsL_law_in0_28 : ∀ w ∈ wsL_law0_r28, w ∈ lw_tbl := fun w h => (goodIn_p wsL_law0_r28 [936, 940, 222, 226, 944, 230] (by decide +kernel) (by decide +kernel) w h).1
set_option maxRecDepth 20000 in
theorem wsL_law_in0_29 : ∀ w ∈ wsL_law0_r29, w ∈ lw_tbl := fun w h => (goodIn_p wsL_law0_r29 [235, 247, 948] (by decide +kernel) (by decide +kernel) w h).1
set_option maxRecDepth 20000 in
theorem wsL_law_iwsX10 : ∀ w ∈ wsX10, w ∈ lw_tbl := fun w h => (goodIn_p wsX10 [] (by decide +kernel) (by decide +kernel) w h).1
set_option maxRecDepth 20000 in
theorem wsL_law_iwsX20 : ∀ w ∈ wsX20, w ∈ lw_tbl := fun w h => (goodIn_p wsX20 [] (by decide +kernel) (by decide +kernel) w h).1
set_option maxRecDepth 20000 in
theorem wsL_law_iwsJx4a65c0 : ∀ w ∈ wsJx4a65c0, w ∈ lw_tbl := fun w h => (goodIn_p wsJx4a65c0 [] (by decide +kernel) (by decide +kernel) w h).1
set_option maxRecDepth 20000 in
theorem wsL_law_iwsX00 : ∀ w ∈ wsX00, w ∈ lw_tbl := fun w h => (goodIn_p wsX00 [] (by decide +kernel) (by decide +kernel) w h).1
set_option maxRecDepth 20000 in
theorem wsL_law_in0 : ∀ w ∈ wsL_law0, w ∈ lw_tbl := (fun w h => (List.mem_append.mp h).elim ((fun w h => (List.mem_append.mp h).elim ((fun w h => (List.mem_append.mp h).elim ((fun w h => (List.mem_append.mp h).elim ((fun w h => (List.mem_append.mp h).elim ((fun w h => (List.mem_append.mp h).elim (wsL_law_in0_1 w) ((fun w h => (List.mem_append.mp h).elim (wsL_law_in0_2 w) ((fun w h => (List.mem_append.mp h).elim (wsL_law_in0_3 w) ((fun w h => (List.mem_append.mp h).elim (wsL_law_in0_4 w) ((fun w h => (List.mem_append.mp h).elim (wsL_law_in0_5 w) ((fun w h => (List.mem_append.mp h).elim (wsL_law_in0_6 w) ((fun w h => (List.mem_append.mp h).elim (wsL_law_in0_7 w) ((fun w h => (List.mem_append.mp h).elim (wsL_law_in0_8 w) ((fun w h => (List.mem_append.mp h).elim (wsL_law_in0_9 w) ((fun w h => (List.mem_append.mp h).elim (wsL_law_in0_10 w) ((fun w h => (List.mem_append.mp h).elim (wsL_law_in0_11 w) ((fun w h => (List.mem_append.mp h).elim (wsL_law_in0_12 w) ((fun w h => (List.mem_append.mp h).elim (wsL_law_in0_13 w) ((fun w h => (List.mem_append.mp h).elim (wsL_law_in0_14 w) ((fun w h => (List.mem_append.mp h).elim (wsL_law_in0_15 w) ((fun w h => (List.mem_append.mp h).elim (wsL_law_in0_16 w) ((fun w h => (List.mem_append.mp h).elim (wsL_law_in0_17 w) ((fun w h => (List.mem_append.mp h).elim (wsL_law_in0_18 w) ((fun w h => (List.mem_append.mp h).elim (wsL_law_in0_19 w) ((fun w h => (List.mem_append.mp h).elim (wsL_law_in0_20 w) ((fun w h => (List.mem_append.mp h).elim (wsL_law_in0_21 w) ((fun w h => (List.mem_append.mp h).elim (wsL_law_in0_22 w) ((fun w h => (List.mem_append.mp h).elim (wsL_law_in0_23 w) ((fun w h => (List.mem_append.mp h).elim (wsL_law_in0_24 w) ((fun w h => (List.mem_append.mp h).elim (wsL_law_in0_25 w) ((fun w h => (List.mem_append.mp h).elim (wsL_law_in0_26 w) ((fun w h => (List.mem_append.mp h).elim (wsL_law_in0_27 w) ((fun w h => (List.mem_append.mp h).elim (wsL_law_in0_28 w) (wsL_law_in0_29 w)) w)) w)) w)) w)) w)) w)) w)) w)) w)) w)) w)) w)) w)) w)) w)) w)) w)) w)) w)) w)) w)) w)) w)) w)) w)) w)) w)) w) (wsL_law_iwsX10 w)) w) (wsL_law_iwsX20 w)) w) (wsL_law_iwsJx4a65c0 w)) w) (wsL_law_iwsX00 w)) w) (fun h => absurd h List.not_mem_nil))
theorem wsL_law_x0 : ∀ w ∈ (vx_atS RX1 30 "java/lang/IllegalArgumentException" ["java/lang/RuntimeException", "java/lang/Exception"]).filter goodWord, w ∈ lw_tbl := by decide +kernel
theorem wsL_law_x1 : ∀ w ∈ (vx_atS RX1 43 "java/lang/IllegalStateException" ["java/lang/RuntimeException", "java/lang/Exception"]).filter goodWord, w ∈ lw_tbl := by decide +kernel
theorem wsL_law_x2 : ∀ w ∈ (vx_atS RX1 145 "java/lang/IndexOutOfBoundsException" ["java/lang/RuntimeException", "java/lang/Exception"]).filter goodWord, w ∈ lw_tbl := by decide +kernel
theorem wsL_law_in : ∀ w ∈ wsL_law, w ∈ lw_tbl := fun w h => (List.mem_append.mp h).elim (fun h => (List.mem_append.mp h).elim (fun h => (List.mem_append.mp h).elim (fun h => wsL_law_in0 w h) (fun h => wsL_law_x0 w h)) (fun h => wsL_law_x1 w h)) (fun h => wsL_law_x2 w h)
