theorem dX2_init_0 : decode cX2_init 0 = .ok (.aload_n 0, 1) := by decide +kernel
theorem dX2_init_1 : decode cX2_init 1 = .ok (.invokespecial 1, 3) := by decide +kernel
theorem dX2_init_4 : decode cX2_init 4 = .ok (.aload_n 0, 1) := by decide +kernel
theorem dX2_init_5 : decode cX2_init 5 = .ok (.bipush 10, 2) := by decide +kernel
theorem dX2_init_7 : decode cX2_init 7 = .ok (.newarray .int, 2) := by decide +kernel
theorem dX2_init_9 : decode cX2_init 9 = .ok (.putfield 9, 3) := by decide +kernel
theorem dX2_init_12 : decode cX2_init 12 = .ok (.aload_n 0, 1) := by decide +kernel
theorem dX2_init_13 : decode cX2_init 13 = .ok (.bipush 10, 2) := by decide +kernel
theorem dX2_init_15 : decode cX2_init 15 = .ok (.newarray .int, 2) := by decide +kernel
theorem dX2_init_17 : decode cX2_init 17 = .ok (.putfield 13, 3) := by decide +kernel
theorem dX2_init_20 : decode cX2_init 20 = .ok (.aload_n 0, 1) := by decide +kernel
theorem dX2_init_21 : decode cX2_init 21 = .ok (.bipush 10, 2) := by decide +kernel
theorem dX2_init_23 : decode cX2_init 23 = .ok (.newarray .int, 2) := by decide +kernel
theorem dX2_init_25 : decode cX2_init 25 = .ok (.putfield 16, 3) := by decide +kernel
theorem dX2_init_28 : decode cX2_init 28 = .ok (.aload_n 0, 1) := by decide +kernel
theorem dX2_init_29 : decode cX2_init 29 = .ok (.bipush 10, 2) := by decide +kernel
theorem dX2_init_31 : decode cX2_init 31 = .ok (.newarray .int, 2) := by decide +kernel
theorem dX2_init_33 : decode cX2_init 33 = .ok (.putfield 19, 3) := by decide +kernel
theorem dX2_init_36 : decode cX2_init 36 = .ok (.aload_n 0, 1) := by decide +kernel
theorem dX2_init_37 : decode cX2_init 37 = .ok (.bipush 10, 2) := by decide +kernel
theorem dX2_init_39 : decode cX2_init 39 = .ok (.newarray .int, 2) := by decide +kernel
theorem dX2_init_41 : decode cX2_init 41 = .ok (.putfield 22, 3) := by decide +kernel
theorem dX2_init_44 : decode cX2_init 44 = .ok (.aload_n 0, 1) := by decide +kernel
theorem dX2_init_45 : decode cX2_init 45 = .ok (.bipush 10, 2) := by decide +kernel
theorem dX2_init_47 : decode cX2_init 47 = .ok (.newarray .int, 2) := by decide +kernel
theorem dX2_init_49 : decode cX2_init 49 = .ok (.putfield 25, 3) := by decide +kernel
theorem dX2_init_52 : decode cX2_init 52 = .ok (.aload_n 0, 1) := by decide +kernel
theorem dX2_init_53 : decode cX2_init 53 = .ok (.bipush 10, 2) := by decide +kernel
theorem dX2_init_55 : decode cX2_init 55 = .ok (.newarray .int, 2) := by decide +kernel
theorem dX2_init_57 : decode cX2_init 57 = .ok (.putfield 28, 3) := by decide +kernel
theorem dX2_init_60 : decode cX2_init 60 = .ok (.aload_n 0, 1) := by decide +kernel
theorem dX2_init_61 : decode cX2_init 61 = .ok (.bipush 10, 2) := by decide +kernel
theorem dX2_init_63 : decode cX2_init 63 = .ok (.newarray .int, 2) := by decide +kernel
theorem dX2_init_65 : decode cX2_init 65 = .ok (.putfield 31, 3) := by decide +kernel
theorem dX2_init_68 : decode cX2_init 68 = .ok (.return_, 1) := by decide +kernel
theorem dX2_thrown_0 : decode cX2_thrown 0 = .ok (.aload_n 0, 1) := by decide +kernel
theorem dX2_thrown_1 : decode cX2_thrown 1 = .ok (.getfield 34, 3) := by decide +kernel
theorem dX2_thrown_4 : decode cX2_thrown 4 = .ok (.ireturn, 1) := by decide +kernel
theorem dX2_no_0 : decode cX2_no 0 = .ok (.aload_n 0, 1) := by decide +kernel
theorem dX2_no_1 : decode cX2_no 1 = .ok (.iload_n 1, 1) := by decide +kernel
theorem dX2_no_2 : decode cX2_no 2 = .ok (.putfield 34, 3) := by decide +kernel
theorem dX2_no_5 : decode cX2_no 5 = .ok (.iconst 0, 1) := by decide +kernel
theorem dX2_no_6 : decode cX2_no 6 = .ok (.ireturn, 1) := by decide +kernel
theorem dX2_isNot_0 : decode cX2_isNot 0 = .ok (.aload_n 0, 1) := by decide +kernel
theorem dX2_isNot_1 : decode cX2_isNot 1 = .ok (.iload_n 1, 1) := by decide +kernel
theorem dX2_isNot_2 : decode cX2_isNot 2 = .ok (.putfield 34, 3) := by decide +kernel
theorem dX2_isNot_5 : decode cX2_isNot 5 = .ok (.iconst 0, 1) := by decide +kernel
theorem dX2_isNot_6 : decode cX2_isNot 6 = .ok (.ireturn, 1) := by decide +kernel
theorem dX2_ok_0 : decode cX2_ok 0 = .ok (.aload_n 0, 1) := by decide +kernel
theorem dX2_ok_1 : decode cX2_ok 1 = .ok (.iconst 0, 1) := by decide +kernel
theorem dX2_ok_2 : decode cX2_ok 2 = .ok (.putfield 34, 3) := by decide +kernel
theorem dX2_ok_5 : decode cX2_ok 5 = .ok (.iload_n 1, 1) := by decide +kernel
theorem dX2_ok_6 : decode cX2_ok 6 = .ok (.ireturn, 1) := by decide +kernel
theorem dX2_isIn_0 : decode cX2_isIn 0 = .ok (.iload_n 0, 1) := by decide +kernel
theorem dX2_isIn_1 : decode cX2_isIn 1 = .ok (.iload_n 1, 1) := by decide +kernel
theorem dX2_isIn_2 : decode cX2_isIn 2 = .ok (.if_icmp .lt 12, 3) := by decide +kernel
theorem dX2_isIn_5 : decode cX2_isIn 5 = .ok (.iload_n 0, 1) := by decide +kernel
theorem dX2_isIn_6 : decode cX2_isIn 6 = .ok (.iload_n 2, 1) := by decide +kernel
theorem dX2_isIn_7 : decode cX2_isIn 7 = .ok (.if_icmp .gt 7, 3) := by decide +kernel
theorem dX2_isIn_10 : decode cX2_isIn 10 = .ok (.iconst 1, 1) := by decide +kernel
theorem dX2_isIn_11 : decode cX2_isIn 11 = .ok (.goto 4, 3) := by decide +kernel
theorem dX2_isIn_14 : decode cX2_isIn 14 = .ok (.iconst 0, 1) := by decide +kernel
theorem dX2_isIn_15 : decode cX2_isIn 15 = .ok (.ireturn, 1) := by decide +kernel
set_option maxRecDepth 20000 in
theorem ggX2_isMember_X2_isIn : GoodIn wsX2_isMember wsX2_isIn := goodIn_r _ [5] (by decide +kernel) (by decide +kernel)
set_option maxRecDepth 20000 in
theorem gX2_isMember_X2_isIn : GoodIn wsX2_isMember (va_wsS RX2 41 yX2_isIn wsX2_isIn) := goodIn_app (goodIn_of _ (by decide +kernel)) ggX2_isMember_X2_isIn
theorem dX2_isMember_0 : decode cX2_isMember 0 = .ok (.iload_n 1, 1) := by decide +kernel
theorem dX2_isMember_1 : decode cX2_isMember 1 = .ok (.iconst 0, 1) := by decide +kernel
theorem dX2_isMember_2 : decode cX2_isMember 2 = .ok (.aload_n 0, 1) := by decide +kernel
theorem dX2_isMember_3 : decode cX2_isMember 3 = .ok (.getfield 38, 3) := by decide +kernel
theorem dX2_isMember_6 : decode cX2_isMember 6 = .ok (.iconst 1, 1) := by decide +kernel
theorem dX2_isMember_7 : decode cX2_isMember 7 = .ok (.isub, 1) := by decide +kernel
theorem dX2_isMember_8 : decode cX2_isMember 8 = .ok (.invokestatic 41, 3) := by decide +kernel
theorem dX2_isMember_11 : decode cX2_isMember 11 = .ok (.ireturn, 1) := by decide +kernel
theorem dX2_ofDay_0 : decode cX2_ofDay 0 = .ok (.aload_n 0, 1) := by decide +kernel
theorem dX2_ofDay_1 : decode cX2_ofDay 1 = .ok (.getfield 45, 3) := by decide +kernel
theorem dX2_ofDay_4 : decode cX2_ofDay 4 = .ok (.bipush 24, 2) := by decide +kernel
theorem dX2_ofDay_6 : decode cX2_ofDay 6 = .ok (.irem, 1) := by decide +kernel
theorem dX2_ofDay_7 : decode cX2_ofDay 7 = .ok (.ireturn, 1) := by decide +kernel
set_option maxRecDepth 20000 in
theorem ggX2_steps_X2_isIn : GoodIn wsX2_steps wsX2_isIn := goodIn_r _ [8] (by decide +kernel) (by decide +kernel)
set_option maxRecDepth 20000 in
theorem gX2_steps_X2_isIn : GoodIn wsX2_steps (va_wsS RX2 41 yX2_isIn wsX2_isIn) := goodIn_app (goodIn_of _ (by decide +kernel)) ggX2_steps_X2_isIn
theorem dX2_steps_0 : decode cX2_steps 0 = .ok (.iload_n 0, 1) := by decide +kernel
theorem dX2_steps_1 : decode cX2_steps 1 = .ok (.bipush 7, 2) := by decide +kernel
theorem dX2_steps_3 : decode cX2_steps 3 = .ok (.bipush 17, 2) := by decide +kernel
theorem dX2_steps_5 : decode cX2_steps 5 = .ok (.invokestatic 41, 3) := by decide +kernel
theorem dX2_steps_8 : decode cX2_steps 8 = .ok (.ifCond .eq 13, 3) := by decide +kernel
theorem dX2_steps_11 : decode cX2_steps 11 = .ok (.iload_n 0, 1) := by decide +kernel
theorem dX2_steps_12 : decode cX2_steps 12 = .ok (.bipush 12, 2) := by decide +kernel
theorem dX2_steps_14 : decode cX2_steps 14 = .ok (.isub, 1) := by decide +kernel
theorem dX2_steps_15 : decode cX2_steps 15 = .ok (.invokestatic 48, 3) := by decide +kernel
theorem dX2_steps_18 : decode cX2_steps 18 = .ok (.goto 4, 3) := by decide +kernel
theorem dX2_steps_21 : decode cX2_steps 21 = .ok (.iconst 0, 1) := by decide +kernel
theorem dX2_steps_22 : decode cX2_steps 22 = .ok (.ireturn, 1) := by decide +kernel
theorem dX2_worn_0 : decode cX2_worn 0 = .ok (.aload_n 0, 1) := by decide +kernel
theorem dX2_worn_1 : decode cX2_worn 1 = .ok (.getfield 22, 3) := by decide +kernel
theorem dX2_worn_4 : decode cX2_worn 4 = .ok (.iload_n 1, 1) := by decide +kernel
theorem dX2_worn_5 : decode cX2_worn 5 = .ok (.iaload, 1) := by decide +kernel
theorem dX2_worn_6 : decode cX2_worn 6 = .ok (.iconst (-1), 1) := by decide +kernel
theorem dX2_worn_7 : decode cX2_worn 7 = .ok (.if_icmp .ne 7, 3) := by decide +kernel
theorem dX2_worn_10 : decode cX2_worn 10 = .ok (.iconst 0, 1) := by decide +kernel
theorem dX2_worn_11 : decode cX2_worn 11 = .ok (.goto 14, 3) := by decide +kernel
theorem dX2_worn_14 : decode cX2_worn 14 = .ok (.aload_n 0, 1) := by decide +kernel
theorem dX2_worn_15 : decode cX2_worn 15 = .ok (.getfield 13, 3) := by decide +kernel
theorem dX2_worn_18 : decode cX2_worn 18 = .ok (.aload_n 0, 1) := by decide +kernel
theorem dX2_worn_19 : decode cX2_worn 19 = .ok (.getfield 22, 3) := by decide +kernel
theorem dX2_worn_22 : decode cX2_worn 22 = .ok (.iload_n 1, 1) := by decide +kernel
theorem dX2_worn_23 : decode cX2_worn 23 = .ok (.iaload, 1) := by decide +kernel
theorem dX2_worn_24 : decode cX2_worn 24 = .ok (.iaload, 1) := by decide +kernel
theorem dX2_worn_25 : decode cX2_worn 25 = .ok (.ireturn, 1) := by decide +kernel
set_option maxRecDepth 20000 in
theorem ggX2_with_X2_steps : GoodIn wsX2_with wsX2_steps := goodIn_r _ [5, 6, 7, 8, 9, 10, 11, 4, 12] (by decide +kernel) (by decide +kernel)
set_option maxRecDepth 20000 in
theorem gX2_with_X2_steps : GoodIn wsX2_with (va_wsS RX2 54 yX2_steps wsX2_steps) := goodIn_app (goodIn_of _ (by decide +kernel)) ggX2_with_X2_steps
theorem dX2_with_0 : decode cX2_with 0 = .ok (.aload_n 0, 1) := by decide +kernel
theorem dX2_with_1 : decode cX2_with 1 = .ok (.getfield 9, 3) := by decide +kernel
theorem dX2_with_4 : decode cX2_with 4 = .ok (.iload_n 1, 1) := by decide +kernel
theorem dX2_with_5 : decode cX2_with 5 = .ok (.iaload, 1) := by decide +kernel
theorem dX2_with_6 : decode cX2_with 6 = .ok (.iload_n 2, 1) := by decide +kernel
theorem dX2_with_7 : decode cX2_with 7 = .ok (.iadd, 1) := by decide +kernel
theorem dX2_with_8 : decode cX2_with 8 = .ok (.iload_n 3, 1) := by decide +kernel
theorem dX2_with_9 : decode cX2_with 9 = .ok (.invokestatic 54, 3) := by decide +kernel
theorem dX2_with_12 : decode cX2_with 12 = .ok (.imul, 1) := by decide +kernel
theorem dX2_with_13 : decode cX2_with 13 = .ok (.iconst 2, 1) := by decide +kernel
theorem dX2_with_14 : decode cX2_with 14 = .ok (.idiv, 1) := by decide +kernel
theorem dX2_with_15 : decode cX2_with 15 = .ok (.ireturn, 1) := by decide +kernel
set_option maxRecDepth 20000 in
theorem ggX2_shadow_X2_worn : GoodIn wsX2_shadow wsX2_worn := goodIn_r _ [6, 7, 8, 29, 30, 31, 32, 33, 34, 35, 36, 37, 38, 39, 40, 41] (by decide +kernel) (by decide +kernel)
set_option maxRecDepth 20000 in
theorem gX2_shadow_X2_worn : GoodIn wsX2_shadow (wsV RX2 57 RX2 yX2_worn wsX2_worn) := goodIn_app (goodIn_of _ (by decide +kernel)) ggX2_shadow_X2_worn
set_option maxRecDepth 20000 in
theorem ggX2_shadow_X2_ofDay : GoodIn wsX2_shadow wsX2_ofDay := goodIn_r _ [12, 13, 29, 30, 31, 32, 33, 34, 35, 36, 37, 38, 39, 40, 41] (by decide +kernel) (by decide +kernel)
set_option maxRecDepth 20000 in
theorem gX2_shadow_X2_ofDay : GoodIn wsX2_shadow (wsV RX2 60 RX2 yX2_ofDay wsX2_ofDay) := goodIn_app (goodIn_of _ (by decide +kernel)) ggX2_shadow_X2_ofDay
set_option maxRecDepth 20000 in
theorem ggX2_shadow_X2_with : GoodIn wsX2_shadow wsX2_with := goodIn_r _ [17, 18, 19, 20, 5, 21, 22, 23, 24, 25, 26, 27, 28, 29, 30, 31, 32, 33, 34, 35, 36, 37, 38, 39, 40, 41] (by decide +kernel) (by decide +kernel)
set_option maxRecDepth 20000 in
theorem gX2_shadow_X2_with : GoodIn wsX2_shadow (wsV RX2 64 RX2 yX2_with wsX2_with) := goodIn_app (goodIn_of _ (by decide +kernel)) ggX2_shadow_X2_with
theorem dX2_shadow_0 : decode cX2_shadow 0 = .ok (.aload_n 0, 1) := by decide +kernel
theorem dX2_shadow_1 : decode cX2_shadow 1 = .ok (.iload_n 1, 1) := by decide +kernel
theorem dX2_shadow_2 : decode cX2_shadow 2 = .ok (.aload_n 0, 1) := by decide +kernel
theorem dX2_shadow_3 : decode cX2_shadow 3 = .ok (.iload_n 1, 1) := by decide +kernel
theorem dX2_shadow_4 : decode cX2_shadow 4 = .ok (.invokevirtual 57, 3) := by decide +kernel
theorem dX2_shadow_7 : decode cX2_shadow 7 = .ok (.aload_n 0, 1) := by decide +kernel
theorem dX2_shadow_8 : decode cX2_shadow 8 = .ok (.invokevirtual 60, 3) := by decide +kernel
theorem dX2_shadow_11 : decode cX2_shadow 11 = .ok (.invokevirtual 64, 3) := by decide +kernel
theorem dX2_shadow_14 : decode cX2_shadow 14 = .ok (.iconst 3, 1) := by decide +kernel
theorem dX2_shadow_15 : decode cX2_shadow 15 = .ok (.aload_n 0, 1) := by decide +kernel
theorem dX2_shadow_16 : decode cX2_shadow 16 = .ok (.getfield 19, 3) := by decide +kernel
theorem dX2_shadow_19 : decode cX2_shadow 19 = .ok (.iload_n 1, 1) := by decide +kernel
theorem dX2_shadow_20 : decode cX2_shadow 20 = .ok (.iaload, 1) := by decide +kernel
theorem dX2_shadow_21 : decode cX2_shadow 21 = .ok (.imul, 1) := by decide +kernel
theorem dX2_shadow_22 : decode cX2_shadow 22 = .ok (.iadd, 1) := by decide +kernel
theorem dX2_shadow_23 : decode cX2_shadow 23 = .ok (.ireturn, 1) := by decide +kernel
set_option maxRecDepth 20000 in
theorem ggX2_honest_X2_with : GoodIn wsX2_honest wsX2_with := goodIn_r _ [6, 7, 8, 9, 5, 10, 11, 12, 13, 14, 15, 16, 17, 18, 19, 20, 21, 22, 23, 24, 25, 26, 27, 28, 29, 30] (by decide +kernel) (by decide +kernel)
set_option maxRecDepth 20000 in
theorem gX2_honest_X2_with : GoodIn wsX2_honest (wsV RX2 64 RX2 yX2_with wsX2_with) := goodIn_app (goodIn_of _ (by decide +kernel)) ggX2_honest_X2_with
theorem dX2_honest_0 : decode cX2_honest 0 = .ok (.aload_n 0, 1) := by decide +kernel
theorem dX2_honest_1 : decode cX2_honest 1 = .ok (.iload_n 1, 1) := by decide +kernel
theorem dX2_honest_2 : decode cX2_honest 2 = .ok (.aload_n 0, 1) := by decide +kernel
theorem dX2_honest_3 : decode cX2_honest 3 = .ok (.getfield 13, 3) := by decide +kernel
theorem dX2_honest_6 : decode cX2_honest 6 = .ok (.iload_n 1, 1) := by decide +kernel
theorem dX2_honest_7 : decode cX2_honest 7 = .ok (.iaload, 1) := by decide +kernel
theorem dX2_honest_8 : decode cX2_honest 8 = .ok (.iload_n 2, 1) := by decide +kernel
theorem dX2_honest_9 : decode cX2_honest 9 = .ok (.invokevirtual 64, 3) := by decide +kernel
theorem dX2_honest_12 : decode cX2_honest 12 = .ok (.ireturn, 1) := by decide +kernel
set_option maxRecDepth 20000 in
theorem ggX2_isTrue_X2_honest : GoodIn wsX2_isTrue wsX2_honest := goodIn_r _ [7, 8, 9, 10, 11, 6, 12, 13, 14, 15, 16, 17, 18, 19, 20, 21, 22, 23, 24, 25, 26, 27, 28, 29, 30, 31, 32, 33, 34, 35, 36] (by decide +kernel) (by decide +kernel)
set_option maxRecDepth 20000 in
theorem gX2_isTrue_X2_honest : GoodIn wsX2_isTrue (wsV RX2 68 RX2 yX2_honest wsX2_honest) := goodIn_app (goodIn_of _ (by decide +kernel)) ggX2_isTrue_X2_honest
theorem dX2_isTrue_0 : decode cX2_isTrue 0 = .ok (.aload_n 0, 1) := by decide +kernel
theorem dX2_isTrue_1 : decode cX2_isTrue 1 = .ok (.getfield 25, 3) := by decide +kernel
theorem dX2_isTrue_4 : decode cX2_isTrue 4 = .ok (.iload_n 1, 1) := by decide +kernel
theorem dX2_isTrue_5 : decode cX2_isTrue 5 = .ok (.iaload, 1) := by decide +kernel
theorem dX2_isTrue_6 : decode cX2_isTrue 6 = .ok (.aload_n 0, 1) := by decide +kernel
theorem dX2_isTrue_7 : decode cX2_isTrue 7 = .ok (.iload_n 1, 1) := by decide +kernel
theorem dX2_isTrue_8 : decode cX2_isTrue 8 = .ok (.aload_n 0, 1) := by decide +kernel
theorem dX2_isTrue_9 : decode cX2_isTrue 9 = .ok (.getfield 28, 3) := by decide +kernel
theorem dX2_isTrue_12 : decode cX2_isTrue 12 = .ok (.iload_n 1, 1) := by decide +kernel
theorem dX2_isTrue_13 : decode cX2_isTrue 13 = .ok (.iaload, 1) := by decide +kernel
theorem dX2_isTrue_14 : decode cX2_isTrue 14 = .ok (.invokevirtual 68, 3) := by decide +kernel
theorem dX2_isTrue_17 : decode cX2_isTrue 17 = .ok (.if_icmp .ne 7, 3) := by decide +kernel
theorem dX2_isTrue_20 : decode cX2_isTrue 20 = .ok (.iconst 1, 1) := by decide +kernel
theorem dX2_isTrue_21 : decode cX2_isTrue 21 = .ok (.goto 4, 3) := by decide +kernel
theorem dX2_isTrue_24 : decode cX2_isTrue 24 = .ok (.iconst 0, 1) := by decide +kernel
theorem dX2_isTrue_25 : decode cX2_isTrue 25 = .ok (.ireturn, 1) := by decide +kernel
theorem dX2_hasLentOut_0 : decode cX2_hasLentOut 0 = .ok (.iconst 0, 1) := by decide +kernel
theorem dX2_hasLentOut_1 : decode cX2_hasLentOut 1 = .ok (.istore_n 2, 1) := by decide +kernel
theorem dX2_hasLentOut_2 : decode cX2_hasLentOut 2 = .ok (.iload_n 2, 1) := by decide +kernel
theorem dX2_hasLentOut_3 : decode cX2_hasLentOut 3 = .ok (.aload_n 0, 1) := by decide +kernel
theorem dX2_hasLentOut_4 : decode cX2_hasLentOut 4 = .ok (.getfield 38, 3) := by decide +kernel
theorem dX2_hasLentOut_7 : decode cX2_hasLentOut 7 = .ok (.if_icmp .ge 26, 3) := by decide +kernel
theorem dX2_hasLentOut_10 : decode cX2_hasLentOut 10 = .ok (.iload_n 2, 1) := by decide +kernel
theorem dX2_hasLentOut_11 : decode cX2_hasLentOut 11 = .ok (.iload_n 1, 1) := by decide +kernel
theorem dX2_hasLentOut_12 : decode cX2_hasLentOut 12 = .ok (.if_icmp .eq 15, 3) := by decide +kernel
theorem dX2_hasLentOut_15 : decode cX2_hasLentOut 15 = .ok (.aload_n 0, 1) := by decide +kernel
theorem dX2_hasLentOut_16 : decode cX2_hasLentOut 16 = .ok (.getfield 22, 3) := by decide +kernel
theorem dX2_hasLentOut_19 : decode cX2_hasLentOut 19 = .ok (.iload_n 2, 1) := by decide +kernel
theorem dX2_hasLentOut_20 : decode cX2_hasLentOut 20 = .ok (.iaload, 1) := by decide +kernel
theorem dX2_hasLentOut_21 : decode cX2_hasLentOut 21 = .ok (.iload_n 1, 1) := by decide +kernel
theorem dX2_hasLentOut_22 : decode cX2_hasLentOut 22 = .ok (.if_icmp .ne 5, 3) := by decide +kernel
theorem dX2_hasLentOut_25 : decode cX2_hasLentOut 25 = .ok (.iconst 1, 1) := by decide +kernel
theorem dX2_hasLentOut_26 : decode cX2_hasLentOut 26 = .ok (.ireturn, 1) := by decide +kernel
theorem dX2_hasLentOut_27 : decode cX2_hasLentOut 27 = .ok (.iinc 2 1, 3) := by decide +kernel
theorem dX2_hasLentOut_30 : decode cX2_hasLentOut 30 = .ok (.goto (-28), 3) := by decide +kernel
theorem dX2_hasLentOut_33 : decode cX2_hasLentOut 33 = .ok (.iconst 0, 1) := by decide +kernel
theorem dX2_hasLentOut_34 : decode cX2_hasLentOut 34 = .ok (.ireturn, 1) := by decide +kernel
theorem dX2_borrows_0 : decode cX2_borrows 0 = .ok (.aload_n 0, 1) := by decide +kernel
theorem dX2_borrows_1 : decode cX2_borrows 1 = .ok (.getfield 22, 3) := by decide +kernel
theorem dX2_borrows_4 : decode cX2_borrows 4 = .ok (.iload_n 1, 1) := by decide +kernel
theorem dX2_borrows_5 : decode cX2_borrows 5 = .ok (.iaload, 1) := by decide +kernel
theorem dX2_borrows_6 : decode cX2_borrows 6 = .ok (.iconst (-1), 1) := by decide +kernel
theorem dX2_borrows_7 : decode cX2_borrows 7 = .ok (.if_icmp .eq 17, 3) := by decide +kernel
theorem dX2_borrows_10 : decode cX2_borrows 10 = .ok (.aload_n 0, 1) := by decide +kernel
theorem dX2_borrows_11 : decode cX2_borrows 11 = .ok (.getfield 22, 3) := by decide +kernel
theorem dX2_borrows_14 : decode cX2_borrows 14 = .ok (.iload_n 1, 1) := by decide +kernel
theorem dX2_borrows_15 : decode cX2_borrows 15 = .ok (.iaload, 1) := by decide +kernel
theorem dX2_borrows_16 : decode cX2_borrows 16 = .ok (.iload_n 1, 1) := by decide +kernel
theorem dX2_borrows_17 : decode cX2_borrows 17 = .ok (.if_icmp .eq 7, 3) := by decide +kernel
theorem dX2_borrows_20 : decode cX2_borrows 20 = .ok (.iconst 1, 1) := by decide +kernel
theorem dX2_borrows_21 : decode cX2_borrows 21 = .ok (.goto 4, 3) := by decide +kernel
theorem dX2_borrows_24 : decode cX2_borrows 24 = .ok (.iconst 0, 1) := by decide +kernel
theorem dX2_borrows_25 : decode cX2_borrows 25 = .ok (.ireturn, 1) := by decide +kernel
theorem dX2_canLend_0 : decode cX2_canLend 0 = .ok (.aload_n 0, 1) := by decide +kernel
theorem dX2_canLend_1 : decode cX2_canLend 1 = .ok (.getfield 13, 3) := by decide +kernel
theorem dX2_canLend_4 : decode cX2_canLend 4 = .ok (.iload_n 1, 1) := by decide +kernel
theorem dX2_canLend_5 : decode cX2_canLend 5 = .ok (.iaload, 1) := by decide +kernel
theorem dX2_canLend_6 : decode cX2_canLend 6 = .ok (.ifCond .le 17, 3) := by decide +kernel
theorem dX2_canLend_9 : decode cX2_canLend 9 = .ok (.aload_n 0, 1) := by decide +kernel
theorem dX2_canLend_10 : decode cX2_canLend 10 = .ok (.getfield 22, 3) := by decide +kernel
theorem dX2_canLend_13 : decode cX2_canLend 13 = .ok (.iload_n 1, 1) := by decide +kernel
theorem dX2_canLend_14 : decode cX2_canLend 14 = .ok (.iaload, 1) := by decide +kernel
theorem dX2_canLend_15 : decode cX2_canLend 15 = .ok (.iload_n 1, 1) := by decide +kernel
theorem dX2_canLend_16 : decode cX2_canLend 16 = .ok (.if_icmp .ne 7, 3) := by decide +kernel
theorem dX2_canLend_19 : decode cX2_canLend 19 = .ok (.iconst 1, 1) := by decide +kernel
theorem dX2_canLend_20 : decode cX2_canLend 20 = .ok (.goto 4, 3) := by decide +kernel
theorem dX2_canLend_23 : decode cX2_canLend 23 = .ok (.iconst 0, 1) := by decide +kernel
theorem dX2_canLend_24 : decode cX2_canLend 24 = .ok (.ireturn, 1) := by decide +kernel
theorem dX2_own_0 : decode cX2_own 0 = .ok (.aload_n 0, 1) := by decide +kernel
theorem dX2_own_1 : decode cX2_own 1 = .ok (.getfield 13, 3) := by decide +kernel
theorem dX2_own_4 : decode cX2_own 4 = .ok (.iload_n 1, 1) := by decide +kernel
theorem dX2_own_5 : decode cX2_own 5 = .ok (.iaload, 1) := by decide +kernel
theorem dX2_own_6 : decode cX2_own 6 = .ok (.ifCond .le 7, 3) := by decide +kernel
theorem dX2_own_9 : decode cX2_own 9 = .ok (.iload_n 1, 1) := by decide +kernel
theorem dX2_own_10 : decode cX2_own 10 = .ok (.goto 4, 3) := by decide +kernel
theorem dX2_own_13 : decode cX2_own 13 = .ok (.iconst (-1), 1) := by decide +kernel
theorem dX2_own_14 : decode cX2_own 14 = .ok (.ireturn, 1) := by decide +kernel
set_option maxRecDepth 20000 in
theorem ggX2_untilAudit_X2_ofDay : GoodIn wsX2_untilAudit wsX2_ofDay := goodIn_r _ [5, 6, 7, 8, 9, 10, 11, 12, 13, 14, 15, 16, 17, 18, 19] (by decide +kernel) (by decide +kernel)
set_option maxRecDepth 20000 in
theorem gX2_untilAudit_X2_ofDay : GoodIn wsX2_untilAudit (wsV RX2 60 RX2 yX2_ofDay wsX2_ofDay) := goodIn_app (goodIn_of _ (by decide +kernel)) ggX2_untilAudit_X2_ofDay
theorem dX2_untilAudit_0 : decode cX2_untilAudit 0 = .ok (.bipush 12, 2) := by decide +kernel
theorem dX2_untilAudit_2 : decode cX2_untilAudit 2 = .ok (.aload_n 0, 1) := by decide +kernel
theorem dX2_untilAudit_3 : decode cX2_untilAudit 3 = .ok (.invokevirtual 60, 3) := by decide +kernel
theorem dX2_untilAudit_6 : decode cX2_untilAudit 6 = .ok (.isub, 1) := by decide +kernel
theorem dX2_untilAudit_7 : decode cX2_untilAudit 7 = .ok (.bipush 24, 2) := by decide +kernel
theorem dX2_untilAudit_9 : decode cX2_untilAudit 9 = .ok (.iadd, 1) := by decide +kernel
theorem dX2_untilAudit_10 : decode cX2_untilAudit 10 = .ok (.bipush 24, 2) := by decide +kernel
theorem dX2_untilAudit_12 : decode cX2_untilAudit 12 = .ok (.irem, 1) := by decide +kernel
theorem dX2_untilAudit_13 : decode cX2_untilAudit 13 = .ok (.istore_n 1, 1) := by decide +kernel
theorem dX2_untilAudit_14 : decode cX2_untilAudit 14 = .ok (.iload_n 1, 1) := by decide +kernel
theorem dX2_untilAudit_15 : decode cX2_untilAudit 15 = .ok (.ifCond .ne 8, 3) := by decide +kernel
theorem dX2_untilAudit_18 : decode cX2_untilAudit 18 = .ok (.bipush 24, 2) := by decide +kernel
theorem dX2_untilAudit_20 : decode cX2_untilAudit 20 = .ok (.goto 4, 3) := by decide +kernel
theorem dX2_untilAudit_23 : decode cX2_untilAudit 23 = .ok (.iload_n 1, 1) := by decide +kernel
theorem dX2_untilAudit_24 : decode cX2_untilAudit 24 = .ok (.ireturn, 1) := by decide +kernel
set_option maxRecDepth 20000 in
theorem ggX2_brings_X2_isTrue : GoodIn wsX2_brings wsX2_isTrue := goodIn_r _ [7, 2, 8, 9, 10, 11, 6, 12, 13, 14, 15, 16, 17, 18, 19, 20, 21, 22, 23, 24, 25, 26, 27, 28, 29, 30, 31, 32, 33, 34, 35, 36, 37, 38, 39, 40, 41] (by decide +kernel) (by decide +kernel)
set_option maxRecDepth 20000 in
theorem gX2_brings_X2_isTrue : GoodIn wsX2_brings (wsV RX2 72 RX2 yX2_isTrue wsX2_isTrue) := goodIn_app (goodIn_of _ (by decide +kernel)) ggX2_brings_X2_isTrue
theorem dX2_brings_0 : decode cX2_brings 0 = .ok (.bipush (-2), 2) := by decide +kernel
theorem dX2_brings_2 : decode cX2_brings 2 = .ok (.aload_n 0, 1) := by decide +kernel
theorem dX2_brings_3 : decode cX2_brings 3 = .ok (.getfield 19, 3) := by decide +kernel
theorem dX2_brings_6 : decode cX2_brings 6 = .ok (.iload_n 1, 1) := by decide +kernel
theorem dX2_brings_7 : decode cX2_brings 7 = .ok (.iaload, 1) := by decide +kernel
theorem dX2_brings_8 : decode cX2_brings 8 = .ok (.imul, 1) := by decide +kernel
theorem dX2_brings_9 : decode cX2_brings 9 = .ok (.aload_n 0, 1) := by decide +kernel
theorem dX2_brings_10 : decode cX2_brings 10 = .ok (.getfield 25, 3) := by decide +kernel
theorem dX2_brings_13 : decode cX2_brings 13 = .ok (.iload_n 1, 1) := by decide +kernel
theorem dX2_brings_14 : decode cX2_brings 14 = .ok (.iaload, 1) := by decide +kernel
theorem dX2_brings_15 : decode cX2_brings 15 = .ok (.iconst (-1), 1) := by decide +kernel
theorem dX2_brings_16 : decode cX2_brings 16 = .ok (.if_icmp .ne 7, 3) := by decide +kernel
theorem dX2_brings_19 : decode cX2_brings 19 = .ok (.iconst 0, 1) := by decide +kernel
theorem dX2_brings_20 : decode cX2_brings 20 = .ok (.goto 17, 3) := by decide +kernel
theorem dX2_brings_23 : decode cX2_brings 23 = .ok (.aload_n 0, 1) := by decide +kernel
theorem dX2_brings_24 : decode cX2_brings 24 = .ok (.iload_n 1, 1) := by decide +kernel
theorem dX2_brings_25 : decode cX2_brings 25 = .ok (.invokevirtual 72, 3) := by decide +kernel
theorem dX2_brings_28 : decode cX2_brings 28 = .ok (.ifCond .eq 7, 3) := by decide +kernel
theorem dX2_brings_31 : decode cX2_brings 31 = .ok (.iconst 3, 1) := by decide +kernel
theorem dX2_brings_32 : decode cX2_brings 32 = .ok (.goto 5, 3) := by decide +kernel
theorem dX2_brings_35 : decode cX2_brings 35 = .ok (.bipush (-10), 2) := by decide +kernel
theorem dX2_brings_37 : decode cX2_brings 37 = .ok (.iadd, 1) := by decide +kernel
theorem dX2_brings_38 : decode cX2_brings 38 = .ok (.ireturn, 1) := by decide +kernel
set_option maxRecDepth 20000 in
theorem ggX2_audit_X2_brings : GoodIn wsX2_audit wsX2_brings := goodIn_r _ [13, 4, 6, 14, 15, 16, 12, 17, 18, 19, 20, 21, 22, 23, 24, 25, 26, 27, 28, 29, 30, 31, 32, 33, 34, 35, 36, 37, 38, 43, 44, 45, 46, 47, 48, 49, 50, 51, 52, 53, 54, 55] (by decide +kernel) (by decide +kernel)
set_option maxRecDepth 20000 in
theorem gX2_audit_X2_brings : GoodIn wsX2_audit (wsV RX2 76 RX2 yX2_brings wsX2_brings) := goodIn_app (goodIn_of _ (by decide +kernel)) ggX2_audit_X2_brings
set_option maxRecDepth 20000 in
theorem ggX2_audit_X2_own : GoodIn wsX2_audit wsX2_own := goodIn_r _ [42, 23, 43, 44, 45, 46, 47, 48, 49, 50, 51, 52, 53, 54, 55] (by decide +kernel) (by decide +kernel)
set_option maxRecDepth 20000 in
theorem gX2_audit_X2_own : GoodIn wsX2_audit (wsV RX2 82 RX2 yX2_own wsX2_own) := goodIn_app (goodIn_of _ (by decide +kernel)) ggX2_audit_X2_own
set_option maxRecDepth 20000 in
theorem ggX2_audit_X2_isTrue : GoodIn wsX2_audit wsX2_isTrue := goodIn_r _ [17, 6, 18, 19, 20, 21, 12, 22, 23, 24, 25, 26, 27, 28, 29, 30, 31, 32, 33, 34, 35, 36, 37, 38, 43, 44, 45, 46, 47, 48, 49, 50, 51, 52, 53, 54, 55] (by decide +kernel) (by decide +kernel)
set_option maxRecDepth 20000 in
theorem gX2_audit_X2_isTrue : GoodIn wsX2_audit (wsV RX2 72 RX2 yX2_isTrue wsX2_isTrue) := goodIn_app (goodIn_of _ (by decide +kernel)) ggX2_audit_X2_isTrue
theorem dX2_audit_0 : decode cX2_audit 0 = .ok (.iconst 0, 1) := by decide +kernel
theorem dX2_audit_1 : decode cX2_audit 1 = .ok (.istore_n 1, 1) := by decide +kernel
theorem dX2_audit_2 : decode cX2_audit 2 = .ok (.iload_n 1, 1) := by decide +kernel
theorem dX2_audit_3 : decode cX2_audit 3 = .ok (.aload_n 0, 1) := by decide +kernel
theorem dX2_audit_4 : decode cX2_audit 4 = .ok (.getfield 38, 3) := by decide +kernel
theorem dX2_audit_7 : decode cX2_audit 7 = .ok (.if_icmp .ge 112, 3) := by decide +kernel
theorem dX2_audit_10 : decode cX2_audit 10 = .ok (.aload_n 0, 1) := by decide +kernel
theorem dX2_audit_11 : decode cX2_audit 11 = .ok (.getfield 16, 3) := by decide +kernel
theorem dX2_audit_14 : decode cX2_audit 14 = .ok (.iload_n 1, 1) := by decide +kernel
theorem dX2_audit_15 : decode cX2_audit 15 = .ok (.dup2, 1) := by decide +kernel
theorem dX2_audit_16 : decode cX2_audit 16 = .ok (.iaload, 1) := by decide +kernel
theorem dX2_audit_17 : decode cX2_audit 17 = .ok (.aload_n 0, 1) := by decide +kernel
theorem dX2_audit_18 : decode cX2_audit 18 = .ok (.iload_n 1, 1) := by decide +kernel
theorem dX2_audit_19 : decode cX2_audit 19 = .ok (.invokevirtual 76, 3) := by decide +kernel
theorem dX2_audit_22 : decode cX2_audit 22 = .ok (.iadd, 1) := by decide +kernel
theorem dX2_audit_23 : decode cX2_audit 23 = .ok (.iastore, 1) := by decide +kernel
theorem dX2_audit_24 : decode cX2_audit 24 = .ok (.aload_n 0, 1) := by decide +kernel
theorem dX2_audit_25 : decode cX2_audit 25 = .ok (.dup, 1) := by decide +kernel
theorem dX2_audit_26 : decode cX2_audit 26 = .ok (.getfield 79, 3) := by decide +kernel
theorem dX2_audit_29 : decode cX2_audit 29 = .ok (.aload_n 0, 1) := by decide +kernel
theorem dX2_audit_30 : decode cX2_audit 30 = .ok (.getfield 19, 3) := by decide +kernel
theorem dX2_audit_33 : decode cX2_audit 33 = .ok (.iload_n 1, 1) := by decide +kernel
theorem dX2_audit_34 : decode cX2_audit 34 = .ok (.iaload, 1) := by decide +kernel
theorem dX2_audit_35 : decode cX2_audit 35 = .ok (.ifCond .le 7, 3) := by decide +kernel
theorem dX2_audit_38 : decode cX2_audit 38 = .ok (.iconst 1, 1) := by decide +kernel
theorem dX2_audit_39 : decode cX2_audit 39 = .ok (.goto 4, 3) := by decide +kernel
theorem dX2_audit_42 : decode cX2_audit 42 = .ok (.iconst 0, 1) := by decide +kernel
theorem dX2_audit_43 : decode cX2_audit 43 = .ok (.iadd, 1) := by decide +kernel
theorem dX2_audit_44 : decode cX2_audit 44 = .ok (.putfield 79, 3) := by decide +kernel
theorem dX2_audit_47 : decode cX2_audit 47 = .ok (.aload_n 0, 1) := by decide +kernel
theorem dX2_audit_48 : decode cX2_audit 48 = .ok (.getfield 19, 3) := by decide +kernel
theorem dX2_audit_51 : decode cX2_audit 51 = .ok (.iload_n 1, 1) := by decide +kernel
theorem dX2_audit_52 : decode cX2_audit 52 = .ok (.iconst 0, 1) := by decide +kernel
theorem dX2_audit_53 : decode cX2_audit 53 = .ok (.iastore, 1) := by decide +kernel
theorem dX2_audit_54 : decode cX2_audit 54 = .ok (.aload_n 0, 1) := by decide +kernel
theorem dX2_audit_55 : decode cX2_audit 55 = .ok (.getfield 22, 3) := by decide +kernel
theorem dX2_audit_58 : decode cX2_audit 58 = .ok (.iload_n 1, 1) := by decide +kernel
theorem dX2_audit_59 : decode cX2_audit 59 = .ok (.aload_n 0, 1) := by decide +kernel
theorem dX2_audit_60 : decode cX2_audit 60 = .ok (.iload_n 1, 1) := by decide +kernel
theorem dX2_audit_61 : decode cX2_audit 61 = .ok (.invokevirtual 82, 3) := by decide +kernel
theorem dX2_audit_64 : decode cX2_audit 64 = .ok (.iastore, 1) := by decide +kernel
theorem dX2_audit_65 : decode cX2_audit 65 = .ok (.aload_n 0, 1) := by decide +kernel
theorem dX2_audit_66 : decode cX2_audit 66 = .ok (.getfield 25, 3) := by decide +kernel
theorem dX2_audit_69 : decode cX2_audit 69 = .ok (.iload_n 1, 1) := by decide +kernel
theorem dX2_audit_70 : decode cX2_audit 70 = .ok (.iaload, 1) := by decide +kernel
theorem dX2_audit_71 : decode cX2_audit 71 = .ok (.iconst (-1), 1) := by decide +kernel
theorem dX2_audit_72 : decode cX2_audit 72 = .ok (.if_icmp .eq 41, 3) := by decide +kernel
theorem dX2_audit_75 : decode cX2_audit 75 = .ok (.aload_n 0, 1) := by decide +kernel
theorem dX2_audit_76 : decode cX2_audit 76 = .ok (.iload_n 1, 1) := by decide +kernel
theorem dX2_audit_77 : decode cX2_audit 77 = .ok (.invokevirtual 72, 3) := by decide +kernel
theorem dX2_audit_80 : decode cX2_audit 80 = .ok (.ifCond .eq 6, 3) := by decide +kernel
theorem dX2_audit_83 : decode cX2_audit 83 = .ok (.goto 30, 3) := by decide +kernel
theorem dX2_audit_86 : decode cX2_audit 86 = .ok (.aload_n 0, 1) := by decide +kernel
theorem dX2_audit_87 : decode cX2_audit 87 = .ok (.getfield 25, 3) := by decide +kernel
theorem dX2_audit_90 : decode cX2_audit 90 = .ok (.iload_n 1, 1) := by decide +kernel
theorem dX2_audit_91 : decode cX2_audit 91 = .ok (.iconst (-1), 1) := by decide +kernel
theorem dX2_audit_92 : decode cX2_audit 92 = .ok (.iastore, 1) := by decide +kernel
theorem dX2_audit_93 : decode cX2_audit 93 = .ok (.aload_n 0, 1) := by decide +kernel
theorem dX2_audit_94 : decode cX2_audit 94 = .ok (.getfield 31, 3) := by decide +kernel
theorem dX2_audit_97 : decode cX2_audit 97 = .ok (.iload_n 1, 1) := by decide +kernel
theorem dX2_audit_98 : decode cX2_audit 98 = .ok (.dup2, 1) := by decide +kernel
theorem dX2_audit_99 : decode cX2_audit 99 = .ok (.iaload, 1) := by decide +kernel
theorem dX2_audit_100 : decode cX2_audit 100 = .ok (.iconst 1, 1) := by decide +kernel
theorem dX2_audit_101 : decode cX2_audit 101 = .ok (.iadd, 1) := by decide +kernel
theorem dX2_audit_102 : decode cX2_audit 102 = .ok (.iastore, 1) := by decide +kernel
theorem dX2_audit_103 : decode cX2_audit 103 = .ok (.aload_n 0, 1) := by decide +kernel
theorem dX2_audit_104 : decode cX2_audit 104 = .ok (.dup, 1) := by decide +kernel
theorem dX2_audit_105 : decode cX2_audit 105 = .ok (.getfield 85, 3) := by decide +kernel
theorem dX2_audit_108 : decode cX2_audit 108 = .ok (.iconst 1, 1) := by decide +kernel
theorem dX2_audit_109 : decode cX2_audit 109 = .ok (.iadd, 1) := by decide +kernel
theorem dX2_audit_110 : decode cX2_audit 110 = .ok (.putfield 85, 3) := by decide +kernel
theorem dX2_audit_113 : decode cX2_audit 113 = .ok (.iinc 1 1, 3) := by decide +kernel
theorem dX2_audit_116 : decode cX2_audit 116 = .ok (.goto (-114), 3) := by decide +kernel
theorem dX2_audit_119 : decode cX2_audit 119 = .ok (.return_, 1) := by decide +kernel
set_option maxRecDepth 20000 in
theorem ggX2_hourOn_X2_ofDay : GoodIn wsX2_hourOn wsX2_ofDay := goodIn_r _ [6, 1, 52, 53, 54, 55, 56, 57, 58, 59, 60, 61, 62, 63, 64] (by decide +kernel) (by decide +kernel)
set_option maxRecDepth 20000 in
theorem gX2_hourOn_X2_ofDay : GoodIn wsX2_hourOn (wsV RX2 60 RX2 yX2_ofDay wsX2_ofDay) := goodIn_app (goodIn_of _ (by decide +kernel)) ggX2_hourOn_X2_ofDay
set_option maxRecDepth 20000 in
theorem ggX2_hourOn_X2_audit : GoodIn wsX2_hourOn wsX2_audit := goodIn_r _ [10, 11, 12, 13, 14, 15, 16, 17, 18, 19, 20, 21, 5, 22, 23, 24, 25, 26, 27, 28, 29, 30, 31, 32, 33, 34, 35, 36, 37, 38, 39, 40, 41, 42, 43, 44, 45, 46, 47, 48, 49, 50, 51, 52, 53, 54, 55, 56, 57, 58, 59, 60, 61, 62, 63, 64] (by decide +kernel) (by decide +kernel)
set_option maxRecDepth 20000 in
theorem gX2_hourOn_X2_audit : GoodIn wsX2_hourOn (wsV RX2 88 RX2 yX2_audit wsX2_audit) := goodIn_app (goodIn_of _ (by decide +kernel)) ggX2_hourOn_X2_audit
theorem dX2_hourOn_0 : decode cX2_hourOn 0 = .ok (.aload_n 0, 1) := by decide +kernel
theorem dX2_hourOn_1 : decode cX2_hourOn 1 = .ok (.dup, 1) := by decide +kernel
theorem dX2_hourOn_2 : decode cX2_hourOn 2 = .ok (.getfield 45, 3) := by decide +kernel
theorem dX2_hourOn_5 : decode cX2_hourOn 5 = .ok (.iconst 1, 1) := by decide +kernel
theorem dX2_hourOn_6 : decode cX2_hourOn 6 = .ok (.iadd, 1) := by decide +kernel
theorem dX2_hourOn_7 : decode cX2_hourOn 7 = .ok (.putfield 45, 3) := by decide +kernel
theorem dX2_hourOn_10 : decode cX2_hourOn 10 = .ok (.aload_n 0, 1) := by decide +kernel
theorem dX2_hourOn_11 : decode cX2_hourOn 11 = .ok (.invokevirtual 60, 3) := by decide +kernel
theorem dX2_hourOn_14 : decode cX2_hourOn 14 = .ok (.bipush 12, 2) := by decide +kernel
theorem dX2_hourOn_16 : decode cX2_hourOn 16 = .ok (.if_icmp .ne 7, 3) := by decide +kernel
theorem dX2_hourOn_19 : decode cX2_hourOn 19 = .ok (.aload_n 0, 1) := by decide +kernel
theorem dX2_hourOn_20 : decode cX2_hourOn 20 = .ok (.invokevirtual 88, 3) := by decide +kernel
theorem dX2_hourOn_23 : decode cX2_hourOn 23 = .ok (.return_, 1) := by decide +kernel
set_option maxRecDepth 20000 in
theorem ggX2_join_X2_isIn : GoodIn wsX2_join wsX2_isIn := goodIn_r _ [11] (by decide +kernel) (by decide +kernel)
set_option maxRecDepth 20000 in
theorem gX2_join_X2_isIn : GoodIn wsX2_join (va_wsS RX2 41 yX2_isIn wsX2_isIn) := goodIn_app (goodIn_of _ (by decide +kernel)) ggX2_join_X2_isIn
set_option maxRecDepth 20000 in
theorem ggX2_join_X2_no : GoodIn wsX2_join wsX2_no := goodIn_r _ [15, 1, 20, 21, 22, 23, 24, 25, 26, 27, 28, 29, 30, 31, 32] (by decide +kernel) (by decide +kernel)
set_option maxRecDepth 20000 in
theorem gX2_join_X2_no : GoodIn wsX2_join (wsV RX2 91 RX2 yX2_no wsX2_no) := goodIn_app (goodIn_of _ (by decide +kernel)) ggX2_join_X2_no
set_option maxRecDepth 20000 in
theorem ggX2_join_X2_own : GoodIn wsX2_join wsX2_own := goodIn_r _ [19, 4, 20, 21, 22, 23, 24, 25, 26, 27, 28, 29, 30, 31, 32] (by decide +kernel) (by decide +kernel)
set_option maxRecDepth 20000 in
theorem gX2_join_X2_own : GoodIn wsX2_join (wsV RX2 82 RX2 yX2_own wsX2_own) := goodIn_app (goodIn_of _ (by decide +kernel)) ggX2_join_X2_own
theorem dX2_join_0 : decode cX2_join 0 = .ok (.aload_n 0, 1) := by decide +kernel
theorem dX2_join_1 : decode cX2_join 1 = .ok (.iconst 0, 1) := by decide +kernel
theorem dX2_join_2 : decode cX2_join 2 = .ok (.putfield 34, 3) := by decide +kernel
theorem dX2_join_5 : decode cX2_join 5 = .ok (.iload_n 1, 1) := by decide +kernel
theorem dX2_join_6 : decode cX2_join 6 = .ok (.iconst 1, 1) := by decide +kernel
theorem dX2_join_7 : decode cX2_join 7 = .ok (.bipush 99, 2) := by decide +kernel
theorem dX2_join_9 : decode cX2_join 9 = .ok (.invokestatic 41, 3) := by decide +kernel
theorem dX2_join_12 : decode cX2_join 12 = .ok (.ifCond .eq 13, 3) := by decide +kernel
theorem dX2_join_15 : decode cX2_join 15 = .ok (.iload_n 2, 1) := by decide +kernel
theorem dX2_join_16 : decode cX2_join 16 = .ok (.iconst 0, 1) := by decide +kernel
theorem dX2_join_17 : decode cX2_join 17 = .ok (.bipush 20, 2) := by decide +kernel
theorem dX2_join_19 : decode cX2_join 19 = .ok (.invokestatic 41, 3) := by decide +kernel
theorem dX2_join_22 : decode cX2_join 22 = .ok (.ifCond .ne 9, 3) := by decide +kernel
theorem dX2_join_25 : decode cX2_join 25 = .ok (.aload_n 0, 1) := by decide +kernel
theorem dX2_join_26 : decode cX2_join 26 = .ok (.iconst 1, 1) := by decide +kernel
theorem dX2_join_27 : decode cX2_join 27 = .ok (.invokevirtual 91, 3) := by decide +kernel
theorem dX2_join_30 : decode cX2_join 30 = .ok (.ireturn, 1) := by decide +kernel
theorem dX2_join_31 : decode cX2_join 31 = .ok (.aload_n 0, 1) := by decide +kernel
theorem dX2_join_32 : decode cX2_join 32 = .ok (.getfield 38, 3) := by decide +kernel
theorem dX2_join_35 : decode cX2_join 35 = .ok (.bipush 10, 2) := by decide +kernel
theorem dX2_join_37 : decode cX2_join 37 = .ok (.if_icmp .ne 9, 3) := by decide +kernel
theorem dX2_join_40 : decode cX2_join 40 = .ok (.aload_n 0, 1) := by decide +kernel
theorem dX2_join_41 : decode cX2_join 41 = .ok (.iconst 2, 1) := by decide +kernel
theorem dX2_join_42 : decode cX2_join 42 = .ok (.invokevirtual 91, 3) := by decide +kernel
theorem dX2_join_45 : decode cX2_join 45 = .ok (.ireturn, 1) := by decide +kernel
theorem dX2_join_46 : decode cX2_join 46 = .ok (.aload_n 0, 1) := by decide +kernel
theorem dX2_join_47 : decode cX2_join 47 = .ok (.getfield 38, 3) := by decide +kernel
theorem dX2_join_50 : decode cX2_join 50 = .ok (.istore_n 3, 1) := by decide +kernel
theorem dX2_join_51 : decode cX2_join 51 = .ok (.aload_n 0, 1) := by decide +kernel
theorem dX2_join_52 : decode cX2_join 52 = .ok (.dup, 1) := by decide +kernel
theorem dX2_join_53 : decode cX2_join 53 = .ok (.getfield 38, 3) := by decide +kernel
theorem dX2_join_56 : decode cX2_join 56 = .ok (.iconst 1, 1) := by decide +kernel
theorem dX2_join_57 : decode cX2_join 57 = .ok (.iadd, 1) := by decide +kernel
theorem dX2_join_58 : decode cX2_join 58 = .ok (.putfield 38, 3) := by decide +kernel
theorem dX2_join_61 : decode cX2_join 61 = .ok (.aload_n 0, 1) := by decide +kernel
theorem dX2_join_62 : decode cX2_join 62 = .ok (.getfield 9, 3) := by decide +kernel
theorem dX2_join_65 : decode cX2_join 65 = .ok (.iload_n 3, 1) := by decide +kernel
theorem dX2_join_66 : decode cX2_join 66 = .ok (.iload_n 1, 1) := by decide +kernel
theorem dX2_join_67 : decode cX2_join 67 = .ok (.iastore, 1) := by decide +kernel
theorem dX2_join_68 : decode cX2_join 68 = .ok (.aload_n 0, 1) := by decide +kernel
theorem dX2_join_69 : decode cX2_join 69 = .ok (.getfield 13, 3) := by decide +kernel
theorem dX2_join_72 : decode cX2_join 72 = .ok (.iload_n 3, 1) := by decide +kernel
theorem dX2_join_73 : decode cX2_join 73 = .ok (.iload_n 2, 1) := by decide +kernel
theorem dX2_join_74 : decode cX2_join 74 = .ok (.iastore, 1) := by decide +kernel
theorem dX2_join_75 : decode cX2_join 75 = .ok (.aload_n 0, 1) := by decide +kernel
theorem dX2_join_76 : decode cX2_join 76 = .ok (.getfield 16, 3) := by decide +kernel
theorem dX2_join_79 : decode cX2_join 79 = .ok (.iload_n 3, 1) := by decide +kernel
theorem dX2_join_80 : decode cX2_join 80 = .ok (.bipush 50, 2) := by decide +kernel
theorem dX2_join_82 : decode cX2_join 82 = .ok (.iastore, 1) := by decide +kernel
theorem dX2_join_83 : decode cX2_join 83 = .ok (.aload_n 0, 1) := by decide +kernel
theorem dX2_join_84 : decode cX2_join 84 = .ok (.getfield 22, 3) := by decide +kernel
theorem dX2_join_87 : decode cX2_join 87 = .ok (.iload_n 3, 1) := by decide +kernel
theorem dX2_join_88 : decode cX2_join 88 = .ok (.aload_n 0, 1) := by decide +kernel
theorem dX2_join_89 : decode cX2_join 89 = .ok (.iload_n 3, 1) := by decide +kernel
theorem dX2_join_90 : decode cX2_join 90 = .ok (.invokevirtual 82, 3) := by decide +kernel
theorem dX2_join_93 : decode cX2_join 93 = .ok (.iastore, 1) := by decide +kernel
theorem dX2_join_94 : decode cX2_join 94 = .ok (.aload_n 0, 1) := by decide +kernel
theorem dX2_join_95 : decode cX2_join 95 = .ok (.getfield 25, 3) := by decide +kernel
theorem dX2_join_98 : decode cX2_join 98 = .ok (.iload_n 3, 1) := by decide +kernel
theorem dX2_join_99 : decode cX2_join 99 = .ok (.iconst (-1), 1) := by decide +kernel
theorem dX2_join_100 : decode cX2_join 100 = .ok (.iastore, 1) := by decide +kernel
theorem dX2_join_101 : decode cX2_join 101 = .ok (.iload_n 3, 1) := by decide +kernel
theorem dX2_join_102 : decode cX2_join 102 = .ok (.ireturn, 1) := by decide +kernel
set_option maxRecDepth 20000 in
theorem ggX2_buyLamp_X2_isMember : GoodIn wsX2_buyLamp wsX2_isMember := goodIn_r _ [8, 9, 10, 11, 7, 12, 17, 18, 19, 20, 21, 22, 23, 24, 25, 26, 27, 28, 29] (by decide +kernel) (by decide +kernel)
set_option maxRecDepth 20000 in
theorem gX2_buyLamp_X2_isMember : GoodIn wsX2_buyLamp (wsV RX2 94 RX2 yX2_isMember wsX2_isMember) := goodIn_app (goodIn_of _ (by decide +kernel)) ggX2_buyLamp_X2_isMember
set_option maxRecDepth 20000 in
theorem ggX2_buyLamp_X2_no : GoodIn wsX2_buyLamp wsX2_no := goodIn_r _ [16, 1, 17, 18, 19, 20, 21, 22, 23, 24, 25, 26, 27, 28, 29] (by decide +kernel) (by decide +kernel)
set_option maxRecDepth 20000 in
theorem gX2_buyLamp_X2_no : GoodIn wsX2_buyLamp (wsV RX2 91 RX2 yX2_no wsX2_no) := goodIn_app (goodIn_of _ (by decide +kernel)) ggX2_buyLamp_X2_no
set_option maxRecDepth 20000 in
theorem ggX2_buyLamp_X2_isIn : GoodIn wsX2_buyLamp wsX2_isIn := goodIn_r _ [12] (by decide +kernel) (by decide +kernel)
set_option maxRecDepth 20000 in
theorem gX2_buyLamp_X2_isIn : GoodIn wsX2_buyLamp (va_wsS RX2 41 yX2_isIn wsX2_isIn) := goodIn_app (goodIn_of _ (by decide +kernel)) ggX2_buyLamp_X2_isIn
theorem dX2_buyLamp_0 : decode cX2_buyLamp 0 = .ok (.aload_n 0, 1) := by decide +kernel
theorem dX2_buyLamp_1 : decode cX2_buyLamp 1 = .ok (.iconst 0, 1) := by decide +kernel
theorem dX2_buyLamp_2 : decode cX2_buyLamp 2 = .ok (.putfield 34, 3) := by decide +kernel
theorem dX2_buyLamp_5 : decode cX2_buyLamp 5 = .ok (.aload_n 0, 1) := by decide +kernel
theorem dX2_buyLamp_6 : decode cX2_buyLamp 6 = .ok (.iload_n 1, 1) := by decide +kernel
theorem dX2_buyLamp_7 : decode cX2_buyLamp 7 = .ok (.invokevirtual 94, 3) := by decide +kernel
theorem dX2_buyLamp_10 : decode cX2_buyLamp 10 = .ok (.ifCond .ne 9, 3) := by decide +kernel
theorem dX2_buyLamp_13 : decode cX2_buyLamp 13 = .ok (.aload_n 0, 1) := by decide +kernel
theorem dX2_buyLamp_14 : decode cX2_buyLamp 14 = .ok (.iconst 1, 1) := by decide +kernel
theorem dX2_buyLamp_15 : decode cX2_buyLamp 15 = .ok (.invokevirtual 91, 3) := by decide +kernel
theorem dX2_buyLamp_18 : decode cX2_buyLamp 18 = .ok (.ireturn, 1) := by decide +kernel
theorem dX2_buyLamp_19 : decode cX2_buyLamp 19 = .ok (.iload_n 2, 1) := by decide +kernel
theorem dX2_buyLamp_20 : decode cX2_buyLamp 20 = .ok (.iconst 1, 1) := by decide +kernel
theorem dX2_buyLamp_21 : decode cX2_buyLamp 21 = .ok (.bipush 9, 2) := by decide +kernel
theorem dX2_buyLamp_23 : decode cX2_buyLamp 23 = .ok (.invokestatic 41, 3) := by decide +kernel
theorem dX2_buyLamp_26 : decode cX2_buyLamp 26 = .ok (.ifCond .ne 9, 3) := by decide +kernel
theorem dX2_buyLamp_29 : decode cX2_buyLamp 29 = .ok (.aload_n 0, 1) := by decide +kernel
theorem dX2_buyLamp_30 : decode cX2_buyLamp 30 = .ok (.iconst 2, 1) := by decide +kernel
theorem dX2_buyLamp_31 : decode cX2_buyLamp 31 = .ok (.invokevirtual 91, 3) := by decide +kernel
theorem dX2_buyLamp_34 : decode cX2_buyLamp 34 = .ok (.ireturn, 1) := by decide +kernel
theorem dX2_buyLamp_35 : decode cX2_buyLamp 35 = .ok (.aload_n 0, 1) := by decide +kernel
theorem dX2_buyLamp_36 : decode cX2_buyLamp 36 = .ok (.getfield 19, 3) := by decide +kernel
theorem dX2_buyLamp_39 : decode cX2_buyLamp 39 = .ok (.iload_n 1, 1) := by decide +kernel
theorem dX2_buyLamp_40 : decode cX2_buyLamp 40 = .ok (.iaload, 1) := by decide +kernel
theorem dX2_buyLamp_41 : decode cX2_buyLamp 41 = .ok (.ifCond .gt 13, 3) := by decide +kernel
theorem dX2_buyLamp_44 : decode cX2_buyLamp 44 = .ok (.aload_n 0, 1) := by decide +kernel
theorem dX2_buyLamp_45 : decode cX2_buyLamp 45 = .ok (.getfield 16, 3) := by decide +kernel
theorem dX2_buyLamp_48 : decode cX2_buyLamp 48 = .ok (.iload_n 1, 1) := by decide +kernel
theorem dX2_buyLamp_49 : decode cX2_buyLamp 49 = .ok (.iaload, 1) := by decide +kernel
theorem dX2_buyLamp_50 : decode cX2_buyLamp 50 = .ok (.iload_n 2, 1) := by decide +kernel
theorem dX2_buyLamp_51 : decode cX2_buyLamp 51 = .ok (.if_icmp .ge 9, 3) := by decide +kernel
theorem dX2_buyLamp_54 : decode cX2_buyLamp 54 = .ok (.aload_n 0, 1) := by decide +kernel
theorem dX2_buyLamp_55 : decode cX2_buyLamp 55 = .ok (.iconst 3, 1) := by decide +kernel
theorem dX2_buyLamp_56 : decode cX2_buyLamp 56 = .ok (.invokevirtual 91, 3) := by decide +kernel
theorem dX2_buyLamp_59 : decode cX2_buyLamp 59 = .ok (.ireturn, 1) := by decide +kernel
theorem dX2_buyLamp_60 : decode cX2_buyLamp 60 = .ok (.aload_n 0, 1) := by decide +kernel
theorem dX2_buyLamp_61 : decode cX2_buyLamp 61 = .ok (.getfield 19, 3) := by decide +kernel
theorem dX2_buyLamp_64 : decode cX2_buyLamp 64 = .ok (.iload_n 1, 1) := by decide +kernel
theorem dX2_buyLamp_65 : decode cX2_buyLamp 65 = .ok (.iload_n 2, 1) := by decide +kernel
theorem dX2_buyLamp_66 : decode cX2_buyLamp 66 = .ok (.iastore, 1) := by decide +kernel
theorem dX2_buyLamp_67 : decode cX2_buyLamp 67 = .ok (.aload_n 0, 1) := by decide +kernel
theorem dX2_buyLamp_68 : decode cX2_buyLamp 68 = .ok (.getfield 16, 3) := by decide +kernel
theorem dX2_buyLamp_71 : decode cX2_buyLamp 71 = .ok (.iload_n 1, 1) := by decide +kernel
theorem dX2_buyLamp_72 : decode cX2_buyLamp 72 = .ok (.dup2, 1) := by decide +kernel
theorem dX2_buyLamp_73 : decode cX2_buyLamp 73 = .ok (.iaload, 1) := by decide +kernel
theorem dX2_buyLamp_74 : decode cX2_buyLamp 74 = .ok (.iload_n 2, 1) := by decide +kernel
theorem dX2_buyLamp_75 : decode cX2_buyLamp 75 = .ok (.isub, 1) := by decide +kernel
theorem dX2_buyLamp_76 : decode cX2_buyLamp 76 = .ok (.iastore, 1) := by decide +kernel
theorem dX2_buyLamp_77 : decode cX2_buyLamp 77 = .ok (.aload_n 0, 1) := by decide +kernel
theorem dX2_buyLamp_78 : decode cX2_buyLamp 78 = .ok (.getfield 16, 3) := by decide +kernel
theorem dX2_buyLamp_81 : decode cX2_buyLamp 81 = .ok (.iload_n 1, 1) := by decide +kernel
theorem dX2_buyLamp_82 : decode cX2_buyLamp 82 = .ok (.iaload, 1) := by decide +kernel
theorem dX2_buyLamp_83 : decode cX2_buyLamp 83 = .ok (.ireturn, 1) := by decide +kernel
set_option maxRecDepth 20000 in
theorem ggX2_dropLamp_X2_isMember : GoodIn wsX2_dropLamp wsX2_isMember := goodIn_r _ [7, 8, 9, 10, 6, 11, 16, 17, 18, 19, 20, 21, 22, 23, 24, 25, 26, 27, 28] (by decide +kernel) (by decide +kernel)
set_option maxRecDepth 20000 in
theorem gX2_dropLamp_X2_isMember : GoodIn wsX2_dropLamp (wsV RX2 94 RX2 yX2_isMember wsX2_isMember) := goodIn_app (goodIn_of _ (by decide +kernel)) ggX2_dropLamp_X2_isMember
set_option maxRecDepth 20000 in
theorem ggX2_dropLamp_X2_no : GoodIn wsX2_dropLamp wsX2_no := goodIn_r _ [15, 1, 16, 17, 18, 19, 20, 21, 22, 23, 24, 25, 26, 27, 28] (by decide +kernel) (by decide +kernel)
set_option maxRecDepth 20000 in
theorem gX2_dropLamp_X2_no : GoodIn wsX2_dropLamp (wsV RX2 91 RX2 yX2_no wsX2_no) := goodIn_app (goodIn_of _ (by decide +kernel)) ggX2_dropLamp_X2_no
theorem dX2_dropLamp_0 : decode cX2_dropLamp 0 = .ok (.aload_n 0, 1) := by decide +kernel
theorem dX2_dropLamp_1 : decode cX2_dropLamp 1 = .ok (.iconst 0, 1) := by decide +kernel
theorem dX2_dropLamp_2 : decode cX2_dropLamp 2 = .ok (.putfield 34, 3) := by decide +kernel
theorem dX2_dropLamp_5 : decode cX2_dropLamp 5 = .ok (.aload_n 0, 1) := by decide +kernel
theorem dX2_dropLamp_6 : decode cX2_dropLamp 6 = .ok (.iload_n 1, 1) := by decide +kernel
theorem dX2_dropLamp_7 : decode cX2_dropLamp 7 = .ok (.invokevirtual 94, 3) := by decide +kernel
theorem dX2_dropLamp_10 : decode cX2_dropLamp 10 = .ok (.ifCond .ne 9, 3) := by decide +kernel
theorem dX2_dropLamp_13 : decode cX2_dropLamp 13 = .ok (.aload_n 0, 1) := by decide +kernel
theorem dX2_dropLamp_14 : decode cX2_dropLamp 14 = .ok (.iconst 1, 1) := by decide +kernel
theorem dX2_dropLamp_15 : decode cX2_dropLamp 15 = .ok (.invokevirtual 91, 3) := by decide +kernel
theorem dX2_dropLamp_18 : decode cX2_dropLamp 18 = .ok (.ireturn, 1) := by decide +kernel
theorem dX2_dropLamp_19 : decode cX2_dropLamp 19 = .ok (.aload_n 0, 1) := by decide +kernel
theorem dX2_dropLamp_20 : decode cX2_dropLamp 20 = .ok (.getfield 19, 3) := by decide +kernel
theorem dX2_dropLamp_23 : decode cX2_dropLamp 23 = .ok (.iload_n 1, 1) := by decide +kernel
theorem dX2_dropLamp_24 : decode cX2_dropLamp 24 = .ok (.iaload, 1) := by decide +kernel
theorem dX2_dropLamp_25 : decode cX2_dropLamp 25 = .ok (.ifCond .ne 9, 3) := by decide +kernel
theorem dX2_dropLamp_28 : decode cX2_dropLamp 28 = .ok (.aload_n 0, 1) := by decide +kernel
theorem dX2_dropLamp_29 : decode cX2_dropLamp 29 = .ok (.iconst 2, 1) := by decide +kernel
theorem dX2_dropLamp_30 : decode cX2_dropLamp 30 = .ok (.invokevirtual 91, 3) := by decide +kernel
theorem dX2_dropLamp_33 : decode cX2_dropLamp 33 = .ok (.ireturn, 1) := by decide +kernel
theorem dX2_dropLamp_34 : decode cX2_dropLamp 34 = .ok (.aload_n 0, 1) := by decide +kernel
theorem dX2_dropLamp_35 : decode cX2_dropLamp 35 = .ok (.getfield 19, 3) := by decide +kernel
theorem dX2_dropLamp_38 : decode cX2_dropLamp 38 = .ok (.iload_n 1, 1) := by decide +kernel
theorem dX2_dropLamp_39 : decode cX2_dropLamp 39 = .ok (.iaload, 1) := by decide +kernel
theorem dX2_dropLamp_40 : decode cX2_dropLamp 40 = .ok (.istore_n 2, 1) := by decide +kernel
theorem dX2_dropLamp_41 : decode cX2_dropLamp 41 = .ok (.aload_n 0, 1) := by decide +kernel
theorem dX2_dropLamp_42 : decode cX2_dropLamp 42 = .ok (.getfield 19, 3) := by decide +kernel
theorem dX2_dropLamp_45 : decode cX2_dropLamp 45 = .ok (.iload_n 1, 1) := by decide +kernel
theorem dX2_dropLamp_46 : decode cX2_dropLamp 46 = .ok (.iconst 0, 1) := by decide +kernel
theorem dX2_dropLamp_47 : decode cX2_dropLamp 47 = .ok (.iastore, 1) := by decide +kernel
theorem dX2_dropLamp_48 : decode cX2_dropLamp 48 = .ok (.iload_n 2, 1) := by decide +kernel
theorem dX2_dropLamp_49 : decode cX2_dropLamp 49 = .ok (.ireturn, 1) := by decide +kernel
set_option maxRecDepth 20000 in
theorem ggX2_borrow_X2_isMember : GoodIn wsX2_borrow wsX2_isMember := goodIn_r _ [8, 9, 10, 11, 7, 12, 25, 26, 27, 28, 29, 30, 31, 32, 33, 34, 35, 36, 37] (by decide +kernel) (by decide +kernel)
set_option maxRecDepth 20000 in
theorem gX2_borrow_X2_isMember : GoodIn wsX2_borrow (wsV RX2 94 RX2 yX2_isMember wsX2_isMember) := goodIn_app (goodIn_of _ (by decide +kernel)) ggX2_borrow_X2_isMember
set_option maxRecDepth 20000 in
theorem ggX2_borrow_X2_no : GoodIn wsX2_borrow wsX2_no := goodIn_r _ [16, 1, 25, 26, 27, 28, 29, 30, 31, 32, 33, 34, 35, 36, 37] (by decide +kernel) (by decide +kernel)
set_option maxRecDepth 20000 in
theorem gX2_borrow_X2_no : GoodIn wsX2_borrow (wsV RX2 91 RX2 yX2_no wsX2_no) := goodIn_app (goodIn_of _ (by decide +kernel)) ggX2_borrow_X2_no
set_option maxRecDepth 20000 in
theorem ggX2_borrow_X2_canLend : GoodIn wsX2_borrow wsX2_canLend := goodIn_r _ [20, 3, 2, 25, 26, 27, 28, 29, 30, 31, 32, 33, 34, 35, 36, 37] (by decide +kernel) (by decide +kernel)
set_option maxRecDepth 20000 in
theorem gX2_borrow_X2_canLend : GoodIn wsX2_borrow (wsV RX2 97 RX2 yX2_canLend wsX2_canLend) := goodIn_app (goodIn_of _ (by decide +kernel)) ggX2_borrow_X2_canLend
set_option maxRecDepth 20000 in
theorem ggX2_borrow_X2_borrows : GoodIn wsX2_borrow wsX2_borrows := goodIn_r _ [24, 2, 25, 26, 27, 28, 29, 30, 31, 32, 33, 34, 35, 36, 37] (by decide +kernel) (by decide +kernel)
set_option maxRecDepth 20000 in
theorem gX2_borrow_X2_borrows : GoodIn wsX2_borrow (wsV RX2 100 RX2 yX2_borrows wsX2_borrows) := goodIn_app (goodIn_of _ (by decide +kernel)) ggX2_borrow_X2_borrows
theorem dX2_borrow_0 : decode cX2_borrow 0 = .ok (.aload_n 0, 1) := by decide +kernel
theorem dX2_borrow_1 : decode cX2_borrow 1 = .ok (.iconst 0, 1) := by decide +kernel
theorem dX2_borrow_2 : decode cX2_borrow 2 = .ok (.putfield 34, 3) := by decide +kernel
theorem dX2_borrow_5 : decode cX2_borrow 5 = .ok (.aload_n 0, 1) := by decide +kernel
theorem dX2_borrow_6 : decode cX2_borrow 6 = .ok (.iload_n 1, 1) := by decide +kernel
theorem dX2_borrow_7 : decode cX2_borrow 7 = .ok (.invokevirtual 94, 3) := by decide +kernel
theorem dX2_borrow_10 : decode cX2_borrow 10 = .ok (.ifCond .eq 11, 3) := by decide +kernel
theorem dX2_borrow_13 : decode cX2_borrow 13 = .ok (.aload_n 0, 1) := by decide +kernel
theorem dX2_borrow_14 : decode cX2_borrow 14 = .ok (.iload_n 2, 1) := by decide +kernel
theorem dX2_borrow_15 : decode cX2_borrow 15 = .ok (.invokevirtual 94, 3) := by decide +kernel
theorem dX2_borrow_18 : decode cX2_borrow 18 = .ok (.ifCond .ne 9, 3) := by decide +kernel
theorem dX2_borrow_21 : decode cX2_borrow 21 = .ok (.aload_n 0, 1) := by decide +kernel
theorem dX2_borrow_22 : decode cX2_borrow 22 = .ok (.iconst 1, 1) := by decide +kernel
theorem dX2_borrow_23 : decode cX2_borrow 23 = .ok (.invokevirtual 91, 3) := by decide +kernel
theorem dX2_borrow_26 : decode cX2_borrow 26 = .ok (.ireturn, 1) := by decide +kernel
theorem dX2_borrow_27 : decode cX2_borrow 27 = .ok (.iload_n 1, 1) := by decide +kernel
theorem dX2_borrow_28 : decode cX2_borrow 28 = .ok (.iload_n 2, 1) := by decide +kernel
theorem dX2_borrow_29 : decode cX2_borrow 29 = .ok (.if_icmp .ne 9, 3) := by decide +kernel
theorem dX2_borrow_32 : decode cX2_borrow 32 = .ok (.aload_n 0, 1) := by decide +kernel
theorem dX2_borrow_33 : decode cX2_borrow 33 = .ok (.iconst 2, 1) := by decide +kernel
theorem dX2_borrow_34 : decode cX2_borrow 34 = .ok (.invokevirtual 91, 3) := by decide +kernel
theorem dX2_borrow_37 : decode cX2_borrow 37 = .ok (.ireturn, 1) := by decide +kernel
theorem dX2_borrow_38 : decode cX2_borrow 38 = .ok (.aload_n 0, 1) := by decide +kernel
theorem dX2_borrow_39 : decode cX2_borrow 39 = .ok (.iload_n 2, 1) := by decide +kernel
theorem dX2_borrow_40 : decode cX2_borrow 40 = .ok (.invokevirtual 97, 3) := by decide +kernel
theorem dX2_borrow_43 : decode cX2_borrow 43 = .ok (.ifCond .eq 11, 3) := by decide +kernel
theorem dX2_borrow_46 : decode cX2_borrow 46 = .ok (.aload_n 0, 1) := by decide +kernel
theorem dX2_borrow_47 : decode cX2_borrow 47 = .ok (.iload_n 1, 1) := by decide +kernel
theorem dX2_borrow_48 : decode cX2_borrow 48 = .ok (.invokevirtual 100, 3) := by decide +kernel
theorem dX2_borrow_51 : decode cX2_borrow 51 = .ok (.ifCond .eq 9, 3) := by decide +kernel
theorem dX2_borrow_54 : decode cX2_borrow 54 = .ok (.aload_n 0, 1) := by decide +kernel
theorem dX2_borrow_55 : decode cX2_borrow 55 = .ok (.iconst 3, 1) := by decide +kernel
theorem dX2_borrow_56 : decode cX2_borrow 56 = .ok (.invokevirtual 91, 3) := by decide +kernel
theorem dX2_borrow_59 : decode cX2_borrow 59 = .ok (.ireturn, 1) := by decide +kernel
theorem dX2_borrow_60 : decode cX2_borrow 60 = .ok (.aload_n 0, 1) := by decide +kernel
theorem dX2_borrow_61 : decode cX2_borrow 61 = .ok (.getfield 22, 3) := by decide +kernel
theorem dX2_borrow_64 : decode cX2_borrow 64 = .ok (.iload_n 2, 1) := by decide +kernel
theorem dX2_borrow_65 : decode cX2_borrow 65 = .ok (.iconst (-1), 1) := by decide +kernel
theorem dX2_borrow_66 : decode cX2_borrow 66 = .ok (.iastore, 1) := by decide +kernel
theorem dX2_borrow_67 : decode cX2_borrow 67 = .ok (.aload_n 0, 1) := by decide +kernel
theorem dX2_borrow_68 : decode cX2_borrow 68 = .ok (.getfield 22, 3) := by decide +kernel
theorem dX2_borrow_71 : decode cX2_borrow 71 = .ok (.iload_n 1, 1) := by decide +kernel
theorem dX2_borrow_72 : decode cX2_borrow 72 = .ok (.iload_n 2, 1) := by decide +kernel
theorem dX2_borrow_73 : decode cX2_borrow 73 = .ok (.iastore, 1) := by decide +kernel
theorem dX2_borrow_74 : decode cX2_borrow 74 = .ok (.aload_n 0, 1) := by decide +kernel
theorem dX2_borrow_75 : decode cX2_borrow 75 = .ok (.getfield 13, 3) := by decide +kernel
theorem dX2_borrow_78 : decode cX2_borrow 78 = .ok (.iload_n 2, 1) := by decide +kernel
theorem dX2_borrow_79 : decode cX2_borrow 79 = .ok (.iaload, 1) := by decide +kernel
theorem dX2_borrow_80 : decode cX2_borrow 80 = .ok (.ireturn, 1) := by decide +kernel
set_option maxRecDepth 20000 in
theorem ggX2_giveBack_X2_isMember : GoodIn wsX2_giveBack wsX2_isMember := goodIn_r _ [7, 8, 9, 10, 6, 11, 29, 30, 31, 32, 33, 34, 35, 36, 37, 38, 39, 40, 41] (by decide +kernel) (by decide +kernel)
set_option maxRecDepth 20000 in
theorem gX2_giveBack_X2_isMember : GoodIn wsX2_giveBack (wsV RX2 94 RX2 yX2_isMember wsX2_isMember) := goodIn_app (goodIn_of _ (by decide +kernel)) ggX2_giveBack_X2_isMember
set_option maxRecDepth 20000 in
theorem ggX2_giveBack_X2_no : GoodIn wsX2_giveBack wsX2_no := goodIn_r _ [15, 1, 29, 30, 31, 32, 33, 34, 35, 36, 37, 38, 39, 40, 41] (by decide +kernel) (by decide +kernel)
set_option maxRecDepth 20000 in
theorem gX2_giveBack_X2_no : GoodIn wsX2_giveBack (wsV RX2 91 RX2 yX2_no wsX2_no) := goodIn_app (goodIn_of _ (by decide +kernel)) ggX2_giveBack_X2_no
set_option maxRecDepth 20000 in
theorem ggX2_giveBack_X2_borrows : GoodIn wsX2_giveBack wsX2_borrows := goodIn_r _ [19, 2, 29, 30, 31, 32, 33, 34, 35, 36, 37, 38, 39, 40, 41] (by decide +kernel) (by decide +kernel)
set_option maxRecDepth 20000 in
theorem gX2_giveBack_X2_borrows : GoodIn wsX2_giveBack (wsV RX2 100 RX2 yX2_borrows wsX2_borrows) := goodIn_app (goodIn_of _ (by decide +kernel)) ggX2_giveBack_X2_borrows
set_option maxRecDepth 20000 in
theorem ggX2_giveBack_X2_hasLentOut : GoodIn wsX2_giveBack wsX2_hasLentOut := goodIn_r _ [23, 8, 2, 29, 30, 31, 32, 33, 34, 35, 36, 37, 38, 39, 40, 41] (by decide +kernel) (by decide +kernel)
set_option maxRecDepth 20000 in
theorem gX2_giveBack_X2_hasLentOut : GoodIn wsX2_giveBack (wsV RX2 103 RX2 yX2_hasLentOut wsX2_hasLentOut) := goodIn_app (goodIn_of _ (by decide +kernel)) ggX2_giveBack_X2_hasLentOut
set_option maxRecDepth 20000 in
theorem ggX2_giveBack_X2_own : GoodIn wsX2_giveBack wsX2_own := goodIn_r _ [27, 28, 29, 30, 31, 32, 33, 34, 35, 36, 37, 38, 39, 40, 41] (by decide +kernel) (by decide +kernel)
set_option maxRecDepth 20000 in
theorem gX2_giveBack_X2_own : GoodIn wsX2_giveBack (wsV RX2 82 RX2 yX2_own wsX2_own) := goodIn_app (goodIn_of _ (by decide +kernel)) ggX2_giveBack_X2_own
theorem dX2_giveBack_0 : decode cX2_giveBack 0 = .ok (.aload_n 0, 1) := by decide +kernel
theorem dX2_giveBack_1 : decode cX2_giveBack 1 = .ok (.iconst 0, 1) := by decide +kernel
theorem dX2_giveBack_2 : decode cX2_giveBack 2 = .ok (.putfield 34, 3) := by decide +kernel
theorem dX2_giveBack_5 : decode cX2_giveBack 5 = .ok (.aload_n 0, 1) := by decide +kernel
theorem dX2_giveBack_6 : decode cX2_giveBack 6 = .ok (.iload_n 1, 1) := by decide +kernel
theorem dX2_giveBack_7 : decode cX2_giveBack 7 = .ok (.invokevirtual 94, 3) := by decide +kernel
theorem dX2_giveBack_10 : decode cX2_giveBack 10 = .ok (.ifCond .ne 9, 3) := by decide +kernel
theorem dX2_giveBack_13 : decode cX2_giveBack 13 = .ok (.aload_n 0, 1) := by decide +kernel
theorem dX2_giveBack_14 : decode cX2_giveBack 14 = .ok (.iconst 1, 1) := by decide +kernel
theorem dX2_giveBack_15 : decode cX2_giveBack 15 = .ok (.invokevirtual 91, 3) := by decide +kernel
theorem dX2_giveBack_18 : decode cX2_giveBack 18 = .ok (.ireturn, 1) := by decide +kernel
theorem dX2_giveBack_19 : decode cX2_giveBack 19 = .ok (.aload_n 0, 1) := by decide +kernel
theorem dX2_giveBack_20 : decode cX2_giveBack 20 = .ok (.iload_n 1, 1) := by decide +kernel
theorem dX2_giveBack_21 : decode cX2_giveBack 21 = .ok (.invokevirtual 100, 3) := by decide +kernel
theorem dX2_giveBack_24 : decode cX2_giveBack 24 = .ok (.ifCond .ne 9, 3) := by decide +kernel
theorem dX2_giveBack_27 : decode cX2_giveBack 27 = .ok (.aload_n 0, 1) := by decide +kernel
theorem dX2_giveBack_28 : decode cX2_giveBack 28 = .ok (.iconst 2, 1) := by decide +kernel
theorem dX2_giveBack_29 : decode cX2_giveBack 29 = .ok (.invokevirtual 91, 3) := by decide +kernel
theorem dX2_giveBack_32 : decode cX2_giveBack 32 = .ok (.ireturn, 1) := by decide +kernel
theorem dX2_giveBack_33 : decode cX2_giveBack 33 = .ok (.aload_n 0, 1) := by decide +kernel
theorem dX2_giveBack_34 : decode cX2_giveBack 34 = .ok (.getfield 22, 3) := by decide +kernel
theorem dX2_giveBack_37 : decode cX2_giveBack 37 = .ok (.iload_n 1, 1) := by decide +kernel
theorem dX2_giveBack_38 : decode cX2_giveBack 38 = .ok (.iaload, 1) := by decide +kernel
theorem dX2_giveBack_39 : decode cX2_giveBack 39 = .ok (.istore_n 2, 1) := by decide +kernel
theorem dX2_giveBack_40 : decode cX2_giveBack 40 = .ok (.aload_n 0, 1) := by decide +kernel
theorem dX2_giveBack_41 : decode cX2_giveBack 41 = .ok (.getfield 22, 3) := by decide +kernel
theorem dX2_giveBack_44 : decode cX2_giveBack 44 = .ok (.iload_n 1, 1) := by decide +kernel
theorem dX2_giveBack_45 : decode cX2_giveBack 45 = .ok (.aload_n 0, 1) := by decide +kernel
theorem dX2_giveBack_46 : decode cX2_giveBack 46 = .ok (.iload_n 1, 1) := by decide +kernel
theorem dX2_giveBack_47 : decode cX2_giveBack 47 = .ok (.invokevirtual 103, 3) := by decide +kernel
theorem dX2_giveBack_50 : decode cX2_giveBack 50 = .ok (.ifCond .eq 7, 3) := by decide +kernel
theorem dX2_giveBack_53 : decode cX2_giveBack 53 = .ok (.iconst (-1), 1) := by decide +kernel
theorem dX2_giveBack_54 : decode cX2_giveBack 54 = .ok (.goto 8, 3) := by decide +kernel
theorem dX2_giveBack_57 : decode cX2_giveBack 57 = .ok (.aload_n 0, 1) := by decide +kernel
theorem dX2_giveBack_58 : decode cX2_giveBack 58 = .ok (.iload_n 1, 1) := by decide +kernel
theorem dX2_giveBack_59 : decode cX2_giveBack 59 = .ok (.invokevirtual 82, 3) := by decide +kernel
theorem dX2_giveBack_62 : decode cX2_giveBack 62 = .ok (.iastore, 1) := by decide +kernel
theorem dX2_giveBack_63 : decode cX2_giveBack 63 = .ok (.aload_n 0, 1) := by decide +kernel
theorem dX2_giveBack_64 : decode cX2_giveBack 64 = .ok (.getfield 22, 3) := by decide +kernel
theorem dX2_giveBack_67 : decode cX2_giveBack 67 = .ok (.iload_n 2, 1) := by decide +kernel
theorem dX2_giveBack_68 : decode cX2_giveBack 68 = .ok (.iaload, 1) := by decide +kernel
theorem dX2_giveBack_69 : decode cX2_giveBack 69 = .ok (.iconst (-1), 1) := by decide +kernel
theorem dX2_giveBack_70 : decode cX2_giveBack 70 = .ok (.if_icmp .ne 10, 3) := by decide +kernel
theorem dX2_giveBack_73 : decode cX2_giveBack 73 = .ok (.aload_n 0, 1) := by decide +kernel
theorem dX2_giveBack_74 : decode cX2_giveBack 74 = .ok (.getfield 22, 3) := by decide +kernel
theorem dX2_giveBack_77 : decode cX2_giveBack 77 = .ok (.iload_n 2, 1) := by decide +kernel
theorem dX2_giveBack_78 : decode cX2_giveBack 78 = .ok (.iload_n 2, 1) := by decide +kernel
theorem dX2_giveBack_79 : decode cX2_giveBack 79 = .ok (.iastore, 1) := by decide +kernel
theorem dX2_giveBack_80 : decode cX2_giveBack 80 = .ok (.iload_n 2, 1) := by decide +kernel
theorem dX2_giveBack_81 : decode cX2_giveBack 81 = .ok (.ireturn, 1) := by decide +kernel
theorem dX2_isOut_0 : decode cX2_isOut 0 = .ok (.aload_n 0, 1) := by decide +kernel
theorem dX2_isOut_1 : decode cX2_isOut 1 = .ok (.getfield 31, 3) := by decide +kernel
theorem dX2_isOut_4 : decode cX2_isOut 4 = .ok (.iload_n 1, 1) := by decide +kernel
theorem dX2_isOut_5 : decode cX2_isOut 5 = .ok (.iaload, 1) := by decide +kernel
theorem dX2_isOut_6 : decode cX2_isOut 6 = .ok (.iconst 2, 1) := by decide +kernel
theorem dX2_isOut_7 : decode cX2_isOut 7 = .ok (.if_icmp .le 7, 3) := by decide +kernel
theorem dX2_isOut_10 : decode cX2_isOut 10 = .ok (.iconst 1, 1) := by decide +kernel
theorem dX2_isOut_11 : decode cX2_isOut 11 = .ok (.goto 4, 3) := by decide +kernel
theorem dX2_isOut_14 : decode cX2_isOut 14 = .ok (.iconst 0, 1) := by decide +kernel
theorem dX2_isOut_15 : decode cX2_isOut 15 = .ok (.ireturn, 1) := by decide +kernel
set_option maxRecDepth 20000 in
theorem ggX2_certify_X2_isMember : GoodIn wsX2_certify wsX2_isMember := goodIn_r _ [8, 9, 10, 11, 7, 12, 50, 51, 52, 53, 54, 55, 56, 57, 58, 59, 60, 61, 62] (by decide +kernel) (by decide +kernel)
set_option maxRecDepth 20000 in
theorem gX2_certify_X2_isMember : GoodIn wsX2_certify (wsV RX2 94 RX2 yX2_isMember wsX2_isMember) := goodIn_app (goodIn_of _ (by decide +kernel)) ggX2_certify_X2_isMember
set_option maxRecDepth 20000 in
theorem ggX2_certify_X2_no : GoodIn wsX2_certify wsX2_no := goodIn_r _ [16, 1, 50, 51, 52, 53, 54, 55, 56, 57, 58, 59, 60, 61, 62] (by decide +kernel) (by decide +kernel)
set_option maxRecDepth 20000 in
theorem gX2_certify_X2_no : GoodIn wsX2_certify (wsV RX2 91 RX2 yX2_no wsX2_no) := goodIn_app (goodIn_of _ (by decide +kernel)) ggX2_certify_X2_no
set_option maxRecDepth 20000 in
theorem ggX2_certify_X2_isOut : GoodIn wsX2_certify wsX2_isOut := goodIn_r _ [20, 21, 50, 51, 52, 53, 54, 55, 56, 57, 58, 59, 60, 61, 62] (by decide +kernel) (by decide +kernel)
set_option maxRecDepth 20000 in
theorem gX2_certify_X2_isOut : GoodIn wsX2_certify (wsV RX2 106 RX2 yX2_isOut wsX2_isOut) := goodIn_app (goodIn_of _ (by decide +kernel)) ggX2_certify_X2_isOut
set_option maxRecDepth 20000 in
theorem ggX2_certify_X2_shadow : GoodIn wsX2_certify wsX2_shadow := goodIn_r _ [25, 26, 27, 28, 29, 7, 30, 31, 32, 33, 34, 35, 36, 37, 38, 39, 40, 41, 42, 43, 44, 45, 46, 47, 48, 49, 10, 11, 12, 50, 51, 52, 53, 54, 55, 56, 57, 58, 59, 60, 61, 62] (by decide +kernel) (by decide +kernel)
set_option maxRecDepth 20000 in
theorem gX2_certify_X2_shadow : GoodIn wsX2_certify (wsV RX2 109 RX2 yX2_shadow wsX2_shadow) := goodIn_app (goodIn_of _ (by decide +kernel)) ggX2_certify_X2_shadow
set_option maxRecDepth 20000 in
theorem ggX2_certify_X2_ofDay : GoodIn wsX2_certify wsX2_ofDay := goodIn_r _ [36, 37, 50, 51, 52, 53, 54, 55, 56, 57, 58, 59, 60, 61, 62] (by decide +kernel) (by decide +kernel)
set_option maxRecDepth 20000 in
theorem gX2_certify_X2_ofDay : GoodIn wsX2_certify (wsV RX2 60 RX2 yX2_ofDay wsX2_ofDay) := goodIn_app (goodIn_of _ (by decide +kernel)) ggX2_certify_X2_ofDay
theorem dX2_certify_0 : decode cX2_certify 0 = .ok (.aload_n 0, 1) := by decide +kernel
theorem dX2_certify_1 : decode cX2_certify 1 = .ok (.iconst 0, 1) := by decide +kernel
theorem dX2_certify_2 : decode cX2_certify 2 = .ok (.putfield 34, 3) := by decide +kernel
theorem dX2_certify_5 : decode cX2_certify 5 = .ok (.aload_n 0, 1) := by decide +kernel
theorem dX2_certify_6 : decode cX2_certify 6 = .ok (.iload_n 1, 1) := by decide +kernel
theorem dX2_certify_7 : decode cX2_certify 7 = .ok (.invokevirtual 94, 3) := by decide +kernel
theorem dX2_certify_10 : decode cX2_certify 10 = .ok (.ifCond .ne 9, 3) := by decide +kernel
theorem dX2_certify_13 : decode cX2_certify 13 = .ok (.aload_n 0, 1) := by decide +kernel
theorem dX2_certify_14 : decode cX2_certify 14 = .ok (.iconst 1, 1) := by decide +kernel
theorem dX2_certify_15 : decode cX2_certify 15 = .ok (.invokevirtual 91, 3) := by decide +kernel
theorem dX2_certify_18 : decode cX2_certify 18 = .ok (.ireturn, 1) := by decide +kernel
theorem dX2_certify_19 : decode cX2_certify 19 = .ok (.aload_n 0, 1) := by decide +kernel
theorem dX2_certify_20 : decode cX2_certify 20 = .ok (.iload_n 1, 1) := by decide +kernel
theorem dX2_certify_21 : decode cX2_certify 21 = .ok (.invokevirtual 106, 3) := by decide +kernel
theorem dX2_certify_24 : decode cX2_certify 24 = .ok (.ifCond .eq 9, 3) := by decide +kernel
theorem dX2_certify_27 : decode cX2_certify 27 = .ok (.aload_n 0, 1) := by decide +kernel
theorem dX2_certify_28 : decode cX2_certify 28 = .ok (.iconst 2, 1) := by decide +kernel
theorem dX2_certify_29 : decode cX2_certify 29 = .ok (.invokevirtual 91, 3) := by decide +kernel
theorem dX2_certify_32 : decode cX2_certify 32 = .ok (.ireturn, 1) := by decide +kernel
theorem dX2_certify_33 : decode cX2_certify 33 = .ok (.aload_n 0, 1) := by decide +kernel
theorem dX2_certify_34 : decode cX2_certify 34 = .ok (.getfield 25, 3) := by decide +kernel
theorem dX2_certify_37 : decode cX2_certify 37 = .ok (.iload_n 1, 1) := by decide +kernel
theorem dX2_certify_38 : decode cX2_certify 38 = .ok (.aload_n 0, 1) := by decide +kernel
theorem dX2_certify_39 : decode cX2_certify 39 = .ok (.iload_n 1, 1) := by decide +kernel
theorem dX2_certify_40 : decode cX2_certify 40 = .ok (.invokevirtual 109, 3) := by decide +kernel
theorem dX2_certify_43 : decode cX2_certify 43 = .ok (.iastore, 1) := by decide +kernel
theorem dX2_certify_44 : decode cX2_certify 44 = .ok (.aload_n 0, 1) := by decide +kernel
theorem dX2_certify_45 : decode cX2_certify 45 = .ok (.getfield 28, 3) := by decide +kernel
theorem dX2_certify_48 : decode cX2_certify 48 = .ok (.iload_n 1, 1) := by decide +kernel
theorem dX2_certify_49 : decode cX2_certify 49 = .ok (.aload_n 0, 1) := by decide +kernel
theorem dX2_certify_50 : decode cX2_certify 50 = .ok (.invokevirtual 60, 3) := by decide +kernel
theorem dX2_certify_53 : decode cX2_certify 53 = .ok (.iastore, 1) := by decide +kernel
theorem dX2_certify_54 : decode cX2_certify 54 = .ok (.aload_n 0, 1) := by decide +kernel
theorem dX2_certify_55 : decode cX2_certify 55 = .ok (.getfield 25, 3) := by decide +kernel
theorem dX2_certify_58 : decode cX2_certify 58 = .ok (.iload_n 1, 1) := by decide +kernel
theorem dX2_certify_59 : decode cX2_certify 59 = .ok (.iaload, 1) := by decide +kernel
theorem dX2_certify_60 : decode cX2_certify 60 = .ok (.ireturn, 1) := by decide +kernel
set_option maxRecDepth 20000 in
theorem ggX2_pass_X2_isIn : GoodIn wsX2_pass wsX2_isIn := goodIn_r _ [6] (by decide +kernel) (by decide +kernel)
set_option maxRecDepth 20000 in
theorem gX2_pass_X2_isIn : GoodIn wsX2_pass (va_wsS RX2 41 yX2_isIn wsX2_isIn) := goodIn_app (goodIn_of _ (by decide +kernel)) ggX2_pass_X2_isIn
set_option maxRecDepth 20000 in
theorem ggX2_pass_X2_no : GoodIn wsX2_pass wsX2_no := goodIn_r _ [10, 1, 61, 62, 63, 64, 65, 66, 67, 68, 69, 70, 71, 72, 73] (by decide +kernel) (by decide +kernel)
set_option maxRecDepth 20000 in
theorem gX2_pass_X2_no : GoodIn wsX2_pass (wsV RX2 91 RX2 yX2_no wsX2_no) := goodIn_app (goodIn_of _ (by decide +kernel)) ggX2_pass_X2_no
set_option maxRecDepth 20000 in
theorem ggX2_pass_X2_hourOn : GoodIn wsX2_pass wsX2_hourOn := goodIn_r _ [14, 15, 16, 17, 18, 5, 19, 20, 21, 22, 23, 24, 25, 26, 27, 28, 29, 30, 2, 31, 32, 33, 34, 35, 36, 37, 38, 39, 40, 41, 42, 43, 44, 45, 46, 47, 48, 49, 50, 51, 52, 53, 54, 55, 56, 3, 4, 6, 57, 58, 59, 60, 61, 62, 63, 64, 65, 66, 67, 68, 69, 70, 71, 72, 73] (by decide +kernel) (by decide +kernel)
set_option maxRecDepth 20000 in
theorem gX2_pass_X2_hourOn : GoodIn wsX2_pass (wsV RX2 112 RX2 yX2_hourOn wsX2_hourOn) := goodIn_app (goodIn_of _ (by decide +kernel)) ggX2_pass_X2_hourOn
theorem dX2_pass_0 : decode cX2_pass 0 = .ok (.aload_n 0, 1) := by decide +kernel
theorem dX2_pass_1 : decode cX2_pass 1 = .ok (.iconst 0, 1) := by decide +kernel
theorem dX2_pass_2 : decode cX2_pass 2 = .ok (.putfield 34, 3) := by decide +kernel
theorem dX2_pass_5 : decode cX2_pass 5 = .ok (.iload_n 1, 1) := by decide +kernel
theorem dX2_pass_6 : decode cX2_pass 6 = .ok (.iconst 1, 1) := by decide +kernel
theorem dX2_pass_7 : decode cX2_pass 7 = .ok (.bipush 72, 2) := by decide +kernel
theorem dX2_pass_9 : decode cX2_pass 9 = .ok (.invokestatic 41, 3) := by decide +kernel
theorem dX2_pass_12 : decode cX2_pass 12 = .ok (.ifCond .ne 9, 3) := by decide +kernel
theorem dX2_pass_15 : decode cX2_pass 15 = .ok (.aload_n 0, 1) := by decide +kernel
theorem dX2_pass_16 : decode cX2_pass 16 = .ok (.iconst 1, 1) := by decide +kernel
theorem dX2_pass_17 : decode cX2_pass 17 = .ok (.invokevirtual 91, 3) := by decide +kernel
theorem dX2_pass_20 : decode cX2_pass 20 = .ok (.ireturn, 1) := by decide +kernel
theorem dX2_pass_21 : decode cX2_pass 21 = .ok (.aload_n 0, 1) := by decide +kernel
theorem dX2_pass_22 : decode cX2_pass 22 = .ok (.getfield 85, 3) := by decide +kernel
theorem dX2_pass_25 : decode cX2_pass 25 = .ok (.istore_n 2, 1) := by decide +kernel
theorem dX2_pass_26 : decode cX2_pass 26 = .ok (.iconst 0, 1) := by decide +kernel
theorem dX2_pass_27 : decode cX2_pass 27 = .ok (.istore_n 3, 1) := by decide +kernel
theorem dX2_pass_28 : decode cX2_pass 28 = .ok (.iload_n 3, 1) := by decide +kernel
theorem dX2_pass_29 : decode cX2_pass 29 = .ok (.iload_n 1, 1) := by decide +kernel
theorem dX2_pass_30 : decode cX2_pass 30 = .ok (.if_icmp .ge 13, 3) := by decide +kernel
theorem dX2_pass_33 : decode cX2_pass 33 = .ok (.aload_n 0, 1) := by decide +kernel
theorem dX2_pass_34 : decode cX2_pass 34 = .ok (.invokevirtual 112, 3) := by decide +kernel
theorem dX2_pass_37 : decode cX2_pass 37 = .ok (.iinc 3 1, 3) := by decide +kernel
theorem dX2_pass_40 : decode cX2_pass 40 = .ok (.goto (-12), 3) := by decide +kernel
theorem dX2_pass_43 : decode cX2_pass 43 = .ok (.aload_n 0, 1) := by decide +kernel
theorem dX2_pass_44 : decode cX2_pass 44 = .ok (.getfield 85, 3) := by decide +kernel
theorem dX2_pass_47 : decode cX2_pass 47 = .ok (.iload_n 2, 1) := by decide +kernel
theorem dX2_pass_48 : decode cX2_pass 48 = .ok (.isub, 1) := by decide +kernel
theorem dX2_pass_49 : decode cX2_pass 49 = .ok (.ireturn, 1) := by decide +kernel
set_option maxRecDepth 20000 in
theorem ggX2_members_X2_ok : GoodIn wsX2_members wsX2_ok := goodIn_r _ [6, 7, 8, 9, 10, 11, 12, 13, 14, 15, 16, 17, 18, 19, 20] (by decide +kernel) (by decide +kernel)
set_option maxRecDepth 20000 in
theorem gX2_members_X2_ok : GoodIn wsX2_members (wsV RX2 115 RX2 yX2_ok wsX2_ok) := goodIn_app (goodIn_of _ (by decide +kernel)) ggX2_members_X2_ok
theorem dX2_members_0 : decode cX2_members 0 = .ok (.aload_n 0, 1) := by decide +kernel
theorem dX2_members_1 : decode cX2_members 1 = .ok (.aload_n 0, 1) := by decide +kernel
theorem dX2_members_2 : decode cX2_members 2 = .ok (.getfield 38, 3) := by decide +kernel
theorem dX2_members_5 : decode cX2_members 5 = .ok (.invokevirtual 115, 3) := by decide +kernel
theorem dX2_members_8 : decode cX2_members 8 = .ok (.ireturn, 1) := by decide +kernel
set_option maxRecDepth 20000 in
theorem ggX2_hour_X2_ok : GoodIn wsX2_hour wsX2_ok := goodIn_r _ [6, 7, 8, 9, 10, 11, 12, 13, 14, 15, 16, 17, 18, 19, 20] (by decide +kernel) (by decide +kernel)
set_option maxRecDepth 20000 in
theorem gX2_hour_X2_ok : GoodIn wsX2_hour (wsV RX2 115 RX2 yX2_ok wsX2_ok) := goodIn_app (goodIn_of _ (by decide +kernel)) ggX2_hour_X2_ok
theorem dX2_hour_0 : decode cX2_hour 0 = .ok (.aload_n 0, 1) := by decide +kernel
theorem dX2_hour_1 : decode cX2_hour 1 = .ok (.aload_n 0, 1) := by decide +kernel
theorem dX2_hour_2 : decode cX2_hour 2 = .ok (.getfield 45, 3) := by decide +kernel
theorem dX2_hour_5 : decode cX2_hour 5 = .ok (.invokevirtual 115, 3) := by decide +kernel
theorem dX2_hour_8 : decode cX2_hour 8 = .ok (.ireturn, 1) := by decide +kernel
set_option maxRecDepth 20000 in
theorem ggX2_hourOfDay_X2_ofDay : GoodIn wsX2_hourOfDay wsX2_ofDay := goodIn_r _ [5, 6, 12, 13, 14, 15, 16, 17, 18, 19, 20, 21, 22, 23, 24] (by decide +kernel) (by decide +kernel)
set_option maxRecDepth 20000 in
theorem gX2_hourOfDay_X2_ofDay : GoodIn wsX2_hourOfDay (wsV RX2 60 RX2 yX2_ofDay wsX2_ofDay) := goodIn_app (goodIn_of _ (by decide +kernel)) ggX2_hourOfDay_X2_ofDay
set_option maxRecDepth 20000 in
theorem ggX2_hourOfDay_X2_ok : GoodIn wsX2_hourOfDay wsX2_ok := goodIn_r _ [10, 11, 12, 13, 14, 15, 16, 17, 18, 19, 20, 21, 22, 23, 24] (by decide +kernel) (by decide +kernel)
set_option maxRecDepth 20000 in
theorem gX2_hourOfDay_X2_ok : GoodIn wsX2_hourOfDay (wsV RX2 115 RX2 yX2_ok wsX2_ok) := goodIn_app (goodIn_of _ (by decide +kernel)) ggX2_hourOfDay_X2_ok
theorem dX2_hourOfDay_0 : decode cX2_hourOfDay 0 = .ok (.aload_n 0, 1) := by decide +kernel
theorem dX2_hourOfDay_1 : decode cX2_hourOfDay 1 = .ok (.aload_n 0, 1) := by decide +kernel
theorem dX2_hourOfDay_2 : decode cX2_hourOfDay 2 = .ok (.invokevirtual 60, 3) := by decide +kernel
theorem dX2_hourOfDay_5 : decode cX2_hourOfDay 5 = .ok (.invokevirtual 115, 3) := by decide +kernel
theorem dX2_hourOfDay_8 : decode cX2_hourOfDay 8 = .ok (.ireturn, 1) := by decide +kernel
set_option maxRecDepth 20000 in
theorem ggX2_seized_X2_ok : GoodIn wsX2_seized wsX2_ok := goodIn_r _ [6, 7, 8, 9, 10, 11, 12, 13, 14, 15, 16, 17, 18, 19, 20] (by decide +kernel) (by decide +kernel)
set_option maxRecDepth 20000 in
theorem gX2_seized_X2_ok : GoodIn wsX2_seized (wsV RX2 115 RX2 yX2_ok wsX2_ok) := goodIn_app (goodIn_of _ (by decide +kernel)) ggX2_seized_X2_ok
theorem dX2_seized_0 : decode cX2_seized 0 = .ok (.aload_n 0, 1) := by decide +kernel
theorem dX2_seized_1 : decode cX2_seized 1 = .ok (.aload_n 0, 1) := by decide +kernel
theorem dX2_seized_2 : decode cX2_seized 2 = .ok (.getfield 79, 3) := by decide +kernel
theorem dX2_seized_5 : decode cX2_seized 5 = .ok (.invokevirtual 115, 3) := by decide +kernel
theorem dX2_seized_8 : decode cX2_seized 8 = .ok (.ireturn, 1) := by decide +kernel
set_option maxRecDepth 20000 in
theorem ggX2_revoked_X2_ok : GoodIn wsX2_revoked wsX2_ok := goodIn_r _ [6, 7, 8, 9, 10, 11, 12, 13, 14, 15, 16, 17, 18, 19, 20] (by decide +kernel) (by decide +kernel)
set_option maxRecDepth 20000 in
theorem gX2_revoked_X2_ok : GoodIn wsX2_revoked (wsV RX2 115 RX2 yX2_ok wsX2_ok) := goodIn_app (goodIn_of _ (by decide +kernel)) ggX2_revoked_X2_ok
theorem dX2_revoked_0 : decode cX2_revoked 0 = .ok (.aload_n 0, 1) := by decide +kernel
theorem dX2_revoked_1 : decode cX2_revoked 1 = .ok (.aload_n 0, 1) := by decide +kernel
theorem dX2_revoked_2 : decode cX2_revoked 2 = .ok (.getfield 85, 3) := by decide +kernel
theorem dX2_revoked_5 : decode cX2_revoked 5 = .ok (.invokevirtual 115, 3) := by decide +kernel
theorem dX2_revoked_8 : decode cX2_revoked 8 = .ok (.ireturn, 1) := by decide +kernel
set_option maxRecDepth 20000 in
theorem ggX2_certificates_X2_isTrue : GoodIn wsX2_certificates wsX2_isTrue := goodIn_r _ [7, 2, 8, 9, 10, 11, 6, 12, 13, 14, 15, 16, 17, 18, 19, 20, 21, 22, 23, 24, 25, 26, 27, 28, 29, 30, 31, 32, 33, 34, 35, 36, 37, 38, 39, 40, 41] (by decide +kernel) (by decide +kernel)
set_option maxRecDepth 20000 in
theorem gX2_certificates_X2_isTrue : GoodIn wsX2_certificates (wsV RX2 72 RX2 yX2_isTrue wsX2_isTrue) := goodIn_app (goodIn_of _ (by decide +kernel)) ggX2_certificates_X2_isTrue
theorem dX2_certificates_0 : decode cX2_certificates 0 = .ok (.iconst 0, 1) := by decide +kernel
theorem dX2_certificates_1 : decode cX2_certificates 1 = .ok (.istore_n 2, 1) := by decide +kernel
theorem dX2_certificates_2 : decode cX2_certificates 2 = .ok (.iconst 0, 1) := by decide +kernel
theorem dX2_certificates_3 : decode cX2_certificates 3 = .ok (.istore_n 3, 1) := by decide +kernel
theorem dX2_certificates_4 : decode cX2_certificates 4 = .ok (.iload_n 3, 1) := by decide +kernel
theorem dX2_certificates_5 : decode cX2_certificates 5 = .ok (.aload_n 0, 1) := by decide +kernel
theorem dX2_certificates_6 : decode cX2_certificates 6 = .ok (.getfield 38, 3) := by decide +kernel
theorem dX2_certificates_9 : decode cX2_certificates 9 = .ok (.if_icmp .ge 39, 3) := by decide +kernel
theorem dX2_certificates_12 : decode cX2_certificates 12 = .ok (.iload_n 2, 1) := by decide +kernel
theorem dX2_certificates_13 : decode cX2_certificates 13 = .ok (.aload_n 0, 1) := by decide +kernel
theorem dX2_certificates_14 : decode cX2_certificates 14 = .ok (.getfield 25, 3) := by decide +kernel
theorem dX2_certificates_17 : decode cX2_certificates 17 = .ok (.iload_n 3, 1) := by decide +kernel
theorem dX2_certificates_18 : decode cX2_certificates 18 = .ok (.iaload, 1) := by decide +kernel
theorem dX2_certificates_19 : decode cX2_certificates 19 = .ok (.iconst (-1), 1) := by decide +kernel
theorem dX2_certificates_20 : decode cX2_certificates 20 = .ok (.if_icmp .eq 19, 3) := by decide +kernel
theorem dX2_certificates_23 : decode cX2_certificates 23 = .ok (.iload_n 1, 1) := by decide +kernel
theorem dX2_certificates_24 : decode cX2_certificates 24 = .ok (.ifCond .eq 11, 3) := by decide +kernel
theorem dX2_certificates_27 : decode cX2_certificates 27 = .ok (.aload_n 0, 1) := by decide +kernel
theorem dX2_certificates_28 : decode cX2_certificates 28 = .ok (.iload_n 3, 1) := by decide +kernel
theorem dX2_certificates_29 : decode cX2_certificates 29 = .ok (.invokevirtual 72, 3) := by decide +kernel
theorem dX2_certificates_32 : decode cX2_certificates 32 = .ok (.ifCond .eq 7, 3) := by decide +kernel
theorem dX2_certificates_35 : decode cX2_certificates 35 = .ok (.iconst 1, 1) := by decide +kernel
theorem dX2_certificates_36 : decode cX2_certificates 36 = .ok (.goto 4, 3) := by decide +kernel
theorem dX2_certificates_39 : decode cX2_certificates 39 = .ok (.iconst 0, 1) := by decide +kernel
theorem dX2_certificates_40 : decode cX2_certificates 40 = .ok (.iadd, 1) := by decide +kernel
theorem dX2_certificates_41 : decode cX2_certificates 41 = .ok (.istore_n 2, 1) := by decide +kernel
theorem dX2_certificates_42 : decode cX2_certificates 42 = .ok (.iinc 3 1, 3) := by decide +kernel
theorem dX2_certificates_45 : decode cX2_certificates 45 = .ok (.goto (-41), 3) := by decide +kernel
theorem dX2_certificates_48 : decode cX2_certificates 48 = .ok (.iload_n 2, 1) := by decide +kernel
theorem dX2_certificates_49 : decode cX2_certificates 49 = .ok (.ireturn, 1) := by decide +kernel
set_option maxRecDepth 20000 in
theorem ggX2_certificates__X2_certificates : GoodIn wsX2_certificates_ wsX2_certificates := goodIn_r _ [5, 6, 7, 8, 9, 10, 4, 11, 12, 13, 14, 15, 16, 17, 18, 19, 20, 21, 22, 23, 24, 25, 26, 27, 28, 29, 30, 31, 32, 38, 39, 40, 41, 42, 43, 44, 45, 46, 47, 48, 49, 50] (by decide +kernel) (by decide +kernel)
set_option maxRecDepth 20000 in
theorem gX2_certificates__X2_certificates : GoodIn wsX2_certificates_ (wsV RX2 118 RX2 yX2_certificates wsX2_certificates) := goodIn_app (goodIn_of _ (by decide +kernel)) ggX2_certificates__X2_certificates
set_option maxRecDepth 20000 in
theorem ggX2_certificates__X2_ok : GoodIn wsX2_certificates_ wsX2_ok := goodIn_r _ [36, 37, 38, 39, 40, 41, 42, 43, 44, 45, 46, 47, 48, 49, 50] (by decide +kernel) (by decide +kernel)
set_option maxRecDepth 20000 in
theorem gX2_certificates__X2_ok : GoodIn wsX2_certificates_ (wsV RX2 115 RX2 yX2_ok wsX2_ok) := goodIn_app (goodIn_of _ (by decide +kernel)) ggX2_certificates__X2_ok
theorem dX2_certificates__0 : decode cX2_certificates_ 0 = .ok (.aload_n 0, 1) := by decide +kernel
theorem dX2_certificates__1 : decode cX2_certificates_ 1 = .ok (.aload_n 0, 1) := by decide +kernel
theorem dX2_certificates__2 : decode cX2_certificates_ 2 = .ok (.iconst 0, 1) := by decide +kernel
theorem dX2_certificates__3 : decode cX2_certificates_ 3 = .ok (.invokevirtual 118, 3) := by decide +kernel
theorem dX2_certificates__6 : decode cX2_certificates_ 6 = .ok (.invokevirtual 115, 3) := by decide +kernel
theorem dX2_certificates__9 : decode cX2_certificates_ 9 = .ok (.ireturn, 1) := by decide +kernel
set_option maxRecDepth 20000 in
theorem ggX2_honestOnes_X2_certificates : GoodIn wsX2_honestOnes wsX2_certificates := goodIn_r _ [5, 6, 7, 8, 9, 10, 4, 11, 12, 13, 14, 15, 16, 17, 18, 19, 20, 21, 22, 23, 24, 25, 26, 27, 28, 29, 30, 31, 32, 38, 39, 40, 41, 42, 43, 44, 45, 46, 47, 48, 49, 50] (by decide +kernel) (by decide +kernel)
set_option maxRecDepth 20000 in
theorem gX2_honestOnes_X2_certificates : GoodIn wsX2_honestOnes (wsV RX2 118 RX2 yX2_certificates wsX2_certificates) := goodIn_app (goodIn_of _ (by decide +kernel)) ggX2_honestOnes_X2_certificates
set_option maxRecDepth 20000 in
theorem ggX2_honestOnes_X2_ok : GoodIn wsX2_honestOnes wsX2_ok := goodIn_r _ [36, 37, 38, 39, 40, 41, 42, 43, 44, 45, 46, 47, 48, 49, 50] (by decide +kernel) (by decide +kernel)
set_option maxRecDepth 20000 in
theorem gX2_honestOnes_X2_ok : GoodIn wsX2_honestOnes (wsV RX2 115 RX2 yX2_ok wsX2_ok) := goodIn_app (goodIn_of _ (by decide +kernel)) ggX2_honestOnes_X2_ok
theorem dX2_honestOnes_0 : decode cX2_honestOnes 0 = .ok (.aload_n 0, 1) := by decide +kernel
theorem dX2_honestOnes_1 : decode cX2_honestOnes 1 = .ok (.aload_n 0, 1) := by decide +kernel
theorem dX2_honestOnes_2 : decode cX2_honestOnes 2 = .ok (.iconst 1, 1) := by decide +kernel
theorem dX2_honestOnes_3 : decode cX2_honestOnes 3 = .ok (.invokevirtual 118, 3) := by decide +kernel
theorem dX2_honestOnes_6 : decode cX2_honestOnes 6 = .ok (.invokevirtual 115, 3) := by decide +kernel
theorem dX2_honestOnes_9 : decode cX2_honestOnes 9 = .ok (.ireturn, 1) := by decide +kernel
set_option maxRecDepth 20000 in
theorem ggX2_of_X2_isMember : GoodIn wsX2_of wsX2_isMember := goodIn_r _ [6, 7, 8, 9, 5, 10, 15, 16, 17, 18, 19, 20, 21, 22, 23, 24, 25, 26, 27] (by decide +kernel) (by decide +kernel)
set_option maxRecDepth 20000 in
theorem gX2_of_X2_isMember : GoodIn wsX2_of (wsV RX2 94 RX2 yX2_isMember wsX2_isMember) := goodIn_app (goodIn_of _ (by decide +kernel)) ggX2_of_X2_isMember
set_option maxRecDepth 20000 in
theorem ggX2_of_X2_no : GoodIn wsX2_of wsX2_no := goodIn_r _ [14, 1, 15, 16, 17, 18, 19, 20, 21, 22, 23, 24, 25, 26, 27] (by decide +kernel) (by decide +kernel)
set_option maxRecDepth 20000 in
theorem gX2_of_X2_no : GoodIn wsX2_of (wsV RX2 91 RX2 yX2_no wsX2_no) := goodIn_app (goodIn_of _ (by decide +kernel)) ggX2_of_X2_no
theorem dX2_of_0 : decode cX2_of 0 = .ok (.aload_n 0, 1) := by decide +kernel
theorem dX2_of_1 : decode cX2_of 1 = .ok (.iconst 0, 1) := by decide +kernel
theorem dX2_of_2 : decode cX2_of 2 = .ok (.putfield 34, 3) := by decide +kernel
theorem dX2_of_5 : decode cX2_of 5 = .ok (.aload_n 0, 1) := by decide +kernel
theorem dX2_of_6 : decode cX2_of 6 = .ok (.iload_n 1, 1) := by decide +kernel
theorem dX2_of_7 : decode cX2_of 7 = .ok (.invokevirtual 94, 3) := by decide +kernel
theorem dX2_of_10 : decode cX2_of 10 = .ok (.ifCond .eq 9, 3) := by decide +kernel
theorem dX2_of_13 : decode cX2_of 13 = .ok (.aload_n 2, 1) := by decide +kernel
theorem dX2_of_14 : decode cX2_of 14 = .ok (.iload_n 1, 1) := by decide +kernel
theorem dX2_of_15 : decode cX2_of 15 = .ok (.iaload, 1) := by decide +kernel
theorem dX2_of_16 : decode cX2_of 16 = .ok (.goto 8, 3) := by decide +kernel
theorem dX2_of_19 : decode cX2_of 19 = .ok (.aload_n 0, 1) := by decide +kernel
theorem dX2_of_20 : decode cX2_of 20 = .ok (.iconst 1, 1) := by decide +kernel
theorem dX2_of_21 : decode cX2_of 21 = .ok (.invokevirtual 91, 3) := by decide +kernel
theorem dX2_of_24 : decode cX2_of 24 = .ok (.ireturn, 1) := by decide +kernel
set_option maxRecDepth 20000 in
theorem ggX2_lampOf_X2_of : GoodIn wsX2_lampOf wsX2_of := goodIn_r _ [6, 7, 8, 9, 10, 5, 11, 12, 13, 14, 15, 16, 17, 18, 19, 20, 21, 22, 23, 24, 25, 26, 27, 28, 29, 30, 31, 32] (by decide +kernel) (by decide +kernel)
set_option maxRecDepth 20000 in
theorem gX2_lampOf_X2_of : GoodIn wsX2_lampOf (wsV RX2 122 RX2 yX2_of wsX2_of) := goodIn_app (goodIn_of _ (by decide +kernel)) ggX2_lampOf_X2_of
theorem dX2_lampOf_0 : decode cX2_lampOf 0 = .ok (.aload_n 0, 1) := by decide +kernel
theorem dX2_lampOf_1 : decode cX2_lampOf 1 = .ok (.iload_n 1, 1) := by decide +kernel
theorem dX2_lampOf_2 : decode cX2_lampOf 2 = .ok (.aload_n 0, 1) := by decide +kernel
theorem dX2_lampOf_3 : decode cX2_lampOf 3 = .ok (.getfield 19, 3) := by decide +kernel
theorem dX2_lampOf_6 : decode cX2_lampOf 6 = .ok (.invokevirtual 122, 3) := by decide +kernel
theorem dX2_lampOf_9 : decode cX2_lampOf 9 = .ok (.ireturn, 1) := by decide +kernel
set_option maxRecDepth 20000 in
theorem ggX2_purseOf_X2_of : GoodIn wsX2_purseOf wsX2_of := goodIn_r _ [6, 7, 8, 9, 10, 5, 11, 12, 13, 14, 15, 16, 17, 18, 19, 20, 21, 22, 23, 24, 25, 26, 27, 28, 29, 30, 31, 32] (by decide +kernel) (by decide +kernel)
set_option maxRecDepth 20000 in
theorem gX2_purseOf_X2_of : GoodIn wsX2_purseOf (wsV RX2 122 RX2 yX2_of wsX2_of) := goodIn_app (goodIn_of _ (by decide +kernel)) ggX2_purseOf_X2_of
theorem dX2_purseOf_0 : decode cX2_purseOf 0 = .ok (.aload_n 0, 1) := by decide +kernel
theorem dX2_purseOf_1 : decode cX2_purseOf 1 = .ok (.iload_n 1, 1) := by decide +kernel
theorem dX2_purseOf_2 : decode cX2_purseOf 2 = .ok (.aload_n 0, 1) := by decide +kernel
theorem dX2_purseOf_3 : decode cX2_purseOf 3 = .ok (.getfield 16, 3) := by decide +kernel
theorem dX2_purseOf_6 : decode cX2_purseOf 6 = .ok (.invokevirtual 122, 3) := by decide +kernel
theorem dX2_purseOf_9 : decode cX2_purseOf 9 = .ok (.ireturn, 1) := by decide +kernel
set_option maxRecDepth 20000 in
theorem ggX2_wears_X2_of : GoodIn wsX2_wears wsX2_of := goodIn_r _ [6, 7, 8, 9, 10, 5, 11, 12, 13, 14, 15, 16, 17, 18, 19, 20, 21, 22, 23, 24, 25, 26, 27, 28, 29, 30, 31, 32] (by decide +kernel) (by decide +kernel)
set_option maxRecDepth 20000 in
theorem gX2_wears_X2_of : GoodIn wsX2_wears (wsV RX2 122 RX2 yX2_of wsX2_of) := goodIn_app (goodIn_of _ (by decide +kernel)) ggX2_wears_X2_of
theorem dX2_wears_0 : decode cX2_wears 0 = .ok (.aload_n 0, 1) := by decide +kernel
theorem dX2_wears_1 : decode cX2_wears 1 = .ok (.iload_n 1, 1) := by decide +kernel
theorem dX2_wears_2 : decode cX2_wears 2 = .ok (.aload_n 0, 1) := by decide +kernel
theorem dX2_wears_3 : decode cX2_wears 3 = .ok (.getfield 22, 3) := by decide +kernel
theorem dX2_wears_6 : decode cX2_wears 6 = .ok (.invokevirtual 122, 3) := by decide +kernel
theorem dX2_wears_9 : decode cX2_wears 9 = .ok (.ireturn, 1) := by decide +kernel
set_option maxRecDepth 20000 in
theorem ggX2_hatOn_X2_isMember : GoodIn wsX2_hatOn wsX2_isMember := goodIn_r _ [6, 7, 8, 9, 5, 10, 21, 22, 23, 24, 25, 26, 27, 28, 29, 30, 31, 32, 33] (by decide +kernel) (by decide +kernel)
set_option maxRecDepth 20000 in
theorem gX2_hatOn_X2_isMember : GoodIn wsX2_hatOn (wsV RX2 94 RX2 yX2_isMember wsX2_isMember) := goodIn_app (goodIn_of _ (by decide +kernel)) ggX2_hatOn_X2_isMember
set_option maxRecDepth 20000 in
theorem ggX2_hatOn_X2_worn : GoodIn wsX2_hatOn wsX2_worn := goodIn_r _ [14, 15, 16, 21, 22, 23, 24, 25, 26, 27, 28, 29, 30, 31, 32, 33] (by decide +kernel) (by decide +kernel)
set_option maxRecDepth 20000 in
theorem gX2_hatOn_X2_worn : GoodIn wsX2_hatOn (wsV RX2 57 RX2 yX2_worn wsX2_worn) := goodIn_app (goodIn_of _ (by decide +kernel)) ggX2_hatOn_X2_worn
set_option maxRecDepth 20000 in
theorem ggX2_hatOn_X2_no : GoodIn wsX2_hatOn wsX2_no := goodIn_r _ [20, 1, 21, 22, 23, 24, 25, 26, 27, 28, 29, 30, 31, 32, 33] (by decide +kernel) (by decide +kernel)
set_option maxRecDepth 20000 in
theorem gX2_hatOn_X2_no : GoodIn wsX2_hatOn (wsV RX2 91 RX2 yX2_no wsX2_no) := goodIn_app (goodIn_of _ (by decide +kernel)) ggX2_hatOn_X2_no
theorem dX2_hatOn_0 : decode cX2_hatOn 0 = .ok (.aload_n 0, 1) := by decide +kernel
theorem dX2_hatOn_1 : decode cX2_hatOn 1 = .ok (.iconst 0, 1) := by decide +kernel
theorem dX2_hatOn_2 : decode cX2_hatOn 2 = .ok (.putfield 34, 3) := by decide +kernel
theorem dX2_hatOn_5 : decode cX2_hatOn 5 = .ok (.aload_n 0, 1) := by decide +kernel
theorem dX2_hatOn_6 : decode cX2_hatOn 6 = .ok (.iload_n 1, 1) := by decide +kernel
theorem dX2_hatOn_7 : decode cX2_hatOn 7 = .ok (.invokevirtual 94, 3) := by decide +kernel
theorem dX2_hatOn_10 : decode cX2_hatOn 10 = .ok (.ifCond .eq 11, 3) := by decide +kernel
theorem dX2_hatOn_13 : decode cX2_hatOn 13 = .ok (.aload_n 0, 1) := by decide +kernel
theorem dX2_hatOn_14 : decode cX2_hatOn 14 = .ok (.iload_n 1, 1) := by decide +kernel
theorem dX2_hatOn_15 : decode cX2_hatOn 15 = .ok (.invokevirtual 57, 3) := by decide +kernel
theorem dX2_hatOn_18 : decode cX2_hatOn 18 = .ok (.goto 8, 3) := by decide +kernel
theorem dX2_hatOn_21 : decode cX2_hatOn 21 = .ok (.aload_n 0, 1) := by decide +kernel
theorem dX2_hatOn_22 : decode cX2_hatOn 22 = .ok (.iconst 1, 1) := by decide +kernel
theorem dX2_hatOn_23 : decode cX2_hatOn 23 = .ok (.invokevirtual 91, 3) := by decide +kernel
theorem dX2_hatOn_26 : decode cX2_hatOn 26 = .ok (.ireturn, 1) := by decide +kernel
set_option maxRecDepth 20000 in
theorem ggX2_hasLent_X2_isMember : GoodIn wsX2_hasLent wsX2_isMember := goodIn_r _ [6, 7, 8, 9, 5, 10, 20, 21, 22, 23, 24, 25, 26, 27, 28, 29, 30, 31, 32] (by decide +kernel) (by decide +kernel)
set_option maxRecDepth 20000 in
theorem gX2_hasLent_X2_isMember : GoodIn wsX2_hasLent (wsV RX2 94 RX2 yX2_isMember wsX2_isMember) := goodIn_app (goodIn_of _ (by decide +kernel)) ggX2_hasLent_X2_isMember
set_option maxRecDepth 20000 in
theorem ggX2_hasLent_X2_hasLentOut : GoodIn wsX2_hasLent wsX2_hasLentOut := goodIn_r _ [14, 7, 15, 20, 21, 22, 23, 24, 25, 26, 27, 28, 29, 30, 31, 32] (by decide +kernel) (by decide +kernel)
set_option maxRecDepth 20000 in
theorem gX2_hasLent_X2_hasLentOut : GoodIn wsX2_hasLent (wsV RX2 103 RX2 yX2_hasLentOut wsX2_hasLentOut) := goodIn_app (goodIn_of _ (by decide +kernel)) ggX2_hasLent_X2_hasLentOut
set_option maxRecDepth 20000 in
theorem ggX2_hasLent_X2_isNot : GoodIn wsX2_hasLent wsX2_isNot := goodIn_r _ [19, 1, 20, 21, 22, 23, 24, 25, 26, 27, 28, 29, 30, 31, 32] (by decide +kernel) (by decide +kernel)
set_option maxRecDepth 20000 in
theorem gX2_hasLent_X2_isNot : GoodIn wsX2_hasLent (wsV RX2 126 RX2 yX2_isNot wsX2_isNot) := goodIn_app (goodIn_of _ (by decide +kernel)) ggX2_hasLent_X2_isNot
theorem dX2_hasLent_0 : decode cX2_hasLent 0 = .ok (.aload_n 0, 1) := by decide +kernel
theorem dX2_hasLent_1 : decode cX2_hasLent 1 = .ok (.iconst 0, 1) := by decide +kernel
theorem dX2_hasLent_2 : decode cX2_hasLent 2 = .ok (.putfield 34, 3) := by decide +kernel
theorem dX2_hasLent_5 : decode cX2_hasLent 5 = .ok (.aload_n 0, 1) := by decide +kernel
theorem dX2_hasLent_6 : decode cX2_hasLent 6 = .ok (.iload_n 1, 1) := by decide +kernel
theorem dX2_hasLent_7 : decode cX2_hasLent 7 = .ok (.invokevirtual 94, 3) := by decide +kernel
theorem dX2_hasLent_10 : decode cX2_hasLent 10 = .ok (.ifCond .eq 11, 3) := by decide +kernel
theorem dX2_hasLent_13 : decode cX2_hasLent 13 = .ok (.aload_n 0, 1) := by decide +kernel
theorem dX2_hasLent_14 : decode cX2_hasLent 14 = .ok (.iload_n 1, 1) := by decide +kernel
theorem dX2_hasLent_15 : decode cX2_hasLent 15 = .ok (.invokevirtual 103, 3) := by decide +kernel
theorem dX2_hasLent_18 : decode cX2_hasLent 18 = .ok (.goto 8, 3) := by decide +kernel
theorem dX2_hasLent_21 : decode cX2_hasLent 21 = .ok (.aload_n 0, 1) := by decide +kernel
theorem dX2_hasLent_22 : decode cX2_hasLent 22 = .ok (.iconst 1, 1) := by decide +kernel
theorem dX2_hasLent_23 : decode cX2_hasLent 23 = .ok (.invokevirtual 126, 3) := by decide +kernel
theorem dX2_hasLent_26 : decode cX2_hasLent 26 = .ok (.ireturn, 1) := by decide +kernel
set_option maxRecDepth 20000 in
theorem ggX2_isExpelled_X2_isMember : GoodIn wsX2_isExpelled wsX2_isMember := goodIn_r _ [6, 7, 8, 9, 5, 10, 20, 21, 22, 23, 24, 25, 26, 27, 28, 29, 30, 31, 32] (by decide +kernel) (by decide +kernel)
set_option maxRecDepth 20000 in
theorem gX2_isExpelled_X2_isMember : GoodIn wsX2_isExpelled (wsV RX2 94 RX2 yX2_isMember wsX2_isMember) := goodIn_app (goodIn_of _ (by decide +kernel)) ggX2_isExpelled_X2_isMember
set_option maxRecDepth 20000 in
theorem ggX2_isExpelled_X2_isOut : GoodIn wsX2_isExpelled wsX2_isOut := goodIn_r _ [14, 15, 20, 21, 22, 23, 24, 25, 26, 27, 28, 29, 30, 31, 32] (by decide +kernel) (by decide +kernel)
set_option maxRecDepth 20000 in
theorem gX2_isExpelled_X2_isOut : GoodIn wsX2_isExpelled (wsV RX2 106 RX2 yX2_isOut wsX2_isOut) := goodIn_app (goodIn_of _ (by decide +kernel)) ggX2_isExpelled_X2_isOut
set_option maxRecDepth 20000 in
theorem ggX2_isExpelled_X2_isNot : GoodIn wsX2_isExpelled wsX2_isNot := goodIn_r _ [19, 1, 20, 21, 22, 23, 24, 25, 26, 27, 28, 29, 30, 31, 32] (by decide +kernel) (by decide +kernel)
set_option maxRecDepth 20000 in
theorem gX2_isExpelled_X2_isNot : GoodIn wsX2_isExpelled (wsV RX2 126 RX2 yX2_isNot wsX2_isNot) := goodIn_app (goodIn_of _ (by decide +kernel)) ggX2_isExpelled_X2_isNot
theorem dX2_isExpelled_0 : decode cX2_isExpelled 0 = .ok (.aload_n 0, 1) := by decide +kernel
theorem dX2_isExpelled_1 : decode cX2_isExpelled 1 = .ok (.iconst 0, 1) := by decide +kernel
theorem dX2_isExpelled_2 : decode cX2_isExpelled 2 = .ok (.putfield 34, 3) := by decide +kernel
theorem dX2_isExpelled_5 : decode cX2_isExpelled 5 = .ok (.aload_n 0, 1) := by decide +kernel
theorem dX2_isExpelled_6 : decode cX2_isExpelled 6 = .ok (.iload_n 1, 1) := by decide +kernel
theorem dX2_isExpelled_7 : decode cX2_isExpelled 7 = .ok (.invokevirtual 94, 3) := by decide +kernel
theorem dX2_isExpelled_10 : decode cX2_isExpelled 10 = .ok (.ifCond .eq 11, 3) := by decide +kernel
theorem dX2_isExpelled_13 : decode cX2_isExpelled 13 = .ok (.aload_n 0, 1) := by decide +kernel
theorem dX2_isExpelled_14 : decode cX2_isExpelled 14 = .ok (.iload_n 1, 1) := by decide +kernel
theorem dX2_isExpelled_15 : decode cX2_isExpelled 15 = .ok (.invokevirtual 106, 3) := by decide +kernel
theorem dX2_isExpelled_18 : decode cX2_isExpelled 18 = .ok (.goto 8, 3) := by decide +kernel
theorem dX2_isExpelled_21 : decode cX2_isExpelled 21 = .ok (.aload_n 0, 1) := by decide +kernel
theorem dX2_isExpelled_22 : decode cX2_isExpelled 22 = .ok (.iconst 1, 1) := by decide +kernel
theorem dX2_isExpelled_23 : decode cX2_isExpelled 23 = .ok (.invokevirtual 126, 3) := by decide +kernel
theorem dX2_isExpelled_26 : decode cX2_isExpelled 26 = .ok (.ireturn, 1) := by decide +kernel
set_option maxRecDepth 20000 in
theorem ggX2_shadowOf_X2_isMember : GoodIn wsX2_shadowOf wsX2_isMember := goodIn_r _ [6, 7, 8, 9, 5, 10, 43, 44, 45, 46, 47, 48, 49, 50, 51, 52, 53, 54, 55] (by decide +kernel) (by decide +kernel)
set_option maxRecDepth 20000 in
theorem gX2_shadowOf_X2_isMember : GoodIn wsX2_shadowOf (wsV RX2 94 RX2 yX2_isMember wsX2_isMember) := goodIn_app (goodIn_of _ (by decide +kernel)) ggX2_shadowOf_X2_isMember
set_option maxRecDepth 20000 in
theorem ggX2_shadowOf_X2_shadow : GoodIn wsX2_shadowOf wsX2_shadow := goodIn_r _ [14, 15, 16, 17, 18, 5, 19, 20, 21, 22, 23, 24, 25, 26, 27, 28, 29, 30, 31, 32, 33, 34, 35, 36, 37, 38, 8, 9, 10, 43, 44, 45, 46, 47, 48, 49, 50, 51, 52, 53, 54, 55] (by decide +kernel) (by decide +kernel)
set_option maxRecDepth 20000 in
theorem gX2_shadowOf_X2_shadow : GoodIn wsX2_shadowOf (wsV RX2 109 RX2 yX2_shadow wsX2_shadow) := goodIn_app (goodIn_of _ (by decide +kernel)) ggX2_shadowOf_X2_shadow
set_option maxRecDepth 20000 in
theorem ggX2_shadowOf_X2_no : GoodIn wsX2_shadowOf wsX2_no := goodIn_r _ [42, 1, 43, 44, 45, 46, 47, 48, 49, 50, 51, 52, 53, 54, 55] (by decide +kernel) (by decide +kernel)
set_option maxRecDepth 20000 in
theorem gX2_shadowOf_X2_no : GoodIn wsX2_shadowOf (wsV RX2 91 RX2 yX2_no wsX2_no) := goodIn_app (goodIn_of _ (by decide +kernel)) ggX2_shadowOf_X2_no
theorem dX2_shadowOf_0 : decode cX2_shadowOf 0 = .ok (.aload_n 0, 1) := by decide +kernel
theorem dX2_shadowOf_1 : decode cX2_shadowOf 1 = .ok (.iconst 0, 1) := by decide +kernel
theorem dX2_shadowOf_2 : decode cX2_shadowOf 2 = .ok (.putfield 34, 3) := by decide +kernel
theorem dX2_shadowOf_5 : decode cX2_shadowOf 5 = .ok (.aload_n 0, 1) := by decide +kernel
theorem dX2_shadowOf_6 : decode cX2_shadowOf 6 = .ok (.iload_n 1, 1) := by decide +kernel
theorem dX2_shadowOf_7 : decode cX2_shadowOf 7 = .ok (.invokevirtual 94, 3) := by decide +kernel
theorem dX2_shadowOf_10 : decode cX2_shadowOf 10 = .ok (.ifCond .eq 11, 3) := by decide +kernel
theorem dX2_shadowOf_13 : decode cX2_shadowOf 13 = .ok (.aload_n 0, 1) := by decide +kernel
theorem dX2_shadowOf_14 : decode cX2_shadowOf 14 = .ok (.iload_n 1, 1) := by decide +kernel
theorem dX2_shadowOf_15 : decode cX2_shadowOf 15 = .ok (.invokevirtual 109, 3) := by decide +kernel
theorem dX2_shadowOf_18 : decode cX2_shadowOf 18 = .ok (.goto 8, 3) := by decide +kernel
theorem dX2_shadowOf_21 : decode cX2_shadowOf 21 = .ok (.aload_n 0, 1) := by decide +kernel
theorem dX2_shadowOf_22 : decode cX2_shadowOf 22 = .ok (.iconst 1, 1) := by decide +kernel
theorem dX2_shadowOf_23 : decode cX2_shadowOf 23 = .ok (.invokevirtual 91, 3) := by decide +kernel
theorem dX2_shadowOf_26 : decode cX2_shadowOf 26 = .ok (.ireturn, 1) := by decide +kernel
set_option maxRecDepth 20000 in
theorem ggX2_honestShadow_X2_isMember : GoodIn wsX2_honestShadow wsX2_isMember := goodIn_r _ [6, 7, 8, 9, 5, 10, 32, 33, 34, 35, 36, 37, 38, 39, 40, 41, 42, 43, 44] (by decide +kernel) (by decide +kernel)
set_option maxRecDepth 20000 in
theorem gX2_honestShadow_X2_isMember : GoodIn wsX2_honestShadow (wsV RX2 94 RX2 yX2_isMember wsX2_isMember) := goodIn_app (goodIn_of _ (by decide +kernel)) ggX2_honestShadow_X2_isMember
set_option maxRecDepth 20000 in
theorem ggX2_honestShadow_X2_isIn : GoodIn wsX2_honestShadow wsX2_isIn := goodIn_r _ [10] (by decide +kernel) (by decide +kernel)
set_option maxRecDepth 20000 in
theorem gX2_honestShadow_X2_isIn : GoodIn wsX2_honestShadow (va_wsS RX2 41 yX2_isIn wsX2_isIn) := goodIn_app (goodIn_of _ (by decide +kernel)) ggX2_honestShadow_X2_isIn
set_option maxRecDepth 20000 in
theorem ggX2_honestShadow_X2_honest : GoodIn wsX2_honestShadow wsX2_honest := goodIn_r _ [14, 15, 16, 17, 18, 5, 19, 20, 21, 22, 23, 24, 25, 26, 27, 8, 9, 10, 32, 33, 34, 35, 36, 37, 38, 39, 40, 41, 42, 43, 44] (by decide +kernel) (by decide +kernel)
set_option maxRecDepth 20000 in
theorem gX2_honestShadow_X2_honest : GoodIn wsX2_honestShadow (wsV RX2 68 RX2 yX2_honest wsX2_honest) := goodIn_app (goodIn_of _ (by decide +kernel)) ggX2_honestShadow_X2_honest
set_option maxRecDepth 20000 in
theorem ggX2_honestShadow_X2_no : GoodIn wsX2_honestShadow wsX2_no := goodIn_r _ [31, 1, 32, 33, 34, 35, 36, 37, 38, 39, 40, 41, 42, 43, 44] (by decide +kernel) (by decide +kernel)
set_option maxRecDepth 20000 in
theorem gX2_honestShadow_X2_no : GoodIn wsX2_honestShadow (wsV RX2 91 RX2 yX2_no wsX2_no) := goodIn_app (goodIn_of _ (by decide +kernel)) ggX2_honestShadow_X2_no
theorem dX2_honestShadow_0 : decode cX2_honestShadow 0 = .ok (.aload_n 0, 1) := by decide +kernel
theorem dX2_honestShadow_1 : decode cX2_honestShadow 1 = .ok (.iconst 0, 1) := by decide +kernel
theorem dX2_honestShadow_2 : decode cX2_honestShadow 2 = .ok (.putfield 34, 3) := by decide +kernel
theorem dX2_honestShadow_5 : decode cX2_honestShadow 5 = .ok (.aload_n 0, 1) := by decide +kernel
theorem dX2_honestShadow_6 : decode cX2_honestShadow 6 = .ok (.iload_n 1, 1) := by decide +kernel
theorem dX2_honestShadow_7 : decode cX2_honestShadow 7 = .ok (.invokevirtual 94, 3) := by decide +kernel
theorem dX2_honestShadow_10 : decode cX2_honestShadow 10 = .ok (.ifCond .eq 22, 3) := by decide +kernel
theorem dX2_honestShadow_13 : decode cX2_honestShadow 13 = .ok (.iload_n 2, 1) := by decide +kernel
theorem dX2_honestShadow_14 : decode cX2_honestShadow 14 = .ok (.iconst 0, 1) := by decide +kernel
theorem dX2_honestShadow_15 : decode cX2_honestShadow 15 = .ok (.bipush 23, 2) := by decide +kernel
theorem dX2_honestShadow_17 : decode cX2_honestShadow 17 = .ok (.invokestatic 41, 3) := by decide +kernel
theorem dX2_honestShadow_20 : decode cX2_honestShadow 20 = .ok (.ifCond .eq 12, 3) := by decide +kernel
theorem dX2_honestShadow_23 : decode cX2_honestShadow 23 = .ok (.aload_n 0, 1) := by decide +kernel
theorem dX2_honestShadow_24 : decode cX2_honestShadow 24 = .ok (.iload_n 1, 1) := by decide +kernel
theorem dX2_honestShadow_25 : decode cX2_honestShadow 25 = .ok (.iload_n 2, 1) := by decide +kernel
theorem dX2_honestShadow_26 : decode cX2_honestShadow 26 = .ok (.invokevirtual 68, 3) := by decide +kernel
theorem dX2_honestShadow_29 : decode cX2_honestShadow 29 = .ok (.goto 8, 3) := by decide +kernel
theorem dX2_honestShadow_32 : decode cX2_honestShadow 32 = .ok (.aload_n 0, 1) := by decide +kernel
theorem dX2_honestShadow_33 : decode cX2_honestShadow 33 = .ok (.iconst 1, 1) := by decide +kernel
theorem dX2_honestShadow_34 : decode cX2_honestShadow 34 = .ok (.invokevirtual 91, 3) := by decide +kernel
theorem dX2_honestShadow_37 : decode cX2_honestShadow 37 = .ok (.ireturn, 1) := by decide +kernel
set_option maxRecDepth 20000 in
theorem ggX2_certified_X2_of : GoodIn wsX2_certified wsX2_of := goodIn_r _ [6, 7, 8, 9, 10, 5, 11, 12, 13, 14, 15, 16, 17, 18, 19, 20, 21, 22, 23, 24, 25, 26, 27, 28, 29, 30, 31, 32] (by decide +kernel) (by decide +kernel)
set_option maxRecDepth 20000 in
theorem gX2_certified_X2_of : GoodIn wsX2_certified (wsV RX2 122 RX2 yX2_of wsX2_of) := goodIn_app (goodIn_of _ (by decide +kernel)) ggX2_certified_X2_of
theorem dX2_certified_0 : decode cX2_certified 0 = .ok (.aload_n 0, 1) := by decide +kernel
theorem dX2_certified_1 : decode cX2_certified 1 = .ok (.iload_n 1, 1) := by decide +kernel
theorem dX2_certified_2 : decode cX2_certified 2 = .ok (.aload_n 0, 1) := by decide +kernel
theorem dX2_certified_3 : decode cX2_certified 3 = .ok (.getfield 25, 3) := by decide +kernel
theorem dX2_certified_6 : decode cX2_certified 6 = .ok (.invokevirtual 122, 3) := by decide +kernel
theorem dX2_certified_9 : decode cX2_certified 9 = .ok (.ireturn, 1) := by decide +kernel
set_option maxRecDepth 20000 in
theorem ggX2_isHonest_X2_isMember : GoodIn wsX2_isHonest wsX2_isMember := goodIn_r _ [7, 8, 9, 10, 6, 11, 38, 39, 40, 41, 42, 43, 44, 45, 46, 47, 48, 49, 50] (by decide +kernel) (by decide +kernel)
set_option maxRecDepth 20000 in
theorem gX2_isHonest_X2_isMember : GoodIn wsX2_isHonest (wsV RX2 94 RX2 yX2_isMember wsX2_isMember) := goodIn_app (goodIn_of _ (by decide +kernel)) ggX2_isHonest_X2_isMember
set_option maxRecDepth 20000 in
theorem ggX2_isHonest_X2_isNot : GoodIn wsX2_isHonest wsX2_isNot := goodIn_r _ [15, 1, 38, 39, 40, 41, 42, 43, 44, 45, 46, 47, 48, 49, 50] (by decide +kernel) (by decide +kernel)
set_option maxRecDepth 20000 in
theorem gX2_isHonest_X2_isNot : GoodIn wsX2_isHonest (wsV RX2 126 RX2 yX2_isNot wsX2_isNot) := goodIn_app (goodIn_of _ (by decide +kernel)) ggX2_isHonest_X2_isNot
set_option maxRecDepth 20000 in
theorem ggX2_isHonest_X2_isTrue : GoodIn wsX2_isHonest wsX2_isTrue := goodIn_r _ [19, 2, 20, 21, 22, 23, 6, 24, 25, 26, 27, 28, 29, 30, 31, 32, 33, 34, 35, 36, 37, 9, 10, 11, 38, 39, 40, 41, 42, 43, 44, 45, 46, 47, 48, 49, 50] (by decide +kernel) (by decide +kernel)
set_option maxRecDepth 20000 in
theorem gX2_isHonest_X2_isTrue : GoodIn wsX2_isHonest (wsV RX2 72 RX2 yX2_isTrue wsX2_isTrue) := goodIn_app (goodIn_of _ (by decide +kernel)) ggX2_isHonest_X2_isTrue
theorem dX2_isHonest_0 : decode cX2_isHonest 0 = .ok (.aload_n 0, 1) := by decide +kernel
theorem dX2_isHonest_1 : decode cX2_isHonest 1 = .ok (.iconst 0, 1) := by decide +kernel
theorem dX2_isHonest_2 : decode cX2_isHonest 2 = .ok (.putfield 34, 3) := by decide +kernel
theorem dX2_isHonest_5 : decode cX2_isHonest 5 = .ok (.aload_n 0, 1) := by decide +kernel
theorem dX2_isHonest_6 : decode cX2_isHonest 6 = .ok (.iload_n 1, 1) := by decide +kernel
theorem dX2_isHonest_7 : decode cX2_isHonest 7 = .ok (.invokevirtual 94, 3) := by decide +kernel
theorem dX2_isHonest_10 : decode cX2_isHonest 10 = .ok (.ifCond .ne 9, 3) := by decide +kernel
theorem dX2_isHonest_13 : decode cX2_isHonest 13 = .ok (.aload_n 0, 1) := by decide +kernel
theorem dX2_isHonest_14 : decode cX2_isHonest 14 = .ok (.iconst 1, 1) := by decide +kernel
theorem dX2_isHonest_15 : decode cX2_isHonest 15 = .ok (.invokevirtual 126, 3) := by decide +kernel
theorem dX2_isHonest_18 : decode cX2_isHonest 18 = .ok (.ireturn, 1) := by decide +kernel
theorem dX2_isHonest_19 : decode cX2_isHonest 19 = .ok (.aload_n 0, 1) := by decide +kernel
theorem dX2_isHonest_20 : decode cX2_isHonest 20 = .ok (.getfield 25, 3) := by decide +kernel
theorem dX2_isHonest_23 : decode cX2_isHonest 23 = .ok (.iload_n 1, 1) := by decide +kernel
theorem dX2_isHonest_24 : decode cX2_isHonest 24 = .ok (.iaload, 1) := by decide +kernel
theorem dX2_isHonest_25 : decode cX2_isHonest 25 = .ok (.iconst (-1), 1) := by decide +kernel
theorem dX2_isHonest_26 : decode cX2_isHonest 26 = .ok (.if_icmp .ne 11, 3) := by decide +kernel
theorem dX2_isHonest_29 : decode cX2_isHonest 29 = .ok (.aload_n 0, 1) := by decide +kernel
theorem dX2_isHonest_30 : decode cX2_isHonest 30 = .ok (.iconst 2, 1) := by decide +kernel
theorem dX2_isHonest_31 : decode cX2_isHonest 31 = .ok (.invokevirtual 126, 3) := by decide +kernel
theorem dX2_isHonest_34 : decode cX2_isHonest 34 = .ok (.goto 8, 3) := by decide +kernel
theorem dX2_isHonest_37 : decode cX2_isHonest 37 = .ok (.aload_n 0, 1) := by decide +kernel
theorem dX2_isHonest_38 : decode cX2_isHonest 38 = .ok (.iload_n 1, 1) := by decide +kernel
theorem dX2_isHonest_39 : decode cX2_isHonest 39 = .ok (.invokevirtual 72, 3) := by decide +kernel
theorem dX2_isHonest_42 : decode cX2_isHonest 42 = .ok (.ireturn, 1) := by decide +kernel
set_option maxRecDepth 20000 in
theorem ggX2_longestNow_X2_shadow : GoodIn wsX2_longestNow wsX2_shadow := goodIn_r _ [6, 7, 8, 9, 10, 5, 11, 12, 13, 14, 15, 16, 17, 18, 19, 20, 21, 22, 23, 24, 25, 26, 27, 28, 29, 30, 31, 32, 33, 34, 35, 36, 37, 38, 39, 40, 41, 42, 43, 44, 45, 46] (by decide +kernel) (by decide +kernel)
set_option maxRecDepth 20000 in
theorem gX2_longestNow_X2_shadow : GoodIn wsX2_longestNow (wsV RX2 109 RX2 yX2_shadow wsX2_shadow) := goodIn_app (goodIn_of _ (by decide +kernel)) ggX2_longestNow_X2_shadow
theorem dX2_longestNow_0 : decode cX2_longestNow 0 = .ok (.iconst (-1), 1) := by decide +kernel
theorem dX2_longestNow_1 : decode cX2_longestNow 1 = .ok (.istore_n 1, 1) := by decide +kernel
theorem dX2_longestNow_2 : decode cX2_longestNow 2 = .ok (.iconst 0, 1) := by decide +kernel
theorem dX2_longestNow_3 : decode cX2_longestNow 3 = .ok (.istore_n 2, 1) := by decide +kernel
theorem dX2_longestNow_4 : decode cX2_longestNow 4 = .ok (.iload_n 2, 1) := by decide +kernel
theorem dX2_longestNow_5 : decode cX2_longestNow 5 = .ok (.aload_n 0, 1) := by decide +kernel
theorem dX2_longestNow_6 : decode cX2_longestNow 6 = .ok (.getfield 38, 3) := by decide +kernel
theorem dX2_longestNow_9 : decode cX2_longestNow 9 = .ok (.if_icmp .ge 29, 3) := by decide +kernel
theorem dX2_longestNow_12 : decode cX2_longestNow 12 = .ok (.iload_n 1, 1) := by decide +kernel
theorem dX2_longestNow_13 : decode cX2_longestNow 13 = .ok (.iconst (-1), 1) := by decide +kernel
theorem dX2_longestNow_14 : decode cX2_longestNow 14 = .ok (.if_icmp .eq 16, 3) := by decide +kernel
theorem dX2_longestNow_17 : decode cX2_longestNow 17 = .ok (.aload_n 0, 1) := by decide +kernel
theorem dX2_longestNow_18 : decode cX2_longestNow 18 = .ok (.iload_n 2, 1) := by decide +kernel
theorem dX2_longestNow_19 : decode cX2_longestNow 19 = .ok (.invokevirtual 109, 3) := by decide +kernel
theorem dX2_longestNow_22 : decode cX2_longestNow 22 = .ok (.aload_n 0, 1) := by decide +kernel
theorem dX2_longestNow_23 : decode cX2_longestNow 23 = .ok (.iload_n 1, 1) := by decide +kernel
theorem dX2_longestNow_24 : decode cX2_longestNow 24 = .ok (.invokevirtual 109, 3) := by decide +kernel
theorem dX2_longestNow_27 : decode cX2_longestNow 27 = .ok (.if_icmp .le 5, 3) := by decide +kernel
theorem dX2_longestNow_30 : decode cX2_longestNow 30 = .ok (.iload_n 2, 1) := by decide +kernel
theorem dX2_longestNow_31 : decode cX2_longestNow 31 = .ok (.istore_n 1, 1) := by decide +kernel
theorem dX2_longestNow_32 : decode cX2_longestNow 32 = .ok (.iinc 2 1, 3) := by decide +kernel
theorem dX2_longestNow_35 : decode cX2_longestNow 35 = .ok (.goto (-31), 3) := by decide +kernel
theorem dX2_longestNow_38 : decode cX2_longestNow 38 = .ok (.iload_n 1, 1) := by decide +kernel
theorem dX2_longestNow_39 : decode cX2_longestNow 39 = .ok (.ireturn, 1) := by decide +kernel
set_option maxRecDepth 20000 in
theorem ggX2_longest_X2_longestNow : GoodIn wsX2_longest wsX2_longestNow := goodIn_r _ [5, 6, 7, 8, 9, 4, 10, 11, 12, 13, 14, 15, 16, 17, 18, 19, 20, 21, 22, 23, 24, 25, 26, 27, 28, 29, 30, 31, 32, 33, 34, 35, 36, 37, 43, 44, 45, 46, 47, 48, 49, 50, 51, 52, 53, 54, 55] (by decide +kernel) (by decide +kernel)
set_option maxRecDepth 20000 in
theorem gX2_longest_X2_longestNow : GoodIn wsX2_longest (wsV RX2 129 RX2 yX2_longestNow wsX2_longestNow) := goodIn_app (goodIn_of _ (by decide +kernel)) ggX2_longest_X2_longestNow
set_option maxRecDepth 20000 in
theorem ggX2_longest_X2_ok : GoodIn wsX2_longest wsX2_ok := goodIn_r _ [41, 42, 43, 44, 45, 46, 47, 48, 49, 50, 51, 52, 53, 54, 55] (by decide +kernel) (by decide +kernel)
set_option maxRecDepth 20000 in
theorem gX2_longest_X2_ok : GoodIn wsX2_longest (wsV RX2 115 RX2 yX2_ok wsX2_ok) := goodIn_app (goodIn_of _ (by decide +kernel)) ggX2_longest_X2_ok
theorem dX2_longest_0 : decode cX2_longest 0 = .ok (.aload_n 0, 1) := by decide +kernel
theorem dX2_longest_1 : decode cX2_longest 1 = .ok (.aload_n 0, 1) := by decide +kernel
theorem dX2_longest_2 : decode cX2_longest 2 = .ok (.invokevirtual 129, 3) := by decide +kernel
theorem dX2_longest_5 : decode cX2_longest 5 = .ok (.invokevirtual 115, 3) := by decide +kernel
theorem dX2_longest_8 : decode cX2_longest 8 = .ok (.ireturn, 1) := by decide +kernel
set_option maxRecDepth 20000 in
theorem ggX2_hoursUntilAudit_X2_untilAudit : GoodIn wsX2_hoursUntilAudit wsX2_untilAudit := goodIn_r _ [5, 6, 7, 8, 4, 9, 10, 16, 17, 18, 19, 20, 21, 22, 23, 24, 25, 26, 27, 28] (by decide +kernel) (by decide +kernel)
set_option maxRecDepth 20000 in
theorem gX2_hoursUntilAudit_X2_untilAudit : GoodIn wsX2_hoursUntilAudit (wsV RX2 132 RX2 yX2_untilAudit wsX2_untilAudit) := goodIn_app (goodIn_of _ (by decide +kernel)) ggX2_hoursUntilAudit_X2_untilAudit
set_option maxRecDepth 20000 in
theorem ggX2_hoursUntilAudit_X2_ok : GoodIn wsX2_hoursUntilAudit wsX2_ok := goodIn_r _ [14, 15, 16, 17, 18, 19, 20, 21, 22, 23, 24, 25, 26, 27, 28] (by decide +kernel) (by decide +kernel)
set_option maxRecDepth 20000 in
theorem gX2_hoursUntilAudit_X2_ok : GoodIn wsX2_hoursUntilAudit (wsV RX2 115 RX2 yX2_ok wsX2_ok) := goodIn_app (goodIn_of _ (by decide +kernel)) ggX2_hoursUntilAudit_X2_ok
theorem dX2_hoursUntilAudit_0 : decode cX2_hoursUntilAudit 0 = .ok (.aload_n 0, 1) := by decide +kernel
theorem dX2_hoursUntilAudit_1 : decode cX2_hoursUntilAudit 1 = .ok (.aload_n 0, 1) := by decide +kernel
theorem dX2_hoursUntilAudit_2 : decode cX2_hoursUntilAudit 2 = .ok (.invokevirtual 132, 3) := by decide +kernel
theorem dX2_hoursUntilAudit_5 : decode cX2_hoursUntilAudit 5 = .ok (.invokevirtual 115, 3) := by decide +kernel
theorem dX2_hoursUntilAudit_8 : decode cX2_hoursUntilAudit 8 = .ok (.ireturn, 1) := by decide +kernel
set_option maxRecDepth 20000 in
theorem ggX2_auditBrings_X2_isMember : GoodIn wsX2_auditBrings wsX2_isMember := goodIn_r _ [6, 7, 8, 9, 5, 10, 43, 44, 45, 46, 47, 48, 49, 50, 51, 52, 53, 54, 55] (by decide +kernel) (by decide +kernel)
set_option maxRecDepth 20000 in
theorem gX2_auditBrings_X2_isMember : GoodIn wsX2_auditBrings (wsV RX2 94 RX2 yX2_isMember wsX2_isMember) := goodIn_app (goodIn_of _ (by decide +kernel)) ggX2_auditBrings_X2_isMember
set_option maxRecDepth 20000 in
theorem ggX2_auditBrings_X2_brings : GoodIn wsX2_auditBrings wsX2_brings := goodIn_r _ [14, 15, 16, 17, 18, 19, 5, 20, 21, 22, 23, 24, 25, 26, 27, 28, 29, 30, 31, 32, 33, 34, 35, 36, 37, 38, 8, 9, 10, 43, 44, 45, 46, 47, 48, 49, 50, 51, 52, 53, 54, 55] (by decide +kernel) (by decide +kernel)
set_option maxRecDepth 20000 in
theorem gX2_auditBrings_X2_brings : GoodIn wsX2_auditBrings (wsV RX2 76 RX2 yX2_brings wsX2_brings) := goodIn_app (goodIn_of _ (by decide +kernel)) ggX2_auditBrings_X2_brings
set_option maxRecDepth 20000 in
theorem ggX2_auditBrings_X2_no : GoodIn wsX2_auditBrings wsX2_no := goodIn_r _ [42, 1, 43, 44, 45, 46, 47, 48, 49, 50, 51, 52, 53, 54, 55] (by decide +kernel) (by decide +kernel)
set_option maxRecDepth 20000 in
theorem gX2_auditBrings_X2_no : GoodIn wsX2_auditBrings (wsV RX2 91 RX2 yX2_no wsX2_no) := goodIn_app (goodIn_of _ (by decide +kernel)) ggX2_auditBrings_X2_no
theorem dX2_auditBrings_0 : decode cX2_auditBrings 0 = .ok (.aload_n 0, 1) := by decide +kernel
theorem dX2_auditBrings_1 : decode cX2_auditBrings 1 = .ok (.iconst 0, 1) := by decide +kernel
theorem dX2_auditBrings_2 : decode cX2_auditBrings 2 = .ok (.putfield 34, 3) := by decide +kernel
theorem dX2_auditBrings_5 : decode cX2_auditBrings 5 = .ok (.aload_n 0, 1) := by decide +kernel
theorem dX2_auditBrings_6 : decode cX2_auditBrings 6 = .ok (.iload_n 1, 1) := by decide +kernel
theorem dX2_auditBrings_7 : decode cX2_auditBrings 7 = .ok (.invokevirtual 94, 3) := by decide +kernel
theorem dX2_auditBrings_10 : decode cX2_auditBrings 10 = .ok (.ifCond .eq 11, 3) := by decide +kernel
theorem dX2_auditBrings_13 : decode cX2_auditBrings 13 = .ok (.aload_n 0, 1) := by decide +kernel
theorem dX2_auditBrings_14 : decode cX2_auditBrings 14 = .ok (.iload_n 1, 1) := by decide +kernel
theorem dX2_auditBrings_15 : decode cX2_auditBrings 15 = .ok (.invokevirtual 76, 3) := by decide +kernel
theorem dX2_auditBrings_18 : decode cX2_auditBrings 18 = .ok (.goto 8, 3) := by decide +kernel
theorem dX2_auditBrings_21 : decode cX2_auditBrings 21 = .ok (.aload_n 0, 1) := by decide +kernel
theorem dX2_auditBrings_22 : decode cX2_auditBrings 22 = .ok (.iconst 1, 1) := by decide +kernel
theorem dX2_auditBrings_23 : decode cX2_auditBrings 23 = .ok (.invokevirtual 91, 3) := by decide +kernel
theorem dX2_auditBrings_26 : decode cX2_auditBrings 26 = .ok (.ireturn, 1) := by decide +kernel
set_option maxRecDepth 20000 in
theorem ggX2_richest_X2_brings : GoodIn wsX2_richest wsX2_brings := goodIn_r _ [7, 8, 9, 10, 11, 12, 6, 13, 14, 15, 16, 17, 18, 19, 20, 21, 22, 23, 24, 25, 26, 27, 28, 29, 30, 31, 32, 33, 34, 35, 36, 37, 38, 39, 40, 41, 42, 43, 44, 45, 46, 47] (by decide +kernel) (by decide +kernel)
set_option maxRecDepth 20000 in
theorem gX2_richest_X2_brings : GoodIn wsX2_richest (wsV RX2 76 RX2 yX2_brings wsX2_brings) := goodIn_app (goodIn_of _ (by decide +kernel)) ggX2_richest_X2_brings
theorem dX2_richest_0 : decode cX2_richest 0 = .ok (.iconst (-1), 1) := by decide +kernel
theorem dX2_richest_1 : decode cX2_richest 1 = .ok (.istore_n 1, 1) := by decide +kernel
theorem dX2_richest_2 : decode cX2_richest 2 = .ok (.iconst 0, 1) := by decide +kernel
theorem dX2_richest_3 : decode cX2_richest 3 = .ok (.istore_n 2, 1) := by decide +kernel
theorem dX2_richest_4 : decode cX2_richest 4 = .ok (.iload_n 2, 1) := by decide +kernel
theorem dX2_richest_5 : decode cX2_richest 5 = .ok (.aload_n 0, 1) := by decide +kernel
theorem dX2_richest_6 : decode cX2_richest 6 = .ok (.getfield 38, 3) := by decide +kernel
theorem dX2_richest_9 : decode cX2_richest 9 = .ok (.if_icmp .ge 43, 3) := by decide +kernel
theorem dX2_richest_12 : decode cX2_richest 12 = .ok (.iload_n 1, 1) := by decide +kernel
theorem dX2_richest_13 : decode cX2_richest 13 = .ok (.iconst (-1), 1) := by decide +kernel
theorem dX2_richest_14 : decode cX2_richest 14 = .ok (.if_icmp .eq 30, 3) := by decide +kernel
theorem dX2_richest_17 : decode cX2_richest 17 = .ok (.aload_n 0, 1) := by decide +kernel
theorem dX2_richest_18 : decode cX2_richest 18 = .ok (.getfield 16, 3) := by decide +kernel
theorem dX2_richest_21 : decode cX2_richest 21 = .ok (.iload_n 2, 1) := by decide +kernel
theorem dX2_richest_22 : decode cX2_richest 22 = .ok (.iaload, 1) := by decide +kernel
theorem dX2_richest_23 : decode cX2_richest 23 = .ok (.aload_n 0, 1) := by decide +kernel
theorem dX2_richest_24 : decode cX2_richest 24 = .ok (.iload_n 2, 1) := by decide +kernel
theorem dX2_richest_25 : decode cX2_richest 25 = .ok (.invokevirtual 76, 3) := by decide +kernel
theorem dX2_richest_28 : decode cX2_richest 28 = .ok (.iadd, 1) := by decide +kernel
theorem dX2_richest_29 : decode cX2_richest 29 = .ok (.aload_n 0, 1) := by decide +kernel
theorem dX2_richest_30 : decode cX2_richest 30 = .ok (.getfield 16, 3) := by decide +kernel
theorem dX2_richest_33 : decode cX2_richest 33 = .ok (.iload_n 1, 1) := by decide +kernel
theorem dX2_richest_34 : decode cX2_richest 34 = .ok (.iaload, 1) := by decide +kernel
theorem dX2_richest_35 : decode cX2_richest 35 = .ok (.aload_n 0, 1) := by decide +kernel
theorem dX2_richest_36 : decode cX2_richest 36 = .ok (.iload_n 1, 1) := by decide +kernel
theorem dX2_richest_37 : decode cX2_richest 37 = .ok (.invokevirtual 76, 3) := by decide +kernel
theorem dX2_richest_40 : decode cX2_richest 40 = .ok (.iadd, 1) := by decide +kernel
theorem dX2_richest_41 : decode cX2_richest 41 = .ok (.if_icmp .le 5, 3) := by decide +kernel
theorem dX2_richest_44 : decode cX2_richest 44 = .ok (.iload_n 2, 1) := by decide +kernel
theorem dX2_richest_45 : decode cX2_richest 45 = .ok (.istore_n 1, 1) := by decide +kernel
theorem dX2_richest_46 : decode cX2_richest 46 = .ok (.iinc 2 1, 3) := by decide +kernel
theorem dX2_richest_49 : decode cX2_richest 49 = .ok (.goto (-45), 3) := by decide +kernel
theorem dX2_richest_52 : decode cX2_richest 52 = .ok (.iload_n 1, 1) := by decide +kernel
theorem dX2_richest_53 : decode cX2_richest 53 = .ok (.ireturn, 1) := by decide +kernel
set_option maxRecDepth 20000 in
theorem ggX2_richestThen_X2_richest : GoodIn wsX2_richestThen wsX2_richest := goodIn_r _ [5, 6, 7, 8, 9, 10, 4, 11, 12, 13, 14, 15, 16, 17, 18, 19, 20, 21, 22, 23, 24, 25, 26, 27, 28, 29, 30, 31, 32, 33, 34, 35, 36, 37, 38, 44, 45, 46, 47, 48, 49, 50, 51, 52, 53, 54, 55, 56] (by decide +kernel) (by decide +kernel)
set_option maxRecDepth 20000 in
theorem gX2_richestThen_X2_richest : GoodIn wsX2_richestThen (wsV RX2 135 RX2 yX2_richest wsX2_richest) := goodIn_app (goodIn_of _ (by decide +kernel)) ggX2_richestThen_X2_richest
set_option maxRecDepth 20000 in
theorem ggX2_richestThen_X2_ok : GoodIn wsX2_richestThen wsX2_ok := goodIn_r _ [42, 43, 44, 45, 46, 47, 48, 49, 50, 51, 52, 53, 54, 55, 56] (by decide +kernel) (by decide +kernel)
set_option maxRecDepth 20000 in
theorem gX2_richestThen_X2_ok : GoodIn wsX2_richestThen (wsV RX2 115 RX2 yX2_ok wsX2_ok) := goodIn_app (goodIn_of _ (by decide +kernel)) ggX2_richestThen_X2_ok
theorem dX2_richestThen_0 : decode cX2_richestThen 0 = .ok (.aload_n 0, 1) := by decide +kernel
theorem dX2_richestThen_1 : decode cX2_richestThen 1 = .ok (.aload_n 0, 1) := by decide +kernel
theorem dX2_richestThen_2 : decode cX2_richestThen 2 = .ok (.invokevirtual 135, 3) := by decide +kernel
theorem dX2_richestThen_5 : decode cX2_richestThen 5 = .ok (.invokevirtual 115, 3) := by decide +kernel
theorem dX2_richestThen_8 : decode cX2_richestThen 8 = .ok (.ireturn, 1) := by decide +kernel
set_option maxRecDepth 20000 in
theorem ggX2_hatFor_X2_borrows : GoodIn wsX2_hatFor wsX2_borrows := goodIn_r _ [7, 8, 33, 34, 35, 36, 37, 38, 39, 40, 41, 42, 43, 44, 45] (by decide +kernel) (by decide +kernel)
set_option maxRecDepth 20000 in
theorem gX2_hatFor_X2_borrows : GoodIn wsX2_hatFor (wsV RX2 100 RX2 yX2_borrows wsX2_borrows) := goodIn_app (goodIn_of _ (by decide +kernel)) ggX2_hatFor_X2_borrows
set_option maxRecDepth 20000 in
theorem ggX2_hatFor_X2_canLend : GoodIn wsX2_hatFor wsX2_canLend := goodIn_r _ [12, 2, 8, 33, 34, 35, 36, 37, 38, 39, 40, 41, 42, 43, 44, 45] (by decide +kernel) (by decide +kernel)
set_option maxRecDepth 20000 in
theorem gX2_hatFor_X2_canLend : GoodIn wsX2_hatFor (wsV RX2 97 RX2 yX2_canLend wsX2_canLend) := goodIn_app (goodIn_of _ (by decide +kernel)) ggX2_hatFor_X2_canLend
set_option maxRecDepth 20000 in
theorem ggX2_hatFor_X2_ofDay : GoodIn wsX2_hatFor wsX2_ofDay := goodIn_r _ [16, 17, 33, 34, 35, 36, 37, 38, 39, 40, 41, 42, 43, 44, 45] (by decide +kernel) (by decide +kernel)
set_option maxRecDepth 20000 in
theorem gX2_hatFor_X2_ofDay : GoodIn wsX2_hatFor (wsV RX2 60 RX2 yX2_ofDay wsX2_ofDay) := goodIn_app (goodIn_of _ (by decide +kernel)) ggX2_hatFor_X2_ofDay
set_option maxRecDepth 20000 in
theorem ggX2_hatFor_X2_with : GoodIn wsX2_hatFor wsX2_with := goodIn_r _ [21, 22, 23, 24, 6, 25, 26, 27, 28, 29, 30, 31, 32, 33, 34, 35, 36, 37, 38, 39, 40, 41, 42, 43, 44, 45] (by decide +kernel) (by decide +kernel)
set_option maxRecDepth 20000 in
theorem gX2_hatFor_X2_with : GoodIn wsX2_hatFor (wsV RX2 64 RX2 yX2_with wsX2_with) := goodIn_app (goodIn_of _ (by decide +kernel)) ggX2_hatFor_X2_with
theorem dX2_hatFor_0 : decode cX2_hatFor 0 = .ok (.iconst (-1), 1) := by decide +kernel
theorem dX2_hatFor_1 : decode cX2_hatFor 1 = .ok (.istore_n 2, 1) := by decide +kernel
theorem dX2_hatFor_2 : decode cX2_hatFor 2 = .ok (.iconst (-1), 1) := by decide +kernel
theorem dX2_hatFor_3 : decode cX2_hatFor 3 = .ok (.istore_n 3, 1) := by decide +kernel
theorem dX2_hatFor_4 : decode cX2_hatFor 4 = .ok (.iconst 0, 1) := by decide +kernel
theorem dX2_hatFor_5 : decode cX2_hatFor 5 = .ok (.istore 4, 2) := by decide +kernel
theorem dX2_hatFor_7 : decode cX2_hatFor 7 = .ok (.iload 4, 2) := by decide +kernel
theorem dX2_hatFor_9 : decode cX2_hatFor 9 = .ok (.aload_n 0, 1) := by decide +kernel
theorem dX2_hatFor_10 : decode cX2_hatFor 10 = .ok (.getfield 38, 3) := by decide +kernel
theorem dX2_hatFor_13 : decode cX2_hatFor 13 = .ok (.if_icmp .ge 75, 3) := by decide +kernel
theorem dX2_hatFor_16 : decode cX2_hatFor 16 = .ok (.aload_n 0, 1) := by decide +kernel
theorem dX2_hatFor_17 : decode cX2_hatFor 17 = .ok (.iload_n 1, 1) := by decide +kernel
theorem dX2_hatFor_18 : decode cX2_hatFor 18 = .ok (.invokevirtual 100, 3) := by decide +kernel
theorem dX2_hatFor_21 : decode cX2_hatFor 21 = .ok (.ifCond .ne 67, 3) := by decide +kernel
theorem dX2_hatFor_24 : decode cX2_hatFor 24 = .ok (.iload 4, 2) := by decide +kernel
theorem dX2_hatFor_26 : decode cX2_hatFor 26 = .ok (.iload_n 1, 1) := by decide +kernel
theorem dX2_hatFor_27 : decode cX2_hatFor 27 = .ok (.if_icmp .eq 55, 3) := by decide +kernel
theorem dX2_hatFor_30 : decode cX2_hatFor 30 = .ok (.aload_n 0, 1) := by decide +kernel
theorem dX2_hatFor_31 : decode cX2_hatFor 31 = .ok (.iload 4, 2) := by decide +kernel
theorem dX2_hatFor_33 : decode cX2_hatFor 33 = .ok (.invokevirtual 97, 3) := by decide +kernel
theorem dX2_hatFor_36 : decode cX2_hatFor 36 = .ok (.ifCond .eq 46, 3) := by decide +kernel
theorem dX2_hatFor_39 : decode cX2_hatFor 39 = .ok (.aload_n 0, 1) := by decide +kernel
theorem dX2_hatFor_40 : decode cX2_hatFor 40 = .ok (.iload_n 1, 1) := by decide +kernel
theorem dX2_hatFor_41 : decode cX2_hatFor 41 = .ok (.aload_n 0, 1) := by decide +kernel
theorem dX2_hatFor_42 : decode cX2_hatFor 42 = .ok (.getfield 13, 3) := by decide +kernel
theorem dX2_hatFor_45 : decode cX2_hatFor 45 = .ok (.iload 4, 2) := by decide +kernel
theorem dX2_hatFor_47 : decode cX2_hatFor 47 = .ok (.iaload, 1) := by decide +kernel
theorem dX2_hatFor_48 : decode cX2_hatFor 48 = .ok (.aload_n 0, 1) := by decide +kernel
theorem dX2_hatFor_49 : decode cX2_hatFor 49 = .ok (.invokevirtual 60, 3) := by decide +kernel
theorem dX2_hatFor_52 : decode cX2_hatFor 52 = .ok (.invokevirtual 64, 3) := by decide +kernel
theorem dX2_hatFor_55 : decode cX2_hatFor 55 = .ok (.iload_n 3, 1) := by decide +kernel
theorem dX2_hatFor_56 : decode cX2_hatFor 56 = .ok (.if_icmp .gt 6, 3) := by decide +kernel
theorem dX2_hatFor_59 : decode cX2_hatFor 59 = .ok (.goto 23, 3) := by decide +kernel
theorem dX2_hatFor_62 : decode cX2_hatFor 62 = .ok (.iload 4, 2) := by decide +kernel
theorem dX2_hatFor_64 : decode cX2_hatFor 64 = .ok (.istore_n 2, 1) := by decide +kernel
theorem dX2_hatFor_65 : decode cX2_hatFor 65 = .ok (.aload_n 0, 1) := by decide +kernel
theorem dX2_hatFor_66 : decode cX2_hatFor 66 = .ok (.iload_n 1, 1) := by decide +kernel
theorem dX2_hatFor_67 : decode cX2_hatFor 67 = .ok (.aload_n 0, 1) := by decide +kernel
theorem dX2_hatFor_68 : decode cX2_hatFor 68 = .ok (.getfield 13, 3) := by decide +kernel
theorem dX2_hatFor_71 : decode cX2_hatFor 71 = .ok (.iload 4, 2) := by decide +kernel
theorem dX2_hatFor_73 : decode cX2_hatFor 73 = .ok (.iaload, 1) := by decide +kernel
theorem dX2_hatFor_74 : decode cX2_hatFor 74 = .ok (.aload_n 0, 1) := by decide +kernel
theorem dX2_hatFor_75 : decode cX2_hatFor 75 = .ok (.invokevirtual 60, 3) := by decide +kernel
theorem dX2_hatFor_78 : decode cX2_hatFor 78 = .ok (.invokevirtual 64, 3) := by decide +kernel
theorem dX2_hatFor_81 : decode cX2_hatFor 81 = .ok (.istore_n 3, 1) := by decide +kernel
theorem dX2_hatFor_82 : decode cX2_hatFor 82 = .ok (.iinc 4 1, 3) := by decide +kernel
theorem dX2_hatFor_85 : decode cX2_hatFor 85 = .ok (.goto (-78), 3) := by decide +kernel
theorem dX2_hatFor_88 : decode cX2_hatFor 88 = .ok (.iload_n 2, 1) := by decide +kernel
theorem dX2_hatFor_89 : decode cX2_hatFor 89 = .ok (.ireturn, 1) := by decide +kernel
set_option maxRecDepth 20000 in
theorem ggX2_bestHat_X2_isMember : GoodIn wsX2_bestHat wsX2_isMember := goodIn_r _ [6, 7, 8, 9, 5, 10, 46, 47, 48, 49, 50, 51, 52, 53, 54, 55, 56, 57, 58] (by decide +kernel) (by decide +kernel)
set_option maxRecDepth 20000 in
theorem gX2_bestHat_X2_isMember : GoodIn wsX2_bestHat (wsV RX2 94 RX2 yX2_isMember wsX2_isMember) := goodIn_app (goodIn_of _ (by decide +kernel)) ggX2_bestHat_X2_isMember
set_option maxRecDepth 20000 in
theorem ggX2_bestHat_X2_hatFor : GoodIn wsX2_bestHat wsX2_hatFor := goodIn_r _ [14, 7, 15, 16, 17, 18, 5, 19, 20, 21, 22, 23, 24, 25, 26, 27, 28, 29, 30, 31, 32, 33, 34, 35, 36, 37, 38, 39, 40, 41, 8, 9, 10, 46, 47, 48, 49, 50, 51, 52, 53, 54, 55, 56, 57, 58] (by decide +kernel) (by decide +kernel)
set_option maxRecDepth 20000 in
theorem gX2_bestHat_X2_hatFor : GoodIn wsX2_bestHat (wsV RX2 138 RX2 yX2_hatFor wsX2_hatFor) := goodIn_app (goodIn_of _ (by decide +kernel)) ggX2_bestHat_X2_hatFor
set_option maxRecDepth 20000 in
theorem ggX2_bestHat_X2_no : GoodIn wsX2_bestHat wsX2_no := goodIn_r _ [45, 1, 46, 47, 48, 49, 50, 51, 52, 53, 54, 55, 56, 57, 58] (by decide +kernel) (by decide +kernel)
set_option maxRecDepth 20000 in
theorem gX2_bestHat_X2_no : GoodIn wsX2_bestHat (wsV RX2 91 RX2 yX2_no wsX2_no) := goodIn_app (goodIn_of _ (by decide +kernel)) ggX2_bestHat_X2_no
theorem dX2_bestHat_0 : decode cX2_bestHat 0 = .ok (.aload_n 0, 1) := by decide +kernel
theorem dX2_bestHat_1 : decode cX2_bestHat 1 = .ok (.iconst 0, 1) := by decide +kernel
theorem dX2_bestHat_2 : decode cX2_bestHat 2 = .ok (.putfield 34, 3) := by decide +kernel
theorem dX2_bestHat_5 : decode cX2_bestHat 5 = .ok (.aload_n 0, 1) := by decide +kernel
theorem dX2_bestHat_6 : decode cX2_bestHat 6 = .ok (.iload_n 1, 1) := by decide +kernel
theorem dX2_bestHat_7 : decode cX2_bestHat 7 = .ok (.invokevirtual 94, 3) := by decide +kernel
theorem dX2_bestHat_10 : decode cX2_bestHat 10 = .ok (.ifCond .eq 11, 3) := by decide +kernel
theorem dX2_bestHat_13 : decode cX2_bestHat 13 = .ok (.aload_n 0, 1) := by decide +kernel
theorem dX2_bestHat_14 : decode cX2_bestHat 14 = .ok (.iload_n 1, 1) := by decide +kernel
theorem dX2_bestHat_15 : decode cX2_bestHat 15 = .ok (.invokevirtual 138, 3) := by decide +kernel
theorem dX2_bestHat_18 : decode cX2_bestHat 18 = .ok (.goto 8, 3) := by decide +kernel
theorem dX2_bestHat_21 : decode cX2_bestHat 21 = .ok (.aload_n 0, 1) := by decide +kernel
theorem dX2_bestHat_22 : decode cX2_bestHat 22 = .ok (.iconst 1, 1) := by decide +kernel
theorem dX2_bestHat_23 : decode cX2_bestHat 23 = .ok (.invokevirtual 91, 3) := by decide +kernel
theorem dX2_bestHat_26 : decode cX2_bestHat 26 = .ok (.ireturn, 1) := by decide +kernel
set_option maxRecDepth 20000 in
theorem ggX2_soonestLongest_X2_untilAudit : GoodIn wsX2_soonestLongest wsX2_untilAudit := goodIn_r _ [7, 8, 9, 10, 6, 11, 1, 37, 38, 39, 40, 41, 42, 43, 44, 45, 46, 47, 48, 49] (by decide +kernel) (by decide +kernel)
set_option maxRecDepth 20000 in
theorem gX2_soonestLongest_X2_untilAudit : GoodIn wsX2_soonestLongest (wsV RX2 132 RX2 yX2_untilAudit wsX2_untilAudit) := goodIn_app (goodIn_of _ (by decide +kernel)) ggX2_soonestLongest_X2_untilAudit
set_option maxRecDepth 20000 in
theorem ggX2_soonestLongest_X2_worn : GoodIn wsX2_soonestLongest wsX2_worn := goodIn_r _ [15, 16, 17, 37, 38, 39, 40, 41, 42, 43, 44, 45, 46, 47, 48, 49] (by decide +kernel) (by decide +kernel)
set_option maxRecDepth 20000 in
theorem gX2_soonestLongest_X2_worn : GoodIn wsX2_soonestLongest (wsV RX2 57 RX2 yX2_worn wsX2_worn) := goodIn_app (goodIn_of _ (by decide +kernel)) ggX2_soonestLongest_X2_worn
set_option maxRecDepth 20000 in
theorem ggX2_soonestLongest_X2_with : GoodIn wsX2_soonestLongest wsX2_with := goodIn_r _ [21, 22, 23, 24, 6, 25, 26, 27, 28, 29, 30, 31, 32, 37, 38, 39, 40, 41, 42, 43, 44, 45, 46, 47, 48, 49] (by decide +kernel) (by decide +kernel)
set_option maxRecDepth 20000 in
theorem gX2_soonestLongest_X2_with : GoodIn wsX2_soonestLongest (wsV RX2 64 RX2 yX2_with wsX2_with) := goodIn_app (goodIn_of _ (by decide +kernel)) ggX2_soonestLongest_X2_with
set_option maxRecDepth 20000 in
theorem ggX2_soonestLongest_X2_honest : GoodIn wsX2_soonestLongest wsX2_honest := goodIn_r _ [36, 17, 18, 19, 20, 6, 21, 22, 23, 24, 25, 26, 27, 28, 29, 30, 31, 32, 37, 38, 39, 40, 41, 42, 43, 44, 45, 46, 47, 48, 49] (by decide +kernel) (by decide +kernel)
set_option maxRecDepth 20000 in
theorem gX2_soonestLongest_X2_honest : GoodIn wsX2_soonestLongest (wsV RX2 68 RX2 yX2_honest wsX2_honest) := goodIn_app (goodIn_of _ (by decide +kernel)) ggX2_soonestLongest_X2_honest
theorem dX2_soonestLongest_0 : decode cX2_soonestLongest 0 = .ok (.iconst 0, 1) := by decide +kernel
theorem dX2_soonestLongest_1 : decode cX2_soonestLongest 1 = .ok (.istore_n 2, 1) := by decide +kernel
theorem dX2_soonestLongest_2 : decode cX2_soonestLongest 2 = .ok (.iconst (-1), 1) := by decide +kernel
theorem dX2_soonestLongest_3 : decode cX2_soonestLongest 3 = .ok (.istore_n 3, 1) := by decide +kernel
theorem dX2_soonestLongest_4 : decode cX2_soonestLongest 4 = .ok (.iconst 0, 1) := by decide +kernel
theorem dX2_soonestLongest_5 : decode cX2_soonestLongest 5 = .ok (.istore 4, 2) := by decide +kernel
theorem dX2_soonestLongest_7 : decode cX2_soonestLongest 7 = .ok (.iload 4, 2) := by decide +kernel
theorem dX2_soonestLongest_9 : decode cX2_soonestLongest 9 = .ok (.bipush 24, 2) := by decide +kernel
theorem dX2_soonestLongest_11 : decode cX2_soonestLongest 11 = .ok (.if_icmp .ge 78, 3) := by decide +kernel
theorem dX2_soonestLongest_14 : decode cX2_soonestLongest 14 = .ok (.aload_n 0, 1) := by decide +kernel
theorem dX2_soonestLongest_15 : decode cX2_soonestLongest 15 = .ok (.getfield 45, 3) := by decide +kernel
theorem dX2_soonestLongest_18 : decode cX2_soonestLongest 18 = .ok (.iload 4, 2) := by decide +kernel
theorem dX2_soonestLongest_20 : decode cX2_soonestLongest 20 = .ok (.iadd, 1) := by decide +kernel
theorem dX2_soonestLongest_21 : decode cX2_soonestLongest 21 = .ok (.bipush 24, 2) := by decide +kernel
theorem dX2_soonestLongest_23 : decode cX2_soonestLongest 23 = .ok (.irem, 1) := by decide +kernel
theorem dX2_soonestLongest_24 : decode cX2_soonestLongest 24 = .ok (.istore 5, 2) := by decide +kernel
theorem dX2_soonestLongest_26 : decode cX2_soonestLongest 26 = .ok (.iload 4, 2) := by decide +kernel
theorem dX2_soonestLongest_28 : decode cX2_soonestLongest 28 = .ok (.aload_n 0, 1) := by decide +kernel
theorem dX2_soonestLongest_29 : decode cX2_soonestLongest 29 = .ok (.invokevirtual 132, 3) := by decide +kernel
theorem dX2_soonestLongest_32 : decode cX2_soonestLongest 32 = .ok (.if_icmp .ge 27, 3) := by decide +kernel
theorem dX2_soonestLongest_35 : decode cX2_soonestLongest 35 = .ok (.aload_n 0, 1) := by decide +kernel
theorem dX2_soonestLongest_36 : decode cX2_soonestLongest 36 = .ok (.iload_n 1, 1) := by decide +kernel
theorem dX2_soonestLongest_37 : decode cX2_soonestLongest 37 = .ok (.aload_n 0, 1) := by decide +kernel
theorem dX2_soonestLongest_38 : decode cX2_soonestLongest 38 = .ok (.iload_n 1, 1) := by decide +kernel
theorem dX2_soonestLongest_39 : decode cX2_soonestLongest 39 = .ok (.invokevirtual 57, 3) := by decide +kernel
theorem dX2_soonestLongest_42 : decode cX2_soonestLongest 42 = .ok (.iload 5, 2) := by decide +kernel
theorem dX2_soonestLongest_44 : decode cX2_soonestLongest 44 = .ok (.invokevirtual 64, 3) := by decide +kernel
theorem dX2_soonestLongest_47 : decode cX2_soonestLongest 47 = .ok (.iconst 3, 1) := by decide +kernel
theorem dX2_soonestLongest_48 : decode cX2_soonestLongest 48 = .ok (.aload_n 0, 1) := by decide +kernel
theorem dX2_soonestLongest_49 : decode cX2_soonestLongest 49 = .ok (.getfield 19, 3) := by decide +kernel
theorem dX2_soonestLongest_52 : decode cX2_soonestLongest 52 = .ok (.iload_n 1, 1) := by decide +kernel
theorem dX2_soonestLongest_53 : decode cX2_soonestLongest 53 = .ok (.iaload, 1) := by decide +kernel
theorem dX2_soonestLongest_54 : decode cX2_soonestLongest 54 = .ok (.imul, 1) := by decide +kernel
theorem dX2_soonestLongest_55 : decode cX2_soonestLongest 55 = .ok (.iadd, 1) := by decide +kernel
theorem dX2_soonestLongest_56 : decode cX2_soonestLongest 56 = .ok (.goto 10, 3) := by decide +kernel
theorem dX2_soonestLongest_59 : decode cX2_soonestLongest 59 = .ok (.aload_n 0, 1) := by decide +kernel
theorem dX2_soonestLongest_60 : decode cX2_soonestLongest 60 = .ok (.iload_n 1, 1) := by decide +kernel
theorem dX2_soonestLongest_61 : decode cX2_soonestLongest 61 = .ok (.iload 5, 2) := by decide +kernel
theorem dX2_soonestLongest_63 : decode cX2_soonestLongest 63 = .ok (.invokevirtual 68, 3) := by decide +kernel
theorem dX2_soonestLongest_66 : decode cX2_soonestLongest 66 = .ok (.istore 6, 2) := by decide +kernel
theorem dX2_soonestLongest_68 : decode cX2_soonestLongest 68 = .ok (.iload 6, 2) := by decide +kernel
theorem dX2_soonestLongest_70 : decode cX2_soonestLongest 70 = .ok (.iload_n 3, 1) := by decide +kernel
theorem dX2_soonestLongest_71 : decode cX2_soonestLongest 71 = .ok (.if_icmp .gt 6, 3) := by decide +kernel
theorem dX2_soonestLongest_74 : decode cX2_soonestLongest 74 = .ok (.goto 9, 3) := by decide +kernel
theorem dX2_soonestLongest_77 : decode cX2_soonestLongest 77 = .ok (.iload 4, 2) := by decide +kernel
theorem dX2_soonestLongest_79 : decode cX2_soonestLongest 79 = .ok (.istore_n 2, 1) := by decide +kernel
theorem dX2_soonestLongest_80 : decode cX2_soonestLongest 80 = .ok (.iload 6, 2) := by decide +kernel
theorem dX2_soonestLongest_82 : decode cX2_soonestLongest 82 = .ok (.istore_n 3, 1) := by decide +kernel
theorem dX2_soonestLongest_83 : decode cX2_soonestLongest 83 = .ok (.iinc 4 1, 3) := by decide +kernel
theorem dX2_soonestLongest_86 : decode cX2_soonestLongest 86 = .ok (.goto (-79), 3) := by decide +kernel
theorem dX2_soonestLongest_89 : decode cX2_soonestLongest 89 = .ok (.iload_n 2, 1) := by decide +kernel
theorem dX2_soonestLongest_90 : decode cX2_soonestLongest 90 = .ok (.ireturn, 1) := by decide +kernel
set_option maxRecDepth 20000 in
theorem ggX2_longestIn_X2_isMember : GoodIn wsX2_longestIn wsX2_isMember := goodIn_r _ [6, 7, 8, 9, 5, 10, 51, 52, 53, 54, 55, 56, 57, 58, 59, 60, 61, 62, 63] (by decide +kernel) (by decide +kernel)
set_option maxRecDepth 20000 in
theorem gX2_longestIn_X2_isMember : GoodIn wsX2_longestIn (wsV RX2 94 RX2 yX2_isMember wsX2_isMember) := goodIn_app (goodIn_of _ (by decide +kernel)) ggX2_longestIn_X2_isMember
set_option maxRecDepth 20000 in
theorem ggX2_longestIn_X2_soonestLongest : GoodIn wsX2_longestIn wsX2_soonestLongest := goodIn_r _ [14, 15, 16, 17, 18, 19, 5, 20, 21, 22, 23, 24, 25, 26, 27, 28, 29, 30, 31, 32, 33, 34, 35, 36, 37, 38, 39, 40, 41, 42, 8, 9, 10, 43, 44, 45, 46, 51, 52, 53, 54, 55, 56, 57, 58, 59, 60, 61, 62, 63] (by decide +kernel) (by decide +kernel)
set_option maxRecDepth 20000 in
theorem gX2_longestIn_X2_soonestLongest : GoodIn wsX2_longestIn (wsV RX2 141 RX2 yX2_soonestLongest wsX2_soonestLongest) := goodIn_app (goodIn_of _ (by decide +kernel)) ggX2_longestIn_X2_soonestLongest
set_option maxRecDepth 20000 in
theorem ggX2_longestIn_X2_no : GoodIn wsX2_longestIn wsX2_no := goodIn_r _ [50, 1, 51, 52, 53, 54, 55, 56, 57, 58, 59, 60, 61, 62, 63] (by decide +kernel) (by decide +kernel)
set_option maxRecDepth 20000 in
theorem gX2_longestIn_X2_no : GoodIn wsX2_longestIn (wsV RX2 91 RX2 yX2_no wsX2_no) := goodIn_app (goodIn_of _ (by decide +kernel)) ggX2_longestIn_X2_no
theorem dX2_longestIn_0 : decode cX2_longestIn 0 = .ok (.aload_n 0, 1) := by decide +kernel
theorem dX2_longestIn_1 : decode cX2_longestIn 1 = .ok (.iconst 0, 1) := by decide +kernel
theorem dX2_longestIn_2 : decode cX2_longestIn 2 = .ok (.putfield 34, 3) := by decide +kernel
theorem dX2_longestIn_5 : decode cX2_longestIn 5 = .ok (.aload_n 0, 1) := by decide +kernel
theorem dX2_longestIn_6 : decode cX2_longestIn 6 = .ok (.iload_n 1, 1) := by decide +kernel
theorem dX2_longestIn_7 : decode cX2_longestIn 7 = .ok (.invokevirtual 94, 3) := by decide +kernel
theorem dX2_longestIn_10 : decode cX2_longestIn 10 = .ok (.ifCond .eq 11, 3) := by decide +kernel
theorem dX2_longestIn_13 : decode cX2_longestIn 13 = .ok (.aload_n 0, 1) := by decide +kernel
theorem dX2_longestIn_14 : decode cX2_longestIn 14 = .ok (.iload_n 1, 1) := by decide +kernel
theorem dX2_longestIn_15 : decode cX2_longestIn 15 = .ok (.invokevirtual 141, 3) := by decide +kernel
theorem dX2_longestIn_18 : decode cX2_longestIn 18 = .ok (.goto 8, 3) := by decide +kernel
theorem dX2_longestIn_21 : decode cX2_longestIn 21 = .ok (.aload_n 0, 1) := by decide +kernel
theorem dX2_longestIn_22 : decode cX2_longestIn 22 = .ok (.iconst 1, 1) := by decide +kernel
theorem dX2_longestIn_23 : decode cX2_longestIn 23 = .ok (.invokevirtual 91, 3) := by decide +kernel
theorem dX2_longestIn_26 : decode cX2_longestIn 26 = .ok (.ireturn, 1) := by decide +kernel
set_option maxRecDepth 20000 in
theorem ggX2_meanShadow_X2_shadow : GoodIn wsX2_meanShadow wsX2_shadow := goodIn_r _ [7, 8, 9, 10, 11, 6, 12, 13, 14, 15, 16, 17, 18, 19, 20, 21, 22, 23, 24, 25, 26, 27, 28, 29, 30, 31, 32, 33, 34, 35, 36, 37, 38, 39, 40, 41, 42, 43, 44, 45, 46, 47] (by decide +kernel) (by decide +kernel)
set_option maxRecDepth 20000 in
theorem gX2_meanShadow_X2_shadow : GoodIn wsX2_meanShadow (wsV RX2 109 RX2 yX2_shadow wsX2_shadow) := goodIn_app (goodIn_of _ (by decide +kernel)) ggX2_meanShadow_X2_shadow
theorem dX2_meanShadow_0 : decode cX2_meanShadow 0 = .ok (.aload_n 0, 1) := by decide +kernel
theorem dX2_meanShadow_1 : decode cX2_meanShadow 1 = .ok (.iconst 0, 1) := by decide +kernel
theorem dX2_meanShadow_2 : decode cX2_meanShadow 2 = .ok (.putfield 34, 3) := by decide +kernel
theorem dX2_meanShadow_5 : decode cX2_meanShadow 5 = .ok (.iconst 0, 1) := by decide +kernel
theorem dX2_meanShadow_6 : decode cX2_meanShadow 6 = .ok (.istore_n 1, 1) := by decide +kernel
theorem dX2_meanShadow_7 : decode cX2_meanShadow 7 = .ok (.iconst 0, 1) := by decide +kernel
theorem dX2_meanShadow_8 : decode cX2_meanShadow 8 = .ok (.istore_n 2, 1) := by decide +kernel
theorem dX2_meanShadow_9 : decode cX2_meanShadow 9 = .ok (.iload_n 2, 1) := by decide +kernel
theorem dX2_meanShadow_10 : decode cX2_meanShadow 10 = .ok (.aload_n 0, 1) := by decide +kernel
theorem dX2_meanShadow_11 : decode cX2_meanShadow 11 = .ok (.getfield 38, 3) := by decide +kernel
theorem dX2_meanShadow_14 : decode cX2_meanShadow 14 = .ok (.if_icmp .ge 17, 3) := by decide +kernel
theorem dX2_meanShadow_17 : decode cX2_meanShadow 17 = .ok (.iload_n 1, 1) := by decide +kernel
theorem dX2_meanShadow_18 : decode cX2_meanShadow 18 = .ok (.aload_n 0, 1) := by decide +kernel
theorem dX2_meanShadow_19 : decode cX2_meanShadow 19 = .ok (.iload_n 2, 1) := by decide +kernel
theorem dX2_meanShadow_20 : decode cX2_meanShadow 20 = .ok (.invokevirtual 109, 3) := by decide +kernel
theorem dX2_meanShadow_23 : decode cX2_meanShadow 23 = .ok (.iadd, 1) := by decide +kernel
theorem dX2_meanShadow_24 : decode cX2_meanShadow 24 = .ok (.istore_n 1, 1) := by decide +kernel
theorem dX2_meanShadow_25 : decode cX2_meanShadow 25 = .ok (.iinc 2 1, 3) := by decide +kernel
theorem dX2_meanShadow_28 : decode cX2_meanShadow 28 = .ok (.goto (-19), 3) := by decide +kernel
theorem dX2_meanShadow_31 : decode cX2_meanShadow 31 = .ok (.aload_n 0, 1) := by decide +kernel
theorem dX2_meanShadow_32 : decode cX2_meanShadow 32 = .ok (.getfield 38, 3) := by decide +kernel
theorem dX2_meanShadow_35 : decode cX2_meanShadow 35 = .ok (.ifCond .ne 7, 3) := by decide +kernel
theorem dX2_meanShadow_38 : decode cX2_meanShadow 38 = .ok (.dconst 0, 1) := by decide +kernel
theorem dX2_meanShadow_39 : decode cX2_meanShadow 39 = .ok (.goto 11, 3) := by decide +kernel
theorem dX2_meanShadow_42 : decode cX2_meanShadow 42 = .ok (.iload_n 1, 1) := by decide +kernel
theorem dX2_meanShadow_43 : decode cX2_meanShadow 43 = .ok (.i2d, 1) := by decide +kernel
theorem dX2_meanShadow_44 : decode cX2_meanShadow 44 = .ok (.aload_n 0, 1) := by decide +kernel
theorem dX2_meanShadow_45 : decode cX2_meanShadow 45 = .ok (.getfield 38, 3) := by decide +kernel
theorem dX2_meanShadow_48 : decode cX2_meanShadow 48 = .ok (.i2d, 1) := by decide +kernel
theorem dX2_meanShadow_49 : decode cX2_meanShadow 49 = .ok (.ddiv, 1) := by decide +kernel
theorem dX2_meanShadow_50 : decode cX2_meanShadow 50 = .ok (.dreturn, 1) := by decide +kernel
set_option maxRecDepth 20000 in
theorem ggX2_digest_X2_certificates : GoodIn wsX2_digest wsX2_certificates := goodIn_r _ [17, 3, 12, 18, 19, 20, 16, 21, 22, 23, 24, 25, 26, 27, 28, 29, 30, 31, 32, 33, 34, 35, 36, 37, 38, 39, 40, 41, 42, 96, 97, 98, 99, 100, 101, 102, 103, 104, 105, 106, 107, 108] (by decide +kernel) (by decide +kernel)
set_option maxRecDepth 20000 in
theorem gX2_digest_X2_certificates : GoodIn wsX2_digest (wsV RX2 118 RX2 yX2_certificates wsX2_certificates) := goodIn_app (goodIn_of _ (by decide +kernel)) ggX2_digest_X2_certificates
set_option maxRecDepth 20000 in
theorem ggX2_digest_X2_longestNow : GoodIn wsX2_digest wsX2_longestNow := goodIn_r _ [46, 3, 47, 48, 49, 16, 50, 9, 51, 52, 53, 54, 11, 27, 55, 56, 57, 58, 4, 28, 29, 30, 31, 32, 33, 34, 35, 36, 37, 38, 39, 40, 41, 42, 96, 97, 98, 99, 100, 101, 102, 103, 104, 105, 106, 107, 108] (by decide +kernel) (by decide +kernel)
set_option maxRecDepth 20000 in
theorem gX2_digest_X2_longestNow : GoodIn wsX2_digest (wsV RX2 129 RX2 yX2_longestNow wsX2_longestNow) := goodIn_app (goodIn_of _ (by decide +kernel)) ggX2_digest_X2_longestNow
set_option maxRecDepth 20000 in
theorem ggX2_digest_X2_richest : GoodIn wsX2_digest wsX2_richest := goodIn_r _ [62, 3, 10, 63, 64, 65, 16, 66, 9, 12, 18, 19, 20, 21, 22, 23, 24, 25, 26, 27, 28, 29, 30, 31, 32, 33, 34, 35, 36, 37, 38, 39, 40, 41, 42, 96, 97, 98, 99, 100, 101, 102, 103, 104, 105, 106, 107, 108] (by decide +kernel) (by decide +kernel)
set_option maxRecDepth 20000 in
theorem gX2_digest_X2_richest : GoodIn wsX2_digest (wsV RX2 135 RX2 yX2_richest wsX2_richest) := goodIn_app (goodIn_of _ (by decide +kernel)) ggX2_digest_X2_richest
set_option maxRecDepth 20000 in
theorem ggX2_digest_X2_worn : GoodIn wsX2_digest wsX2_worn := goodIn_r _ [54, 11, 27, 96, 97, 98, 99, 100, 101, 102, 103, 104, 105, 106, 107, 108] (by decide +kernel) (by decide +kernel)
set_option maxRecDepth 20000 in
theorem gX2_digest_X2_worn : GoodIn wsX2_digest (wsV RX2 57 RX2 yX2_worn wsX2_worn) := goodIn_app (goodIn_of _ (by decide +kernel)) ggX2_digest_X2_worn
set_option maxRecDepth 20000 in
theorem ggX2_digest_X2_hasLentOut : GoodIn wsX2_digest wsX2_hasLentOut := goodIn_r _ [70, 3, 11, 96, 97, 98, 99, 100, 101, 102, 103, 104, 105, 106, 107, 108] (by decide +kernel) (by decide +kernel)
set_option maxRecDepth 20000 in
theorem gX2_digest_X2_hasLentOut : GoodIn wsX2_digest (wsV RX2 103 RX2 yX2_hasLentOut wsX2_hasLentOut) := goodIn_app (goodIn_of _ (by decide +kernel)) ggX2_digest_X2_hasLentOut
set_option maxRecDepth 20000 in
theorem ggX2_digest_X2_isOut : GoodIn wsX2_digest wsX2_isOut := goodIn_r _ [74, 75, 96, 97, 98, 99, 100, 101, 102, 103, 104, 105, 106, 107, 108] (by decide +kernel) (by decide +kernel)
set_option maxRecDepth 20000 in
theorem gX2_digest_X2_isOut : GoodIn wsX2_digest (wsV RX2 106 RX2 yX2_isOut wsX2_isOut) := goodIn_app (goodIn_of _ (by decide +kernel)) ggX2_digest_X2_isOut
set_option maxRecDepth 20000 in
theorem ggX2_digest_X2_shadow : GoodIn wsX2_digest wsX2_shadow := goodIn_r _ [50, 9, 51, 52, 53, 16, 54, 11, 27, 55, 56, 57, 58, 4, 28, 29, 30, 31, 32, 33, 34, 35, 36, 37, 38, 39, 40, 41, 42, 96, 97, 98, 99, 100, 101, 102, 103, 104, 105, 106, 107, 108] (by decide +kernel) (by decide +kernel)
set_option maxRecDepth 20000 in
theorem gX2_digest_X2_shadow : GoodIn wsX2_digest (wsV RX2 109 RX2 yX2_shadow wsX2_shadow) := goodIn_app (goodIn_of _ (by decide +kernel)) ggX2_digest_X2_shadow
set_option maxRecDepth 20000 in
theorem ggX2_digest_X2_brings : GoodIn wsX2_digest wsX2_brings := goodIn_r _ [66, 9, 12, 18, 19, 20, 16, 21, 22, 23, 24, 25, 26, 27, 28, 29, 30, 31, 32, 33, 34, 35, 36, 37, 38, 39, 40, 41, 42, 96, 97, 98, 99, 100, 101, 102, 103, 104, 105, 106, 107, 108] (by decide +kernel) (by decide +kernel)
set_option maxRecDepth 20000 in
theorem gX2_digest_X2_brings : GoodIn wsX2_digest (wsV RX2 76 RX2 yX2_brings wsX2_brings) := goodIn_app (goodIn_of _ (by decide +kernel)) ggX2_digest_X2_brings
set_option maxRecDepth 20000 in
theorem ggX2_digest_X2_hatFor : GoodIn wsX2_digest wsX2_hatFor := goodIn_r _ [79, 3, 27, 80, 81, 82, 16, 83, 11, 84, 85, 86, 87, 55, 56, 57, 58, 4, 28, 29, 30, 31, 32, 33, 34, 35, 36, 37, 38, 39, 40, 41, 42, 96, 97, 98, 99, 100, 101, 102, 103, 104, 105, 106, 107, 108] (by decide +kernel) (by decide +kernel)
set_option maxRecDepth 20000 in
theorem gX2_digest_X2_hatFor : GoodIn wsX2_digest (wsV RX2 138 RX2 yX2_hatFor wsX2_hatFor) := goodIn_app (goodIn_of _ (by decide +kernel)) ggX2_digest_X2_hatFor
set_option maxRecDepth 20000 in
theorem ggX2_digest_X2_soonestLongest : GoodIn wsX2_digest wsX2_soonestLongest := goodIn_r _ [91, 4, 9, 92, 93, 94, 16, 95, 55, 56, 57, 58, 51, 52, 53, 54, 11, 27, 28, 29, 30, 31, 32, 33, 34, 35, 36, 37, 38, 39, 40, 41, 42, 23, 24, 25, 26, 96, 97, 98, 99, 100, 101, 102, 103, 104, 105, 106, 107, 108] (by decide +kernel) (by decide +kernel)
set_option maxRecDepth 20000 in
theorem gX2_digest_X2_soonestLongest : GoodIn wsX2_digest (wsV RX2 141 RX2 yX2_soonestLongest wsX2_soonestLongest) := goodIn_app (goodIn_of _ (by decide +kernel)) ggX2_digest_X2_soonestLongest
theorem dX2_digest_0 : decode cX2_digest 0 = .ok (.aload_n 0, 1) := by decide +kernel
theorem dX2_digest_1 : decode cX2_digest 1 = .ok (.iconst 0, 1) := by decide +kernel
theorem dX2_digest_2 : decode cX2_digest 2 = .ok (.putfield 34, 3) := by decide +kernel
theorem dX2_digest_5 : decode cX2_digest 5 = .ok (.bipush 8, 2) := by decide +kernel
theorem dX2_digest_7 : decode cX2_digest 7 = .ok (.newarray .int, 2) := by decide +kernel
theorem dX2_digest_9 : decode cX2_digest 9 = .ok (.dup, 1) := by decide +kernel
theorem dX2_digest_10 : decode cX2_digest 10 = .ok (.iconst 0, 1) := by decide +kernel
theorem dX2_digest_11 : decode cX2_digest 11 = .ok (.aload_n 0, 1) := by decide +kernel
theorem dX2_digest_12 : decode cX2_digest 12 = .ok (.getfield 38, 3) := by decide +kernel
theorem dX2_digest_15 : decode cX2_digest 15 = .ok (.iastore, 1) := by decide +kernel
theorem dX2_digest_16 : decode cX2_digest 16 = .ok (.dup, 1) := by decide +kernel
theorem dX2_digest_17 : decode cX2_digest 17 = .ok (.iconst 1, 1) := by decide +kernel
theorem dX2_digest_18 : decode cX2_digest 18 = .ok (.aload_n 0, 1) := by decide +kernel
theorem dX2_digest_19 : decode cX2_digest 19 = .ok (.getfield 45, 3) := by decide +kernel
theorem dX2_digest_22 : decode cX2_digest 22 = .ok (.iastore, 1) := by decide +kernel
theorem dX2_digest_23 : decode cX2_digest 23 = .ok (.dup, 1) := by decide +kernel
theorem dX2_digest_24 : decode cX2_digest 24 = .ok (.iconst 2, 1) := by decide +kernel
theorem dX2_digest_25 : decode cX2_digest 25 = .ok (.aload_n 0, 1) := by decide +kernel
theorem dX2_digest_26 : decode cX2_digest 26 = .ok (.getfield 79, 3) := by decide +kernel
theorem dX2_digest_29 : decode cX2_digest 29 = .ok (.iastore, 1) := by decide +kernel
theorem dX2_digest_30 : decode cX2_digest 30 = .ok (.dup, 1) := by decide +kernel
theorem dX2_digest_31 : decode cX2_digest 31 = .ok (.iconst 3, 1) := by decide +kernel
theorem dX2_digest_32 : decode cX2_digest 32 = .ok (.aload_n 0, 1) := by decide +kernel
theorem dX2_digest_33 : decode cX2_digest 33 = .ok (.getfield 85, 3) := by decide +kernel
theorem dX2_digest_36 : decode cX2_digest 36 = .ok (.iastore, 1) := by decide +kernel
theorem dX2_digest_37 : decode cX2_digest 37 = .ok (.dup, 1) := by decide +kernel
theorem dX2_digest_38 : decode cX2_digest 38 = .ok (.iconst 4, 1) := by decide +kernel
theorem dX2_digest_39 : decode cX2_digest 39 = .ok (.aload_n 0, 1) := by decide +kernel
theorem dX2_digest_40 : decode cX2_digest 40 = .ok (.iconst 0, 1) := by decide +kernel
theorem dX2_digest_41 : decode cX2_digest 41 = .ok (.invokevirtual 118, 3) := by decide +kernel
theorem dX2_digest_44 : decode cX2_digest 44 = .ok (.iastore, 1) := by decide +kernel
theorem dX2_digest_45 : decode cX2_digest 45 = .ok (.dup, 1) := by decide +kernel
theorem dX2_digest_46 : decode cX2_digest 46 = .ok (.iconst 5, 1) := by decide +kernel
theorem dX2_digest_47 : decode cX2_digest 47 = .ok (.aload_n 0, 1) := by decide +kernel
theorem dX2_digest_48 : decode cX2_digest 48 = .ok (.iconst 1, 1) := by decide +kernel
theorem dX2_digest_49 : decode cX2_digest 49 = .ok (.invokevirtual 118, 3) := by decide +kernel
theorem dX2_digest_52 : decode cX2_digest 52 = .ok (.iastore, 1) := by decide +kernel
theorem dX2_digest_53 : decode cX2_digest 53 = .ok (.dup, 1) := by decide +kernel
theorem dX2_digest_54 : decode cX2_digest 54 = .ok (.bipush 6, 2) := by decide +kernel
theorem dX2_digest_56 : decode cX2_digest 56 = .ok (.aload_n 0, 1) := by decide +kernel
theorem dX2_digest_57 : decode cX2_digest 57 = .ok (.invokevirtual 129, 3) := by decide +kernel
theorem dX2_digest_60 : decode cX2_digest 60 = .ok (.iastore, 1) := by decide +kernel
theorem dX2_digest_61 : decode cX2_digest 61 = .ok (.dup, 1) := by decide +kernel
theorem dX2_digest_62 : decode cX2_digest 62 = .ok (.bipush 7, 2) := by decide +kernel
theorem dX2_digest_64 : decode cX2_digest 64 = .ok (.aload_n 0, 1) := by decide +kernel
theorem dX2_digest_65 : decode cX2_digest 65 = .ok (.invokevirtual 135, 3) := by decide +kernel
theorem dX2_digest_68 : decode cX2_digest 68 = .ok (.iastore, 1) := by decide +kernel
theorem dX2_digest_69 : decode cX2_digest 69 = .ok (.astore_n 1, 1) := by decide +kernel
theorem dX2_digest_70 : decode cX2_digest 70 = .ok (.ldc2_w 144, 3) := by decide +kernel
theorem dX2_digest_73 : decode cX2_digest 73 = .ok (.lstore_n 2, 1) := by decide +kernel
theorem dX2_digest_74 : decode cX2_digest 74 = .ok (.aload_n 1, 1) := by decide +kernel
theorem dX2_digest_75 : decode cX2_digest 75 = .ok (.astore 4, 2) := by decide +kernel
theorem dX2_digest_77 : decode cX2_digest 77 = .ok (.aload 4, 2) := by decide +kernel
theorem dX2_digest_79 : decode cX2_digest 79 = .ok (.arraylength, 1) := by decide +kernel
theorem dX2_digest_80 : decode cX2_digest 80 = .ok (.istore 5, 2) := by decide +kernel
theorem dX2_digest_82 : decode cX2_digest 82 = .ok (.iconst 0, 1) := by decide +kernel
theorem dX2_digest_83 : decode cX2_digest 83 = .ok (.istore 6, 2) := by decide +kernel
theorem dX2_digest_85 : decode cX2_digest 85 = .ok (.iload 6, 2) := by decide +kernel
theorem dX2_digest_87 : decode cX2_digest 87 = .ok (.iload 5, 2) := by decide +kernel
theorem dX2_digest_89 : decode cX2_digest 89 = .ok (.if_icmp .ge 26, 3) := by decide +kernel
theorem dX2_digest_92 : decode cX2_digest 92 = .ok (.aload 4, 2) := by decide +kernel
theorem dX2_digest_94 : decode cX2_digest 94 = .ok (.iload 6, 2) := by decide +kernel
theorem dX2_digest_96 : decode cX2_digest 96 = .ok (.iaload, 1) := by decide +kernel
theorem dX2_digest_97 : decode cX2_digest 97 = .ok (.istore 7, 2) := by decide +kernel
theorem dX2_digest_99 : decode cX2_digest 99 = .ok (.lload_n 2, 1) := by decide +kernel
theorem dX2_digest_100 : decode cX2_digest 100 = .ok (.ldc2_w 146, 3) := by decide +kernel
theorem dX2_digest_103 : decode cX2_digest 103 = .ok (.lmul, 1) := by decide +kernel
theorem dX2_digest_104 : decode cX2_digest 104 = .ok (.iload 7, 2) := by decide +kernel
theorem dX2_digest_106 : decode cX2_digest 106 = .ok (.i2l, 1) := by decide +kernel
theorem dX2_digest_107 : decode cX2_digest 107 = .ok (.ladd, 1) := by decide +kernel
theorem dX2_digest_108 : decode cX2_digest 108 = .ok (.lstore_n 2, 1) := by decide +kernel
theorem dX2_digest_109 : decode cX2_digest 109 = .ok (.iinc 6 1, 3) := by decide +kernel
theorem dX2_digest_112 : decode cX2_digest 112 = .ok (.goto (-27), 3) := by decide +kernel
theorem dX2_digest_115 : decode cX2_digest 115 = .ok (.iconst 0, 1) := by decide +kernel
theorem dX2_digest_116 : decode cX2_digest 116 = .ok (.istore 4, 2) := by decide +kernel
theorem dX2_digest_118 : decode cX2_digest 118 = .ok (.iload 4, 2) := by decide +kernel
theorem dX2_digest_120 : decode cX2_digest 120 = .ok (.aload_n 0, 1) := by decide +kernel
theorem dX2_digest_121 : decode cX2_digest 121 = .ok (.getfield 38, 3) := by decide +kernel
theorem dX2_digest_124 : decode cX2_digest 124 = .ok (.if_icmp .ge 181, 3) := by decide +kernel
theorem dX2_digest_127 : decode cX2_digest 127 = .ok (.bipush 11, 2) := by decide +kernel
theorem dX2_digest_129 : decode cX2_digest 129 = .ok (.newarray .int, 2) := by decide +kernel
theorem dX2_digest_131 : decode cX2_digest 131 = .ok (.dup, 1) := by decide +kernel
theorem dX2_digest_132 : decode cX2_digest 132 = .ok (.iconst 0, 1) := by decide +kernel
theorem dX2_digest_133 : decode cX2_digest 133 = .ok (.aload_n 0, 1) := by decide +kernel
theorem dX2_digest_134 : decode cX2_digest 134 = .ok (.getfield 19, 3) := by decide +kernel
theorem dX2_digest_137 : decode cX2_digest 137 = .ok (.iload 4, 2) := by decide +kernel
theorem dX2_digest_139 : decode cX2_digest 139 = .ok (.iaload, 1) := by decide +kernel
theorem dX2_digest_140 : decode cX2_digest 140 = .ok (.iastore, 1) := by decide +kernel
theorem dX2_digest_141 : decode cX2_digest 141 = .ok (.dup, 1) := by decide +kernel
theorem dX2_digest_142 : decode cX2_digest 142 = .ok (.iconst 1, 1) := by decide +kernel
theorem dX2_digest_143 : decode cX2_digest 143 = .ok (.aload_n 0, 1) := by decide +kernel
theorem dX2_digest_144 : decode cX2_digest 144 = .ok (.getfield 16, 3) := by decide +kernel
theorem dX2_digest_147 : decode cX2_digest 147 = .ok (.iload 4, 2) := by decide +kernel
theorem dX2_digest_149 : decode cX2_digest 149 = .ok (.iaload, 1) := by decide +kernel
theorem dX2_digest_150 : decode cX2_digest 150 = .ok (.iastore, 1) := by decide +kernel
theorem dX2_digest_151 : decode cX2_digest 151 = .ok (.dup, 1) := by decide +kernel
theorem dX2_digest_152 : decode cX2_digest 152 = .ok (.iconst 2, 1) := by decide +kernel
theorem dX2_digest_153 : decode cX2_digest 153 = .ok (.aload_n 0, 1) := by decide +kernel
theorem dX2_digest_154 : decode cX2_digest 154 = .ok (.getfield 22, 3) := by decide +kernel
theorem dX2_digest_157 : decode cX2_digest 157 = .ok (.iload 4, 2) := by decide +kernel
theorem dX2_digest_159 : decode cX2_digest 159 = .ok (.iaload, 1) := by decide +kernel
theorem dX2_digest_160 : decode cX2_digest 160 = .ok (.iastore, 1) := by decide +kernel
theorem dX2_digest_161 : decode cX2_digest 161 = .ok (.dup, 1) := by decide +kernel
theorem dX2_digest_162 : decode cX2_digest 162 = .ok (.iconst 3, 1) := by decide +kernel
theorem dX2_digest_163 : decode cX2_digest 163 = .ok (.aload_n 0, 1) := by decide +kernel
theorem dX2_digest_164 : decode cX2_digest 164 = .ok (.iload 4, 2) := by decide +kernel
theorem dX2_digest_166 : decode cX2_digest 166 = .ok (.invokevirtual 57, 3) := by decide +kernel
theorem dX2_digest_169 : decode cX2_digest 169 = .ok (.iastore, 1) := by decide +kernel
theorem dX2_digest_170 : decode cX2_digest 170 = .ok (.dup, 1) := by decide +kernel
theorem dX2_digest_171 : decode cX2_digest 171 = .ok (.iconst 4, 1) := by decide +kernel
theorem dX2_digest_172 : decode cX2_digest 172 = .ok (.aload_n 0, 1) := by decide +kernel
theorem dX2_digest_173 : decode cX2_digest 173 = .ok (.iload 4, 2) := by decide +kernel
theorem dX2_digest_175 : decode cX2_digest 175 = .ok (.invokevirtual 103, 3) := by decide +kernel
theorem dX2_digest_178 : decode cX2_digest 178 = .ok (.ifCond .eq 7, 3) := by decide +kernel
theorem dX2_digest_181 : decode cX2_digest 181 = .ok (.iconst 1, 1) := by decide +kernel
theorem dX2_digest_182 : decode cX2_digest 182 = .ok (.goto 4, 3) := by decide +kernel
theorem dX2_digest_185 : decode cX2_digest 185 = .ok (.iconst 0, 1) := by decide +kernel
theorem dX2_digest_186 : decode cX2_digest 186 = .ok (.iastore, 1) := by decide +kernel
theorem dX2_digest_187 : decode cX2_digest 187 = .ok (.dup, 1) := by decide +kernel
theorem dX2_digest_188 : decode cX2_digest 188 = .ok (.iconst 5, 1) := by decide +kernel
theorem dX2_digest_189 : decode cX2_digest 189 = .ok (.aload_n 0, 1) := by decide +kernel
theorem dX2_digest_190 : decode cX2_digest 190 = .ok (.iload 4, 2) := by decide +kernel
theorem dX2_digest_192 : decode cX2_digest 192 = .ok (.invokevirtual 106, 3) := by decide +kernel
theorem dX2_digest_195 : decode cX2_digest 195 = .ok (.ifCond .eq 7, 3) := by decide +kernel
theorem dX2_digest_198 : decode cX2_digest 198 = .ok (.iconst 1, 1) := by decide +kernel
theorem dX2_digest_199 : decode cX2_digest 199 = .ok (.goto 4, 3) := by decide +kernel
theorem dX2_digest_202 : decode cX2_digest 202 = .ok (.iconst 0, 1) := by decide +kernel
theorem dX2_digest_203 : decode cX2_digest 203 = .ok (.iastore, 1) := by decide +kernel
theorem dX2_digest_204 : decode cX2_digest 204 = .ok (.dup, 1) := by decide +kernel
theorem dX2_digest_205 : decode cX2_digest 205 = .ok (.bipush 6, 2) := by decide +kernel
theorem dX2_digest_207 : decode cX2_digest 207 = .ok (.aload_n 0, 1) := by decide +kernel
theorem dX2_digest_208 : decode cX2_digest 208 = .ok (.iload 4, 2) := by decide +kernel
theorem dX2_digest_210 : decode cX2_digest 210 = .ok (.invokevirtual 109, 3) := by decide +kernel
theorem dX2_digest_213 : decode cX2_digest 213 = .ok (.iastore, 1) := by decide +kernel
theorem dX2_digest_214 : decode cX2_digest 214 = .ok (.dup, 1) := by decide +kernel
theorem dX2_digest_215 : decode cX2_digest 215 = .ok (.bipush 7, 2) := by decide +kernel
theorem dX2_digest_217 : decode cX2_digest 217 = .ok (.aload_n 0, 1) := by decide +kernel
theorem dX2_digest_218 : decode cX2_digest 218 = .ok (.getfield 25, 3) := by decide +kernel
theorem dX2_digest_221 : decode cX2_digest 221 = .ok (.iload 4, 2) := by decide +kernel
theorem dX2_digest_223 : decode cX2_digest 223 = .ok (.iaload, 1) := by decide +kernel
theorem dX2_digest_224 : decode cX2_digest 224 = .ok (.iastore, 1) := by decide +kernel
theorem dX2_digest_225 : decode cX2_digest 225 = .ok (.dup, 1) := by decide +kernel
theorem dX2_digest_226 : decode cX2_digest 226 = .ok (.bipush 8, 2) := by decide +kernel
theorem dX2_digest_228 : decode cX2_digest 228 = .ok (.aload_n 0, 1) := by decide +kernel
theorem dX2_digest_229 : decode cX2_digest 229 = .ok (.iload 4, 2) := by decide +kernel
theorem dX2_digest_231 : decode cX2_digest 231 = .ok (.invokevirtual 76, 3) := by decide +kernel
theorem dX2_digest_234 : decode cX2_digest 234 = .ok (.iastore, 1) := by decide +kernel
theorem dX2_digest_235 : decode cX2_digest 235 = .ok (.dup, 1) := by decide +kernel
theorem dX2_digest_236 : decode cX2_digest 236 = .ok (.bipush 9, 2) := by decide +kernel
theorem dX2_digest_238 : decode cX2_digest 238 = .ok (.aload_n 0, 1) := by decide +kernel
theorem dX2_digest_239 : decode cX2_digest 239 = .ok (.iload 4, 2) := by decide +kernel
theorem dX2_digest_241 : decode cX2_digest 241 = .ok (.invokevirtual 138, 3) := by decide +kernel
theorem dX2_digest_244 : decode cX2_digest 244 = .ok (.iastore, 1) := by decide +kernel
theorem dX2_digest_245 : decode cX2_digest 245 = .ok (.dup, 1) := by decide +kernel
theorem dX2_digest_246 : decode cX2_digest 246 = .ok (.bipush 10, 2) := by decide +kernel
theorem dX2_digest_248 : decode cX2_digest 248 = .ok (.aload_n 0, 1) := by decide +kernel
theorem dX2_digest_249 : decode cX2_digest 249 = .ok (.iload 4, 2) := by decide +kernel
theorem dX2_digest_251 : decode cX2_digest 251 = .ok (.invokevirtual 141, 3) := by decide +kernel
theorem dX2_digest_254 : decode cX2_digest 254 = .ok (.iastore, 1) := by decide +kernel
theorem dX2_digest_255 : decode cX2_digest 255 = .ok (.astore 5, 2) := by decide +kernel
theorem dX2_digest_257 : decode cX2_digest 257 = .ok (.aload 5, 2) := by decide +kernel
theorem dX2_digest_259 : decode cX2_digest 259 = .ok (.astore 6, 2) := by decide +kernel
theorem dX2_digest_261 : decode cX2_digest 261 = .ok (.aload 6, 2) := by decide +kernel
theorem dX2_digest_263 : decode cX2_digest 263 = .ok (.arraylength, 1) := by decide +kernel
theorem dX2_digest_264 : decode cX2_digest 264 = .ok (.istore 7, 2) := by decide +kernel
theorem dX2_digest_266 : decode cX2_digest 266 = .ok (.iconst 0, 1) := by decide +kernel
theorem dX2_digest_267 : decode cX2_digest 267 = .ok (.istore 8, 2) := by decide +kernel
theorem dX2_digest_269 : decode cX2_digest 269 = .ok (.iload 8, 2) := by decide +kernel
theorem dX2_digest_271 : decode cX2_digest 271 = .ok (.iload 7, 2) := by decide +kernel
theorem dX2_digest_273 : decode cX2_digest 273 = .ok (.if_icmp .ge 26, 3) := by decide +kernel
theorem dX2_digest_276 : decode cX2_digest 276 = .ok (.aload 6, 2) := by decide +kernel
theorem dX2_digest_278 : decode cX2_digest 278 = .ok (.iload 8, 2) := by decide +kernel
theorem dX2_digest_280 : decode cX2_digest 280 = .ok (.iaload, 1) := by decide +kernel
theorem dX2_digest_281 : decode cX2_digest 281 = .ok (.istore 9, 2) := by decide +kernel
theorem dX2_digest_283 : decode cX2_digest 283 = .ok (.lload_n 2, 1) := by decide +kernel
theorem dX2_digest_284 : decode cX2_digest 284 = .ok (.ldc2_w 146, 3) := by decide +kernel
theorem dX2_digest_287 : decode cX2_digest 287 = .ok (.lmul, 1) := by decide +kernel
theorem dX2_digest_288 : decode cX2_digest 288 = .ok (.iload 9, 2) := by decide +kernel
theorem dX2_digest_290 : decode cX2_digest 290 = .ok (.i2l, 1) := by decide +kernel
theorem dX2_digest_291 : decode cX2_digest 291 = .ok (.ladd, 1) := by decide +kernel
theorem dX2_digest_292 : decode cX2_digest 292 = .ok (.lstore_n 2, 1) := by decide +kernel
theorem dX2_digest_293 : decode cX2_digest 293 = .ok (.iinc 8 1, 3) := by decide +kernel
theorem dX2_digest_296 : decode cX2_digest 296 = .ok (.goto (-27), 3) := by decide +kernel
theorem dX2_digest_299 : decode cX2_digest 299 = .ok (.iinc 4 1, 3) := by decide +kernel
theorem dX2_digest_302 : decode cX2_digest 302 = .ok (.goto (-184), 3) := by decide +kernel
theorem dX2_digest_305 : decode cX2_digest 305 = .ok (.lload_n 2, 1) := by decide +kernel
theorem dX2_digest_306 : decode cX2_digest 306 = .ok (.lreturn, 1) := by decide +kernel
