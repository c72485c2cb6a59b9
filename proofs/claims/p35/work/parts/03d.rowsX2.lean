theorem dX2_init_0 : decode cX2_init 0 = .ok (.aload_n 0, 1) := by decide +kernel
theorem dX2_init_1 : decode cX2_init 1 = .ok (.invokespecial 1, 3) := by decide +kernel
theorem dX2_init_4 : decode cX2_init 4 = .ok (.aload_n 0, 1) := by decide +kernel
theorem dX2_init_5 : decode cX2_init 5 = .ok (.iconst 0, 1) := by decide +kernel
theorem dX2_init_6 : decode cX2_init 6 = .ok (.anewarray 7, 3) := by decide +kernel
theorem dX2_init_9 : decode cX2_init 9 = .ok (.putfield 9, 3) := by decide +kernel
theorem dX2_init_12 : decode cX2_init 12 = .ok (.return_, 1) := by decide +kernel
theorem dX2_with_0 : decode cX2_with 0 = .ok (.aload_n 0, 1) := by decide +kernel
theorem dX2_with_1 : decode cX2_with 1 = .ok (.arraylength, 1) := by decide +kernel
theorem dX2_with_2 : decode cX2_with 2 = .ok (.iconst 1, 1) := by decide +kernel
theorem dX2_with_3 : decode cX2_with 3 = .ok (.iadd, 1) := by decide +kernel
theorem dX2_with_4 : decode cX2_with 4 = .ok (.anewarray 7, 3) := by decide +kernel
theorem dX2_with_7 : decode cX2_with 7 = .ok (.astore_n 2, 1) := by decide +kernel
theorem dX2_with_8 : decode cX2_with 8 = .ok (.iconst 0, 1) := by decide +kernel
theorem dX2_with_9 : decode cX2_with 9 = .ok (.istore_n 3, 1) := by decide +kernel
theorem dX2_with_10 : decode cX2_with 10 = .ok (.iload_n 3, 1) := by decide +kernel
theorem dX2_with_11 : decode cX2_with 11 = .ok (.aload_n 0, 1) := by decide +kernel
theorem dX2_with_12 : decode cX2_with 12 = .ok (.arraylength, 1) := by decide +kernel
theorem dX2_with_13 : decode cX2_with 13 = .ok (.if_icmp .ge 15, 3) := by decide +kernel
theorem dX2_with_16 : decode cX2_with 16 = .ok (.aload_n 2, 1) := by decide +kernel
theorem dX2_with_17 : decode cX2_with 17 = .ok (.iload_n 3, 1) := by decide +kernel
theorem dX2_with_18 : decode cX2_with 18 = .ok (.aload_n 0, 1) := by decide +kernel
theorem dX2_with_19 : decode cX2_with 19 = .ok (.iload_n 3, 1) := by decide +kernel
theorem dX2_with_20 : decode cX2_with 20 = .ok (.aaload, 1) := by decide +kernel
theorem dX2_with_21 : decode cX2_with 21 = .ok (.aastore, 1) := by decide +kernel
theorem dX2_with_22 : decode cX2_with 22 = .ok (.iinc 3 1, 3) := by decide +kernel
theorem dX2_with_25 : decode cX2_with 25 = .ok (.goto (-15), 3) := by decide +kernel
theorem dX2_with_28 : decode cX2_with 28 = .ok (.aload_n 2, 1) := by decide +kernel
theorem dX2_with_29 : decode cX2_with 29 = .ok (.aload_n 0, 1) := by decide +kernel
theorem dX2_with_30 : decode cX2_with 30 = .ok (.arraylength, 1) := by decide +kernel
theorem dX2_with_31 : decode cX2_with 31 = .ok (.aload_n 1, 1) := by decide +kernel
theorem dX2_with_32 : decode cX2_with 32 = .ok (.aastore, 1) := by decide +kernel
theorem dX2_with_33 : decode cX2_with 33 = .ok (.aload_n 2, 1) := by decide +kernel
theorem dX2_with_34 : decode cX2_with 34 = .ok (.areturn, 1) := by decide +kernel
set_option maxRecDepth 20000 in
theorem ggX2_copy_X2_init : GoodIn wsX2_copy wsX2_init := goodIn_r _ [16, 17, 18, 19, 13, 7, 23, 24, 25, 26] (by decide +kernel) (by decide +kernel)
set_option maxRecDepth 20000 in
theorem gX2_copy_X2_init : GoodIn wsX2_copy (wsX2_init) := ggX2_copy_X2_init
set_option maxRecDepth 20000 in
theorem ggX2_copy_X2_with : GoodIn wsX2_copy wsX2_with := goodIn_r _ [22, 13] (by decide +kernel) (by decide +kernel)
set_option maxRecDepth 20000 in
theorem gX2_copy_X2_with : GoodIn wsX2_copy (va_wsS RX2 30 yX2_with wsX2_with) := goodIn_app (goodIn_of _ (by decide +kernel)) ggX2_copy_X2_with
theorem dX2_copy_0 : decode cX2_copy 0 = .ok (.new 10, 3) := by decide +kernel
theorem dX2_copy_3 : decode cX2_copy 3 = .ok (.dup, 1) := by decide +kernel
theorem dX2_copy_4 : decode cX2_copy 4 = .ok (.invokespecial 15, 3) := by decide +kernel
theorem dX2_copy_7 : decode cX2_copy 7 = .ok (.astore_n 1, 1) := by decide +kernel
theorem dX2_copy_8 : decode cX2_copy 8 = .ok (.aload_n 1, 1) := by decide +kernel
theorem dX2_copy_9 : decode cX2_copy 9 = .ok (.aload_n 0, 1) := by decide +kernel
theorem dX2_copy_10 : decode cX2_copy 10 = .ok (.getfield 16, 3) := by decide +kernel
theorem dX2_copy_13 : decode cX2_copy 13 = .ok (.putfield 16, 3) := by decide +kernel
theorem dX2_copy_16 : decode cX2_copy 16 = .ok (.aload_n 1, 1) := by decide +kernel
theorem dX2_copy_17 : decode cX2_copy 17 = .ok (.aload_n 0, 1) := by decide +kernel
theorem dX2_copy_18 : decode cX2_copy 18 = .ok (.getfield 20, 3) := by decide +kernel
theorem dX2_copy_21 : decode cX2_copy 21 = .ok (.putfield 20, 3) := by decide +kernel
theorem dX2_copy_24 : decode cX2_copy 24 = .ok (.aload_n 1, 1) := by decide +kernel
theorem dX2_copy_25 : decode cX2_copy 25 = .ok (.aload_n 0, 1) := by decide +kernel
theorem dX2_copy_26 : decode cX2_copy 26 = .ok (.getfield 23, 3) := by decide +kernel
theorem dX2_copy_29 : decode cX2_copy 29 = .ok (.putfield 23, 3) := by decide +kernel
theorem dX2_copy_32 : decode cX2_copy 32 = .ok (.aload_n 0, 1) := by decide +kernel
theorem dX2_copy_33 : decode cX2_copy 33 = .ok (.getfield 9, 3) := by decide +kernel
theorem dX2_copy_36 : decode cX2_copy 36 = .ok (.astore_n 2, 1) := by decide +kernel
theorem dX2_copy_37 : decode cX2_copy 37 = .ok (.aload_n 2, 1) := by decide +kernel
theorem dX2_copy_38 : decode cX2_copy 38 = .ok (.arraylength, 1) := by decide +kernel
theorem dX2_copy_39 : decode cX2_copy 39 = .ok (.istore_n 3, 1) := by decide +kernel
theorem dX2_copy_40 : decode cX2_copy 40 = .ok (.iconst 0, 1) := by decide +kernel
theorem dX2_copy_41 : decode cX2_copy 41 = .ok (.istore 4, 2) := by decide +kernel
theorem dX2_copy_43 : decode cX2_copy 43 = .ok (.iload 4, 2) := by decide +kernel
theorem dX2_copy_45 : decode cX2_copy 45 = .ok (.iload_n 3, 1) := by decide +kernel
theorem dX2_copy_46 : decode cX2_copy 46 = .ok (.if_icmp .ge 34, 3) := by decide +kernel
theorem dX2_copy_49 : decode cX2_copy 49 = .ok (.aload_n 2, 1) := by decide +kernel
theorem dX2_copy_50 : decode cX2_copy 50 = .ok (.iload 4, 2) := by decide +kernel
theorem dX2_copy_52 : decode cX2_copy 52 = .ok (.aaload, 1) := by decide +kernel
theorem dX2_copy_53 : decode cX2_copy 53 = .ok (.astore 5, 2) := by decide +kernel
theorem dX2_copy_55 : decode cX2_copy 55 = .ok (.aload_n 1, 1) := by decide +kernel
theorem dX2_copy_56 : decode cX2_copy 56 = .ok (.aload_n 1, 1) := by decide +kernel
theorem dX2_copy_57 : decode cX2_copy 57 = .ok (.getfield 9, 3) := by decide +kernel
theorem dX2_copy_60 : decode cX2_copy 60 = .ok (.aload 5, 2) := by decide +kernel
theorem dX2_copy_62 : decode cX2_copy 62 = .ok (.invokevirtual 26, 3) := by decide +kernel
theorem dX2_copy_65 : decode cX2_copy 65 = .ok (.checkcast 7, 3) := by decide +kernel
theorem dX2_copy_68 : decode cX2_copy 68 = .ok (.invokestatic 30, 3) := by decide +kernel
theorem dX2_copy_71 : decode cX2_copy 71 = .ok (.putfield 9, 3) := by decide +kernel
theorem dX2_copy_74 : decode cX2_copy 74 = .ok (.iinc 4 1, 3) := by decide +kernel
theorem dX2_copy_77 : decode cX2_copy 77 = .ok (.goto (-34), 3) := by decide +kernel
theorem dX2_copy_80 : decode cX2_copy 80 = .ok (.aload_n 1, 1) := by decide +kernel
theorem dX2_copy_81 : decode cX2_copy 81 = .ok (.areturn, 1) := by decide +kernel
theorem dX2_cast_0 : decode cX2_cast 0 = .ok (.iload_n 1, 1) := by decide +kernel
theorem dX2_cast_1 : decode cX2_cast 1 = .ok (.bipush 7, 2) := by decide +kernel
theorem dX2_cast_3 : decode cX2_cast 3 = .ok (.if_icmp .lt 9, 3) := by decide +kernel
theorem dX2_cast_6 : decode cX2_cast 6 = .ok (.iload_n 1, 1) := by decide +kernel
theorem dX2_cast_7 : decode cX2_cast 7 = .ok (.bipush 17, 2) := by decide +kernel
theorem dX2_cast_9 : decode cX2_cast 9 = .ok (.if_icmp .le 5, 3) := by decide +kernel
theorem dX2_cast_12 : decode cX2_cast 12 = .ok (.iconst 0, 1) := by decide +kernel
theorem dX2_cast_13 : decode cX2_cast 13 = .ok (.ireturn, 1) := by decide +kernel
theorem dX2_cast_14 : decode cX2_cast 14 = .ok (.iload_n 0, 1) := by decide +kernel
theorem dX2_cast_15 : decode cX2_cast 15 = .ok (.iload_n 1, 1) := by decide +kernel
theorem dX2_cast_16 : decode cX2_cast 16 = .ok (.bipush 12, 2) := by decide +kernel
theorem dX2_cast_18 : decode cX2_cast 18 = .ok (.if_icmp .le 10, 3) := by decide +kernel
theorem dX2_cast_21 : decode cX2_cast 21 = .ok (.iload_n 1, 1) := by decide +kernel
theorem dX2_cast_22 : decode cX2_cast 22 = .ok (.bipush 12, 2) := by decide +kernel
theorem dX2_cast_24 : decode cX2_cast 24 = .ok (.isub, 1) := by decide +kernel
theorem dX2_cast_25 : decode cX2_cast 25 = .ok (.goto 7, 3) := by decide +kernel
theorem dX2_cast_28 : decode cX2_cast 28 = .ok (.bipush 12, 2) := by decide +kernel
theorem dX2_cast_30 : decode cX2_cast 30 = .ok (.iload_n 1, 1) := by decide +kernel
theorem dX2_cast_31 : decode cX2_cast 31 = .ok (.isub, 1) := by decide +kernel
theorem dX2_cast_32 : decode cX2_cast 32 = .ok (.imul, 1) := by decide +kernel
theorem dX2_cast_33 : decode cX2_cast 33 = .ok (.iconst 2, 1) := by decide +kernel
theorem dX2_cast_34 : decode cX2_cast 34 = .ok (.idiv, 1) := by decide +kernel
theorem dX2_cast_35 : decode cX2_cast 35 = .ok (.ireturn, 1) := by decide +kernel
theorem dX2_hatOn_0 : decode cX2_hatOn 0 = .ok (.aload_n 0, 1) := by decide +kernel
theorem dX2_hatOn_1 : decode cX2_hatOn 1 = .ok (.getfield 9, 3) := by decide +kernel
theorem dX2_hatOn_4 : decode cX2_hatOn 4 = .ok (.iload_n 1, 1) := by decide +kernel
theorem dX2_hatOn_5 : decode cX2_hatOn 5 = .ok (.aaload, 1) := by decide +kernel
theorem dX2_hatOn_6 : decode cX2_hatOn 6 = .ok (.iconst 4, 1) := by decide +kernel
theorem dX2_hatOn_7 : decode cX2_hatOn 7 = .ok (.iaload, 1) := by decide +kernel
theorem dX2_hatOn_8 : decode cX2_hatOn 8 = .ok (.ifCond .ge 7, 3) := by decide +kernel
theorem dX2_hatOn_11 : decode cX2_hatOn 11 = .ok (.iconst 0, 1) := by decide +kernel
theorem dX2_hatOn_12 : decode cX2_hatOn 12 = .ok (.goto 18, 3) := by decide +kernel
theorem dX2_hatOn_15 : decode cX2_hatOn 15 = .ok (.aload_n 0, 1) := by decide +kernel
theorem dX2_hatOn_16 : decode cX2_hatOn 16 = .ok (.getfield 9, 3) := by decide +kernel
theorem dX2_hatOn_19 : decode cX2_hatOn 19 = .ok (.aload_n 0, 1) := by decide +kernel
theorem dX2_hatOn_20 : decode cX2_hatOn 20 = .ok (.getfield 9, 3) := by decide +kernel
theorem dX2_hatOn_23 : decode cX2_hatOn 23 = .ok (.iload_n 1, 1) := by decide +kernel
theorem dX2_hatOn_24 : decode cX2_hatOn 24 = .ok (.aaload, 1) := by decide +kernel
theorem dX2_hatOn_25 : decode cX2_hatOn 25 = .ok (.iconst 4, 1) := by decide +kernel
theorem dX2_hatOn_26 : decode cX2_hatOn 26 = .ok (.iaload, 1) := by decide +kernel
theorem dX2_hatOn_27 : decode cX2_hatOn 27 = .ok (.aaload, 1) := by decide +kernel
theorem dX2_hatOn_28 : decode cX2_hatOn 28 = .ok (.iconst 1, 1) := by decide +kernel
theorem dX2_hatOn_29 : decode cX2_hatOn 29 = .ok (.iaload, 1) := by decide +kernel
theorem dX2_hatOn_30 : decode cX2_hatOn 30 = .ok (.ireturn, 1) := by decide +kernel
set_option maxRecDepth 20000 in
theorem ggX2_shadow_X2_hatOn : GoodIn wsX2_shadow wsX2_hatOn := goodIn_r _ [7, 1, 11, 12, 13, 14] (by decide +kernel) (by decide +kernel)
set_option maxRecDepth 20000 in
theorem gX2_shadow_X2_hatOn : GoodIn wsX2_shadow (wsV RX2 34 RX2 yX2_hatOn wsX2_hatOn) := goodIn_app (goodIn_of _ (by decide +kernel)) ggX2_shadow_X2_hatOn
set_option maxRecDepth 20000 in
theorem ggX2_shadow_X2_cast : GoodIn wsX2_shadow wsX2_cast := goodIn_r _ [10] (by decide +kernel) (by decide +kernel)
set_option maxRecDepth 20000 in
theorem gX2_shadow_X2_cast : GoodIn wsX2_shadow (va_wsS RX2 38 yX2_cast wsX2_cast) := goodIn_app (goodIn_of _ (by decide +kernel)) ggX2_shadow_X2_cast
theorem dX2_shadow_0 : decode cX2_shadow 0 = .ok (.aload_n 0, 1) := by decide +kernel
theorem dX2_shadow_1 : decode cX2_shadow 1 = .ok (.getfield 9, 3) := by decide +kernel
theorem dX2_shadow_4 : decode cX2_shadow 4 = .ok (.iload_n 1, 1) := by decide +kernel
theorem dX2_shadow_5 : decode cX2_shadow 5 = .ok (.aaload, 1) := by decide +kernel
theorem dX2_shadow_6 : decode cX2_shadow 6 = .ok (.iconst 0, 1) := by decide +kernel
theorem dX2_shadow_7 : decode cX2_shadow 7 = .ok (.iaload, 1) := by decide +kernel
theorem dX2_shadow_8 : decode cX2_shadow 8 = .ok (.aload_n 0, 1) := by decide +kernel
theorem dX2_shadow_9 : decode cX2_shadow 9 = .ok (.iload_n 1, 1) := by decide +kernel
theorem dX2_shadow_10 : decode cX2_shadow 10 = .ok (.invokevirtual 34, 3) := by decide +kernel
theorem dX2_shadow_13 : decode cX2_shadow 13 = .ok (.iadd, 1) := by decide +kernel
theorem dX2_shadow_14 : decode cX2_shadow 14 = .ok (.aload_n 0, 1) := by decide +kernel
theorem dX2_shadow_15 : decode cX2_shadow 15 = .ok (.getfield 16, 3) := by decide +kernel
theorem dX2_shadow_18 : decode cX2_shadow 18 = .ok (.bipush 24, 2) := by decide +kernel
theorem dX2_shadow_20 : decode cX2_shadow 20 = .ok (.irem, 1) := by decide +kernel
theorem dX2_shadow_21 : decode cX2_shadow 21 = .ok (.invokestatic 38, 3) := by decide +kernel
theorem dX2_shadow_24 : decode cX2_shadow 24 = .ok (.iconst 3, 1) := by decide +kernel
theorem dX2_shadow_25 : decode cX2_shadow 25 = .ok (.aload_n 0, 1) := by decide +kernel
theorem dX2_shadow_26 : decode cX2_shadow 26 = .ok (.getfield 9, 3) := by decide +kernel
theorem dX2_shadow_29 : decode cX2_shadow 29 = .ok (.iload_n 1, 1) := by decide +kernel
theorem dX2_shadow_30 : decode cX2_shadow 30 = .ok (.aaload, 1) := by decide +kernel
theorem dX2_shadow_31 : decode cX2_shadow 31 = .ok (.iconst 3, 1) := by decide +kernel
theorem dX2_shadow_32 : decode cX2_shadow 32 = .ok (.iaload, 1) := by decide +kernel
theorem dX2_shadow_33 : decode cX2_shadow 33 = .ok (.imul, 1) := by decide +kernel
theorem dX2_shadow_34 : decode cX2_shadow 34 = .ok (.iadd, 1) := by decide +kernel
theorem dX2_shadow_35 : decode cX2_shadow 35 = .ok (.ireturn, 1) := by decide +kernel
set_option maxRecDepth 20000 in
theorem ggX2_honest_X2_cast : GoodIn wsX2_honest wsX2_cast := goodIn_r _ [5] (by decide +kernel) (by decide +kernel)
set_option maxRecDepth 20000 in
theorem gX2_honest_X2_cast : GoodIn wsX2_honest (va_wsS RX2 38 yX2_cast wsX2_cast) := goodIn_app (goodIn_of _ (by decide +kernel)) ggX2_honest_X2_cast
theorem dX2_honest_0 : decode cX2_honest 0 = .ok (.aload_n 0, 1) := by decide +kernel
theorem dX2_honest_1 : decode cX2_honest 1 = .ok (.getfield 9, 3) := by decide +kernel
theorem dX2_honest_4 : decode cX2_honest 4 = .ok (.iload_n 1, 1) := by decide +kernel
theorem dX2_honest_5 : decode cX2_honest 5 = .ok (.aaload, 1) := by decide +kernel
theorem dX2_honest_6 : decode cX2_honest 6 = .ok (.iconst 0, 1) := by decide +kernel
theorem dX2_honest_7 : decode cX2_honest 7 = .ok (.iaload, 1) := by decide +kernel
theorem dX2_honest_8 : decode cX2_honest 8 = .ok (.aload_n 0, 1) := by decide +kernel
theorem dX2_honest_9 : decode cX2_honest 9 = .ok (.getfield 9, 3) := by decide +kernel
theorem dX2_honest_12 : decode cX2_honest 12 = .ok (.iload_n 1, 1) := by decide +kernel
theorem dX2_honest_13 : decode cX2_honest 13 = .ok (.aaload, 1) := by decide +kernel
theorem dX2_honest_14 : decode cX2_honest 14 = .ok (.iconst 1, 1) := by decide +kernel
theorem dX2_honest_15 : decode cX2_honest 15 = .ok (.iaload, 1) := by decide +kernel
theorem dX2_honest_16 : decode cX2_honest 16 = .ok (.iadd, 1) := by decide +kernel
theorem dX2_honest_17 : decode cX2_honest 17 = .ok (.iload_n 2, 1) := by decide +kernel
theorem dX2_honest_18 : decode cX2_honest 18 = .ok (.invokestatic 38, 3) := by decide +kernel
theorem dX2_honest_21 : decode cX2_honest 21 = .ok (.ireturn, 1) := by decide +kernel
set_option maxRecDepth 20000 in
theorem ggX2_isHonest_X2_honest : GoodIn wsX2_isHonest wsX2_honest := goodIn_r _ [6, 1, 7, 8, 5, 9, 10, 11, 12, 13] (by decide +kernel) (by decide +kernel)
set_option maxRecDepth 20000 in
theorem gX2_isHonest_X2_honest : GoodIn wsX2_isHonest (wsV RX2 42 RX2 yX2_honest wsX2_honest) := goodIn_app (goodIn_of _ (by decide +kernel)) ggX2_isHonest_X2_honest
theorem dX2_isHonest_0 : decode cX2_isHonest 0 = .ok (.aload_n 0, 1) := by decide +kernel
theorem dX2_isHonest_1 : decode cX2_isHonest 1 = .ok (.getfield 9, 3) := by decide +kernel
theorem dX2_isHonest_4 : decode cX2_isHonest 4 = .ok (.iload_n 1, 1) := by decide +kernel
theorem dX2_isHonest_5 : decode cX2_isHonest 5 = .ok (.aaload, 1) := by decide +kernel
theorem dX2_isHonest_6 : decode cX2_isHonest 6 = .ok (.iconst 5, 1) := by decide +kernel
theorem dX2_isHonest_7 : decode cX2_isHonest 7 = .ok (.iaload, 1) := by decide +kernel
theorem dX2_isHonest_8 : decode cX2_isHonest 8 = .ok (.aload_n 0, 1) := by decide +kernel
theorem dX2_isHonest_9 : decode cX2_isHonest 9 = .ok (.iload_n 1, 1) := by decide +kernel
theorem dX2_isHonest_10 : decode cX2_isHonest 10 = .ok (.aload_n 0, 1) := by decide +kernel
theorem dX2_isHonest_11 : decode cX2_isHonest 11 = .ok (.getfield 9, 3) := by decide +kernel
theorem dX2_isHonest_14 : decode cX2_isHonest 14 = .ok (.iload_n 1, 1) := by decide +kernel
theorem dX2_isHonest_15 : decode cX2_isHonest 15 = .ok (.aaload, 1) := by decide +kernel
theorem dX2_isHonest_16 : decode cX2_isHonest 16 = .ok (.bipush 6, 2) := by decide +kernel
theorem dX2_isHonest_18 : decode cX2_isHonest 18 = .ok (.iaload, 1) := by decide +kernel
theorem dX2_isHonest_19 : decode cX2_isHonest 19 = .ok (.invokevirtual 42, 3) := by decide +kernel
theorem dX2_isHonest_22 : decode cX2_isHonest 22 = .ok (.if_icmp .ne 7, 3) := by decide +kernel
theorem dX2_isHonest_25 : decode cX2_isHonest 25 = .ok (.iconst 1, 1) := by decide +kernel
theorem dX2_isHonest_26 : decode cX2_isHonest 26 = .ok (.goto 4, 3) := by decide +kernel
theorem dX2_isHonest_29 : decode cX2_isHonest 29 = .ok (.iconst 0, 1) := by decide +kernel
theorem dX2_isHonest_30 : decode cX2_isHonest 30 = .ok (.ireturn, 1) := by decide +kernel
theorem dX2_wearer_0 : decode cX2_wearer 0 = .ok (.iconst 0, 1) := by decide +kernel
theorem dX2_wearer_1 : decode cX2_wearer 1 = .ok (.istore_n 2, 1) := by decide +kernel
theorem dX2_wearer_2 : decode cX2_wearer 2 = .ok (.iload_n 2, 1) := by decide +kernel
theorem dX2_wearer_3 : decode cX2_wearer 3 = .ok (.aload_n 0, 1) := by decide +kernel
theorem dX2_wearer_4 : decode cX2_wearer 4 = .ok (.getfield 9, 3) := by decide +kernel
theorem dX2_wearer_7 : decode cX2_wearer 7 = .ok (.arraylength, 1) := by decide +kernel
theorem dX2_wearer_8 : decode cX2_wearer 8 = .ok (.if_icmp .ge 23, 3) := by decide +kernel
theorem dX2_wearer_11 : decode cX2_wearer 11 = .ok (.aload_n 0, 1) := by decide +kernel
theorem dX2_wearer_12 : decode cX2_wearer 12 = .ok (.getfield 9, 3) := by decide +kernel
theorem dX2_wearer_15 : decode cX2_wearer 15 = .ok (.iload_n 2, 1) := by decide +kernel
theorem dX2_wearer_16 : decode cX2_wearer 16 = .ok (.aaload, 1) := by decide +kernel
theorem dX2_wearer_17 : decode cX2_wearer 17 = .ok (.iconst 4, 1) := by decide +kernel
theorem dX2_wearer_18 : decode cX2_wearer 18 = .ok (.iaload, 1) := by decide +kernel
theorem dX2_wearer_19 : decode cX2_wearer 19 = .ok (.iload_n 1, 1) := by decide +kernel
theorem dX2_wearer_20 : decode cX2_wearer 20 = .ok (.if_icmp .ne 5, 3) := by decide +kernel
theorem dX2_wearer_23 : decode cX2_wearer 23 = .ok (.iload_n 2, 1) := by decide +kernel
theorem dX2_wearer_24 : decode cX2_wearer 24 = .ok (.ireturn, 1) := by decide +kernel
theorem dX2_wearer_25 : decode cX2_wearer 25 = .ok (.iinc 2 1, 3) := by decide +kernel
theorem dX2_wearer_28 : decode cX2_wearer 28 = .ok (.goto (-26), 3) := by decide +kernel
theorem dX2_wearer_31 : decode cX2_wearer 31 = .ok (.iconst (-1), 1) := by decide +kernel
theorem dX2_wearer_32 : decode cX2_wearer 32 = .ok (.ireturn, 1) := by decide +kernel
theorem dX2_canBorrow_0 : decode cX2_canBorrow 0 = .ok (.iload_n 1, 1) := by decide +kernel
theorem dX2_canBorrow_1 : decode cX2_canBorrow 1 = .ok (.iload_n 2, 1) := by decide +kernel
theorem dX2_canBorrow_2 : decode cX2_canBorrow 2 = .ok (.if_icmp .eq 53, 3) := by decide +kernel
theorem dX2_canBorrow_5 : decode cX2_canBorrow 5 = .ok (.aload_n 0, 1) := by decide +kernel
theorem dX2_canBorrow_6 : decode cX2_canBorrow 6 = .ok (.getfield 9, 3) := by decide +kernel
theorem dX2_canBorrow_9 : decode cX2_canBorrow 9 = .ok (.iload_n 2, 1) := by decide +kernel
theorem dX2_canBorrow_10 : decode cX2_canBorrow 10 = .ok (.aaload, 1) := by decide +kernel
theorem dX2_canBorrow_11 : decode cX2_canBorrow 11 = .ok (.iconst 1, 1) := by decide +kernel
theorem dX2_canBorrow_12 : decode cX2_canBorrow 12 = .ok (.iaload, 1) := by decide +kernel
theorem dX2_canBorrow_13 : decode cX2_canBorrow 13 = .ok (.ifCond .le 42, 3) := by decide +kernel
theorem dX2_canBorrow_16 : decode cX2_canBorrow 16 = .ok (.aload_n 0, 1) := by decide +kernel
theorem dX2_canBorrow_17 : decode cX2_canBorrow 17 = .ok (.getfield 9, 3) := by decide +kernel
theorem dX2_canBorrow_20 : decode cX2_canBorrow 20 = .ok (.iload_n 2, 1) := by decide +kernel
theorem dX2_canBorrow_21 : decode cX2_canBorrow 21 = .ok (.aaload, 1) := by decide +kernel
theorem dX2_canBorrow_22 : decode cX2_canBorrow 22 = .ok (.iconst 4, 1) := by decide +kernel
theorem dX2_canBorrow_23 : decode cX2_canBorrow 23 = .ok (.iaload, 1) := by decide +kernel
theorem dX2_canBorrow_24 : decode cX2_canBorrow 24 = .ok (.iload_n 2, 1) := by decide +kernel
theorem dX2_canBorrow_25 : decode cX2_canBorrow 25 = .ok (.if_icmp .ne 30, 3) := by decide +kernel
theorem dX2_canBorrow_28 : decode cX2_canBorrow 28 = .ok (.aload_n 0, 1) := by decide +kernel
theorem dX2_canBorrow_29 : decode cX2_canBorrow 29 = .ok (.getfield 9, 3) := by decide +kernel
theorem dX2_canBorrow_32 : decode cX2_canBorrow 32 = .ok (.iload_n 1, 1) := by decide +kernel
theorem dX2_canBorrow_33 : decode cX2_canBorrow 33 = .ok (.aaload, 1) := by decide +kernel
theorem dX2_canBorrow_34 : decode cX2_canBorrow 34 = .ok (.iconst 4, 1) := by decide +kernel
theorem dX2_canBorrow_35 : decode cX2_canBorrow 35 = .ok (.iaload, 1) := by decide +kernel
theorem dX2_canBorrow_36 : decode cX2_canBorrow 36 = .ok (.ifCond .lt 15, 3) := by decide +kernel
theorem dX2_canBorrow_39 : decode cX2_canBorrow 39 = .ok (.aload_n 0, 1) := by decide +kernel
theorem dX2_canBorrow_40 : decode cX2_canBorrow 40 = .ok (.getfield 9, 3) := by decide +kernel
theorem dX2_canBorrow_43 : decode cX2_canBorrow 43 = .ok (.iload_n 1, 1) := by decide +kernel
theorem dX2_canBorrow_44 : decode cX2_canBorrow 44 = .ok (.aaload, 1) := by decide +kernel
theorem dX2_canBorrow_45 : decode cX2_canBorrow 45 = .ok (.iconst 4, 1) := by decide +kernel
theorem dX2_canBorrow_46 : decode cX2_canBorrow 46 = .ok (.iaload, 1) := by decide +kernel
theorem dX2_canBorrow_47 : decode cX2_canBorrow 47 = .ok (.iload_n 1, 1) := by decide +kernel
theorem dX2_canBorrow_48 : decode cX2_canBorrow 48 = .ok (.if_icmp .ne 7, 3) := by decide +kernel
theorem dX2_canBorrow_51 : decode cX2_canBorrow 51 = .ok (.iconst 1, 1) := by decide +kernel
theorem dX2_canBorrow_52 : decode cX2_canBorrow 52 = .ok (.goto 4, 3) := by decide +kernel
theorem dX2_canBorrow_55 : decode cX2_canBorrow 55 = .ok (.iconst 0, 1) := by decide +kernel
theorem dX2_canBorrow_56 : decode cX2_canBorrow 56 = .ok (.ireturn, 1) := by decide +kernel
theorem dX2_borrow_0 : decode cX2_borrow 0 = .ok (.aload_n 0, 1) := by decide +kernel
theorem dX2_borrow_1 : decode cX2_borrow 1 = .ok (.getfield 9, 3) := by decide +kernel
theorem dX2_borrow_4 : decode cX2_borrow 4 = .ok (.iload_n 2, 1) := by decide +kernel
theorem dX2_borrow_5 : decode cX2_borrow 5 = .ok (.aaload, 1) := by decide +kernel
theorem dX2_borrow_6 : decode cX2_borrow 6 = .ok (.iconst 4, 1) := by decide +kernel
theorem dX2_borrow_7 : decode cX2_borrow 7 = .ok (.iconst (-1), 1) := by decide +kernel
theorem dX2_borrow_8 : decode cX2_borrow 8 = .ok (.iastore, 1) := by decide +kernel
theorem dX2_borrow_9 : decode cX2_borrow 9 = .ok (.aload_n 0, 1) := by decide +kernel
theorem dX2_borrow_10 : decode cX2_borrow 10 = .ok (.getfield 9, 3) := by decide +kernel
theorem dX2_borrow_13 : decode cX2_borrow 13 = .ok (.iload_n 1, 1) := by decide +kernel
theorem dX2_borrow_14 : decode cX2_borrow 14 = .ok (.aaload, 1) := by decide +kernel
theorem dX2_borrow_15 : decode cX2_borrow 15 = .ok (.iconst 4, 1) := by decide +kernel
theorem dX2_borrow_16 : decode cX2_borrow 16 = .ok (.iload_n 2, 1) := by decide +kernel
theorem dX2_borrow_17 : decode cX2_borrow 17 = .ok (.iastore, 1) := by decide +kernel
theorem dX2_borrow_18 : decode cX2_borrow 18 = .ok (.return_, 1) := by decide +kernel
set_option maxRecDepth 20000 in
theorem ggX2_giveBack_X2_wearer : GoodIn wsX2_giveBack wsX2_wearer := goodIn_r _ [6, 1, 7, 8, 9, 10] (by decide +kernel) (by decide +kernel)
set_option maxRecDepth 20000 in
theorem gX2_giveBack_X2_wearer : GoodIn wsX2_giveBack (wsV RX2 45 RX2 yX2_wearer wsX2_wearer) := goodIn_app (goodIn_of _ (by decide +kernel)) ggX2_giveBack_X2_wearer
theorem dX2_giveBack_0 : decode cX2_giveBack 0 = .ok (.aload_n 0, 1) := by decide +kernel
theorem dX2_giveBack_1 : decode cX2_giveBack 1 = .ok (.getfield 9, 3) := by decide +kernel
theorem dX2_giveBack_4 : decode cX2_giveBack 4 = .ok (.iload_n 1, 1) := by decide +kernel
theorem dX2_giveBack_5 : decode cX2_giveBack 5 = .ok (.aaload, 1) := by decide +kernel
theorem dX2_giveBack_6 : decode cX2_giveBack 6 = .ok (.iconst 4, 1) := by decide +kernel
theorem dX2_giveBack_7 : decode cX2_giveBack 7 = .ok (.iaload, 1) := by decide +kernel
theorem dX2_giveBack_8 : decode cX2_giveBack 8 = .ok (.istore_n 2, 1) := by decide +kernel
theorem dX2_giveBack_9 : decode cX2_giveBack 9 = .ok (.aload_n 0, 1) := by decide +kernel
theorem dX2_giveBack_10 : decode cX2_giveBack 10 = .ok (.getfield 9, 3) := by decide +kernel
theorem dX2_giveBack_13 : decode cX2_giveBack 13 = .ok (.iload_n 1, 1) := by decide +kernel
theorem dX2_giveBack_14 : decode cX2_giveBack 14 = .ok (.aaload, 1) := by decide +kernel
theorem dX2_giveBack_15 : decode cX2_giveBack 15 = .ok (.iconst 4, 1) := by decide +kernel
theorem dX2_giveBack_16 : decode cX2_giveBack 16 = .ok (.iconst (-1), 1) := by decide +kernel
theorem dX2_giveBack_17 : decode cX2_giveBack 17 = .ok (.iastore, 1) := by decide +kernel
theorem dX2_giveBack_18 : decode cX2_giveBack 18 = .ok (.aload_n 0, 1) := by decide +kernel
theorem dX2_giveBack_19 : decode cX2_giveBack 19 = .ok (.getfield 9, 3) := by decide +kernel
theorem dX2_giveBack_22 : decode cX2_giveBack 22 = .ok (.iload_n 1, 1) := by decide +kernel
theorem dX2_giveBack_23 : decode cX2_giveBack 23 = .ok (.aaload, 1) := by decide +kernel
theorem dX2_giveBack_24 : decode cX2_giveBack 24 = .ok (.iconst 1, 1) := by decide +kernel
theorem dX2_giveBack_25 : decode cX2_giveBack 25 = .ok (.iaload, 1) := by decide +kernel
theorem dX2_giveBack_26 : decode cX2_giveBack 26 = .ok (.ifCond .le 20, 3) := by decide +kernel
theorem dX2_giveBack_29 : decode cX2_giveBack 29 = .ok (.aload_n 0, 1) := by decide +kernel
theorem dX2_giveBack_30 : decode cX2_giveBack 30 = .ok (.iload_n 1, 1) := by decide +kernel
theorem dX2_giveBack_31 : decode cX2_giveBack 31 = .ok (.invokevirtual 45, 3) := by decide +kernel
theorem dX2_giveBack_34 : decode cX2_giveBack 34 = .ok (.ifCond .ge 12, 3) := by decide +kernel
theorem dX2_giveBack_37 : decode cX2_giveBack 37 = .ok (.aload_n 0, 1) := by decide +kernel
theorem dX2_giveBack_38 : decode cX2_giveBack 38 = .ok (.getfield 9, 3) := by decide +kernel
theorem dX2_giveBack_41 : decode cX2_giveBack 41 = .ok (.iload_n 1, 1) := by decide +kernel
theorem dX2_giveBack_42 : decode cX2_giveBack 42 = .ok (.aaload, 1) := by decide +kernel
theorem dX2_giveBack_43 : decode cX2_giveBack 43 = .ok (.iconst 4, 1) := by decide +kernel
theorem dX2_giveBack_44 : decode cX2_giveBack 44 = .ok (.iload_n 1, 1) := by decide +kernel
theorem dX2_giveBack_45 : decode cX2_giveBack 45 = .ok (.iastore, 1) := by decide +kernel
theorem dX2_giveBack_46 : decode cX2_giveBack 46 = .ok (.aload_n 0, 1) := by decide +kernel
theorem dX2_giveBack_47 : decode cX2_giveBack 47 = .ok (.getfield 9, 3) := by decide +kernel
theorem dX2_giveBack_50 : decode cX2_giveBack 50 = .ok (.iload_n 2, 1) := by decide +kernel
theorem dX2_giveBack_51 : decode cX2_giveBack 51 = .ok (.aaload, 1) := by decide +kernel
theorem dX2_giveBack_52 : decode cX2_giveBack 52 = .ok (.iconst 4, 1) := by decide +kernel
theorem dX2_giveBack_53 : decode cX2_giveBack 53 = .ok (.iaload, 1) := by decide +kernel
theorem dX2_giveBack_54 : decode cX2_giveBack 54 = .ok (.ifCond .ge 12, 3) := by decide +kernel
theorem dX2_giveBack_57 : decode cX2_giveBack 57 = .ok (.aload_n 0, 1) := by decide +kernel
theorem dX2_giveBack_58 : decode cX2_giveBack 58 = .ok (.getfield 9, 3) := by decide +kernel
theorem dX2_giveBack_61 : decode cX2_giveBack 61 = .ok (.iload_n 2, 1) := by decide +kernel
theorem dX2_giveBack_62 : decode cX2_giveBack 62 = .ok (.aaload, 1) := by decide +kernel
theorem dX2_giveBack_63 : decode cX2_giveBack 63 = .ok (.iconst 4, 1) := by decide +kernel
theorem dX2_giveBack_64 : decode cX2_giveBack 64 = .ok (.iload_n 2, 1) := by decide +kernel
theorem dX2_giveBack_65 : decode cX2_giveBack 65 = .ok (.iastore, 1) := by decide +kernel
theorem dX2_giveBack_66 : decode cX2_giveBack 66 = .ok (.iload_n 2, 1) := by decide +kernel
theorem dX2_giveBack_67 : decode cX2_giveBack 67 = .ok (.ireturn, 1) := by decide +kernel
set_option maxRecDepth 20000 in
theorem ggX2_pass_X2_isHonest : GoodIn wsX2_pass wsX2_isHonest := goodIn_r _ [9, 3, 10, 11, 12, 8, 13, 14, 15, 16, 17, 18, 19, 20] (by decide +kernel) (by decide +kernel)
set_option maxRecDepth 20000 in
theorem gX2_pass_X2_isHonest : GoodIn wsX2_pass (wsV RX2 48 RX2 yX2_isHonest wsX2_isHonest) := goodIn_app (goodIn_of _ (by decide +kernel)) ggX2_pass_X2_isHonest
theorem dX2_pass_0 : decode cX2_pass 0 = .ok (.aload_n 0, 1) := by decide +kernel
theorem dX2_pass_1 : decode cX2_pass 1 = .ok (.getfield 23, 3) := by decide +kernel
theorem dX2_pass_4 : decode cX2_pass 4 = .ok (.istore_n 2, 1) := by decide +kernel
theorem dX2_pass_5 : decode cX2_pass 5 = .ok (.iconst 0, 1) := by decide +kernel
theorem dX2_pass_6 : decode cX2_pass 6 = .ok (.istore_n 3, 1) := by decide +kernel
theorem dX2_pass_7 : decode cX2_pass 7 = .ok (.iload_n 3, 1) := by decide +kernel
theorem dX2_pass_8 : decode cX2_pass 8 = .ok (.iload_n 1, 1) := by decide +kernel
theorem dX2_pass_9 : decode cX2_pass 9 = .ok (.if_icmp .ge 249, 3) := by decide +kernel
theorem dX2_pass_12 : decode cX2_pass 12 = .ok (.aload_n 0, 1) := by decide +kernel
theorem dX2_pass_13 : decode cX2_pass 13 = .ok (.dup, 1) := by decide +kernel
theorem dX2_pass_14 : decode cX2_pass 14 = .ok (.getfield 16, 3) := by decide +kernel
theorem dX2_pass_17 : decode cX2_pass 17 = .ok (.iconst 1, 1) := by decide +kernel
theorem dX2_pass_18 : decode cX2_pass 18 = .ok (.iadd, 1) := by decide +kernel
theorem dX2_pass_19 : decode cX2_pass 19 = .ok (.putfield 16, 3) := by decide +kernel
theorem dX2_pass_22 : decode cX2_pass 22 = .ok (.aload_n 0, 1) := by decide +kernel
theorem dX2_pass_23 : decode cX2_pass 23 = .ok (.getfield 16, 3) := by decide +kernel
theorem dX2_pass_26 : decode cX2_pass 26 = .ok (.bipush 24, 2) := by decide +kernel
theorem dX2_pass_28 : decode cX2_pass 28 = .ok (.irem, 1) := by decide +kernel
theorem dX2_pass_29 : decode cX2_pass 29 = .ok (.bipush 12, 2) := by decide +kernel
theorem dX2_pass_31 : decode cX2_pass 31 = .ok (.if_icmp .eq 6, 3) := by decide +kernel
theorem dX2_pass_34 : decode cX2_pass 34 = .ok (.goto 218, 3) := by decide +kernel
theorem dX2_pass_37 : decode cX2_pass 37 = .ok (.aload_n 0, 1) := by decide +kernel
theorem dX2_pass_38 : decode cX2_pass 38 = .ok (.getfield 9, 3) := by decide +kernel
theorem dX2_pass_41 : decode cX2_pass 41 = .ok (.astore 4, 2) := by decide +kernel
theorem dX2_pass_43 : decode cX2_pass 43 = .ok (.aload 4, 2) := by decide +kernel
theorem dX2_pass_45 : decode cX2_pass 45 = .ok (.arraylength, 1) := by decide +kernel
theorem dX2_pass_46 : decode cX2_pass 46 = .ok (.istore 5, 2) := by decide +kernel
theorem dX2_pass_48 : decode cX2_pass 48 = .ok (.iconst 0, 1) := by decide +kernel
theorem dX2_pass_49 : decode cX2_pass 49 = .ok (.istore 6, 2) := by decide +kernel
theorem dX2_pass_51 : decode cX2_pass 51 = .ok (.iload 6, 2) := by decide +kernel
theorem dX2_pass_53 : decode cX2_pass 53 = .ok (.iload 5, 2) := by decide +kernel
theorem dX2_pass_55 : decode cX2_pass 55 = .ok (.if_icmp .ge 55, 3) := by decide +kernel
theorem dX2_pass_58 : decode cX2_pass 58 = .ok (.aload 4, 2) := by decide +kernel
theorem dX2_pass_60 : decode cX2_pass 60 = .ok (.iload 6, 2) := by decide +kernel
theorem dX2_pass_62 : decode cX2_pass 62 = .ok (.aaload, 1) := by decide +kernel
theorem dX2_pass_63 : decode cX2_pass 63 = .ok (.astore 7, 2) := by decide +kernel
theorem dX2_pass_65 : decode cX2_pass 65 = .ok (.aload_n 0, 1) := by decide +kernel
theorem dX2_pass_66 : decode cX2_pass 66 = .ok (.dup, 1) := by decide +kernel
theorem dX2_pass_67 : decode cX2_pass 67 = .ok (.getfield 20, 3) := by decide +kernel
theorem dX2_pass_70 : decode cX2_pass 70 = .ok (.aload 7, 2) := by decide +kernel
theorem dX2_pass_72 : decode cX2_pass 72 = .ok (.iconst 3, 1) := by decide +kernel
theorem dX2_pass_73 : decode cX2_pass 73 = .ok (.iaload, 1) := by decide +kernel
theorem dX2_pass_74 : decode cX2_pass 74 = .ok (.ifCond .le 7, 3) := by decide +kernel
theorem dX2_pass_77 : decode cX2_pass 77 = .ok (.iconst 1, 1) := by decide +kernel
theorem dX2_pass_78 : decode cX2_pass 78 = .ok (.goto 4, 3) := by decide +kernel
theorem dX2_pass_81 : decode cX2_pass 81 = .ok (.iconst 0, 1) := by decide +kernel
theorem dX2_pass_82 : decode cX2_pass 82 = .ok (.iadd, 1) := by decide +kernel
theorem dX2_pass_83 : decode cX2_pass 83 = .ok (.putfield 20, 3) := by decide +kernel
theorem dX2_pass_86 : decode cX2_pass 86 = .ok (.aload 7, 2) := by decide +kernel
theorem dX2_pass_88 : decode cX2_pass 88 = .ok (.iconst 2, 1) := by decide +kernel
theorem dX2_pass_89 : decode cX2_pass 89 = .ok (.dup2, 1) := by decide +kernel
theorem dX2_pass_90 : decode cX2_pass 90 = .ok (.iaload, 1) := by decide +kernel
theorem dX2_pass_91 : decode cX2_pass 91 = .ok (.iconst 2, 1) := by decide +kernel
theorem dX2_pass_92 : decode cX2_pass 92 = .ok (.aload 7, 2) := by decide +kernel
theorem dX2_pass_94 : decode cX2_pass 94 = .ok (.iconst 3, 1) := by decide +kernel
theorem dX2_pass_95 : decode cX2_pass 95 = .ok (.iaload, 1) := by decide +kernel
theorem dX2_pass_96 : decode cX2_pass 96 = .ok (.imul, 1) := by decide +kernel
theorem dX2_pass_97 : decode cX2_pass 97 = .ok (.isub, 1) := by decide +kernel
theorem dX2_pass_98 : decode cX2_pass 98 = .ok (.iastore, 1) := by decide +kernel
theorem dX2_pass_99 : decode cX2_pass 99 = .ok (.aload 7, 2) := by decide +kernel
theorem dX2_pass_101 : decode cX2_pass 101 = .ok (.iconst 3, 1) := by decide +kernel
theorem dX2_pass_102 : decode cX2_pass 102 = .ok (.iconst 0, 1) := by decide +kernel
theorem dX2_pass_103 : decode cX2_pass 103 = .ok (.iastore, 1) := by decide +kernel
theorem dX2_pass_104 : decode cX2_pass 104 = .ok (.iinc 6 1, 3) := by decide +kernel
theorem dX2_pass_107 : decode cX2_pass 107 = .ok (.goto (-56), 3) := by decide +kernel
theorem dX2_pass_110 : decode cX2_pass 110 = .ok (.iconst 0, 1) := by decide +kernel
theorem dX2_pass_111 : decode cX2_pass 111 = .ok (.istore 4, 2) := by decide +kernel
theorem dX2_pass_113 : decode cX2_pass 113 = .ok (.iload 4, 2) := by decide +kernel
theorem dX2_pass_115 : decode cX2_pass 115 = .ok (.aload_n 0, 1) := by decide +kernel
theorem dX2_pass_116 : decode cX2_pass 116 = .ok (.getfield 9, 3) := by decide +kernel
theorem dX2_pass_119 : decode cX2_pass 119 = .ok (.arraylength, 1) := by decide +kernel
theorem dX2_pass_120 : decode cX2_pass 120 = .ok (.if_icmp .ge 36, 3) := by decide +kernel
theorem dX2_pass_123 : decode cX2_pass 123 = .ok (.aload_n 0, 1) := by decide +kernel
theorem dX2_pass_124 : decode cX2_pass 124 = .ok (.getfield 9, 3) := by decide +kernel
theorem dX2_pass_127 : decode cX2_pass 127 = .ok (.iload 4, 2) := by decide +kernel
theorem dX2_pass_129 : decode cX2_pass 129 = .ok (.aaload, 1) := by decide +kernel
theorem dX2_pass_130 : decode cX2_pass 130 = .ok (.iconst 4, 1) := by decide +kernel
theorem dX2_pass_131 : decode cX2_pass 131 = .ok (.aload_n 0, 1) := by decide +kernel
theorem dX2_pass_132 : decode cX2_pass 132 = .ok (.getfield 9, 3) := by decide +kernel
theorem dX2_pass_135 : decode cX2_pass 135 = .ok (.iload 4, 2) := by decide +kernel
theorem dX2_pass_137 : decode cX2_pass 137 = .ok (.aaload, 1) := by decide +kernel
theorem dX2_pass_138 : decode cX2_pass 138 = .ok (.iconst 1, 1) := by decide +kernel
theorem dX2_pass_139 : decode cX2_pass 139 = .ok (.iaload, 1) := by decide +kernel
theorem dX2_pass_140 : decode cX2_pass 140 = .ok (.ifCond .le 8, 3) := by decide +kernel
theorem dX2_pass_143 : decode cX2_pass 143 = .ok (.iload 4, 2) := by decide +kernel
theorem dX2_pass_145 : decode cX2_pass 145 = .ok (.goto 4, 3) := by decide +kernel
theorem dX2_pass_148 : decode cX2_pass 148 = .ok (.iconst (-1), 1) := by decide +kernel
theorem dX2_pass_149 : decode cX2_pass 149 = .ok (.iastore, 1) := by decide +kernel
theorem dX2_pass_150 : decode cX2_pass 150 = .ok (.iinc 4 1, 3) := by decide +kernel
theorem dX2_pass_153 : decode cX2_pass 153 = .ok (.goto (-40), 3) := by decide +kernel
theorem dX2_pass_156 : decode cX2_pass 156 = .ok (.iconst 0, 1) := by decide +kernel
theorem dX2_pass_157 : decode cX2_pass 157 = .ok (.istore 4, 2) := by decide +kernel
theorem dX2_pass_159 : decode cX2_pass 159 = .ok (.iload 4, 2) := by decide +kernel
theorem dX2_pass_161 : decode cX2_pass 161 = .ok (.aload_n 0, 1) := by decide +kernel
theorem dX2_pass_162 : decode cX2_pass 162 = .ok (.getfield 9, 3) := by decide +kernel
theorem dX2_pass_165 : decode cX2_pass 165 = .ok (.arraylength, 1) := by decide +kernel
theorem dX2_pass_166 : decode cX2_pass 166 = .ok (.if_icmp .ge 86, 3) := by decide +kernel
theorem dX2_pass_169 : decode cX2_pass 169 = .ok (.aload_n 0, 1) := by decide +kernel
theorem dX2_pass_170 : decode cX2_pass 170 = .ok (.getfield 9, 3) := by decide +kernel
theorem dX2_pass_173 : decode cX2_pass 173 = .ok (.iload 4, 2) := by decide +kernel
theorem dX2_pass_175 : decode cX2_pass 175 = .ok (.aaload, 1) := by decide +kernel
theorem dX2_pass_176 : decode cX2_pass 176 = .ok (.astore 5, 2) := by decide +kernel
theorem dX2_pass_178 : decode cX2_pass 178 = .ok (.aload 5, 2) := by decide +kernel
theorem dX2_pass_180 : decode cX2_pass 180 = .ok (.iconst 5, 1) := by decide +kernel
theorem dX2_pass_181 : decode cX2_pass 181 = .ok (.iaload, 1) := by decide +kernel
theorem dX2_pass_182 : decode cX2_pass 182 = .ok (.ifCond .ge 6, 3) := by decide +kernel
theorem dX2_pass_185 : decode cX2_pass 185 = .ok (.goto 61, 3) := by decide +kernel
theorem dX2_pass_188 : decode cX2_pass 188 = .ok (.aload_n 0, 1) := by decide +kernel
theorem dX2_pass_189 : decode cX2_pass 189 = .ok (.iload 4, 2) := by decide +kernel
theorem dX2_pass_191 : decode cX2_pass 191 = .ok (.invokevirtual 48, 3) := by decide +kernel
theorem dX2_pass_194 : decode cX2_pass 194 = .ok (.istore 6, 2) := by decide +kernel
theorem dX2_pass_196 : decode cX2_pass 196 = .ok (.aload 5, 2) := by decide +kernel
theorem dX2_pass_198 : decode cX2_pass 198 = .ok (.iconst 2, 1) := by decide +kernel
theorem dX2_pass_199 : decode cX2_pass 199 = .ok (.dup2, 1) := by decide +kernel
theorem dX2_pass_200 : decode cX2_pass 200 = .ok (.iaload, 1) := by decide +kernel
theorem dX2_pass_201 : decode cX2_pass 201 = .ok (.iload 6, 2) := by decide +kernel
theorem dX2_pass_203 : decode cX2_pass 203 = .ok (.ifCond .eq 7, 3) := by decide +kernel
theorem dX2_pass_206 : decode cX2_pass 206 = .ok (.iconst 3, 1) := by decide +kernel
theorem dX2_pass_207 : decode cX2_pass 207 = .ok (.goto 5, 3) := by decide +kernel
theorem dX2_pass_210 : decode cX2_pass 210 = .ok (.bipush (-10), 2) := by decide +kernel
theorem dX2_pass_212 : decode cX2_pass 212 = .ok (.iadd, 1) := by decide +kernel
theorem dX2_pass_213 : decode cX2_pass 213 = .ok (.iastore, 1) := by decide +kernel
theorem dX2_pass_214 : decode cX2_pass 214 = .ok (.iload 6, 2) := by decide +kernel
theorem dX2_pass_216 : decode cX2_pass 216 = .ok (.ifCond .eq 6, 3) := by decide +kernel
theorem dX2_pass_219 : decode cX2_pass 219 = .ok (.goto 27, 3) := by decide +kernel
theorem dX2_pass_222 : decode cX2_pass 222 = .ok (.aload 5, 2) := by decide +kernel
theorem dX2_pass_224 : decode cX2_pass 224 = .ok (.iconst 5, 1) := by decide +kernel
theorem dX2_pass_225 : decode cX2_pass 225 = .ok (.iconst (-1), 1) := by decide +kernel
theorem dX2_pass_226 : decode cX2_pass 226 = .ok (.iastore, 1) := by decide +kernel
theorem dX2_pass_227 : decode cX2_pass 227 = .ok (.aload 5, 2) := by decide +kernel
theorem dX2_pass_229 : decode cX2_pass 229 = .ok (.bipush 7, 2) := by decide +kernel
theorem dX2_pass_231 : decode cX2_pass 231 = .ok (.dup2, 1) := by decide +kernel
theorem dX2_pass_232 : decode cX2_pass 232 = .ok (.iaload, 1) := by decide +kernel
theorem dX2_pass_233 : decode cX2_pass 233 = .ok (.iconst 1, 1) := by decide +kernel
theorem dX2_pass_234 : decode cX2_pass 234 = .ok (.iadd, 1) := by decide +kernel
theorem dX2_pass_235 : decode cX2_pass 235 = .ok (.iastore, 1) := by decide +kernel
theorem dX2_pass_236 : decode cX2_pass 236 = .ok (.aload_n 0, 1) := by decide +kernel
theorem dX2_pass_237 : decode cX2_pass 237 = .ok (.dup, 1) := by decide +kernel
theorem dX2_pass_238 : decode cX2_pass 238 = .ok (.getfield 23, 3) := by decide +kernel
theorem dX2_pass_241 : decode cX2_pass 241 = .ok (.iconst 1, 1) := by decide +kernel
theorem dX2_pass_242 : decode cX2_pass 242 = .ok (.iadd, 1) := by decide +kernel
theorem dX2_pass_243 : decode cX2_pass 243 = .ok (.putfield 23, 3) := by decide +kernel
theorem dX2_pass_246 : decode cX2_pass 246 = .ok (.iinc 4 1, 3) := by decide +kernel
theorem dX2_pass_249 : decode cX2_pass 249 = .ok (.goto (-90), 3) := by decide +kernel
theorem dX2_pass_252 : decode cX2_pass 252 = .ok (.iinc 3 1, 3) := by decide +kernel
theorem dX2_pass_255 : decode cX2_pass 255 = .ok (.goto (-248), 3) := by decide +kernel
theorem dX2_pass_258 : decode cX2_pass 258 = .ok (.aload_n 0, 1) := by decide +kernel
theorem dX2_pass_259 : decode cX2_pass 259 = .ok (.getfield 23, 3) := by decide +kernel
theorem dX2_pass_262 : decode cX2_pass 262 = .ok (.iload_n 2, 1) := by decide +kernel
theorem dX2_pass_263 : decode cX2_pass 263 = .ok (.isub, 1) := by decide +kernel
theorem dX2_pass_264 : decode cX2_pass 264 = .ok (.ireturn, 1) := by decide +kernel
set_option maxRecDepth 20000 in
theorem ggX2_isSame_X2_isHonest : GoodIn wsX2_isSame wsX2_isHonest := goodIn_r _ [9, 1, 10, 11, 12, 8, 13, 14, 15, 16, 186, 187, 188, 189] (by decide +kernel) (by decide +kernel)
set_option maxRecDepth 20000 in
theorem gX2_isSame_X2_isHonest : GoodIn wsX2_isSame (wsV RX2 48 RX2 yX2_isHonest wsX2_isHonest) := goodIn_app (goodIn_of _ (by decide +kernel)) ggX2_isSame_X2_isHonest
set_option maxRecDepth 20000 in
theorem ggX2_isSame_X2_shadow : GoodIn wsX2_isSame wsX2_shadow := goodIn_r _ [20, 1, 2, 21, 22, 23, 8, 24, 14, 15, 16, 186, 187, 188, 189] (by decide +kernel) (by decide +kernel)
set_option maxRecDepth 20000 in
theorem gX2_isSame_X2_shadow : GoodIn wsX2_isSame (wsV RX2 59 RX2 yX2_shadow wsX2_shadow) := goodIn_app (goodIn_of _ (by decide +kernel)) ggX2_isSame_X2_shadow
set_option maxRecDepth 20000 in
theorem ggX2_isSame_X2_wearer : GoodIn wsX2_isSame wsX2_wearer := goodIn_r _ [28, 1, 186, 187, 188, 189] (by decide +kernel) (by decide +kernel)
set_option maxRecDepth 20000 in
theorem gX2_isSame_X2_wearer : GoodIn wsX2_isSame (wsV RX2 45 RX2 yX2_wearer wsX2_wearer) := goodIn_app (goodIn_of _ (by decide +kernel)) ggX2_isSame_X2_wearer
set_option maxRecDepth 20000 in
theorem ggX2_isSame_X1_lampOf : GoodIn wsX2_isSame wsX1_lampOf := goodIn_ca (goodIn_r _ [33, 34, 35, 36, 32, 37, 38, 39, 40, 41, 42, 43, 44, 45, 46, 47, 48, 49, 50, 51, 52, 53, 54, 55, 56, 57, 58, 59, 60, 61, 62, 63, 64, 190, 191, 192, 193, 194, 195, 196, 197, 198, 199, 200, 201, 202, 203, 204, 205] (by decide +kernel) (by decide +kernel)) (goodIn_sub (fun _ h => List.mem_cons_of_mem _ (List.mem_append_left _ (List.mem_append_right _ h))) (by decide +kernel))
set_option maxRecDepth 20000 in
theorem gX2_isSame_X1_lampOf : GoodIn wsX2_isSame (wsV RX2 62 RX1 yX1_lampOf wsX1_lampOf) := goodIn_app (goodIn_of _ (by decide +kernel)) ggX2_isSame_X1_lampOf
set_option maxRecDepth 20000 in
theorem ggX2_isSame_X1_purseOf : GoodIn wsX2_isSame wsX1_purseOf := goodIn_ca (goodIn_r _ [68, 34, 35, 36, 32, 37, 38, 39, 40, 41, 42, 43, 44, 45, 46, 47, 48, 49, 50, 51, 52, 53, 54, 55, 56, 57, 58, 59, 60, 61, 62, 63, 64, 190, 191, 192, 193, 194, 195, 196, 197, 198, 199, 200, 201, 202, 203, 204, 205] (by decide +kernel) (by decide +kernel)) (goodIn_sub (fun _ h => List.mem_cons_of_mem _ (List.mem_append_left _ (List.mem_append_right _ h))) (by decide +kernel))
set_option maxRecDepth 20000 in
theorem gX2_isSame_X1_purseOf : GoodIn wsX2_isSame (wsV RX2 67 RX1 yX1_purseOf wsX1_purseOf) := goodIn_app (goodIn_of _ (by decide +kernel)) ggX2_isSame_X1_purseOf
set_option maxRecDepth 20000 in
theorem ggX2_isSame_X1_wears : GoodIn wsX2_isSame wsX1_wears := goodIn_ca (goodIn_r _ [72, 34, 35, 36, 32, 37, 38, 39, 40, 41, 42, 43, 44, 45, 46, 47, 48, 49, 50, 51, 52, 53, 54, 55, 56, 57, 58, 59, 60, 61, 62, 63, 64, 73, 74, 75, 76, 77, 78, 199, 200, 201, 202, 203, 204, 205, 190, 191, 192, 193, 194, 195, 196, 197, 198] (by decide +kernel) (by decide +kernel)) (goodIn_sub (fun _ h => List.mem_cons_of_mem _ (List.mem_append_left _ (List.mem_append_right _ h))) (by decide +kernel))
set_option maxRecDepth 20000 in
theorem gX2_isSame_X1_wears : GoodIn wsX2_isSame (wsV RX2 70 RX1 yX1_wears wsX1_wears) := goodIn_app (goodIn_of _ (by decide +kernel)) ggX2_isSame_X1_wears
set_option maxRecDepth 20000 in
theorem ggX2_isSame_X1_hatOn : GoodIn wsX2_isSame wsX1_hatOn := goodIn_ca (goodIn_r _ [82, 34, 35, 36, 32, 37, 38, 39, 40, 41, 42, 43, 44, 45, 46, 47, 48, 49, 50, 51, 52, 53, 54, 55, 56, 57, 58, 59, 60, 61, 62, 63, 64, 83, 74, 84, 85, 77, 86, 199, 200, 201, 202, 203, 204, 205, 190, 191, 192, 193, 194, 195, 196, 197, 198] (by decide +kernel) (by decide +kernel)) (goodIn_sub (fun _ h => List.mem_cons_of_mem _ (List.mem_append_left _ (List.mem_append_right _ h))) (by decide +kernel))
set_option maxRecDepth 20000 in
theorem gX2_isSame_X1_hatOn : GoodIn wsX2_isSame (wsV RX2 73 RX1 yX1_hatOn wsX1_hatOn) := goodIn_app (goodIn_of _ (by decide +kernel)) ggX2_isSame_X1_hatOn
set_option maxRecDepth 20000 in
theorem ggX2_isSame_X2_hatOn : GoodIn wsX2_isSame wsX2_hatOn := goodIn_r _ [24, 1, 186, 187, 188, 189] (by decide +kernel) (by decide +kernel)
set_option maxRecDepth 20000 in
theorem gX2_isSame_X2_hatOn : GoodIn wsX2_isSame (wsV RX2 34 RX2 yX2_hatOn wsX2_hatOn) := goodIn_app (goodIn_of _ (by decide +kernel)) ggX2_isSame_X2_hatOn
set_option maxRecDepth 20000 in
theorem ggX2_isSame_X1_hasLent : GoodIn wsX2_isSame wsX1_hasLent := goodIn_ca (goodIn_r _ [90, 34, 35, 36, 32, 37, 38, 39, 40, 41, 42, 43, 44, 45, 46, 47, 48, 49, 50, 51, 52, 53, 54, 55, 56, 57, 58, 59, 60, 61, 62, 63, 64, 91, 92, 93, 94, 199, 200, 201, 202, 203, 204, 205, 190, 191, 192, 193, 194, 195, 196, 197, 198] (by decide +kernel) (by decide +kernel)) (goodIn_sub (fun _ h => List.mem_cons_of_mem _ (List.mem_append_left _ (List.mem_append_right _ h))) (by decide +kernel))
set_option maxRecDepth 20000 in
theorem gX2_isSame_X1_hasLent : GoodIn wsX2_isSame (wsV RX2 74 RX1 yX1_hasLent wsX1_hasLent) := goodIn_app (goodIn_of _ (by decide +kernel)) ggX2_isSame_X1_hasLent
set_option maxRecDepth 20000 in
theorem ggX2_isSame_X1_isExpelled : GoodIn wsX2_isSame wsX1_isExpelled := goodIn_ca (goodIn_r _ [98, 34, 35, 36, 32, 37, 38, 39, 40, 41, 42, 43, 44, 45, 46, 47, 48, 49, 50, 51, 52, 53, 54, 55, 56, 57, 58, 59, 60, 61, 62, 63, 64, 99, 74, 100, 101, 102, 199, 200, 201, 202, 203, 204, 205, 190, 191, 192, 193, 194, 195, 196, 197, 198] (by decide +kernel) (by decide +kernel)) (goodIn_sub (fun _ h => List.mem_cons_of_mem _ (List.mem_append_left _ (List.mem_append_right _ h))) (by decide +kernel))
set_option maxRecDepth 20000 in
theorem gX2_isSame_X1_isExpelled : GoodIn wsX2_isSame (wsV RX2 77 RX1 yX1_isExpelled wsX1_isExpelled) := goodIn_app (goodIn_of _ (by decide +kernel)) ggX2_isSame_X1_isExpelled
set_option maxRecDepth 20000 in
theorem ggX2_isSame_X1_shadowOf : GoodIn wsX2_isSame wsX1_shadowOf := goodIn_ca (goodIn_r _ [106, 34, 35, 36, 32, 37, 38, 39, 40, 41, 42, 43, 44, 45, 46, 47, 48, 49, 50, 51, 52, 53, 54, 55, 56, 57, 58, 59, 60, 61, 62, 63, 64, 107, 108, 109, 110, 111, 112, 74, 113, 114, 115, 116, 117, 83, 84, 85, 77, 86, 118, 119, 120, 121, 122, 123, 199, 200, 201, 202, 203, 204, 205, 190, 191, 192, 193, 194, 195, 196, 197, 198] (by decide +kernel) (by decide +kernel)) (goodIn_sub (fun _ h => List.mem_cons_of_mem _ (List.mem_append_left _ (List.mem_append_right _ h))) (by decide +kernel))
set_option maxRecDepth 20000 in
theorem gX2_isSame_X1_shadowOf : GoodIn wsX2_isSame (wsV RX2 80 RX1 yX1_shadowOf wsX1_shadowOf) := goodIn_app (goodIn_of _ (by decide +kernel)) ggX2_isSame_X1_shadowOf
set_option maxRecDepth 20000 in
theorem ggX2_isSame_X1_certified : GoodIn wsX2_isSame wsX1_certified := goodIn_ca (goodIn_r _ [127, 34, 35, 36, 32, 37, 38, 39, 40, 41, 42, 43, 44, 45, 46, 47, 48, 49, 50, 51, 52, 53, 54, 55, 56, 57, 58, 59, 60, 61, 62, 63, 64, 190, 191, 192, 193, 194, 195, 196, 197, 198, 199, 200, 201, 202, 203, 204, 205] (by decide +kernel) (by decide +kernel)) (goodIn_sub (fun _ h => List.mem_cons_of_mem _ (List.mem_append_left _ (List.mem_append_right _ h))) (by decide +kernel))
set_option maxRecDepth 20000 in
theorem gX2_isSame_X1_certified : GoodIn wsX2_isSame (wsV RX2 83 RX1 yX1_certified wsX1_certified) := goodIn_app (goodIn_of _ (by decide +kernel)) ggX2_isSame_X1_certified
set_option maxRecDepth 20000 in
theorem ggX2_isSame_X1_isHonest : GoodIn wsX2_isSame wsX1_isHonest := goodIn_ca (goodIn_ca (goodIn_r _ [131, 132, 133, 34, 35, 36, 32, 37, 38, 39, 40, 41, 42, 43, 44, 45, 46, 47, 48, 49, 50, 51, 52, 53, 54, 55, 56, 57, 58, 59, 60, 61, 62, 63, 64, 134, 74, 135, 136, 137, 138, 139, 140, 141, 142, 143, 144, 145, 146, 115, 86, 118, 119, 120, 121, 122, 123, 199, 200, 201, 202, 203, 204, 205, 190, 191, 192, 193, 194, 195, 196, 197, 198] (by decide +kernel) (by decide +kernel)) (goodIn_sub (fun _ h => List.mem_cons_of_mem _ (List.mem_append_right _ h)) (by decide +kernel))) (goodIn_sub (fun _ h => List.mem_cons_of_mem _ (List.mem_append_left _ (List.mem_append_right _ h))) (by decide +kernel))
set_option maxRecDepth 20000 in
theorem gX2_isSame_X1_isHonest : GoodIn wsX2_isSame (wsV RX2 86 RX1 yX1_isHonest wsX1_isHonest) := goodIn_app (goodIn_of _ (by decide +kernel)) ggX2_isSame_X1_isHonest
set_option maxRecDepth 20000 in
theorem ggX2_isSame_X1_members : GoodIn wsX2_isSame wsX1_members := goodIn_r _ [150, 40, 42, 43, 44, 45, 46, 47, 199, 200, 201, 202, 203, 204, 205] (by decide +kernel) (by decide +kernel)
set_option maxRecDepth 20000 in
theorem gX2_isSame_X1_members : GoodIn wsX2_isSame (wsV RX2 87 RX1 yX1_members wsX1_members) := goodIn_app (goodIn_of _ (by decide +kernel)) ggX2_isSame_X1_members
set_option maxRecDepth 20000 in
theorem ggX2_isSame_X1_hour : GoodIn wsX2_isSame wsX1_hour := goodIn_r _ [154, 111, 199, 200, 201, 202] (by decide +kernel) (by decide +kernel)
set_option maxRecDepth 20000 in
theorem gX2_isSame_X1_hour : GoodIn wsX2_isSame (wsV RX2 90 RX1 yX1_hour wsX1_hour) := goodIn_app (goodIn_of _ (by decide +kernel)) ggX2_isSame_X1_hour
set_option maxRecDepth 20000 in
theorem ggX2_isSame_X1_hourOfDay : GoodIn wsX2_isSame wsX1_hourOfDay := goodIn_r _ [110, 111, 199, 200, 201, 202] (by decide +kernel) (by decide +kernel)
set_option maxRecDepth 20000 in
theorem gX2_isSame_X1_hourOfDay : GoodIn wsX2_isSame (wsV RX2 92 RX1 yX1_hourOfDay wsX1_hourOfDay) := goodIn_app (goodIn_of _ (by decide +kernel)) ggX2_isSame_X1_hourOfDay
set_option maxRecDepth 20000 in
theorem ggX2_isSame_X1_seized : GoodIn wsX2_isSame wsX1_seized := goodIn_r _ [159, 160, 199, 200, 201, 202] (by decide +kernel) (by decide +kernel)
set_option maxRecDepth 20000 in
theorem gX2_isSame_X1_seized : GoodIn wsX2_isSame (wsV RX2 95 RX1 yX1_seized wsX1_seized) := goodIn_app (goodIn_of _ (by decide +kernel)) ggX2_isSame_X1_seized
set_option maxRecDepth 20000 in
theorem ggX2_isSame_X1_revoked : GoodIn wsX2_isSame wsX1_revoked := goodIn_r _ [164, 165, 199, 200, 201, 202] (by decide +kernel) (by decide +kernel)
set_option maxRecDepth 20000 in
theorem gX2_isSame_X1_revoked : GoodIn wsX2_isSame (wsV RX2 97 RX1 yX1_revoked wsX1_revoked) := goodIn_app (goodIn_of _ (by decide +kernel)) ggX2_isSame_X1_revoked
set_option maxRecDepth 20000 in
theorem ggX2_isSame_X1_certificates : GoodIn wsX2_isSame wsX1_certificates := goodIn_r _ [169, 40, 41, 42, 43, 44, 45, 46, 47, 48, 49, 50, 51, 52, 53, 54, 55, 56, 57, 58, 59, 60, 61, 62, 63, 64, 134, 74, 135, 136, 137, 199, 200, 201, 202, 203, 204, 205, 190, 191, 192, 193, 194, 195, 196, 197, 198] (by decide +kernel) (by decide +kernel)
set_option maxRecDepth 20000 in
theorem gX2_isSame_X1_certificates : GoodIn wsX2_isSame (wsV RX2 99 RX1 yX1_certificates wsX1_certificates) := goodIn_app (goodIn_of _ (by decide +kernel)) ggX2_isSame_X1_certificates
set_option maxRecDepth 20000 in
theorem ggX2_isSame_X1_honestOnes : GoodIn wsX2_isSame wsX1_honestOnes := goodIn_r _ [173, 40, 41, 42, 43, 44, 45, 46, 47, 48, 49, 50, 51, 52, 53, 54, 55, 56, 57, 58, 59, 60, 61, 62, 63, 64, 138, 74, 139, 140, 137, 141, 142, 134, 135, 136, 143, 144, 145, 146, 115, 86, 118, 32, 119, 120, 121, 122, 123, 199, 200, 201, 202, 203, 204, 205, 190, 191, 192, 193, 194, 195, 196, 197, 198] (by decide +kernel) (by decide +kernel)
set_option maxRecDepth 20000 in
theorem gX2_isSame_X1_honestOnes : GoodIn wsX2_isSame (wsV RX2 102 RX1 yX1_honestOnes wsX1_honestOnes) := goodIn_app (goodIn_of _ (by decide +kernel)) ggX2_isSame_X1_honestOnes
set_option maxRecDepth 20000 in
theorem ggX2_isSame_X1_longest : GoodIn wsX2_isSame wsX1_longest := goodIn_r _ [177, 40, 41, 42, 43, 44, 45, 46, 47, 48, 49, 50, 51, 52, 53, 54, 55, 56, 57, 58, 59, 60, 61, 62, 63, 64, 107, 108, 109, 32, 110, 111, 112, 74, 113, 114, 115, 116, 117, 83, 84, 85, 77, 86, 118, 119, 120, 121, 122, 123, 199, 200, 201, 202, 203, 204, 205, 190, 191, 192, 193, 194, 195, 196, 197, 198] (by decide +kernel) (by decide +kernel)
set_option maxRecDepth 20000 in
theorem gX2_isSame_X1_longest : GoodIn wsX2_isSame (wsV RX2 105 RX1 yX1_longest wsX1_longest) := goodIn_app (goodIn_of _ (by decide +kernel)) ggX2_isSame_X1_longest
set_option maxRecDepth 20000 in
theorem ggX2_isSame_X1_meanShadow : GoodIn wsX2_isSame wsX1_meanShadow := goodIn_r _ [181, 40, 41, 182, 183, 184, 45, 185, 47, 42, 43, 44, 46, 48, 49, 50, 51, 52, 53, 54, 55, 56, 57, 58, 59, 60, 61, 62, 63, 64, 107, 108, 109, 32, 110, 111, 112, 74, 113, 114, 115, 116, 117, 83, 84, 85, 77, 86, 118, 119, 120, 121, 122, 123, 199, 200, 201, 202, 203, 204, 205, 190, 191, 192, 193, 194, 195, 196, 197, 198] (by decide +kernel) (by decide +kernel)
set_option maxRecDepth 20000 in
theorem gX2_isSame_X1_meanShadow : GoodIn wsX2_isSame (wsV RX2 108 RX1 yX1_meanShadow wsX1_meanShadow) := goodIn_app (goodIn_of _ (by decide +kernel)) ggX2_isSame_X1_meanShadow
theorem dX2_isSame_0 : decode cX2_isSame 0 = .ok (.iconst 0, 1) := by decide +kernel
theorem dX2_isSame_1 : decode cX2_isSame 1 = .ok (.istore_n 2, 1) := by decide +kernel
theorem dX2_isSame_2 : decode cX2_isSame 2 = .ok (.iconst 0, 1) := by decide +kernel
theorem dX2_isSame_3 : decode cX2_isSame 3 = .ok (.istore_n 3, 1) := by decide +kernel
theorem dX2_isSame_4 : decode cX2_isSame 4 = .ok (.iconst (-1), 1) := by decide +kernel
theorem dX2_isSame_5 : decode cX2_isSame 5 = .ok (.istore 4, 2) := by decide +kernel
theorem dX2_isSame_7 : decode cX2_isSame 7 = .ok (.iconst 0, 1) := by decide +kernel
theorem dX2_isSame_8 : decode cX2_isSame 8 = .ok (.istore 5, 2) := by decide +kernel
theorem dX2_isSame_10 : decode cX2_isSame 10 = .ok (.aload_n 0, 1) := by decide +kernel
theorem dX2_isSame_11 : decode cX2_isSame 11 = .ok (.getfield 9, 3) := by decide +kernel
theorem dX2_isSame_14 : decode cX2_isSame 14 = .ok (.arraylength, 1) := by decide +kernel
theorem dX2_isSame_15 : decode cX2_isSame 15 = .ok (.iconst 1, 1) := by decide +kernel
theorem dX2_isSame_16 : decode cX2_isSame 16 = .ok (.isub, 1) := by decide +kernel
theorem dX2_isSame_17 : decode cX2_isSame 17 = .ok (.istore 6, 2) := by decide +kernel
theorem dX2_isSame_19 : decode cX2_isSame 19 = .ok (.iload 6, 2) := by decide +kernel
theorem dX2_isSame_21 : decode cX2_isSame 21 = .ok (.ifCond .lt 255, 3) := by decide +kernel
theorem dX2_isSame_24 : decode cX2_isSame 24 = .ok (.aload_n 0, 1) := by decide +kernel
theorem dX2_isSame_25 : decode cX2_isSame 25 = .ok (.getfield 9, 3) := by decide +kernel
theorem dX2_isSame_28 : decode cX2_isSame 28 = .ok (.iload 6, 2) := by decide +kernel
theorem dX2_isSame_30 : decode cX2_isSame 30 = .ok (.aaload, 1) := by decide +kernel
theorem dX2_isSame_31 : decode cX2_isSame 31 = .ok (.astore 7, 2) := by decide +kernel
theorem dX2_isSame_33 : decode cX2_isSame 33 = .ok (.iload_n 2, 1) := by decide +kernel
theorem dX2_isSame_34 : decode cX2_isSame 34 = .ok (.aload 7, 2) := by decide +kernel
theorem dX2_isSame_36 : decode cX2_isSame 36 = .ok (.iconst 5, 1) := by decide +kernel
theorem dX2_isSame_37 : decode cX2_isSame 37 = .ok (.iaload, 1) := by decide +kernel
theorem dX2_isSame_38 : decode cX2_isSame 38 = .ok (.ifCond .ge 7, 3) := by decide +kernel
theorem dX2_isSame_41 : decode cX2_isSame 41 = .ok (.iconst 0, 1) := by decide +kernel
theorem dX2_isSame_42 : decode cX2_isSame 42 = .ok (.goto 4, 3) := by decide +kernel
theorem dX2_isSame_45 : decode cX2_isSame 45 = .ok (.iconst 1, 1) := by decide +kernel
theorem dX2_isSame_46 : decode cX2_isSame 46 = .ok (.iadd, 1) := by decide +kernel
theorem dX2_isSame_47 : decode cX2_isSame 47 = .ok (.istore_n 2, 1) := by decide +kernel
theorem dX2_isSame_48 : decode cX2_isSame 48 = .ok (.iload_n 3, 1) := by decide +kernel
theorem dX2_isSame_49 : decode cX2_isSame 49 = .ok (.aload 7, 2) := by decide +kernel
theorem dX2_isSame_51 : decode cX2_isSame 51 = .ok (.iconst 5, 1) := by decide +kernel
theorem dX2_isSame_52 : decode cX2_isSame 52 = .ok (.iaload, 1) := by decide +kernel
theorem dX2_isSame_53 : decode cX2_isSame 53 = .ok (.ifCond .lt 16, 3) := by decide +kernel
theorem dX2_isSame_56 : decode cX2_isSame 56 = .ok (.aload_n 0, 1) := by decide +kernel
theorem dX2_isSame_57 : decode cX2_isSame 57 = .ok (.iload 6, 2) := by decide +kernel
theorem dX2_isSame_59 : decode cX2_isSame 59 = .ok (.invokevirtual 48, 3) := by decide +kernel
theorem dX2_isSame_62 : decode cX2_isSame 62 = .ok (.ifCond .eq 7, 3) := by decide +kernel
theorem dX2_isSame_65 : decode cX2_isSame 65 = .ok (.iconst 1, 1) := by decide +kernel
theorem dX2_isSame_66 : decode cX2_isSame 66 = .ok (.goto 4, 3) := by decide +kernel
theorem dX2_isSame_69 : decode cX2_isSame 69 = .ok (.iconst 0, 1) := by decide +kernel
theorem dX2_isSame_70 : decode cX2_isSame 70 = .ok (.iadd, 1) := by decide +kernel
theorem dX2_isSame_71 : decode cX2_isSame 71 = .ok (.istore_n 3, 1) := by decide +kernel
theorem dX2_isSame_72 : decode cX2_isSame 72 = .ok (.iload 5, 2) := by decide +kernel
theorem dX2_isSame_74 : decode cX2_isSame 74 = .ok (.aload_n 0, 1) := by decide +kernel
theorem dX2_isSame_75 : decode cX2_isSame 75 = .ok (.iload 6, 2) := by decide +kernel
theorem dX2_isSame_77 : decode cX2_isSame 77 = .ok (.invokevirtual 59, 3) := by decide +kernel
theorem dX2_isSame_80 : decode cX2_isSame 80 = .ok (.iadd, 1) := by decide +kernel
theorem dX2_isSame_81 : decode cX2_isSame 81 = .ok (.istore 5, 2) := by decide +kernel
theorem dX2_isSame_83 : decode cX2_isSame 83 = .ok (.iload 4, 2) := by decide +kernel
theorem dX2_isSame_85 : decode cX2_isSame 85 = .ok (.ifCond .lt 18, 3) := by decide +kernel
theorem dX2_isSame_88 : decode cX2_isSame 88 = .ok (.aload_n 0, 1) := by decide +kernel
theorem dX2_isSame_89 : decode cX2_isSame 89 = .ok (.iload 6, 2) := by decide +kernel
theorem dX2_isSame_91 : decode cX2_isSame 91 = .ok (.invokevirtual 59, 3) := by decide +kernel
theorem dX2_isSame_94 : decode cX2_isSame 94 = .ok (.aload_n 0, 1) := by decide +kernel
theorem dX2_isSame_95 : decode cX2_isSame 95 = .ok (.iload 4, 2) := by decide +kernel
theorem dX2_isSame_97 : decode cX2_isSame 97 = .ok (.invokevirtual 59, 3) := by decide +kernel
theorem dX2_isSame_100 : decode cX2_isSame 100 = .ok (.if_icmp .lt 7, 3) := by decide +kernel
theorem dX2_isSame_103 : decode cX2_isSame 103 = .ok (.iload 6, 2) := by decide +kernel
theorem dX2_isSame_105 : decode cX2_isSame 105 = .ok (.istore 4, 2) := by decide +kernel
theorem dX2_isSame_107 : decode cX2_isSame 107 = .ok (.aload_n 0, 1) := by decide +kernel
theorem dX2_isSame_108 : decode cX2_isSame 108 = .ok (.iload 6, 2) := by decide +kernel
theorem dX2_isSame_110 : decode cX2_isSame 110 = .ok (.invokevirtual 45, 3) := by decide +kernel
theorem dX2_isSame_113 : decode cX2_isSame 113 = .ok (.istore 8, 2) := by decide +kernel
theorem dX2_isSame_115 : decode cX2_isSame 115 = .ok (.aload_n 1, 1) := by decide +kernel
theorem dX2_isSame_116 : decode cX2_isSame 116 = .ok (.iload 6, 2) := by decide +kernel
theorem dX2_isSame_118 : decode cX2_isSame 118 = .ok (.invokevirtual 62, 3) := by decide +kernel
theorem dX2_isSame_121 : decode cX2_isSame 121 = .ok (.aload 7, 2) := by decide +kernel
theorem dX2_isSame_123 : decode cX2_isSame 123 = .ok (.iconst 3, 1) := by decide +kernel
theorem dX2_isSame_124 : decode cX2_isSame 124 = .ok (.iaload, 1) := by decide +kernel
theorem dX2_isSame_125 : decode cX2_isSame 125 = .ok (.if_icmp .ne 143, 3) := by decide +kernel
theorem dX2_isSame_128 : decode cX2_isSame 128 = .ok (.aload_n 1, 1) := by decide +kernel
theorem dX2_isSame_129 : decode cX2_isSame 129 = .ok (.iload 6, 2) := by decide +kernel
theorem dX2_isSame_131 : decode cX2_isSame 131 = .ok (.invokevirtual 67, 3) := by decide +kernel
theorem dX2_isSame_134 : decode cX2_isSame 134 = .ok (.aload 7, 2) := by decide +kernel
theorem dX2_isSame_136 : decode cX2_isSame 136 = .ok (.iconst 2, 1) := by decide +kernel
theorem dX2_isSame_137 : decode cX2_isSame 137 = .ok (.iaload, 1) := by decide +kernel
theorem dX2_isSame_138 : decode cX2_isSame 138 = .ok (.if_icmp .ne 130, 3) := by decide +kernel
theorem dX2_isSame_141 : decode cX2_isSame 141 = .ok (.aload_n 1, 1) := by decide +kernel
theorem dX2_isSame_142 : decode cX2_isSame 142 = .ok (.iload 6, 2) := by decide +kernel
theorem dX2_isSame_144 : decode cX2_isSame 144 = .ok (.invokevirtual 70, 3) := by decide +kernel
theorem dX2_isSame_147 : decode cX2_isSame 147 = .ok (.aload 7, 2) := by decide +kernel
theorem dX2_isSame_149 : decode cX2_isSame 149 = .ok (.iconst 4, 1) := by decide +kernel
theorem dX2_isSame_150 : decode cX2_isSame 150 = .ok (.iaload, 1) := by decide +kernel
theorem dX2_isSame_151 : decode cX2_isSame 151 = .ok (.if_icmp .ne 117, 3) := by decide +kernel
theorem dX2_isSame_154 : decode cX2_isSame 154 = .ok (.aload_n 1, 1) := by decide +kernel
theorem dX2_isSame_155 : decode cX2_isSame 155 = .ok (.iload 6, 2) := by decide +kernel
theorem dX2_isSame_157 : decode cX2_isSame 157 = .ok (.invokevirtual 73, 3) := by decide +kernel
theorem dX2_isSame_160 : decode cX2_isSame 160 = .ok (.aload_n 0, 1) := by decide +kernel
theorem dX2_isSame_161 : decode cX2_isSame 161 = .ok (.iload 6, 2) := by decide +kernel
theorem dX2_isSame_163 : decode cX2_isSame 163 = .ok (.invokevirtual 34, 3) := by decide +kernel
theorem dX2_isSame_166 : decode cX2_isSame 166 = .ok (.if_icmp .ne 102, 3) := by decide +kernel
theorem dX2_isSame_169 : decode cX2_isSame 169 = .ok (.aload_n 1, 1) := by decide +kernel
theorem dX2_isSame_170 : decode cX2_isSame 170 = .ok (.iload 6, 2) := by decide +kernel
theorem dX2_isSame_172 : decode cX2_isSame 172 = .ok (.invokevirtual 74, 3) := by decide +kernel
theorem dX2_isSame_175 : decode cX2_isSame 175 = .ok (.iload 8, 2) := by decide +kernel
theorem dX2_isSame_177 : decode cX2_isSame 177 = .ok (.ifCond .lt 14, 3) := by decide +kernel
theorem dX2_isSame_180 : decode cX2_isSame 180 = .ok (.iload 8, 2) := by decide +kernel
theorem dX2_isSame_182 : decode cX2_isSame 182 = .ok (.iload 6, 2) := by decide +kernel
theorem dX2_isSame_184 : decode cX2_isSame 184 = .ok (.if_icmp .eq 7, 3) := by decide +kernel
theorem dX2_isSame_187 : decode cX2_isSame 187 = .ok (.iconst 1, 1) := by decide +kernel
theorem dX2_isSame_188 : decode cX2_isSame 188 = .ok (.goto 4, 3) := by decide +kernel
theorem dX2_isSame_191 : decode cX2_isSame 191 = .ok (.iconst 0, 1) := by decide +kernel
theorem dX2_isSame_192 : decode cX2_isSame 192 = .ok (.if_icmp .ne 76, 3) := by decide +kernel
theorem dX2_isSame_195 : decode cX2_isSame 195 = .ok (.aload_n 1, 1) := by decide +kernel
theorem dX2_isSame_196 : decode cX2_isSame 196 = .ok (.iload 6, 2) := by decide +kernel
theorem dX2_isSame_198 : decode cX2_isSame 198 = .ok (.invokevirtual 77, 3) := by decide +kernel
theorem dX2_isSame_201 : decode cX2_isSame 201 = .ok (.aload 7, 2) := by decide +kernel
theorem dX2_isSame_203 : decode cX2_isSame 203 = .ok (.bipush 7, 2) := by decide +kernel
theorem dX2_isSame_205 : decode cX2_isSame 205 = .ok (.iaload, 1) := by decide +kernel
theorem dX2_isSame_206 : decode cX2_isSame 206 = .ok (.iconst 2, 1) := by decide +kernel
theorem dX2_isSame_207 : decode cX2_isSame 207 = .ok (.if_icmp .le 7, 3) := by decide +kernel
theorem dX2_isSame_210 : decode cX2_isSame 210 = .ok (.iconst 1, 1) := by decide +kernel
theorem dX2_isSame_211 : decode cX2_isSame 211 = .ok (.goto 4, 3) := by decide +kernel
theorem dX2_isSame_214 : decode cX2_isSame 214 = .ok (.iconst 0, 1) := by decide +kernel
theorem dX2_isSame_215 : decode cX2_isSame 215 = .ok (.if_icmp .ne 53, 3) := by decide +kernel
theorem dX2_isSame_218 : decode cX2_isSame 218 = .ok (.aload_n 1, 1) := by decide +kernel
theorem dX2_isSame_219 : decode cX2_isSame 219 = .ok (.iload 6, 2) := by decide +kernel
theorem dX2_isSame_221 : decode cX2_isSame 221 = .ok (.invokevirtual 80, 3) := by decide +kernel
theorem dX2_isSame_224 : decode cX2_isSame 224 = .ok (.aload_n 0, 1) := by decide +kernel
theorem dX2_isSame_225 : decode cX2_isSame 225 = .ok (.iload 6, 2) := by decide +kernel
theorem dX2_isSame_227 : decode cX2_isSame 227 = .ok (.invokevirtual 59, 3) := by decide +kernel
theorem dX2_isSame_230 : decode cX2_isSame 230 = .ok (.if_icmp .ne 38, 3) := by decide +kernel
theorem dX2_isSame_233 : decode cX2_isSame 233 = .ok (.aload_n 1, 1) := by decide +kernel
theorem dX2_isSame_234 : decode cX2_isSame 234 = .ok (.iload 6, 2) := by decide +kernel
theorem dX2_isSame_236 : decode cX2_isSame 236 = .ok (.invokevirtual 83, 3) := by decide +kernel
theorem dX2_isSame_239 : decode cX2_isSame 239 = .ok (.aload 7, 2) := by decide +kernel
theorem dX2_isSame_241 : decode cX2_isSame 241 = .ok (.iconst 5, 1) := by decide +kernel
theorem dX2_isSame_242 : decode cX2_isSame 242 = .ok (.iaload, 1) := by decide +kernel
theorem dX2_isSame_243 : decode cX2_isSame 243 = .ok (.if_icmp .ne 25, 3) := by decide +kernel
theorem dX2_isSame_246 : decode cX2_isSame 246 = .ok (.aload 7, 2) := by decide +kernel
theorem dX2_isSame_248 : decode cX2_isSame 248 = .ok (.iconst 5, 1) := by decide +kernel
theorem dX2_isSame_249 : decode cX2_isSame 249 = .ok (.iaload, 1) := by decide +kernel
theorem dX2_isSame_250 : decode cX2_isSame 250 = .ok (.ifCond .lt 20, 3) := by decide +kernel
theorem dX2_isSame_253 : decode cX2_isSame 253 = .ok (.aload_n 1, 1) := by decide +kernel
theorem dX2_isSame_254 : decode cX2_isSame 254 = .ok (.iload 6, 2) := by decide +kernel
theorem dX2_isSame_256 : decode cX2_isSame 256 = .ok (.invokevirtual 86, 3) := by decide +kernel
theorem dX2_isSame_259 : decode cX2_isSame 259 = .ok (.aload_n 0, 1) := by decide +kernel
theorem dX2_isSame_260 : decode cX2_isSame 260 = .ok (.iload 6, 2) := by decide +kernel
theorem dX2_isSame_262 : decode cX2_isSame 262 = .ok (.invokevirtual 48, 3) := by decide +kernel
theorem dX2_isSame_265 : decode cX2_isSame 265 = .ok (.if_icmp .eq 5, 3) := by decide +kernel
theorem dX2_isSame_268 : decode cX2_isSame 268 = .ok (.iconst 0, 1) := by decide +kernel
theorem dX2_isSame_269 : decode cX2_isSame 269 = .ok (.ireturn, 1) := by decide +kernel
theorem dX2_isSame_270 : decode cX2_isSame 270 = .ok (.iinc 6 (-1), 3) := by decide +kernel
theorem dX2_isSame_273 : decode cX2_isSame 273 = .ok (.goto (-254), 3) := by decide +kernel
theorem dX2_isSame_276 : decode cX2_isSame 276 = .ok (.aload_n 1, 1) := by decide +kernel
theorem dX2_isSame_277 : decode cX2_isSame 277 = .ok (.invokevirtual 87, 3) := by decide +kernel
theorem dX2_isSame_280 : decode cX2_isSame 280 = .ok (.aload_n 0, 1) := by decide +kernel
theorem dX2_isSame_281 : decode cX2_isSame 281 = .ok (.getfield 9, 3) := by decide +kernel
theorem dX2_isSame_284 : decode cX2_isSame 284 = .ok (.arraylength, 1) := by decide +kernel
theorem dX2_isSame_285 : decode cX2_isSame 285 = .ok (.if_icmp .ne 109, 3) := by decide +kernel
theorem dX2_isSame_288 : decode cX2_isSame 288 = .ok (.aload_n 1, 1) := by decide +kernel
theorem dX2_isSame_289 : decode cX2_isSame 289 = .ok (.invokevirtual 90, 3) := by decide +kernel
theorem dX2_isSame_292 : decode cX2_isSame 292 = .ok (.aload_n 0, 1) := by decide +kernel
theorem dX2_isSame_293 : decode cX2_isSame 293 = .ok (.getfield 16, 3) := by decide +kernel
theorem dX2_isSame_296 : decode cX2_isSame 296 = .ok (.if_icmp .ne 98, 3) := by decide +kernel
theorem dX2_isSame_299 : decode cX2_isSame 299 = .ok (.aload_n 1, 1) := by decide +kernel
theorem dX2_isSame_300 : decode cX2_isSame 300 = .ok (.invokevirtual 92, 3) := by decide +kernel
theorem dX2_isSame_303 : decode cX2_isSame 303 = .ok (.aload_n 0, 1) := by decide +kernel
theorem dX2_isSame_304 : decode cX2_isSame 304 = .ok (.getfield 16, 3) := by decide +kernel
theorem dX2_isSame_307 : decode cX2_isSame 307 = .ok (.bipush 24, 2) := by decide +kernel
theorem dX2_isSame_309 : decode cX2_isSame 309 = .ok (.irem, 1) := by decide +kernel
theorem dX2_isSame_310 : decode cX2_isSame 310 = .ok (.if_icmp .ne 84, 3) := by decide +kernel
theorem dX2_isSame_313 : decode cX2_isSame 313 = .ok (.aload_n 1, 1) := by decide +kernel
theorem dX2_isSame_314 : decode cX2_isSame 314 = .ok (.invokevirtual 95, 3) := by decide +kernel
theorem dX2_isSame_317 : decode cX2_isSame 317 = .ok (.aload_n 0, 1) := by decide +kernel
theorem dX2_isSame_318 : decode cX2_isSame 318 = .ok (.getfield 20, 3) := by decide +kernel
theorem dX2_isSame_321 : decode cX2_isSame 321 = .ok (.if_icmp .ne 73, 3) := by decide +kernel
theorem dX2_isSame_324 : decode cX2_isSame 324 = .ok (.aload_n 1, 1) := by decide +kernel
theorem dX2_isSame_325 : decode cX2_isSame 325 = .ok (.invokevirtual 97, 3) := by decide +kernel
theorem dX2_isSame_328 : decode cX2_isSame 328 = .ok (.aload_n 0, 1) := by decide +kernel
theorem dX2_isSame_329 : decode cX2_isSame 329 = .ok (.getfield 23, 3) := by decide +kernel
theorem dX2_isSame_332 : decode cX2_isSame 332 = .ok (.if_icmp .ne 62, 3) := by decide +kernel
theorem dX2_isSame_335 : decode cX2_isSame 335 = .ok (.aload_n 1, 1) := by decide +kernel
theorem dX2_isSame_336 : decode cX2_isSame 336 = .ok (.invokevirtual 99, 3) := by decide +kernel
theorem dX2_isSame_339 : decode cX2_isSame 339 = .ok (.iload_n 2, 1) := by decide +kernel
theorem dX2_isSame_340 : decode cX2_isSame 340 = .ok (.if_icmp .ne 54, 3) := by decide +kernel
theorem dX2_isSame_343 : decode cX2_isSame 343 = .ok (.aload_n 1, 1) := by decide +kernel
theorem dX2_isSame_344 : decode cX2_isSame 344 = .ok (.invokevirtual 102, 3) := by decide +kernel
theorem dX2_isSame_347 : decode cX2_isSame 347 = .ok (.iload_n 3, 1) := by decide +kernel
theorem dX2_isSame_348 : decode cX2_isSame 348 = .ok (.if_icmp .ne 46, 3) := by decide +kernel
theorem dX2_isSame_351 : decode cX2_isSame 351 = .ok (.aload_n 1, 1) := by decide +kernel
theorem dX2_isSame_352 : decode cX2_isSame 352 = .ok (.invokevirtual 105, 3) := by decide +kernel
theorem dX2_isSame_355 : decode cX2_isSame 355 = .ok (.iload 4, 2) := by decide +kernel
theorem dX2_isSame_357 : decode cX2_isSame 357 = .ok (.if_icmp .ne 37, 3) := by decide +kernel
theorem dX2_isSame_360 : decode cX2_isSame 360 = .ok (.aload_n 1, 1) := by decide +kernel
theorem dX2_isSame_361 : decode cX2_isSame 361 = .ok (.invokevirtual 108, 3) := by decide +kernel
theorem dX2_isSame_364 : decode cX2_isSame 364 = .ok (.aload_n 0, 1) := by decide +kernel
theorem dX2_isSame_365 : decode cX2_isSame 365 = .ok (.getfield 9, 3) := by decide +kernel
theorem dX2_isSame_368 : decode cX2_isSame 368 = .ok (.arraylength, 1) := by decide +kernel
theorem dX2_isSame_369 : decode cX2_isSame 369 = .ok (.ifCond .ne 7, 3) := by decide +kernel
theorem dX2_isSame_372 : decode cX2_isSame 372 = .ok (.dconst 0, 1) := by decide +kernel
theorem dX2_isSame_373 : decode cX2_isSame 373 = .ok (.goto 13, 3) := by decide +kernel
theorem dX2_isSame_376 : decode cX2_isSame 376 = .ok (.iload 5, 2) := by decide +kernel
theorem dX2_isSame_378 : decode cX2_isSame 378 = .ok (.i2d, 1) := by decide +kernel
theorem dX2_isSame_379 : decode cX2_isSame 379 = .ok (.aload_n 0, 1) := by decide +kernel
theorem dX2_isSame_380 : decode cX2_isSame 380 = .ok (.getfield 9, 3) := by decide +kernel
theorem dX2_isSame_383 : decode cX2_isSame 383 = .ok (.arraylength, 1) := by decide +kernel
theorem dX2_isSame_384 : decode cX2_isSame 384 = .ok (.i2d, 1) := by decide +kernel
theorem dX2_isSame_385 : decode cX2_isSame 385 = .ok (.ddiv, 1) := by decide +kernel
theorem dX2_isSame_386 : decode cX2_isSame 386 = .ok (.dcmp .l, 1) := by decide +kernel
theorem dX2_isSame_387 : decode cX2_isSame 387 = .ok (.ifCond .ne 7, 3) := by decide +kernel
theorem dX2_isSame_390 : decode cX2_isSame 390 = .ok (.iconst 1, 1) := by decide +kernel
theorem dX2_isSame_391 : decode cX2_isSame 391 = .ok (.goto 4, 3) := by decide +kernel
theorem dX2_isSame_394 : decode cX2_isSame 394 = .ok (.iconst 0, 1) := by decide +kernel
theorem dX2_isSame_395 : decode cX2_isSame 395 = .ok (.ireturn, 1) := by decide +kernel
